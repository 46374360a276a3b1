/-! a request is served, hit or miss -/
theorem upd_upd (f : Nat → Int32) (k : Nat) (x y : Int32) : upd (upd f k x) k y = upd f k y := by
  funext j
  unfold upd
  split <;> rfl
theorem qx_isWrite {τ : zSt} {c : Nat} {wv : Int32} (hc : c < 6) (h8 : τ 8 c = wv) : fX7_isWrite (nI c) τ = some (wB wv) := by
  unfold fX7_isWrite wB
  rw [p_ag hc (by omega), Option.bind_some, h8]
  split <;> rfl
/-- what a served request leaves, beside mInv -/
def mServed (c l : Nat) (σ τ σ' τ' : zSt) : Prop := mMsg σ' τ' ∧ mLog σ' τ' ∧ (∀ i, i ≠ 0 → σ' i = σ i) ∧ (σ' 0 4 = σ 0 4 ∧ σ' 0 8 = σ 0 8 ∧ ∀ k, 366 ≤ k → k < 384 → σ' 0 k = σ 0 k) ∧ τ' 7 = upd (τ 7) c (-1) ∧ τ' 8 = τ 8 ∧ τ' 9 = τ 9 ∧ τ' 19 = τ 19 ∧ τ' 21 = τ 21
theorem rl_serve_hit {n S R P U D T c l : Nat} {wv : Int32} {σ τ : zSt} (h : mInv n S R P U D noE noX σ τ) (hg : mLog σ τ) (hc : c < n) (hl : l < 32) (hv : wv = -1 ∨ ∃ x, x < 1000 ∧ wv = nI x) (hU : U + 1 ≤ 10000000) (hh : hitB τ c l (wB wv)) :
    ∃ σ', fX9_serves (nI c) (nI l) wv σ = some (nI 0, σ') ∧ fX4_costOf (nI c) (nI l) (wB wv) τ = some (nI 0) ∧ (mMsg σ τ → mTime T σ τ → τ 8 c = wv → ∃ τ', fX4_serve (nI c) (nI l) (nI 1) τ = some τ' ∧ mInv n S R P (U + 1) D noE noX σ' τ' ∧ mServed c l σ τ σ' τ') := by
  obtain ⟨⟨⟨a1, a2, a3, a4, a5, a6, a7⟩, b1, c1, d1, e1⟩, hNu, hMe, hMa, hKi, hOn, hCo, hPa, hNo⟩ := id h
  obtain ⟨C, hC, h12, h18, hlog⟩ := hg
  have hk : τ 2 (c * 32 + l) ≠ 0 := by
    unfold hitB at hh
    by_cases hw : wB wv = 0
    · rw [if_pos hw] at hh; exact hh
    · rw [if_neg hw] at hh
      rw [hh]; decide
  have hk2 : wB wv ≠ 0 → τ 2 (c * 32 + l) = nI 2 := fun hw => by
    unfold hitB at hh
    rw [if_neg hw] at hh
    exact hh
  obtain ⟨s, s1, s2, s3, s4, s5, s6, s7, aa, s8, s9⟩ := cop_at a2 a4 hCo hc hl hk
  have ha : sA c s + 3 < 302 := sA_lt (by omega) (by omega) (by omega)
  have ha0 : 110 ≤ sA c s := by unfold sA; omega
  have hUv : σ 0 13 = nI U := hCo.2.2.2.1
  obtain ⟨σ', t1, t2, t3, t4, t5, t6, t7, t8, t9, t10, t11, t12, t13⟩ := qr_tail (m := 0) (hit := true) (wv := wv) (show c < 6 by omega) hl a4 c1.1 s4 ha0 ha h12 hC
  have hcost : fX4_costOf (nI c) (nI l) (wB wv) τ = some (nI 0) := by
    unfold fX4_costOf
    rw [(qx_isHit (by omega) hl).1 hh, Option.bind_some, if_neg (by decide)]
  refine ⟨σ', ?_, hcost, fun hm ht h8 => ?_⟩
  · unfold fX9_serves fX9_serves_j12
    by_cases hw : wv < 0
    · have hw0 : wB wv = nI 0 := by unfold wB; rw [if_pos ((wv_neg hv).mp hw)]
      rw [if_pos hw]
      rw [hw0] at hh
      rw [(qr_isHit h hc hl).1 hh, Option.bind_some, if_neg (by decide)]
      exact t1
    · have hw0 : wB wv = nI 1 := by unfold wB; rw [if_neg (fun z => hw ((wv_neg hv).mpr z))]
      rw [if_neg hw]
      rw [hw0] at hh
      rw [(qr_isHit h hc hl).1 hh, Option.bind_some, if_neg (by decide)]
      exact t1
  · generalize hκ : ws (ws τ 22 (τ 22 0 + nI 0)) 23 (ws τ 22 (τ 22 0 + nI 0) 23 0 + nI 1) = κ
    have ko : ∀ i, i ≠ 22 → i ≠ 23 → κ i = τ i := fun i e1 e2 => by rw [← hκ, ws_o e2, ws_o e1]
    have k22 : κ 22 0 = τ 22 0 + nI 0 := by rw [← hκ, ws_o (by omega), ws_e]
    have k23 : κ 23 0 = τ 23 0 + nI 1 := by rw [← hκ, ws_e, ws_o (by omega)]
    obtain ⟨τ', u1, u2, u3, u4, u5, u6, u7, u8, u9, u10, u11⟩ := qx_j66 (τ := κ) (c := c) (l := l) (U := U) (C := C) (m := 0) (w := wB wv) (wv := wv) (by omega) hl (wB_or wv) (fun _ => by rw [ko 8 (by omega) (by omega)]; exact h8) (by rw [ko 11 (by omega) (by omega)]; exact hCo.2.2.2.2.1) (by rw [ko 18 (by omega) (by omega)]; exact h18) hC
    have x2 : τ' 2 = τ 2 := by
      rw [u2, ko 2 (by omega) (by omega)]
      by_cases hw : wB wv = 0
      · rw [if_pos hw]
      · rw [if_neg hw, ← hk2 hw, upd_same]
    have xo : ∀ i, i ≠ 1 → i ≠ 2 → i ≠ 3 → i ≠ 5 → i ≠ 7 → i ≠ 10 → i ≠ 11 → i ≠ 18 → i ≠ 22 → i ≠ 23 → τ' i = τ i := fun i e1 e2 e3 e4 e5 e6 e7 e8 e9 e10 => by rw [u11 i e1 e2 e3 e4 e5 e6 e7 e8, ko i e9 e10]
    have ro : ∀ k, k < 46 → k ≠ 5 → k ≠ 6 → k ≠ 7 → k ≠ 12 → k ≠ 13 → σ' 0 k = σ 0 k := fun k e0 e1 e2 e3 e4 e5 => t13 k e1 e2 e3 e4 e5 (by omega) (by omega) (by omega) (by omega)
    refine ⟨τ', ?_, ⟨?_, ?_, ?_, ?_, ?_, ?_, ?_, ?_, ?_⟩, ?_, ?_, t2, ⟨ro 4 (by omega) (by omega) (by omega) (by omega) (by omega) (by omega), ro 8 (by omega) (by omega) (by omega) (by omega) (by omega) (by omega), fun k e1 e2 => t13 k (by omega) (by omega) (by omega) (by omega) (by omega) (by omega) (by omega) (by omega) e2⟩, ?_, xo 8 (by omega) (by omega) (by omega) (by omega) (by omega) (by omega) (by omega) (by omega) (by omega) (by omega), xo 9 (by omega) (by omega) (by omega) (by omega) (by omega) (by omega) (by omega) (by omega) (by omega) (by omega), xo 19 (by omega) (by omega) (by omega) (by omega) (by omega) (by omega) (by omega) (by omega) (by omega) (by omega), xo 21 (by omega) (by omega) (by omega) (by omega) (by omega) (by omega) (by omega) (by omega) (by omega) (by omega)⟩
    · unfold fX4_serve
      rw [qx_isWrite (by omega) h8, Option.bind_some, hcost, Option.bind_some, p_ws, Option.bind_some, if_neg (show ¬ nI 1 = 0 by decide), p_ws, Option.bind_some, hκ]
      exact u1
    · refine ⟨⟨a1, a2, a3, a4, a5, a6, a7⟩, ?_, ?_, ?_, ?_⟩
      · rw [ro 0 (by omega) (by omega) (by omega) (by omega) (by omega) (by omega), xo 19 (by omega) (by omega) (by omega) (by omega) (by omega) (by omega) (by omega) (by omega) (by omega) (by omega)]; exact b1
      · rw [ro 1 (by omega) (by omega) (by omega) (by omega) (by omega) (by omega), xo 20 (by omega) (by omega) (by omega) (by omega) (by omega) (by omega) (by omega) (by omega) (by omega) (by omega)]; exact c1
      · rw [ro 2 (by omega) (by omega) (by omega) (by omega) (by omega) (by omega), xo 14 (by omega) (by omega) (by omega) (by omega) (by omega) (by omega) (by omega) (by omega) (by omega) (by omega)]; exact d1
      · rw [ro 3 (by omega) (by omega) (by omega) (by omega) (by omega) (by omega), xo 15 (by omega) (by omega) (by omega) (by omega) (by omega) (by omega) (by omega) (by omega) (by omega) (by omega)]; exact e1
    · refine ⟨?_, ?_, ?_⟩
      · rw [ro 9 (by omega) (by omega) (by omega) (by omega) (by omega) (by omega), xo 16 (by omega) (by omega) (by omega) (by omega) (by omega) (by omega) (by omega) (by omega) (by omega) (by omega)]; exact hNu.1
      · rw [ro 10 (by omega) (by omega) (by omega) (by omega) (by omega) (by omega), xo 17 (by omega) (by omega) (by omega) (by omega) (by omega) (by omega) (by omega) (by omega) (by omega) (by omega)]; exact hNu.2.1
      · rw [ro 11 (by omega) (by omega) (by omega) (by omega) (by omega) (by omega), xo 26 (by omega) (by omega) (by omega) (by omega) (by omega) (by omega) (by omega) (by omega) (by omega) (by omega)]; exact hNu.2.2
    · intro k hk3
      rw [ro (14 + k) (by omega) (by omega) (by omega) (by omega) (by omega) (by omega), xo 0 (by omega) (by omega) (by omega) (by omega) (by omega) (by omega) (by omega) (by omega) (by omega) (by omega), u4, ko 1 (by omega) (by omega)]
      refine ⟨(hMe k hk3).1, ?_⟩
      by_cases ek : k = l
      · rw [ek, t4]
        by_cases hw : wv < 0
        · rw [if_pos hw, if_pos (wB_0.mpr ((wv_neg hv).mp hw))]
          exact (hMe l hl).2
        · rw [if_neg hw, if_neg (fun z => hw ((wv_neg hv).mpr (wB_0.mp z))), p_upe]
      · rw [t13 (46 + k) (by omega) (by omega) (by omega) (by omega) (by omega) (by omega) (by omega) (by omega) (by omega), (hMe k hk3).2]
        split
        · rfl
        · rw [p_upn ek]
    · intro k hk3
      rw [t13 (78 + k) (by omega) (by omega) (by omega) (by omega) (by omega) (by omega) (by omega) (by omega) (by omega), xo 13 (by omega) (by omega) (by omega) (by omega) (by omega) (by omega) (by omega) (by omega) (by omega) (by omega)]
      exact hMa k hk3
    · intro e k he hk3
      rw [x2]; exact hKi e k he hk3
    · intro e e' k he he' hk3
      rw [x2]; exact hOn e e' k he he' hk3
    · refine mCop_set (kd := τ 2 (c * 32 + l)) (vl := if wB wv = 0 then τ 3 (c * 32 + l) else wv) a2 a4 hCo (fun _ _ z => z.elim) hc hl s1 hU hk (Or.inl ⟨hk, s2⟩) ?_ ?_ ?_ ?_ ?_ ?_ ?_ ?_ ?_ ?_ ?_
      · rw [t13 _ (by omega) (by omega) (by omega) (by omega) (by omega) (by omega) (by omega) (by omega) (by omega)]; exact s3
      · rw [t13 _ (by omega) (by omega) (by omega) (by omega) (by omega) (by omega) (by omega) (by omega) (by omega)]; exact s5
      · rw [t3]
        by_cases hw : wv < 0
        · rw [if_pos hw, if_pos (wB_0.mpr ((wv_neg hv).mp hw)), s6]
        · rw [if_neg hw, if_neg (fun z => hw ((wv_neg hv).mpr (wB_0.mp z)))]
      · rw [t6, hUv, nI_add]
      · rw [t5, hUv, nI_add]
      · intro k e1 e2 e3
        exact t13 k (by omega) (by omega) (by omega) (by omega) (by omega) (by omega) (by omega) (by omega) (by omega)
      · rw [x2, upd_same]
      · rw [u3, ko 3 (by omega) (by omega)]
        split
        · rw [upd_same]
        · rfl
      · rw [xo 4 (by omega) (by omega) (by omega) (by omega) (by omega) (by omega) (by omega) (by omega) (by omega) (by omega), ← s2, upd_same]
      · rw [u5, ko 5 (by omega) (by omega)]
      · exact u6
    · exact mPage_same (by omega) (mPage_U hPa (by omega)) (fun k e1 e2 => t13 k (by omega) (by omega) (by omega) (by omega) (by omega) (by omega) (by omega) (by omega) (by omega)) (xo 6 (by omega) (by omega) (by omega) (by omega) (by omega) (by omega) (by omega) (by omega) (by omega) (by omega)) (xo 12 (by omega) (by omega) (by omega) (by omega) (by omega) (by omega) (by omega) (by omega) (by omega) (by omega)) fun k _ _ e _ => by rw [x2]
    · intro k hk3 z1 z2 e he
      rw [x2]
      rw [xo 6 (by omega) (by omega) (by omega) (by omega) (by omega) (by omega) (by omega) (by omega) (by omega) (by omega)] at z1
      rw [xo 13 (by omega) (by omega) (by omega) (by omega) (by omega) (by omega) (by omega) (by omega) (by omega) (by omega)] at z2
      exact hNo k hk3 z1 z2 e he
    · refine ⟨?_, ?_, ?_, ?_⟩
      · rw [t9, u11 22 (by omega) (by omega) (by omega) (by omega) (by omega) (by omega) (by omega) (by omega), k22, hm.1]
      · rw [t7, u11 23 (by omega) (by omega) (by omega) (by omega) (by omega) (by omega) (by omega) (by omega), k23, hm.2.1]
        rfl
      · rw [t8, u11 24 (by omega) (by omega) (by omega) (by omega) (by omega) (by omega) (by omega) (by omega), ko 24 (by omega) (by omega), hm.2.2.1]
        show τ 24 0 + nI 0 = _
        rw [nI_0, Int32.add_zero]
      · rw [ro 8 (by omega) (by omega) (by omega) (by omega) (by omega) (by omega), xo 25 (by omega) (by omega) (by omega) (by omega) (by omega) (by omega) (by omega) (by omega) (by omega) (by omega)]
        exact hm.2.2.2
    · refine mLog_add (σ := σ) (τ := τ) hC hlog t10 u8 (fun k hk6 => ?_) t12 (fun k e1 e2 => by rw [u10 k e1 e2, ko 10 (by omega) (by omega)])
      obtain ⟨p0, p1, p2, p3, p4, p5⟩ := t11
      obtain ⟨q0, q1, q2, q3, q4, q5⟩ := u9
      rcases (show k = 0 ∨ k = 1 ∨ k = 2 ∨ k = 3 ∨ k = 4 ∨ k = 5 by omega) with rfl | rfl | rfl | rfl | rfl | rfl
      · exact p0.trans q0.symm
      · exact p1.trans q1.symm
      · refine p2.trans (Eq.trans ?_ q2.symm)
        unfold wB
        by_cases hw : wv < 0
        · rw [if_pos hw, if_pos ((wv_neg hv).mp hw)]
        · rw [if_neg hw, if_neg (fun z => hw ((wv_neg hv).mpr z))]
      · refine p3.trans (Eq.trans ?_ q3.symm)
        rw [u3, ko 3 (by omega) (by omega)]
        by_cases hw : wv < 0
        · rw [if_pos hw, if_pos (wB_0.mpr ((wv_neg hv).mp hw)), s6]
        · rw [if_neg hw, if_neg (fun z => hw ((wv_neg hv).mpr (wB_0.mp z))), p_upe]
      · exact p4.trans q4.symm
      · refine p5.trans (Eq.trans ?_ q5.symm)
        rw [ko 21 (by omega) (by omega), ht.1, ht.2.1]
    · rw [u7, ko 7 (by omega) (by omega)]
