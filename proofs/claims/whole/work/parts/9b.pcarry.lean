/-! a text's orders, read and carried out -/
theorem rs_self (σ : zSt) (k : Nat) : rs σ (σ 4) k = ws σ 8 (nI k) := by
  unfold rs
  congr 1
  funext i
  by_cases h : i = 4
  · rw [h, p_ze]
  · rw [p_zn h]
theorem rs_id {σ3 σ : zSt} {o : Nat → Int32} {j : Nat} (h : ∀ i, i ≠ 0 → σ3 i = rs σ o j i) : rs σ3 o j = σ3 := by
  funext i
  by_cases h4 : i = 4
  · rw [h4, rs_4, h 4 (by omega), rs_4]
  · by_cases h8 : i = 8
    · rw [h8, h 8 (by omega)]
      rfl
    · rw [rs_o h4 h8]
def chn (t : Nat → Nat) (L : Nat) (τ : zSt) : Nat → Nat → Nat → Prop
  | 0, _, k => k = L
  | r + 1, i, k => k < L ∧ ∃ j c l v, oRead t L k j c l v ∧ ent τ i c l v ∧ chn t L τ r (i + 1) j
theorem rl_text {t : Nat → Nat} {L : Nat} {K1 : Int32 → zSt → Option (Int32 × zSt)} {K2 : zSt → Option (Int32 × zSt)} {σ : zSt} (hR : tR t L σ) : ∀ (f k cnt m1 m2 : Nat) (o : Nat → Int32) (τ : zSt), L < f + k → k ≤ L → 3 * cnt ≤ k → L < m1 + k → L + 1 < m2 + k → tC t L τ → τ 4 0 = nI 0 → τ 3 0 = nI cnt →
    (∃ e o' τ', e ≤ L ∧ fX9_carryOut_l12 K1 m1 (nI 1) (rs σ o k) = K1 (nI 0) (rs σ o' e) ∧ fX5_readAll_l14 K2 m2 (nI L) (nI k) τ = some (nI e, τ') ∧ τ' 11 = τ 11) ∨
    (∃ r o' τ', fX9_carryOut_l12 K1 m1 (nI 1) (rs σ o k) = K1 (nI 1) (rs σ o' L) ∧ fX5_readAll_l14 K2 m2 (nI L) (nI k) τ = K2 τ' ∧ τ' 11 = τ 11 ∧ τ' 3 0 = nI (cnt + r) ∧ 3 * (cnt + r) ≤ L ∧ (∀ i, i < cnt → τ' 0 i = τ 0 i ∧ τ' 1 i = τ 1 i ∧ τ' 2 i = τ 2 i) ∧ chn t L τ' r cnt k) := by
  have hL := hR.2.1
  have ht : ∀ k, k < L → t k < 128 := fun k hk => (hR.2.2 k hk).1
  have hne : ¬ nI 1 = (0 : Int32) := by decide
  intro f
  induction f with
  | zero => intro k cnt m1 m2 o τ h1 h2; omega
  | succ f ih =>
    intro k cnt m1 m2 o τ h1 h2 h3 h5 h6 hC t4 t3
    obtain ⟨m1, rfl⟩ : ∃ k, m1 = k + 1 := ⟨m1 - 1, by omega⟩
    by_cases hk : k < L
    · have e12 : fX9_carryOut_l12 K1 (m1 + 1) (nI 1) (rs σ o k) = z_b2 (fX9_readOrder (rs σ o k)) fun x3 σ4 => fX9_carryOut_l12 K1 m1 x3 σ4 := by
        rw [fX9_carryOut_l12, if_neg hne, rs_8, rs_o (show 6 ≠ 4 by omega) (show 6 ≠ 8 by omega), hR.1, if_neg (nI_ge hk (by omega))]
      rcases rl_order hL ht hk with ⟨e, e1, e2, e3⟩ | ⟨j, c, l, v, hrd⟩
      · obtain ⟨o', r1⟩ := e2 σ o hR
        obtain ⟨τ', u1, u2⟩ := e3 τ K2 cnt hC t4 t3 (by omega)
        refine Or.inl ⟨e, o', τ', e1, ?_, u2 m2 (by omega), u1⟩
        obtain ⟨m1, rfl⟩ : ∃ k, m1 = k + 1 := ⟨m1 - 1, by omega⟩
        rw [e12, r1, b2_1, fX9_carryOut_l12, if_pos nI_0]
      · obtain ⟨j1, j2, j3, j4, j5⟩ := id hrd
        obtain ⟨o1, r1, -⟩ := j4 σ o hR
        obtain ⟨τ1, u1, u2, u3, u4, u5, u6⟩ := j5 τ K2 cnt hC t4 t3 (by omega)
        obtain ⟨m2', rfl⟩ : ∃ q, m2 = q + (j - k) := ⟨m2 - (j - k), by omega⟩
        rcases ih j (cnt + 1) m1 m2' o1 τ1 (by omega) j2 (by omega) (by omega) (by omega) (tC_same hC u1) u2 u3 with ⟨e, o', τ', e1, e2, e3, e4⟩ | ⟨r, o', τ', e1, e2, e3, e4, e5, e6, e7⟩
        · refine Or.inl ⟨e, o', τ', e1, ?_, ?_, e4.trans u1⟩
          · rw [e12, r1, b2_1]
            exact e2
          · rw [u6]
            exact e3
        · refine Or.inr ⟨r + 1, o', τ', ?_, ?_, e3.trans u1, ?_, by omega, fun i hi => ?_, hk, j, c, l, v, hrd, ⟨?_, fun z => ?_, ?_⟩, e7⟩
          · rw [e12, r1, b2_1]
            exact e1
          · rw [u6]
            exact e2
          · rw [e4, show cnt + 1 + r = cnt + (r + 1) by omega]
          · obtain ⟨w1, w2, w3⟩ := e6 i (by omega)
            obtain ⟨z1, z2, z3⟩ := u4 i (by omega)
            exact ⟨w1.trans z1, w2.trans z2, w3.trans z3⟩
          · rw [(e6 cnt (by omega)).1]; exact u5.1
          · rw [(e6 cnt (by omega)).2.1]; exact u5.2.1 z
          · rw [(e6 cnt (by omega)).2.2]; exact u5.2.2
    · obtain rfl : k = L := by omega
      refine Or.inr ⟨0, o, τ, ?_, ?_, rfl, t3, by omega, fun _ _ => ⟨rfl, rfl, rfl⟩, rfl⟩
      · rw [fX9_carryOut_l12, if_neg hne, rs_8, rs_o (show 6 ≠ 4 by omega) (show 6 ≠ 8 by omega), hR.1, if_pos (Int32.le_refl _)]
      · obtain ⟨m2, rfl⟩ : ∃ q, m2 = q + 2 := ⟨m2 - 2, by omega⟩
        have hs : fX5_take (sg t k k) (nI k) τ = some (-1, τ) := by
          rw [take0 t4, show sg t k k = -1 from if_neg (Nat.lt_irrefl k)]
          unfold fX5_takeKind
          rw [if_neg (show ¬ (-1 : Int32) = nI 116 by decide), if_neg (show ¬ (-1 : Int32) = nI 114 by decide), if_neg (show ¬ (-1 : Int32) = nI 119 by decide), if_pos rfl]
          rfl
        rw [qx_go hC (Nat.le_refl _) hs, fX5_readAll_l14, if_pos (nI_lt (by omega) (by omega))]
/-- one order is carried out, or can't be -/
theorem rl_doOrder {o : Nat → Int32} {c l v : Int32} {i j : Nat} {σ : zSt} {χ : cSt} (hO : okO c l v) (ho : ordR o c l v) (he : ent (χ 6) i c l v) (hi : i < 34) (hg : mGood σ (χ 0)) :
    (∃ σ3 τ3, fX9_doOrder (rs σ o j) = some (nI 1, σ3) ∧ fX8_isPossible (nI i) χ = some (nI 1) ∧ mGood σ3 τ3 ∧ (∀ q, q ≠ 0 → σ3 q = rs σ o j q) ∧ ∀ C : Int32 → cSt → Option (Int32 × cSt), ((fX5_isTicks (nI i) (χ 6)).bind fun x5 => (if x5 = 0 then (z_ag (χ 6 0) 34 (nI i)).bind fun x6 => (z_ag (χ 6 1) 34 (nI i)).bind fun x7 => (z_ag (χ 6 2) 34 (nI i)).bind fun x8 => c_b1 χ 0 (fX7_ask x6 x7 x8 (χ 0)) fun σ9 => C (nI i + nI 1) σ9 else (z_ag (χ 6 2) 34 (nI i)).bind fun x10 => c_b2 χ 0 (fX4_letPass x10 (χ 0)) fun _ σ12 => C (nI i + nI 1) σ12)) = C (nI i + nI 1) (c_up χ 0 τ3)) ∨
    (fX9_doOrder (rs σ o j) = some (nI 0, rs σ o j) ∧ fX8_isPossible (nI i) χ = some (nI 0)) := by
  obtain ⟨n, S, R, P, U, D, T, f0, hU, hD, hT⟩ := hg
  have hne : ¬ nI 1 = (0 : Int32) := by decide
  have z0 : rs σ o j 0 = σ 0 := rs_o (by omega) (by omega)
  have f : mFull n S R P U D T (rs σ o j) (χ 0) := mFull_g f0 (fun k _ => by rw [z0]) gEq_rfl
  obtain ⟨⟨a1, a2, -⟩, b1, -⟩ := id f.1.1
  obtain ⟨o3, ho⟩ := ho
  obtain ⟨n1, n2, n3⟩ := he
  rcases hO with ⟨rfl, x, x1, x2, rfl⟩ | ⟨cc, ll, cc5, l32, rfl, rfl, hv⟩
  · -- ticks
    have o0 : o 0 = nI 2 := ho.elim And.right (fun z => absurd rfl z.1)
    have hit : fX5_isTicks (nI i) (χ 6) = some (nI 1) := by
      unfold fX5_isTicks
      rw [p_ag hi (by omega), Option.bind_some, n1, if_pos rfl]
      rfl
    have hpos : fX8_isPossible (nI i) χ = some (if T + x ≤ 100000 then nI 1 else nI 0) := by
      unfold fX8_isPossible
      rw [hit, Option.bind_some, if_neg hne, p_ag hi (by omega), Option.bind_some, n3, qx_time f.2.2.2.2.2.1 hT (by omega), Option.bind_some]
      split <;> rfl
    have hdo : fX9_doOrder (rs σ o j) = if T + x ≤ 100000 then fX9_doOrder_j33 (nI 1) (rs σ o j) else fX9_doOrder_j33 (nI 0) (rs σ o j) := by
      unfold fX9_doOrder
      rw [rs_4, p_ag (by omega) (by omega), Option.bind_some, o0, if_pos rfl, p_ag (by omega) (by omega), Option.bind_some, p_ag (by omega) (by omega), Option.bind_some, f.2.2.2.2.1, o3, nI_add]
      by_cases cT : T + x ≤ 100000
      · rw [if_pos cT, if_neg (nI_nlt cT (by omega))]
      · rw [if_neg cT, if_pos (nI_lt (by omega) (by omega))]
    by_cases cT : T + x ≤ 100000
    · obtain ⟨P', U', D', y, σ3, τ3, t1, t2, t3, t4, t5, t6⟩ := rl_letPass f (k := x) (by omega) cT hU hD
      rw [if_pos cT] at hpos hdo
      refine Or.inl ⟨σ3, τ3, ?_, hpos, ⟨n, S, R, P', U', D', T + x, t3, t4, t5, cT⟩, t6, fun C => ?_⟩
      · rw [hdo]
        unfold fX9_doOrder_j33 fX9_doOrder_j49
        rw [if_neg hne, rs_4, p_ag (by omega) (by omega), Option.bind_some, o3, t1]
        rfl
      · rw [hit, Option.bind_some, if_neg hne, p_ag hi (by omega), Option.bind_some, n3]
        rw [t2, cb2]
    · rw [if_neg cT] at hpos hdo
      refine Or.inr ⟨?_, hpos⟩
      rw [hdo]
      unfold fX9_doOrder_j33 fX9_doOrder_j49 fX9_ticks
      rw [if_pos nI_0, show z_fu = 1999 + 1 from rfl, fX9_ticks_l4, if_pos (Int32.le_refl _)]
      rfl
  · -- a request
    have hcn : nI cc ≠ -1 := p_nneg (by omega)
    obtain ⟨-, o01, o1, o2⟩ : nI cc ≠ -1 ∧ (o 0 = nI 0 ∨ o 0 = nI 1) ∧ o 1 = nI cc ∧ o 2 = nI ll := ho.elim (fun z => absurd z.1 hcn) id
    have o02 : ¬ o 0 = nI 2 := by
      rcases o01 with z | z <;> rw [z] <;> decide
    have hit : fX5_isTicks (nI i) (χ 6) = some (nI 0) := by
      unfold fX5_isTicks
      rw [p_ag hi (by omega), Option.bind_some, n1, if_neg hcn]
      rfl
    have hdo : fX9_doOrder (rs σ o j) = (fX9_isCache (nI cc) (rs σ o j)).bind fun x3 => (if x3 = 0 then fX9_doOrder_j85 (rs σ o j) else (fX9_isAsking (nI cc) (rs σ o j)).bind fun x10 => (if x10 = 0 then fX9_doOrder_j86 (nI 1) (rs σ o j) else fX9_doOrder_j85 (rs σ o j))) := by
      unfold fX9_doOrder
      rw [rs_4, p_ag (by omega) (by omega), Option.bind_some, if_neg o02, p_ag (by omega) (by omega), Option.bind_some, o1]
      rfl
    have h85 : fX9_doOrder_j85 (rs σ o j) = some (nI 0, rs σ o j) := by
      unfold fX9_doOrder_j85 fX9_doOrder_j86
      rw [if_pos nI_0]
      rfl
    have hpos : fX8_isPossible (nI i) χ = if nI n ≤ nI cc then some (nI 0) else (fX7_isPending (nI cc) (χ 0)).bind fun x3 => (if x3 = 0 then some (nI 1) else some (nI 0)) := by
      unfold fX8_isPossible
      rw [hit, Option.bind_some, if_pos nI_0, p_ag hi (by omega), Option.bind_some, n1, b1.2]
      rfl
    rcases gd_cache a2 (nI cc) b1.1 with ⟨g1, e1⟩ | ⟨g1, c', hc', ec, e1⟩
    · have g2 : nI n ≤ nI cc := g1.elim (fun z => absurd z (nI_pos (by omega))) id
      refine Or.inr ⟨?_, by rw [hpos, if_pos g2]⟩
      rw [hdo, e1, Option.bind_some, if_pos nI_0, h85]
    · obtain rfl := (nI_eq (by omega) (by omega)).mp ec
      have g2 : ¬ nI n ≤ nI cc := fun z => g1 (Or.inr z)
      rw [e1, Option.bind_some, if_neg hne] at hdo
      rw [if_neg g2] at hpos
      rcases rl_pend f.2.2.1 (show cc < 6 by omega) with ⟨-, -, e3, e4⟩ | ⟨-, e3, e4⟩
      · obtain ⟨b, σ3, τ3, t0, t1, t2, t3, t4, t5⟩ := rl_ask (wv := v) f hc' l32 hv
        refine Or.inl ⟨σ3, τ3, ?_, ?_, ⟨n, S, R, P, U, D, T, t4, hU, hD, hT⟩, t5, fun C => ?_⟩
        · rw [hdo, e4, Option.bind_some, if_pos nI_0]
          unfold fX9_doOrder_j86
          rw [if_neg hne, rs_4, p_ag (by omega) (by omega), Option.bind_some, p_ag (by omega) (by omega), Option.bind_some, p_ag (by omega) (by omega), Option.bind_some, o1, o2, o3, t1]
          rfl
        · rw [hpos, e3, Option.bind_some, if_pos nI_0]
        · rw [hit, Option.bind_some, if_pos nI_0, p_ag hi (by omega), Option.bind_some, p_ag hi (by omega), Option.bind_some, p_ag hi (by omega), Option.bind_some, n1, n2 hcn, n3]
          rw [t2, cb1]
      · refine Or.inr ⟨?_, ?_⟩
        · rw [hdo, e4, Option.bind_some, if_neg hne, h85]
        · rw [hpos, e3, Option.bind_some, if_neg hne]
theorem rl_do {t : Nat → Nat} {L : Nat} : ∀ (r i k m1 m2 : Nat) (σ : zSt) (o : Nat → Int32) (χ : cSt), r + 1 < m1 → r < m2 → i + r ≤ 34 → χ 6 3 0 = nI (i + r) → tR t L σ → chn t L (χ 6) r i k → mGood σ (χ 0) →
    ∃ y σ' χ', fX9_carryOut_l58 (fun x13 σ14 => some (x13, σ14)) m1 (nI 1) (nI i) (rs σ o k) = some (y, σ') ∧ fX8_carryOut_l39 (fun σ13 => some (σ13 6 3 0, σ13)) m2 (nI i) χ = some (y, χ') ∧ mGood σ' (χ' 0) ∧ (∀ q, q ≠ 0 → q ≠ 4 → q ≠ 8 → σ' q = σ q) ∧ ∀ q, q ≠ 0 → χ' q = χ q := by
  have hne : ¬ nI 1 = (0 : Int32) := by decide
  intro r
  induction r with
  | zero =>
    intro i k m1 m2 σ o χ h1 h2 h3 h4 hR hch hg
    obtain ⟨m1, rfl⟩ : ∃ k, m1 = k + 1 := ⟨m1 - 1, by omega⟩
    obtain ⟨m2, rfl⟩ : ∃ k, m2 = k + 1 := ⟨m2 - 1, by omega⟩
    obtain rfl : k = L := hch
    refine ⟨nI i, rs σ o k, χ, ?_, ?_, mGood_g hg (fun q _ => by rw [rs_o (by omega) (by omega)]) gEq_rfl, fun q _ q4 q8 => rs_o q4 q8, fun _ _ => rfl⟩
    · rw [fX9_carryOut_l58, if_neg hne, rs_8, rs_o (show 6 ≠ 4 by omega) (show 6 ≠ 8 by omega), hR.1, if_pos (Int32.le_refl _)]
    · rw [fX8_carryOut_l39, h4, Nat.add_zero, if_pos (Int32.le_refl _)]
  | succ r ih =>
    intro i k m1 m2 σ o χ h1 h2 h3 h4 hR hch hg
    obtain ⟨m1, rfl⟩ : ∃ k, m1 = k + 1 := ⟨m1 - 1, by omega⟩
    obtain ⟨m2, rfl⟩ : ∃ k, m2 = k + 1 := ⟨m2 - 1, by omega⟩
    obtain ⟨hk, j, c, l, v, hrd, hent, hrest⟩ := hch
    have hL := hR.2.1
    obtain ⟨j1, j2, hO, j4, -⟩ := id hrd
    obtain ⟨o1, r1, ho⟩ := j4 σ o hR
    have e58 : fX9_carryOut_l58 (fun x13 σ14 => some (x13, σ14)) (m1 + 1) (nI 1) (nI i) (rs σ o k) = z_b2 (fX9_doOrder (rs σ o1 j)) fun x11 σ12 => (if x11 = 0 then fX9_carryOut_l58 (fun x13 σ14 => some (x13, σ14)) m1 x11 (nI i + nI 0) σ12 else fX9_carryOut_l58 (fun x13 σ14 => some (x13, σ14)) m1 x11 (nI i + nI 1) σ12) := by
      rw [fX9_carryOut_l58, if_neg hne, rs_8, rs_o (show 6 ≠ 4 by omega) (show 6 ≠ 8 by omega), hR.1, if_neg (nI_ge hk (by omega)), r1]
      rfl
    have e39 : fX8_carryOut_l39 (fun σ13 => some (σ13 6 3 0, σ13)) (m2 + 1) (nI i) χ = (fX8_isPossible (nI i) χ).bind fun x4 => (if x4 = 0 then some (nI i, χ) else ((fX5_isTicks (nI i) (χ 6)).bind fun x5 => (if x5 = 0 then (z_ag (χ 6 0) 34 (nI i)).bind fun x6 => (z_ag (χ 6 1) 34 (nI i)).bind fun x7 => (z_ag (χ 6 2) 34 (nI i)).bind fun x8 => c_b1 χ 0 (fX7_ask x6 x7 x8 (χ 0)) fun σ9 => fX8_carryOut_l39 (fun σ13 => some (σ13 6 3 0, σ13)) m2 (nI i + nI 1) σ9 else (z_ag (χ 6 2) 34 (nI i)).bind fun x10 => c_b2 χ 0 (fX4_letPass x10 (χ 0)) fun _ σ12 => fX8_carryOut_l39 (fun σ13 => some (σ13 6 3 0, σ13)) m2 (nI i + nI 1) σ12))) := by
      rw [fX8_carryOut_l39, h4, if_neg (nI_ge (by omega) (by omega))]
    rcases rl_doOrder (j := j) hO ho hent (by omega) hg with ⟨σ3, τ3, d1, d2, d3, d4, d5⟩ | ⟨d1, d2⟩
    · have q3 : rs σ3 o1 j = σ3 := rs_id d4
      have hR3 : tR t L σ3 := by
        unfold tR
        rw [d4 6 (by omega), d4 3 (by omega), rs_o (show 6 ≠ 4 by omega) (show 6 ≠ 8 by omega), rs_o (show 3 ≠ 4 by omega) (show 3 ≠ 8 by omega)]
        exact hR
      have q6 : c_up χ 0 τ3 6 = χ 6 := c_un (by omega)
      obtain ⟨y, σ', χ', g1, g2, g3, g4, g5⟩ := ih (i + 1) j m1 m2 σ3 o1 (c_up χ 0 τ3) (by omega) (by omega) (by omega) (by rw [q6, h4, show i + 1 + r = i + (r + 1) by omega]) hR3 (by rw [q6]; exact hrest) (by rw [c_ue]; exact d3)
      refine ⟨y, σ', χ', ?_, ?_, g3, fun q q0 q4 q8 => by rw [g4 q q0 q4 q8, d4 q q0, rs_o q4 q8], fun q q0 => by rw [g5 q q0, c_un q0]⟩
      · rw [e58, d1, b2_1, if_neg hne, nI_add, ← q3]
        exact g1
      · rw [e39, d2, Option.bind_some, if_neg hne, d5, nI_add]
        exact g2
    · refine ⟨nI i, rs σ o1 j, χ, ?_, ?_, mGood_g hg (fun q _ => by rw [rs_o (by omega) (by omega)]) gEq_rfl, fun q _ q4 q8 => rs_o q4 q8, fun _ _ => rfl⟩
      · obtain ⟨m1, rfl⟩ : ∃ k, m1 = k + 1 := ⟨m1 - 1, by omega⟩
        rw [e58, d1, b2_1, if_pos nI_0, fX9_carryOut_l58, if_pos nI_0, add_n0]
      · rw [e39, d2, Option.bind_some, if_pos nI_0]
theorem rl_carry : lo_carryOut wRel := by
  intro σ χ h
  obtain ⟨hg, hh, L, x1, x2, x3, x4⟩ := id h
  have hne : ¬ nI 1 = (0 : Int32) := by decide
  let t : Nat → Nat := fun k => (σ 3 k).toNatClampNeg
  have htt : ∀ k, k < L → t k < 128 ∧ σ 3 k = nI (t k) ∧ χ 6 11 k = nI (t k) := fun k hk => by
    obtain ⟨b, b1, b2, b3⟩ := x4 k hk
    have : t k = b := by
      show (σ 3 k).toNatClampNeg = b
      rw [b2, nI_clamp (by omega)]
    rw [this]
    exact ⟨b1, b2, b3⟩
  have hR : tR t L (ws σ 7 (nI 0)) := ⟨by rw [ws_o (by omega)]; exact x2, x1, fun k hk => ⟨(htt k hk).1, by rw [ws_o (by omega)]; exact (htt k hk).2.1⟩⟩
  have hC : tC t L (ws (ws (χ 6) 3 (nI 0)) 4 (nI 0)) := ⟨x1, fun k hk => ⟨(htt k hk).1, by rw [ws_o (by omega), ws_o (by omega)]; exact (htt k hk).2.2⟩⟩
  have z2 : L < z_fu := Nat.lt_of_le_of_lt x1 (by decide)
  have z3 : L + 1 < z_fu := Nat.lt_of_le_of_lt (Nat.add_le_add_right x1 1) (by decide)
  unfold fX8_carryOut fX9_carryOut fX5_readAll
  rw [p_ws, Option.bind_some, p_ws, Option.bind_some, p_ws, Option.bind_some, p_ws, Option.bind_some, x3, ← rs_self]
  rcases rl_text (K1 := fun x5 σ6 => (if x5 = 0 then some ((-10) - (σ6 8 0), σ6) else (fX9_save σ6).bind fun σ7 => (z_sf σ7 8 (nI 0)).bind fun σ8 => fX9_carryOut_l58 (fun x13 σ14 => some (x13, σ14)) z_fu x5 (nI 0) σ8)) (K2 := fun σ6 => some ((-1), σ6)) hR (L + 1) 0 0 z_fu z_fu (ws σ 7 (nI 0) 4) (ws (ws (χ 6) 3 (nI 0)) 4 (nI 0)) (by omega) (by omega) (by omega) z2 z3 hC (ws_e _ _ _ _) (by rw [ws_o (by omega), ws_e]) with ⟨e, o', τ', e1, e2, e3, e4⟩ | ⟨r, o', τ', e1, e2, e3, e4, e5, -, e7⟩
  · refine ⟨(-10) - nI e, c_up χ 6 τ', rs (ws σ 7 (nI 0)) o' e, ?_, ?_, ?_⟩
    · rw [e3, cb2, if_neg (p_nneg (by omega))]
    · rw [e2, if_pos nI_0, rs_8]
    · refine wRel_mach (wRel_7 (x := nI 0) h) ?_ (fun i _ _ i4 _ i8 => rs_o i4 i8) (fun i _ _ i6 => c_un i6) ?_
      · rw [c_un (by omega)]
        exact mGood_g hg (fun k _ => by rw [rs_o (by omega) (by omega), ws_o (by omega)]) gEq_rfl
      · rw [c_ue, e4, ws_o (by omega), ws_o (by omega)]
  · have hw : wRel (rs (ws σ 7 (nI 0)) o' L) (c_up χ 6 τ') := by
      refine wRel_mach (wRel_7 (x := nI 0) h) ?_ (fun i _ _ i4 _ i8 => rs_o i4 i8) (fun i _ _ i6 => c_un i6) ?_
      · rw [c_un (by omega)]
        exact mGood_g hg (fun k _ => by rw [rs_o (by omega) (by omega), ws_o (by omega)]) gEq_rfl
      · rw [c_ue, e3, ws_o (by omega), ws_o (by omega)]
    obtain ⟨σ', χ', s1, s2, s3, s4, s5, s6⟩ := rl_save hw
    have q6 : χ' 6 = τ' := by rw [s5 6 (Or.inr (Or.inr rfl)), c_ue]
    have hR' : tR t L σ' := by
      unfold tR
      rw [s4 6 (by omega) (by omega), s4 3 (by omega) (by omega)]
      exact tR_rs hR o' L
    have f1 : r + 1 < z_fu := Nat.lt_of_le_of_lt (show r + 1 ≤ 101 by omega) (by decide)
    obtain ⟨y, σ'', χ'', g1, g2, g3, g4, g5⟩ := rl_do (t := t) (L := L) r 0 0 z_fu z_fu σ' (σ' 4) χ' f1 (Nat.lt_of_succ_lt f1) (by omega) (by rw [q6]; exact e4) hR' (by rw [q6]; exact e7) s3.1
    refine ⟨y, χ'', σ'', ?_, ?_, ?_⟩
    · rw [e2, cb2, if_pos rfl, s2, Option.bind_some]
      exact g2
    · rw [e1, if_neg hne, s1, Option.bind_some, p_ws, Option.bind_some, ← rs_self]
      exact g1
    · exact wRel_mach s3 g3 (fun i i0 _ i4 _ i8 => g4 i i0 i4 i8) (fun i i0 _ _ => g5 i i0) (by rw [g5 6 (by omega)])
