/-! what is told of copies, lines, requests, the log and the numbers -/
theorem pS_swap {G : Nat → Nat → Nat} {r2 k2 : Nat} : ∀ r1 k1 : Nat, pS (fun s => pS (fun l => G s l) r2 k2) r1 k1 = pS (fun l => pS (fun s => G s l) r1 k1) r2 k2 := by
  intro r1
  induction r1 with
  | zero => exact fun k1 => (pS_zero fun _ _ _ => rfl).symm
  | succ r1 ih =>
    intro k1
    show pS (fun l => G k1 l) r2 k2 + pS (fun s => pS (fun l => G s l) r2 k2) r1 (k1 + 1) = _
    rw [ih (k1 + 1), ← pS_add]
    rfl
def lG (τ : zSt) (c : Nat) (u : Int32) (s l : Nat) : Nat := if τ 2 (c * 32 + l) ≠ 0 ∧ τ 4 (c * 32 + l) = nI s then (if τ 5 (c * 32 + l) ≤ u then 0 else 1) else 0
theorem later_eq {n S U c : Nat} {u : Int32} {σ τ : zSt} (h : mCop n S U noX σ τ) (hc : c < n) (hn : n ≤ 6) (hS : S ≤ 8) : pS (fun s => if σ 0 (sA c s) < 0 then 0 else if σ 0 (sA c s + 3) ≤ u then 0 else 1) S 0 = pS (fun l => if τ 2 (c * 32 + l) = 0 then 0 else if τ 5 (c * 32 + l) ≤ u then 0 else 1) 32 0 := by
  obtain ⟨hA, hB, -⟩ := id h
  have e1 : pS (fun s => if σ 0 (sA c s) < 0 then 0 else if σ 0 (sA c s + 3) ≤ u then 0 else 1) S 0 = pS (fun s => pS (fun l => lG τ c u s l) 32 0) S 0 := pS_congr fun s _ hs => by
    rcases hB c s hc (by omega) with g | ⟨l, g1, g2, g3, g4⟩
    · rw [g, if_pos p_neg]
      refine (pS_zero fun l _ hl => ?_).symm
      unfold lG
      refine if_neg fun z => ?_
      obtain ⟨-, s', k1, k2, k3, -⟩ := hA c l (by omega) (by omega) z.1
      rw [z.2] at k2
      obtain rfl := (nI_eq (by omega) (by omega)).mp k2
      rw [g] at k3
      exact p_nneg' (by omega) k3
    · obtain ⟨-, s', k1, k2, k3, k4⟩ := hA c l (by omega) g1 g3
      rw [g4] at k2
      obtain rfl := (nI_eq (by omega) (by omega)).mp k2
      rw [g2, if_neg (nI_pos (by omega)), (k4 fun z => z).2.2.1]
      refine (pS_one (o := l) (by omega) (by omega) ?_ fun j _ hj hne => ?_).symm
      · unfold lG
        rw [if_pos ⟨g3, g4⟩]
      · unfold lG
        refine if_neg fun z => hne ?_
        obtain ⟨-, s', m1, m2, m3, -⟩ := hA c j (by omega) (by omega) z.1
        rw [z.2] at m2
        obtain rfl := (nI_eq (by omega) (by omega)).mp m2
        rw [g2] at m3
        exact ((nI_eq (by omega) (by omega)).mp m3).symm
  rw [e1, pS_swap]
  refine pS_congr fun l _ hl => ?_
  by_cases hk : τ 2 (c * 32 + l) = 0
  · rw [if_pos hk]
    exact pS_zero fun s _ _ => if_neg fun z => z.1 hk
  · rw [if_neg hk]
    obtain ⟨-, s, k1, k2, k3, -⟩ := hA c l (by omega) (by omega) hk
    refine pS_one (o := s) (by omega) (by omega) ?_ fun j _ hj hne => if_neg fun z => hne ?_
    · unfold lG
      rw [if_pos ⟨hk, k2⟩]
    · rw [k2] at z
      exact ((nI_eq (by omega) (by omega)).mp z.2).symm
theorem qr_later {K : Int32 → Int32 → Int32 → Option Int32} {σ : zSt} {c S a : Nat} {x : Int32} (hc : c < 6) (hS : S ≤ 8) (h1 : σ 0 1 = nI S) (ha : a + 3 < 302) : ∀ (r s m y : Nat), s + r = S → r < m → fX9_aboutCopy_l45 σ K m (nI c) x (nI a) (nI y) (nI s) = K x (nI a) (nI (y + pS (fun s => if σ 0 (sA c s) < 0 then 0 else if σ 0 (sA c s + 3) ≤ σ 0 (a + 3) then 0 else 1) r s)) := by
  intro r
  induction r with
  | zero =>
    intro s m y hs hm
    obtain ⟨m, rfl⟩ : ∃ k, m = k + 1 := ⟨m - 1, by omega⟩
    rw [fX9_aboutCopy_l45, p_ag (by omega) (by omega), Option.bind_some, h1, if_pos (nI_le (by omega) (by omega))]
    rfl
  | succ r ih =>
    intro s m y hs hm
    obtain ⟨m, rfl⟩ : ∃ k, m = k + 1 := ⟨m - 1, by omega⟩
    have hlt := sA_lt (c := c) (s := s) (k := 3) hc (by omega) (by omega)
    rw [fX9_aboutCopy_l45, p_ag (by omega) (by omega), Option.bind_some, h1, if_neg (nI_ge (by omega) (by omega)), qr_slotAt, Option.bind_some, p_ag (by omega) (by omega), Option.bind_some, pS]
    unfold fX9_aboutCopy_j101 fX9_aboutCopy_j102
    by_cases g : σ 0 (sA c s) < 0
    · rw [if_pos g, if_pos g, nI_add, nI_add, ih (s + 1) m _ (by omega) (by omega), Nat.zero_add, Nat.add_zero]
    · rw [if_neg g, if_neg g, Option.bind_some, nI_add, p_ag (by omega) (by omega), Option.bind_some, nI_add, p_ag (by omega) (by omega), Option.bind_some]
      by_cases g2 : σ 0 (sA c s + 3) ≤ σ 0 (a + 3)
      · rw [if_pos g2, if_pos g2, nI_add, nI_add, ih (s + 1) m _ (by omega) (by omega), Nat.zero_add, Nat.add_zero]
      · rw [if_neg g2, if_neg g2, nI_add, nI_add, ih (s + 1) m _ (by omega) (by omega), Nat.add_assoc]
theorem rl_fact {n S R P U D c l k : Nat} {σ τ : zSt} (h : mInv n S R P U D noE noX σ τ) (hc : c < n) (hl : l < 32) (hk : k < 4) : ∃ x, fX0_fact (nI c) (nI l) (nI k) τ = some x ∧ fX9_aboutCopy (nI c) (nI l) (nI k) σ = some x := by
  obtain ⟨⟨a1, a2, a3, a4, a5, a6, a7⟩, b1, c1, -⟩ := id h.1
  have hCo := h.2.2.2.2.2.2.1
  unfold fX0_fact fX9_aboutCopy
  rw [p_mul, nI_add, p_ag (by omega) (by omega), Option.bind_some, Option.bind_some, qr_copyOf (by omega) a4 c1.1, Option.bind_some]
  by_cases h0 : τ 2 (c * 32 + l) = 0
  · rw [(rcp_of a4 hCo hc a2 hl).1 h0, oI_none, if_neg (show ¬ (0 : Int32) ≤ -1 by decide), if_pos h0]
    by_cases k0 : nI k = 0
    · rw [if_pos k0, if_pos k0, h0]
      exact ⟨0, rfl, by rw [nI_0]⟩
    · rw [if_neg k0, if_neg k0]
      exact ⟨-1, rfl, rfl⟩
  · obtain ⟨s, s1, s2, s3, s4, s5, s6, s7, -⟩ := cop_at a2 a4 hCo hc hl h0
    have ha := sA_lt (c := c) (s := s) (k := 3) (by omega) (by omega) (by omega)
    rw [s4, oI_some, if_pos (nI_pos' (by omega)), if_neg h0]
    have hl45 := fun (K : Int32 → Int32 → Int32 → Option Int32) => qr_later (K := K) (x := nI k) (c := c) (by omega) a4 c1.1 (show sA c s + 3 < 302 from ha) S 0 z_fu 0 (by omega) (Nat.lt_of_le_of_lt a4 (by decide))
    rcases (show k = 0 ∨ k = 1 ∨ k = 2 ∨ k = 3 by omega) with rfl | rfl | rfl | rfl
    · rw [if_pos nI_0, if_neg (show ¬ nI 0 = nI 2 by decide), hl45, if_pos nI_0, nI_add, p_ag (by omega) (by omega), Option.bind_some, s5]
      exact ⟨_, rfl, rfl⟩
    · rw [if_neg (show ¬ nI 1 = 0 by decide), if_pos rfl, if_neg (show ¬ nI 1 = nI 2 by decide), hl45, if_neg (show ¬ nI 1 = 0 by decide), if_pos rfl, p_ag (by omega) (by omega), Option.bind_some, nI_add, p_ag (by omega) (by omega), Option.bind_some, s6]
      exact ⟨_, rfl, rfl⟩
    · rw [if_neg (show ¬ nI 2 = 0 by decide), if_neg (show ¬ nI 2 = nI 1 by decide), if_pos rfl, if_pos rfl, p_ag (by omega) (by omega), Option.bind_some, qr_slotAt, Option.bind_some, s2, p_sub (by unfold sA; omega)]
      refine ⟨nI s, rfl, ?_⟩
      unfold z_dv
      rw [if_neg (show ¬ nI 4 = 0 by decide), Option.bind_some, pk_div (by omega) (by omega) (by omega), show (sA c s - sA c 0) / 4 = s by unfold sA; omega]
    · rw [if_neg (show ¬ nI 3 = 0 by decide), if_neg (show ¬ nI 3 = nI 1 by decide), if_neg (show ¬ nI 3 = nI 2 by decide), if_neg (show ¬ nI 3 = nI 2 by decide), hl45, if_neg (show ¬ nI 3 = 0 by decide), if_neg (show ¬ nI 3 = nI 1 by decide), qx_usedLater (by omega) hl, Option.bind_some, s7, later_eq hCo hc a2 a4, Nat.zero_add]
      exact ⟨_, rfl, rfl⟩
theorem rl_lineFact {n S R P U D l k : Nat} {σ τ : zSt} (h : mInv n S R P U D noE noX σ τ) (hl : l < 32) (hk : k < 8) : ∃ x, fX4_lineFact (nI l) (nI k) τ = some x ∧ fX9_aboutLine (nI l) (nI k) σ = some x := by
  obtain ⟨⟨a1, a2, a3, a4, a5, a6, a7⟩, b1, c1, d1, q1⟩ := id h.1
  obtain ⟨-, -, hMe, hMa, -, -, -, hPa, -⟩ := id h
  have ho := own_of h hl (fun _ z => z)
  have hs := sha_of h hl (fun _ z => z)
  unfold fX4_lineFact fX9_aboutLine
  rw [qr_pageOf (by omega) q1.1, Option.bind_some]
  have ho' : fX0_ownerOf (nI l) τ = some (oI (ownN τ l)) := qx_ownerOf hl
  have hs' : fX0_sharersOf (nI l) τ = some (shF (kdF τ l) 6) := qx_sharersOf hl
  rcases (show k = 0 ∨ k = 1 ∨ k = 2 ∨ k = 3 ∨ (k = 4 ∨ k = 5 ∨ k = 6) ∨ k = 7 by omega) with rfl | rfl | rfl | rfl | hk3 | rfl
  · rw [if_pos rfl, if_pos rfl, p_ag (by omega) (by omega), Option.bind_some, nI_add, p_ag (by omega) (by omega), Option.bind_some, (hMe l hl).1]
    exact ⟨_, rfl, rfl⟩
  · rw [if_neg (show ¬ nI 1 = nI 0 by decide), if_pos rfl, if_neg (show ¬ nI 1 = nI 0 by decide), if_pos rfl, p_ag (by omega) (by omega), Option.bind_some, nI_add, p_ag (by omega) (by omega), Option.bind_some, (hMe l hl).2]
    exact ⟨_, rfl, rfl⟩
  · rw [if_neg (show ¬ nI 2 = nI 0 by decide), if_neg (show ¬ nI 2 = nI 1 by decide), if_pos rfl, if_neg (show ¬ nI 2 = nI 0 by decide), if_neg (show ¬ nI 2 = nI 1 by decide), if_pos rfl, ho, ho']
    exact ⟨_, rfl, rfl⟩
  · rw [if_neg (show ¬ nI 3 = nI 0 by decide), if_neg (show ¬ nI 3 = nI 1 by decide), if_neg (show ¬ nI 3 = nI 2 by decide), if_pos rfl, if_neg (show ¬ nI 3 = nI 0 by decide), if_neg (show ¬ nI 3 = nI 1 by decide), if_neg (show ¬ nI 3 = nI 2 by decide), if_pos rfl, hs, hs']
    exact ⟨_, rfl, rfl⟩
  · have hkn : ∀ j, j < 4 → ¬ nI k = nI j := fun j hj e => by
      have := (nI_eq (by omega) (by omega)).mp e
      omega
    rw [if_neg (hkn 0 (by omega)), if_neg (hkn 1 (by omega)), if_neg (hkn 2 (by omega)), if_neg (hkn 3 (by omega)), if_neg (hkn 0 (by omega)), if_neg (hkn 1 (by omega)), if_neg (hkn 2 (by omega)), if_neg (hkn 3 (by omega)), qx_hasPage hl, Option.bind_some, Option.bind_some, Option.bind_some]
    by_cases h6 : τ 6 l = 0
    · rw [(rpg_of hPa hl).1 h6, oI_none, if_pos ((pg_le0 hPa hl).mpr h6), if_pos nI_0, if_pos nI_0, if_pos nI_0, if_pos p_neg, if_pos p_neg, if_pos p_neg]
      rcases hk3 with rfl | rfl | rfl
      · rw [if_pos rfl, if_pos rfl]; exact ⟨_, rfl, rfl⟩
      · rw [if_neg (show ¬ nI 5 = nI 4 by decide), if_pos rfl, if_neg (show ¬ nI 5 = nI 4 by decide), if_pos rfl]; exact ⟨_, rfl, rfl⟩
      · rw [if_neg (show ¬ nI 6 = nI 4 by decide), if_neg (show ¬ nI 6 = nI 5 by decide), if_pos rfl, if_neg (show ¬ nI 6 = nI 4 by decide), if_neg (show ¬ nI 6 = nI 5 by decide), if_pos rfl]; exact ⟨_, rfl, rfl⟩
    · obtain ⟨p, p1, p2, p3⟩ := (rpg_of hPa hl).2 h6
      have htl := hPa.2.2.2.2.1 p l p1 hl p2 (fun z => z)
      have hne : ¬ nI 1 = (0 : Int32) := by decide
      have hnn : ¬ nI (302 + 4 * p) < 0 := nI_pos (by omega)
      rw [p3, oI_some, if_neg (mt (pg_le0 hPa hl).mp h6), if_neg hne, if_neg hne, if_neg hne, if_neg hnn, if_neg hnn, if_neg hnn, nI_add, nI_add, p_ag (by omega) (by omega), p_ag (by omega) (by omega), htl.1, htl.2, ho', hs']
      rcases hk3 with rfl | rfl | rfl
      · rw [if_pos rfl, if_pos rfl]; exact ⟨_, rfl, rfl⟩
      · rw [if_neg (show ¬ nI 5 = nI 4 by decide), if_pos rfl, if_neg (show ¬ nI 5 = nI 4 by decide), if_pos rfl]; exact ⟨_, rfl, rfl⟩
      · rw [if_neg (show ¬ nI 6 = nI 4 by decide), if_neg (show ¬ nI 6 = nI 5 by decide), if_pos rfl, if_neg (show ¬ nI 6 = nI 4 by decide), if_neg (show ¬ nI 6 = nI 5 by decide), if_pos rfl]; exact ⟨_, rfl, rfl⟩
  · have hkn : ∀ j, j < 7 → ¬ nI 7 = nI j := fun j hj e => by
      have := (nI_eq (by omega) (by omega)).mp e
      omega
    rw [if_neg (hkn 0 (by omega)), if_neg (hkn 1 (by omega)), if_neg (hkn 2 (by omega)), if_neg (hkn 3 (by omega)), if_neg (hkn 4 (by omega)), if_neg (hkn 5 (by omega)), if_neg (hkn 6 (by omega)), if_neg (hkn 0 (by omega)), if_neg (hkn 1 (by omega)), if_neg (hkn 2 (by omega)), if_neg (hkn 3 (by omega)), if_neg (hkn 4 (by omega)), if_neg (hkn 5 (by omega)), if_neg (hkn 6 (by omega)), qx_isMarked hl, Option.bind_some, nI_add, p_ag (by omega) (by omega), Option.bind_some, hMa l hl]
    refine ⟨_, ?_, rfl⟩
    cases bt (τ 13 0) l with
    | true => rfl
    | false => rfl
theorem rl_pfact {n c k : Nat} {σ τ : zSt} (hR : mReq n σ τ) (hc : c < 6) (hk : k < 3) : ∃ x, fX7_fact (nI c) (nI k) τ = some x ∧ fX9_aboutPending (nI c) (nI k) σ = some x := by
  unfold fX7_fact fX9_aboutPending
  rw [p_ag hc (by omega), Option.bind_some]
  rcases rl_pend hR hc with ⟨r1, -, -, e⟩ | ⟨⟨-, l, hl, r1, r2, r3, r4⟩, -, e⟩
  · rw [r1, if_pos rfl, e, Option.bind_some, if_pos nI_0]
    exact ⟨_, rfl, rfl⟩
  · rw [r1, if_neg (p_nneg (by omega)), e, Option.bind_some, Option.bind_some, if_neg (show ¬ nI 1 = 0 by decide), p_mul, nI_add, nI_add, p_ag (by omega) (by omega), p_ag (by omega) (by omega), p_ag (by omega) (by omega)]
    rcases (show k = 0 ∨ k = 1 ∨ k = 2 by omega) with rfl | rfl | rfl
    · rw [if_pos rfl, Nat.add_zero, r2]; exact ⟨_, rfl, rfl⟩
    · rw [if_neg (show ¬ nI 1 = nI 0 by decide), if_pos rfl, r3]; exact ⟨_, rfl, rfl⟩
    · rw [if_neg (show ¬ nI 2 = nI 0 by decide), if_neg (show ¬ nI 2 = nI 1 by decide), r4]; exact ⟨_, rfl, rfl⟩
theorem rl_number {n S R P U D T k : Nat} {σ τ : zSt} (h : mFull n S R P U D T σ τ) (hk : k < 14) : ∃ x, fX4_number (nI k) τ = some x ∧ fX9_number (nI k) σ = some x := by
  obtain ⟨⟨a1, a2, a3, a4, a5, a6, a7⟩, b1, c1, d1, q1⟩ := id h.1.1
  have hNu := h.1.2.1
  obtain ⟨-, hM, hR, ⟨C, l1, l2, l3, l4⟩, hT⟩ := id h
  have hkn : ∀ i j, i < 14 → j < 14 → i ≠ j → ¬ nI i = nI j := fun i j hi hj hne e => hne ((nI_eq (by omega) (by omega)).mp e)
  by_cases e12 : k = 12
  · subst e12
    refine ⟨nI (pS (fun c => if τ 7 c = -1 then 0 else 1) 6 0), ?_, ?_⟩
    · unfold fX4_number
      iterate 12 rw [if_neg (by decide)]
      rw [if_pos rfl, qx_count]
      rfl
    · unfold fX9_number
      rw [if_pos rfl, qr_waiting a2 b1.1, rl_wait a2 hR]
      rfl
  · by_cases e13 : k = 13
    · subst e13
      refine ⟨nI C, ?_, ?_⟩
      · unfold fX4_number
        iterate 13 rw [if_neg (by decide)]
        rw [l3]
      · unfold fX9_number
        rw [if_neg (hkn 13 12 (by omega) (by omega) (by omega)), if_pos rfl, p_ag (by omega) (by omega), Option.bind_some, l2]
    · have e9 : fX9_number (nI k) σ = some (σ 0 k) := by
        unfold fX9_number
        rw [if_neg (hkn k 12 (by omega) (by omega) e12), if_neg (hkn k 13 (by omega) (by omega) e13), p_ag (by omega) (by omega), Option.bind_some]
      rw [e9]
      refine ⟨_, ?_, rfl⟩
      unfold fX4_number
      rcases (show k = 0 ∨ k = 1 ∨ k = 2 ∨ k = 3 ∨ k = 4 ∨ k = 5 ∨ k = 6 ∨ k = 7 ∨ k = 8 ∨ k = 9 ∨ k = 10 ∨ k = 11 by omega) with rfl | rfl | rfl | rfl | rfl | rfl | rfl | rfl | rfl | rfl | rfl | rfl
      · rw [if_pos rfl, b1.2, b1.1]
      · iterate 1 rw [if_neg (by decide)]
        rw [if_pos rfl, c1.2, c1.1]
      · iterate 2 rw [if_neg (by decide)]
        rw [if_pos rfl, d1.2, d1.1]
      · iterate 3 rw [if_neg (by decide)]
        rw [if_pos rfl, q1.2, q1.1]
      · iterate 4 rw [if_neg (by decide)]
        rw [if_pos rfl, hT.2.1, hT.1]
      · iterate 5 rw [if_neg (by decide)]
        rw [if_pos rfl, hM.1]
      · iterate 6 rw [if_neg (by decide)]
        rw [if_pos rfl, hM.2.1]
      · iterate 7 rw [if_neg (by decide)]
        rw [if_pos rfl, hM.2.2.1]
      · iterate 8 rw [if_neg (by decide)]
        rw [if_pos rfl, hM.2.2.2]
      · iterate 9 rw [if_neg (by decide)]
        rw [if_pos rfl, hNu.1]
      · iterate 10 rw [if_neg (by decide)]
        rw [if_pos rfl, hNu.2.1]
      · iterate 11 rw [if_neg (by decide)]
        rw [if_pos rfl, hNu.2.2]
