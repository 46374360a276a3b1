/-! the second step of a miss: the other caches' copies, in both -/
theorem ix_ne {c d l k : Nat} (hl : l < 32) (hk : k < 32) (h : ¬ (c = d ∧ l = k)) : ¬ c * 32 + l = d * 32 + k := by omega
/-- one other cache's copy of line l: to memory if owned, then shared or thrown away -/
def vs1 (l : Nat) (w : Int32) (d : Nat) (τ : zSt) : zSt := if τ 2 (d * 32 + l) = 0 then τ else
  wr (if τ 2 (d * 32 + l) = nI 2 then ws (wr τ 0 l (τ 3 (d * 32 + l))) 26 (τ 26 0 + nI 1) else τ) 2 (d * 32 + l) (if w = 0 then nI 1 else nI 0)
theorem rl_reach1 {n S R P U D l d : Nat} {w : Int32} {σ τ : zSt} (h : mInv n S R P U D (fun k => k = l) noX σ τ) (hl : l < 32) (hd : d < n) {s : Nat} (hk : τ 2 (d * 32 + l) ≠ 0) (hs : s < S) (hs4 : τ 4 (d * 32 + l) = nI s) (hsl : σ 0 (sA d s) = nI l) :
    mInv n S R P U D (fun k => k = l) noX (w0 (w0 (if τ 2 (d * 32 + l) = nI 2 then w0 (w0 σ (14 + l) (σ 0 (sA d s + 2))) 11 (σ 0 11 + nI 1) else σ) (sA d s + 1) (nI 1)) (sA d s) (if w = 0 then nI l else -1)) (vs1 l w d τ) := by
  obtain ⟨hSc, hNu, hMe, hMa, hKi, hOn, hCo, hPa, hNo⟩ := h
  obtain ⟨⟨a1, a2, a3, a4, a5, a6, a7⟩, b1, c1, d1, e1⟩ := id hSc
  have ha : sA d s + 3 < 302 := sA_lt (by omega) (by omega) (by omega)
  have ha0 : 110 ≤ sA d s := by unfold sA; omega
  obtain ⟨-, s', q2, q3, q4, q5⟩ := hCo.1 d l (by omega) hl hk
  rw [hs4] at q3
  obtain rfl := (nI_eq (by omega) (by omega)).mp q3
  obtain ⟨v1, v2, v3, v4⟩ := q5 id
  -- both states, cell by cell
  generalize hσ : w0 (w0 (if τ 2 (d * 32 + l) = nI 2 then w0 (w0 σ (14 + l) (σ 0 (sA d s + 2))) 11 (σ 0 11 + nI 1) else σ) (sA d s + 1) (nI 1)) (sA d s) (if w = 0 then nI l else -1) = σ'
  have x1 : σ' 0 (sA d s) = if w = 0 then nI l else -1 := by rw [← hσ, w0_e]
  have x2 : σ' 0 (sA d s + 1) = nI 1 := by rw [← hσ, w0_n (by omega), w0_e]
  have x3 : σ' 0 (14 + l) = if τ 2 (d * 32 + l) = nI 2 then τ 3 (d * 32 + l) else σ 0 (14 + l) := by
    rw [← hσ, w0_n (by omega), w0_n (by omega)]
    split
    · rw [w0_n (by omega), w0_e, v2]
    · rfl
  have x4 : σ' 0 11 = if τ 2 (d * 32 + l) = nI 2 then σ 0 11 + nI 1 else σ 0 11 := by
    rw [← hσ, w0_n (by omega), w0_n (by omega)]
    split
    · rw [w0_e]
    · rfl
  have x5 : ∀ k, k ≠ sA d s → k ≠ sA d s + 1 → k ≠ 14 + l → k ≠ 11 → σ' 0 k = σ 0 k := by
    intro k k1 k2 k3 k4
    rw [← hσ, w0_n k1, w0_n k2]
    split
    · rw [w0_n k4, w0_n k3]
    · rfl
  generalize hτ : vs1 l w d τ = τ'
  unfold vs1 at hτ
  rw [if_neg hk] at hτ
  have y1 : τ' 2 (d * 32 + l) = if w = 0 then nI 1 else nI 0 := by rw [← hτ, wr_e]
  have y2 : ∀ k, k ≠ d * 32 + l → τ' 2 k = τ 2 k := by
    intro k k1
    rw [← hτ, wr_n k1]
    split
    · rw [ws_o (by omega), wr_o (by omega)]
    · rfl
  have y3 : ∀ k, k < 32 → τ' 0 k = if k = l ∧ τ 2 (d * 32 + l) = nI 2 then τ 3 (d * 32 + l) else τ 0 k := by
    intro k k1
    rw [← hτ, wr_o (by omega)]
    by_cases e : τ 2 (d * 32 + l) = nI 2
    · rw [if_pos e, ws_o (by omega)]
      by_cases ek : k = l
      · rw [ek, wr_e, if_pos ⟨rfl, e⟩]
      · rw [wr_n ek, if_neg (fun z => ek z.1)]
    · rw [if_neg e, if_neg (fun z => e z.2)]
  have y4 : τ' 26 0 = if τ 2 (d * 32 + l) = nI 2 then τ 26 0 + nI 1 else τ 26 0 := by
    rw [← hτ, wr_o (by omega)]
    split
    · rw [ws_e]
    · rfl
  have y5 : ∀ i, i ≠ 2 → i ≠ 0 → i ≠ 26 → τ' i = τ i := by
    intro i i1 i2 i3
    rw [← hτ, wr_o i1]
    split
    · rw [ws_o i3, wr_o i2]
    · rfl
  have kz : ∀ c k, c < 6 → k < 32 → τ' 2 (c * 32 + k) ≠ 0 → τ 2 (c * 32 + k) ≠ 0 := by
    intro c k hc hk2 z
    by_cases e : c * 32 + k = d * 32 + l
    · rw [e]; exact hk
    · rw [y2 _ e] at z; exact z
  refine ⟨?_, ?_, ?_, ?_, ?_, ?_, ?_, ?_, ?_⟩
  · refine ⟨⟨a1, a2, a3, a4, a5, a6, a7⟩, ?_, ?_, ?_, ?_⟩
    · rw [x5 0 (by omega) (by omega) (by omega) (by omega), y5 19 (by omega) (by omega) (by omega)]; exact b1
    · rw [x5 1 (by omega) (by omega) (by omega) (by omega), y5 20 (by omega) (by omega) (by omega)]; exact c1
    · rw [x5 2 (by omega) (by omega) (by omega) (by omega), y5 14 (by omega) (by omega) (by omega)]; exact d1
    · rw [x5 3 (by omega) (by omega) (by omega) (by omega), y5 15 (by omega) (by omega) (by omega)]; exact e1
  · refine ⟨?_, ?_, ?_⟩
    · rw [x5 9 (by omega) (by omega) (by omega) (by omega), y5 16 (by omega) (by omega) (by omega)]; exact hNu.1
    · rw [x5 10 (by omega) (by omega) (by omega) (by omega), y5 17 (by omega) (by omega) (by omega)]; exact hNu.2.1
    · rw [x4, y4, hNu.2.2]
  · intro k hk2
    rw [x5 (46 + k) (by omega) (by omega) (by omega) (by omega), y5 1 (by omega) (by omega) (by omega), y3 k hk2]
    refine ⟨?_, (hMe k hk2).2⟩
    by_cases ek : k = l
    · rw [ek, x3]
      by_cases e : τ 2 (d * 32 + l) = nI 2
      · rw [if_pos e, if_pos ⟨rfl, e⟩]
      · rw [if_neg e, if_neg (fun z => e z.2)]
        exact (hMe l hl).1
    · rw [if_neg (fun z => ek z.1), x5 (14 + k) (by omega) (by omega) (by omega) (by omega)]
      exact (hMe k hk2).1
  · intro k hk2
    rw [x5 (78 + k) (by omega) (by omega) (by omega) (by omega), y5 13 (by omega) (by omega) (by omega)]
    exact hMa k hk2
  · intro c k hc hk2
    by_cases e : c * 32 + k = d * 32 + l
    · rw [e, y1]
      split
      · exact Or.inr (Or.inl rfl)
      · exact Or.inl nI_0
    · rw [y2 _ e]; exact hKi c k hc hk2
  · intro c c' k hc hc' hk2 z1 z2
    by_cases e : c * 32 + k = d * 32 + l
    · rw [e, y1] at z1
      split at z1
      · exact absurd z1 (by decide)
      · exact absurd z1 (by decide)
    · by_cases e' : c' * 32 + k = d * 32 + l
      · rw [e', y1] at z2
        split at z2
        · exact absurd z2 (by decide)
        · exact absurd z2 (by decide)
      · rw [y2 _ e] at z1
        rw [y2 _ e'] at z2
        exact hOn c c' k hc hc' hk2 z1 z2
  · obtain ⟨hA, hB, hC, hD⟩ := hCo
    refine ⟨fun c k hc hk2 hz => ?_, fun c t hc ht => ?_, fun c k m hc hk2 hm z1 z2 _ _ z3 => ?_, ?_⟩
    · have hz0 := kz c k hc hk2 hz
      obtain ⟨g1, t, g2, g3, g4, g5⟩ := hA c k hc hk2 hz0
      rw [y5 3 (by omega) (by omega) (by omega), y5 4 (by omega) (by omega) (by omega), y5 5 (by omega) (by omega) (by omega)]
      by_cases e : c = d ∧ k = l
      · obtain ⟨rfl, rfl⟩ := e
        rw [hs4] at g3
        obtain rfl := (nI_eq (by omega) (by omega)).mp g3
        rw [y1] at hz ⊢
        by_cases hw : w = 0
        · rw [if_pos hw]
          refine ⟨g1, s, g2, hs4, by rw [x1, if_pos hw], fun _ => ⟨x2, ?_, ?_, v4⟩⟩
          · rw [x5 _ (by omega) (by omega) (by omega) (by omega)]; exact v2
          · rw [x5 _ (by omega) (by omega) (by omega) (by omega)]; exact v3
        · rw [if_neg hw] at hz
          exact absurd nI_0 hz
      · have hne : ¬ (c = d ∧ t = s) := fun z => by
          obtain ⟨rfl, rfl⟩ := z
          rw [hsl] at g4
          exact e ⟨rfl, ((nI_eq (by omega) (by omega)).mp g4).symm⟩
        have ht8 : t < 8 := by omega
        have hs8 : s < 8 := by omega
        have adr : ∀ j, j < 4 → σ' 0 (sA c t + j) = σ 0 (sA c t + j) := fun j hj => x5 _ (by unfold sA; omega) (by unfold sA; omega) (by unfold sA; omega) (by unfold sA; omega)
        have adr0 : σ' 0 (sA c t) = σ 0 (sA c t) := adr 0 (by omega)
        rw [y2 _ (by omega)]
        refine ⟨g1, t, g2, g3, ?_, ?_⟩
        · rw [adr0]; exact g4
        · rw [adr 1 (by omega), adr 2 (by omega), adr 3 (by omega)]; exact g5
    · by_cases e : c = d ∧ t = s
      · obtain ⟨rfl, rfl⟩ := e
        rw [x1]
        by_cases hw : w = 0
        · rw [if_pos hw]
          exact Or.inr ⟨l, hl, rfl, by rw [y1, if_pos hw]; decide, by rw [y5 4 (by omega) (by omega) (by omega)]; exact hs4⟩
        · rw [if_neg hw]; exact Or.inl rfl
      · have ht8 : t < 8 := by omega
        have hs8 : s < 8 := by omega
        have adr0 : σ' 0 (sA c t) = σ 0 (sA c t) := x5 _ (by unfold sA; omega) (by unfold sA; omega) (by unfold sA; omega) (by unfold sA; omega)
        rw [adr0]
        rcases hB c t hc ht with z | ⟨k, z1, z2, z3, z4⟩
        · exact Or.inl z
        · refine Or.inr ⟨k, z1, z2, ?_, by rw [y5 4 (by omega) (by omega) (by omega)]; exact z4⟩
          rw [y2]
          · exact z3
          · intro eq
            have e1 : c = d := by omega
            have e2 : k = l := by omega
            subst e1; subst e2
            rw [hs4] at z4
            exact e ⟨rfl, ((nI_eq (by omega) (by omega)).mp z4).symm⟩
    · rw [y5 5 (by omega) (by omega) (by omega)] at z3
      exact hC c k m hc hk2 hm (kz c k hc hk2 z1) (kz c m hc hm z2) id id z3
    · rw [x5 13 (by omega) (by omega) (by omega) (by omega), y5 11 (by omega) (by omega) (by omega)]; exact hD
  · exact mPage_same (by omega) hPa (fun k k1 k2 => x5 k (by omega) (by omega) (by omega) (by omega)) (y5 6 (by omega) (by omega) (by omega)) (y5 12 (by omega) (by omega) (by omega)) fun k hk2 hE c hc => y2 _ (by omega)
  · intro k hk2 z1 z2 c hc
    rw [y5 6 (by omega) (by omega) (by omega)] at z1
    rw [y5 13 (by omega) (by omega) (by omega)] at z2
    have z3 := hNo k hk2 z1 z2
    by_cases e : c * 32 + k = d * 32 + l
    · have e2 : k = l := by omega
      subst e2
      exact absurd (z3 d (by omega)) hk
    · rw [y2 _ e]; exact z3 c hc
/-- what a step to the others pays for cache d -/
def gPay (τ : zSt) (l : Nat) (w : Int32) (c d : Nat) : Nat := if d = c then 0 else if τ 2 (d * 32 + l) = nI 2 then 2 else if τ 2 (d * 32 + l) = 0 then 0 else if w = 0 then 0 else 1
def vsN (l : Nat) (w : Int32) (c : Nat) : Nat → Nat → zSt → zSt
  | 0, _, τ => τ
  | r + 1, d, τ => vsN l w c r (d + 1) (if d = c then τ else vs1 l w d τ)
theorem vs1_o {l d : Nat} {w : Int32} {τ : zSt} {k : Nat} (h : k ≠ d * 32 + l) : vs1 l w d τ 2 k = τ 2 k := by
  unfold vs1
  split
  · rfl
  · rw [wr_n h]
    split
    · rw [ws_o (by omega), wr_o (by omega)]
    · rfl
theorem rl_reach_l {n S R P U l c : Nat} {w : Int32} (hl : l < 32) (hc : c < n) : ∀ (r d m y D : Nat) (σ τ : zSt), d + r = n → r < m → mInv n S R P U D (fun k => k = l) noX σ τ → ∃ σ', fX9_reachesOthers_l6 (fun x7 σ8 => some (x7, σ8)) m (nI c) (nI l) w (nI y) (nI d) σ = some (nI (y + pS (gPay τ l w c) r d), σ') ∧ mInv n S R P U D (fun k => k = l) noX σ' (vsN l w c r d τ) ∧ (∀ i, i ≠ 0 → σ' i = σ i) ∧ ∀ k, k ≠ 11 → (k < 14 ∨ 46 ≤ k) → (k < 110 ∨ 302 ≤ k) → σ' 0 k = σ 0 k := by
  intro r
  induction r with
  | zero =>
    intro d m y D σ τ hd hm h
    obtain ⟨m, rfl⟩ : ∃ k, m = k + 1 := ⟨m - 1, by omega⟩
    have a2 := h.1.1.2.1
    refine ⟨σ, ?_, h, fun _ _ => rfl, fun _ _ _ _ => rfl⟩
    rw [fX9_reachesOthers_l6, p_ag (by omega) (by omega), Option.bind_some, h.1.2.1.1, if_pos (nI_le (by omega) (by omega))]
    rfl
  | succ r ih =>
    intro d m y D σ τ hd hm h
    obtain ⟨m, rfl⟩ : ∃ k, m = k + 1 := ⟨m - 1, by omega⟩
    obtain ⟨⟨a1, a2, a3, a4, a5, a6, a7⟩, b1, c1, -⟩ := h.1
    rw [fX9_reachesOthers_l6, p_ag (by omega) (by omega), Option.bind_some, b1.1, if_neg (nI_ge (by omega) (by omega))]
    show ∃ σ', _ = some (nI (y + (gPay τ l w c d + pS (gPay τ l w c) r (d + 1))), σ') ∧ mInv n S R P U D (fun k => k = l) noX σ' (vsN l w c r (d + 1) (if d = c then τ else vs1 l w d τ)) ∧ _
    by_cases e : d = c
    · rw [if_pos (by rw [e]), if_pos e]
      unfold fX9_reachesOthers_j34 fX9_reachesOthers_j66 fX9_reachesOthers_j78
      rw [if_pos p_neg, if_pos p_neg, if_pos p_neg, nI_add]
      have : gPay τ l w c d = 0 := by unfold gPay; rw [if_pos e]
      rw [this, Nat.zero_add]
      exact ih (d + 1) m y D σ τ (by omega) (by omega) h
    · rw [if_neg (fun z => e ((nI_eq (by omega) (by omega)).mp z)), if_neg e, qr_copyOf (by omega) a4 c1.1, Option.bind_some]
      have hgc : pS (gPay (vs1 l w d τ) l w c) r (d + 1) = pS (gPay τ l w c) r (d + 1) := pS_congr fun j j1 j2 => by
        unfold gPay
        rw [vs1_o (by omega)]
      by_cases hk : τ 2 (d * 32 + l) = 0
      · rw [(rcp_of a4 h.2.2.2.2.2.2.1 (by omega) a2 hl).1 hk, oI_none]
        unfold fX9_reachesOthers_j34 fX9_reachesOthers_j66 fX9_reachesOthers_j78
        rw [if_pos p_neg, if_pos p_neg, if_pos p_neg, nI_add]
        have g0 : gPay τ l w c d = 0 := by unfold gPay; rw [if_neg e, hk, if_neg (by decide), if_pos rfl]
        have t0 : vs1 l w d τ = τ := by unfold vs1; rw [if_pos hk]
        rw [g0, Nat.zero_add, t0]
        exact ih (d + 1) m y D σ τ (by omega) (by omega) h
      · obtain ⟨s, s1, s2, s3, s4⟩ := (rcp_of a4 h.2.2.2.2.2.2.1 (by omega) a2 hl).2 hk
        have ha : sA d s + 3 < 302 := sA_lt (by omega) (by omega) (by omega)
        have ha0 : 110 ≤ sA d s := by unfold sA; omega
        have hkd := rkd_of a4 h.2.2.2.2.2.2.1 (c := d) (l := l) (by omega) a2 hl id
        have hk1 : σ 0 (sA d s + 1) = τ 2 (d * 32 + l) := by
          unfold rkd at hkd
          rw [s4] at hkd
          exact hkd
        have hstep := rl_reach1 (w := w) h hl (by omega) hk s1 s2 s3
        rw [s4, oI_some]
        -- the tail of the step
        have T : ∀ (y1 : Nat) (ρ : zSt), (∀ i, i ≠ 0 → ρ i = σ i) → (∀ k, k ≠ 11 → (k < 14 ∨ 46 ≤ k) → ρ 0 k = σ 0 k) → mInv n S R P U D (fun k => k = l) noX (w0 (w0 ρ (sA d s + 1) (nI 1)) (sA d s) (if w = 0 then nI l else -1)) (vs1 l w d τ) →
            ∃ σ', fX9_reachesOthers_j78 (fX9_reachesOthers_l6 (fun x7 σ8 => some (x7, σ8)) m) (nI c) (nI l) w (nI y1) (nI d) (nI (sA d s)) ρ = some (nI (y1 + pS (gPay τ l w c) r (d + 1)), σ') ∧ mInv n S R P U D (fun k => k = l) noX σ' (vsN l w c r (d + 1) (vs1 l w d τ)) ∧ (∀ i, i ≠ 0 → σ' i = σ i) ∧ ∀ k, k ≠ 11 → (k < 14 ∨ 46 ≤ k) → (k < 110 ∨ 302 ≤ k) → σ' 0 k = σ 0 k := by
          intro y1 ρ r1 r2 r3
          obtain ⟨σ', g1, g2, g3, g4⟩ := ih (d + 1) m y1 D _ _ (by omega) (by omega) r3
          refine ⟨σ', ?_, g2, fun i hi => by rw [g3 i hi, w0_o hi, w0_o hi, r1 i hi], fun k k1 k2 k3 => by rw [g4 k k1 k2 k3, w0_n (by omega), w0_n (by omega), r2 k k1 k2]⟩
          unfold fX9_reachesOthers_j78 fX9_reachesOthers_j108
          rw [if_neg (nI_pos (by omega)), nI_add, p_w0 (by omega), Option.bind_some]
          rw [hgc] at g1
          by_cases hw : w = 0
          · rw [if_pos hw, p_w0 (by omega), Option.bind_some, nI_add]
            rw [if_pos hw] at g1
            exact g1
          · rw [if_neg hw, p_w0 (by omega), Option.bind_some, nI_add]
            rw [if_neg hw] at g1
            exact g1
        unfold fX9_reachesOthers_j34
        rw [if_neg (nI_pos (by omega)), nI_add, p_ag (by omega) (by omega), Option.bind_some, hk1]
        by_cases h2 : τ 2 (d * 32 + l) = nI 2
        · rw [if_pos h2]
          rw [if_pos h2] at hstep
          have g0 : gPay τ l w c d = 2 := by unfold gPay; rw [if_neg e, if_pos h2]
          rw [g0, ← Nat.add_assoc]
          unfold fX9_toMemory
          rw [p_ag (by omega) (by omega), Option.bind_some, s3, nI_add, p_ag (by omega) (by omega), Option.bind_some, nI_add, p_w0 (by omega), Option.bind_some, p_ag (by omega) (by omega), Option.bind_some, w0_n (by omega), p_w0 (by omega), Option.bind_some, Option.bind_some, nI_add]
          exact T (y + 2) _ (fun i hi => by rw [w0_o hi, w0_o hi]) (fun k k1 k2 => by rw [w0_n (by omega), w0_n (by omega)]) hstep
        · rw [if_neg h2]
          rw [if_neg h2] at hstep
          unfold fX9_reachesOthers_j66
          rw [if_neg (nI_pos (by omega))]
          by_cases hw : w = 0
          · have g0 : gPay τ l w c d = 0 := by unfold gPay; rw [if_neg e, if_neg h2, if_neg hk, if_pos hw]
            rw [if_pos hw, g0, Nat.zero_add]
            exact T y σ (fun _ _ => rfl) (fun _ _ _ => rfl) hstep
          · have g0 : gPay τ l w c d = 1 := by unfold gPay; rw [if_neg e, if_neg h2, if_neg hk, if_neg hw]
            rw [if_neg hw, nI_add, g0, ← Nat.add_assoc]
            exact T (y + 1) σ (fun _ _ => rfl) (fun _ _ _ => rfl) hstep
