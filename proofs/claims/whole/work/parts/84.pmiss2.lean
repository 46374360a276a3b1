/-! a miss from its first step to its last, in both -/
theorem fetch_open {τ τ1 : zSt} {c l : Nat} {w : Int32} (h : cOpen l τ = some τ1) : fX4_fetch (nI c) (nI l) w τ = fX4_fetch_j23 (nI c) (nI l) w τ1 := by
  unfold cOpen at h
  unfold fX4_fetch
  cases hp : fX1_hasPage (nI l) τ with
  | none => rw [hp] at h; cases h
  | some x =>
    rw [hp, Option.bind_some] at h
    rw [Option.bind_some]
    by_cases hx : x = 0
    · rw [if_pos hx] at h
      rw [if_pos hx]
      cases hr : fX4_makeRoomInDiary τ with
      | none => rw [hr] at h; cases h
      | some τ2 =>
        rw [hr, Option.bind_some] at h
        rw [Option.bind_some, h, Option.bind_some]
    · rw [if_neg hx] at h
      rw [if_neg hx, Option.some.inj h]
theorem rl_miss {n S R P U D c l : Nat} {w wv : Int32} {σ τ : zSt} (h : mInv n S R P U D noE noX σ τ) (hl : l < 32) (hc : c < n) (hwv : wv < 0 ∧ w = nI 0 ∨ ¬ wv < 0 ∧ w = nI 1) (hD : D + 2 ≤ 20000000) (hm : ¬ hitB τ c l w) :
    ∃ m s p P' D' σ' τ', fX9_misses (nI c) (nI l) wv σ = some (nI m, fillS c l s p U w (if w = 0 then shF (fun e => if e = c then nI 1 else τ' 2 (e * 32 + l)) 6 else nI 0) σ') ∧ fX4_fetch (nI c) (nI l) w τ = some (fillT c l s D' τ') ∧ fX4_costOf (nI c) (nI l) w τ = some (nI m) ∧
      mInv n S R P' U D' (fun k => k = l) noX σ' τ' ∧ s < S ∧ ((τ' 2 (c * 32 + l) ≠ 0 ∧ τ' 4 (c * 32 + l) = nI s) ∨ (τ' 2 (c * 32 + l) = 0 ∧ σ' 0 (sA c s) = -1)) ∧ (p < P' ∧ σ' 0 (302 + 4 * p) = nI l) ∧ D' ≤ D + 1 ∧ τ' 6 l ≠ 0 ∧
      (w ≠ 0 → ∀ e, e < 6 → e ≠ c → τ' 2 (e * 32 + l) = 0) ∧ (w = 0 → τ' 2 (c * 32 + l) = 0 ∧ ∀ e, e < 6 → e ≠ c → τ' 2 (e * 32 + l) ≠ nI 2) ∧
      (∀ i, i ≠ 0 → σ' i = σ i) ∧ (∀ k, k ≠ 3 → k ≠ 9 → k ≠ 10 → k ≠ 11 → (k < 14 ∨ 46 ≤ k) → (k < 78 ∨ 366 ≤ k) → σ' 0 k = σ 0 k) ∧ ∀ i, i ≠ 0 → i ≠ 2 → i ≠ 6 → i ≠ 12 → i ≠ 13 → i ≠ 15 → i ≠ 16 → i ≠ 17 → i ≠ 26 → τ' i = τ i := by
  obtain ⟨⟨a1, a2, a3, a4, a5, a6, a7⟩, b1, c1, -⟩ := id h.1
  have hm2 : τ 2 (c * 32 + l) ≠ nI 2 := by
    unfold hitB at hm
    by_cases hw : w = 0
    · rw [if_pos hw] at hm
      intro z
      exact hm (by rw [z]; decide)
    · rw [if_neg hw] at hm
      exact hm
  have hm0 : w = 0 → τ 2 (c * 32 + l) = 0 := fun hw => by
    unfold hitB at hm
    rw [if_pos hw] at hm
    exact Decidable.not_not.mp hm
  obtain ⟨P1, D1, σ1, τ1, o1, o2, o3, o4, o5, o6, o7, o8⟩ := rl_open h hl (by omega)
  have r2 : τ1 2 = τ 2 := o8 2 (by omega) (by omega) (by omega) (by omega) (by omega) (by omega)
  have hg : gPay τ1 l w c = gPay τ l w c := by
    funext d
    unfold gPay
    rw [r2]
  have hm21 : τ1 2 (c * 32 + l) ≠ nI 2 := by rw [r2]; exact hm2
  obtain ⟨σ2, q1, q2, q3, q4⟩ := rl_reach_l (c := c) (w := w) hl hc n 0 z_fu 0 D1 σ1 τ1 (by omega) (Nat.lt_of_le_of_lt a2 (by decide)) o3
  rw [hg, Nat.zero_add] at q1
  obtain ⟨v1, v2, v3, v4, v5⟩ := vsN_spec (c := c) (w := w) hl n 0 τ1 (fun e e' z1 z2 g1 g2 g3 g4 => o3.2.2.2.2.2.1 e e' l (by omega) (by omega) hl z1 z2)
  have hreach := rl_reach2 (w := w) o3 hl hc hm21
  obtain ⟨s, dm, σ3, τ3, s1, s2, s3, s4, s5, s6, s7, s8, s9, s10⟩ := rl_place (m := mPay n τ l + pS (gPay τ l w c) n 0) (w := w) q2 hl hc
  have vc : ∀ k, k < 32 → vsN l w c n 0 τ1 2 (c * 32 + k) = τ 2 (c * 32 + k) := fun k hk => by
    rw [v2 _ fun e _ _ g3 _ => by omega, r2]
  have t36 : τ3 6 l ≠ 0 := by
    rw [s10 6 (by omega) (by omega) (by omega), v5 6 (by omega) (by omega) (by omega)]
    exact o4
  obtain ⟨p, p1, p2, -⟩ := (rpg_of s5.2.2.2.2.2.2.2.1 hl).2 t36
  have k3c : τ3 2 (c * 32 + l) = τ 2 (c * 32 + l) := by rw [s7, vc l hl]
  have hfill := qr_fill (m := mPay n τ l + pS (gPay τ l w c) n 0 + dm) (w := w) s5 hl hc s1 p1 p2 (fun hw => by rw [k3c]; exact hm0 hw)
  obtain ⟨x, x1, x2⟩ := ltd_some h hc
  have hcost : fX4_costOf (nI c) (nI l) w τ = some (nI (mPay n τ l + pS (gPay τ l w c) n 0 + dm)) := by
    rw [qx_cost h hc hl hm hm2, ← s4]
    refine (j87_eq (by omega) hl vc (ltd_eq h q2 hc hc vc (fun k hk => ?_) fun k hk => ?_) x1 x2).symm
    · rw [v5 4 (by omega) (by omega) (by omega), o8 4 (by omega) (by omega) (by omega) (by omega) (by omega) (by omega)]
    · rw [v5 5 (by omega) (by omega) (by omega), o8 5 (by omega) (by omega) (by omega) (by omega) (by omega) (by omega)]
  have hmisses : fX9_misses (nI c) (nI l) wv σ = fX9_misses_j9 (nI c) (nI l) w σ := by
    unfold fX9_misses
    rcases hwv with ⟨z1, z2⟩ | ⟨z1, z2⟩
    · rw [if_pos z1, z2]
    · rw [if_neg z1, z2]
  refine ⟨mPay n τ l + pS (gPay τ l w c) n 0 + dm, s, p, P1, D1, σ3, τ3, ?_, ?_, hcost, s5, s1, s6, ⟨p1, p2⟩, o5, t36, fun hw e he hec => ?_, fun hw => ⟨by rw [k3c]; exact hm0 hw, fun e he hec => ?_⟩, fun i hi => by rw [s8 i hi, q3 i hi, o6 i hi], fun k k1 k2 k3 k4 k5 k6 => by rw [s9 k k4 k5 (by omega), q4 k k4 k5 (by omega), o7 k k1 k2 k3 (by omega) (by omega)], fun i i1 i2 i3 i4 i5 i6 i7 i8 i9 => by rw [s10 i i1 i2 i9, v5 i i1 i2 i9, o8 i i3 i4 i5 i6 i7 i8]⟩
  · rw [hmisses]
    unfold fX9_misses_j9 z_b2
    rw [o1, Option.bind_some]
    dsimp only
    have q1' : fX9_reachesOthers (nI c) (nI l) w σ1 = some (nI (pS (gPay τ l w c) n 0), σ2) := q1
    rw [q1', Option.bind_some]
    dsimp only
    rw [nI_add]
    have := s2
    rw [hfill] at this
    exact this
  · rw [fetch_open o2, hreach]
    exact s3
  · rw [s7]
    by_cases hen : e < n
    · by_cases hz : τ1 2 (e * 32 + l) = 0
      · rw [v2 _ fun e' _ _ g3 g4 z => by
          have : e = e' := by omega
          subst this
          exact g4 hz, hz]
      · rw [v1 e (by omega) (by omega) hec hz, if_neg hw]
        exact nI_0
    · have hz : τ1 2 (e * 32 + l) = 0 := kd_out o3.2.2.2.2.2.2.1 (by omega) he hl
      rw [v2 _ fun e' _ _ g3 g4 z => by omega, hz]
  · rw [s7]
    by_cases hen : e < n
    · by_cases hz : τ1 2 (e * 32 + l) = 0
      · rw [v2 _ fun e' _ _ g3 g4 z => by
          have : e = e' := by omega
          subst this
          exact g4 hz, hz]
        decide
      · rw [v1 e (by omega) (by omega) hec hz, if_pos hw]
        decide
    · have hz : τ1 2 (e * 32 + l) = 0 := kd_out o3.2.2.2.2.2.2.1 (by omega) he hl
      rw [v2 _ fun e' _ _ g3 g4 z => by omega, hz]
      decide
