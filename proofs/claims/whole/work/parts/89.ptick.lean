/-! a tick, in both -/
theorem mInv_ref {n S R P U D : Nat} {E : Nat → Prop} {X : Nat → Nat → Prop} {σ σ' τ : zSt} (h : mInv n S R P U D E X σ τ) (he : ∀ k, k < 366 → k ≠ 4 → k ≠ 5 → k ≠ 6 → k ≠ 7 → k ≠ 8 → k ≠ 12 → σ' 0 k = σ 0 k) : mInv n S R P U D E X σ' τ := by
  obtain ⟨hSc, hNu, hMe, hMa, hKi, hOn, hCo, hPa, hNo⟩ := h
  obtain ⟨⟨a1, a2, a3, a4, a5, a6, a7⟩, b1, c1, d1, e1⟩ := id hSc
  refine ⟨⟨⟨a1, a2, a3, a4, a5, a6, a7⟩, ?_, ?_, ?_, ?_⟩, ⟨?_, ?_, ?_⟩, fun l hl => ?_, fun l hl => ?_, hKi, hOn, ?_, ?_, hNo⟩
  · rw [he 0 (by omega) (by omega) (by omega) (by omega) (by omega) (by omega) (by omega)]; exact b1
  · rw [he 1 (by omega) (by omega) (by omega) (by omega) (by omega) (by omega) (by omega)]; exact c1
  · rw [he 2 (by omega) (by omega) (by omega) (by omega) (by omega) (by omega) (by omega)]; exact d1
  · rw [he 3 (by omega) (by omega) (by omega) (by omega) (by omega) (by omega) (by omega)]; exact e1
  · rw [he 9 (by omega) (by omega) (by omega) (by omega) (by omega) (by omega) (by omega)]; exact hNu.1
  · rw [he 10 (by omega) (by omega) (by omega) (by omega) (by omega) (by omega) (by omega)]; exact hNu.2.1
  · rw [he 11 (by omega) (by omega) (by omega) (by omega) (by omega) (by omega) (by omega)]; exact hNu.2.2
  · rw [he (14 + l) (by omega) (by omega) (by omega) (by omega) (by omega) (by omega) (by omega), he (46 + l) (by omega) (by omega) (by omega) (by omega) (by omega) (by omega) (by omega)]
    exact hMe l hl
  · rw [he (78 + l) (by omega) (by omega) (by omega) (by omega) (by omega) (by omega) (by omega)]
    exact hMa l hl
  · exact mCop_same a2 a4 hCo (fun k k1 k2 => he k (by omega) (by omega) (by omega) (by omega) (by omega) (by omega) (by omega)) (he 13 (by omega) (by omega) (by omega) (by omega) (by omega) (by omega) (by omega)) rfl rfl rfl rfl rfl
  · exact mPage_same (by omega) hPa (fun k k1 k2 => he k (by omega) (by omega) (by omega) (by omega) (by omega) (by omega) (by omega)) rfl rfl fun _ _ _ _ _ => rfl
def mFull (n S R P U D T : Nat) (σ τ : zSt) : Prop := mInv n S R P U D noE noX σ τ ∧ mMsg σ τ ∧ mReq n σ τ ∧ mLog σ τ ∧ mTime T σ τ
theorem z_rm_nI {a b : Nat} (hb : 0 < b) (ha : a < 2 ^ 31) (hb2 : b < 2 ^ 31) : z_rm (nI a) (nI b) = some (nI (a % b)) := by
  unfold z_rm
  rw [if_neg (nI_ne0 hb hb2), pk_rem ha hb hb2]
theorem qx_isPending {τ : zSt} {c : Nat} (hc : c < 6) : fX7_isPending (nI c) τ = some (if τ 7 c = -1 then nI 0 else nI 1) := by
  unfold fX7_isPending
  rw [p_ag hc (by omega), Option.bind_some]
  split <;> rfl
theorem or0 (a : Int32) : a ||| nI 0 = a := b_ext fun i _ => by rw [b_or, show nI 0 = 0 from nI_0, b_0, Bool.or_false]
theorem turn_eq {T n i : Nat} (hn : 0 < n) (hi : i < n) : (if n ≤ T % n + i then T % n + i - n else T % n + i) = (T + i) % n := by
  have h := Nat.mod_lt T hn
  have e : (T + i) % n = (T % n + i) % n := by rw [Nat.add_mod, Nat.mod_eq_of_lt hi]
  rw [e]
  generalize T % n = t at h
  split
  · rw [Nat.mod_eq_sub_mod (by omega), Nat.mod_eq_of_lt (by omega)]
  · rw [Nat.mod_eq_of_lt (by omega)]
theorem rl_tick_l {n S R T : Nat} {K9 K4 : Int32 → zSt → Option (Int32 × zSt)} : ∀ (r i m1 m2 sv P U D : Nat) (mask : Int32) (σ τ : zSt), i + r = n → r < m1 → r < m2 → U + r ≤ 10000000 → D + 2 * r ≤ 20000000 → mFull n S R P U D T σ τ →
    ∃ P' U' D' sv' σ' τ', fX9_tick_l6 K9 m1 mask (nI sv) (nI i) σ = K9 (nI sv') σ' ∧ fX4_tick_l28 K4 m2 (nI (T % n)) mask (nI sv) (nI i) τ = K4 (nI sv') τ' ∧ mFull n S R P' U' D' T σ' τ' ∧ U' ≤ U + r ∧ D' ≤ D + 2 * r ∧ ∀ i, i ≠ 0 → σ' i = σ i := by
  intro r
  induction r with
  | zero =>
    intro i m1 m2 sv P U D mask σ τ hi h1 h2 hU hD h
    obtain ⟨m1, rfl⟩ : ∃ k, m1 = k + 1 := ⟨m1 - 1, by omega⟩
    obtain ⟨m2, rfl⟩ : ∃ k, m2 = k + 1 := ⟨m2 - 1, by omega⟩
    obtain ⟨⟨a1, a2, -⟩, b1, -⟩ := h.1.1
    refine ⟨P, U, D, sv, σ, τ, ?_, ?_, h, by omega, by omega, fun _ _ => rfl⟩
    · rw [fX9_tick_l6, p_ag (by omega) (by omega), Option.bind_some, b1.1, if_pos (nI_le (by omega) (by omega))]
    · rw [fX4_tick_l28, b1.2, if_pos (nI_le (by omega) (by omega))]
  | succ r ih =>
    intro i m1 m2 sv P U D mask σ τ hi h1 h2 hU hD h
    obtain ⟨m1, rfl⟩ : ∃ k, m1 = k + 1 := ⟨m1 - 1, by omega⟩
    obtain ⟨m2, rfl⟩ : ∃ k, m2 = k + 1 := ⟨m2 - 1, by omega⟩
    obtain ⟨hI, hM, hR, hL, hT⟩ := id h
    obtain ⟨⟨a1, a2, a3, a4, a5, a6, a7⟩, b1, c1, -⟩ := id hI.1
    have hTl := hT.2.2
    have hc : (T + i) % n < n := Nat.mod_lt _ (by omega)
    have hTn : T % n < n := Nat.mod_lt _ (by omega)
    generalize hcd : (T + i) % n = c at hc
    -- the class's turn comes to the same cache
    have hclass : fX4_tick_l28 K4 (m2 + 1) (nI (T % n)) mask (nI sv) (nI i) τ = fX4_tick_j64 (fX4_tick_l28 K4 m2) (nI (T % n)) mask (nI sv) (nI i) (nI c) τ := by
      rw [fX4_tick_l28, b1.2, if_neg (nI_ge (by omega) (by omega)), nI_add]
      have ht := turn_eq (T := T) (n := n) (i := i) (by omega) (by omega)
      rw [hcd] at ht
      by_cases g : n ≤ T % n + i
      · rw [if_pos g] at ht
        rw [if_pos (nI_le g (by omega)), p_sub g, ht]
      · rw [if_neg g] at ht
        rw [if_neg (nI_ge (by omega) (by omega)), ht]
    rw [hclass, fX9_tick_l6, p_ag (by omega) (by omega), Option.bind_some, b1.1, if_neg (nI_ge (by omega) (by omega)), p_ag (by omega) (by omega), Option.bind_some, hT.1, Option.bind_some, nI_add, z_rm_nI (by omega) (by omega) (by omega), hcd, Option.bind_some, p_mul, nI_add, p_ag (by omega) (by omega), Option.bind_some]
    unfold fX4_tick_j64
    rw [qx_isPending (by omega), Option.bind_some]
    rcases hR c (by omega) with ⟨r1, r2⟩ | ⟨-, l, hl, r1, r2, r3, r4, r5⟩
    · rw [r2, if_pos p_neg, r1, if_pos rfl, if_pos nI_0, nI_add]
      obtain ⟨P', U', D', sv', σ', τ', g1, g2, g3, g4, g5, g6⟩ := ih (i + 1) m1 m2 sv P U D mask σ τ (by omega) (by omega) (by omega) (by omega) (by omega) h
      exact ⟨P', U', D', sv', σ', τ', g1, g2, g3, by omega, by omega, g6⟩
    · rw [r2, if_neg (nI_pos (by omega)), r1, if_neg (p_nneg (by omega)), if_neg (show ¬ nI 1 = 0 by decide), nI_add, p_ag (by omega) (by omega), Option.bind_some, r3, p_ag (by omega) (by omega), Option.bind_some, r1, qx_isWrite (wv := τ 8 c) (by omega) rfl, Option.bind_some]
      -- the reference's two ways are one
      have href : (if τ 8 c < 0 then fX9_tick_j79 (fX9_tick_l6 K9 m1) mask (nI sv) (nI i) (nI c) (nI (366 + 3 * c)) (nI l) (nI 0) (nI l) (nI c) σ else fX9_tick_j79 (fX9_tick_l6 K9 m1) mask (nI sv) (nI i) (nI c) (nI (366 + 3 * c)) (nI l) (nI 1) (nI l) (nI c) σ) = fX9_tick_j79 (fX9_tick_l6 K9 m1) mask (nI sv) (nI i) (nI c) (nI (366 + 3 * c)) (nI l) (wB (τ 8 c)) (nI l) (nI c) σ := by
        unfold wB
        by_cases hw : τ 8 c < 0
        · rw [if_pos hw, if_pos ((wv_neg r5).mp hw)]
        · rw [if_neg hw, if_neg (fun z => hw ((wv_neg r5).mpr z))]
      rw [href]
      unfold fX9_tick_j79
      -- behind a served request
      have served : ∀ (mask' : Int32) (σ1 τ1 : zSt) (P1 U1 D1 : Nat), mInv n S R P1 U1 D1 noE noX σ1 τ1 → mServed c l σ τ σ1 τ1 → U1 ≤ U + 1 → D1 ≤ D + 2 → ∃ P' U' D' sv' σ' τ', fX9_tick_l6 K9 m1 mask' (nI (sv + 1)) (nI (i + 1)) (w0 σ1 (366 + 3 * c) (-1)) = K9 (nI sv') σ' ∧ fX4_tick_l28 K4 m2 (nI (T % n)) mask' (nI (sv + 1)) (nI (i + 1)) τ1 = K4 (nI sv') τ' ∧ mFull n S R P' U' D' T σ' τ' ∧ U' ≤ U + (r + 1) ∧ D' ≤ D + 2 * (r + 1) ∧ ∀ i, i ≠ 0 → σ' i = σ i := by
        intro mask' σ1 τ1 P1 U1 D1 k1 ⟨k2, k3, k4, ⟨k5, k5', k6⟩, k7, k8, k9, k10, k11⟩ k12 k13
        have hf : mFull n S R P1 U1 D1 T (w0 σ1 (366 + 3 * c) (-1)) τ1 := by
          refine ⟨mInv_ref k1 fun k z1 _ _ _ _ _ _ => w0_n (by omega), ⟨?_, ?_, ?_, ?_⟩, fun e he => ?_, ?_, ?_, ?_, hTl⟩
          · rw [w0_n (by omega)]; exact k2.1
          · rw [w0_n (by omega)]; exact k2.2.1
          · rw [w0_n (by omega)]; exact k2.2.2.1
          · rw [w0_n (by omega)]; exact k2.2.2.2
          · rw [k7, k8, k9]
            by_cases ec : e = c
            · rw [ec]
              exact Or.inl ⟨p_upe _ _ _, w0_e _ _ _⟩
            · rw [p_upn ec, w0_n (by omega), w0_n (by omega), w0_n (by omega), k6 _ (by omega) (by omega), k6 _ (by omega) (by omega), k6 _ (by omega) (by omega)]
              exact hR e he
          · obtain ⟨C, u1, u2, u3, u4⟩ := k3
            exact ⟨C, u1, by rw [w0_n (by omega)]; exact u2, u3, fun k hk => by rw [w0_n (by omega)]; exact u4 k hk⟩
          · rw [w0_n (by omega), k5]; exact hT.1
          · rw [k11]; exact hT.2.1
        obtain ⟨P', U', D', sv', σ', τ', g1, g2, g3, g4, g5, g6⟩ := ih (i + 1) m1 m2 (sv + 1) P1 U1 D1 mask' _ τ1 (by omega) (by omega) (by omega) (by omega) (by omega) hf
        exact ⟨P', U', D', sv', σ', τ', g1, g2, g3, by omega, by omega, fun j hj => by rw [g6 j hj, w0_o hj, k4 j hj]⟩
      by_cases hh : hitB τ c l (wB (τ 8 c))
      · rw [(qr_isHit hI hc hl).1 hh, Option.bind_some, if_neg (show ¬ nI 1 = 0 by decide), (qx_isHit (by omega) hl).1 hh, Option.bind_some, if_neg (show ¬ nI 1 = 0 by decide)]
        obtain ⟨σ1, s1, s2, s3⟩ := rl_serve_hit (T := T) hI hL hc hl r5 (by omega) hh
        obtain ⟨τ1, t1, t2, t3⟩ := s3 hM hT rfl
        unfold fX9_tick_j98 fX9_tick_j112 fX4_tick_j153 fX4_tick_j165
        rw [if_neg (show ¬ nI 1 = 0 by decide), if_neg (show ¬ nI 1 = 0 by decide), nI_add, p_ag (by omega) (by omega), Option.bind_some, r3, s1, t1, Option.bind_some]
        show ∃ P' U' D' sv' σ' τ', ((z_sg σ1 0 456 (nI (366 + 3 * c)) (-1)).bind fun σ11 => fX9_tick_l6 K9 m1 (mask ||| nI 0) (nI sv + nI 1) (nI i + nI 1) σ11) = _ ∧ _
        rw [p_w0 (by omega), Option.bind_some, or0, nI_add, nI_add]
        exact served mask σ1 τ1 P (U + 1) D t2 t3 (by omega) (by omega)
      · rw [(qr_isHit hI hc hl).2 hh, Option.bind_some, if_pos nI_0, (qx_isHit (by omega) hl).2 hh, Option.bind_some, if_pos nI_0]
        cases hb : bt mask l with
        | true =>
          rw [if_neg (fun z => by have := (b_testu mask hl).mp z; rw [hb] at this; cases this), if_neg (fun z => by have := (b_test mask hl).mp z; rw [hb] at this; cases this), nI_add, p_ag (by omega) (by omega), Option.bind_some, r4, p_w0 (by omega), Option.bind_some, p_ag (by omega) (by omega), Option.bind_some, w0_n (by omega), p_w0 (by omega), Option.bind_some, p_ag (by omega) (by omega), Option.bind_some, p_wr (by omega) (by omega), Option.bind_some, p_ws, Option.bind_some, nI_add]
          generalize hσ1 : w0 (w0 σ (366 + 3 * c + 2) (τ 9 c + nI 1)) 8 (σ 0 8 + nI 1) = σ1
          generalize hτ1 : ws (wr τ 9 c (τ 9 c + nI 1)) 25 (wr τ 9 c (τ 9 c + nI 1) 25 0 + nI 1) = τ1
          have x1 : ∀ k, k ≠ 366 + 3 * c + 2 → k ≠ 8 → σ1 0 k = σ 0 k := fun k z1 z2 => by rw [← hσ1, w0_n z2, w0_n z1]
          have x2 : ∀ j, j ≠ 9 → j ≠ 25 → τ1 j = τ j := fun j z1 z2 => by rw [← hτ1, ws_o z2, wr_o z1]
          have hf : mFull n S R P U D T σ1 τ1 := by
            refine ⟨mInv_rows (mInv_ref hI fun k z1 z2 z3 z4 z5 z6 z7 => x1 k (by omega) z6) fun j _ _ z9 _ _ _ _ _ _ z25 => x2 j z9 z25, ⟨?_, ?_, ?_, ?_⟩, fun e he => ?_, ?_, ?_, ?_, hTl⟩
            · rw [x1 5 (by omega) (by omega), x2 22 (by omega) (by omega)]; exact hM.1
            · rw [x1 6 (by omega) (by omega), x2 23 (by omega) (by omega)]; exact hM.2.1
            · rw [x1 7 (by omega) (by omega), x2 24 (by omega) (by omega)]; exact hM.2.2.1
            · rw [← hσ1, ← hτ1, w0_e, ws_e, wr_o (by omega), hM.2.2.2]
            · by_cases ec : e = c
              · rw [ec]
                refine Or.inr ⟨hc, l, hl, ?_, ?_, ?_, ?_, ?_⟩
                · rw [x2 7 (by omega) (by omega)]; exact r1
                · rw [x1 _ (by omega) (by omega)]; exact r2
                · rw [x1 _ (by omega) (by omega), x2 8 (by omega) (by omega)]; exact r3
                · rw [← hσ1, ← hτ1, w0_n (by omega), w0_e, ws_o (by omega), wr_e]
                · rw [x2 8 (by omega) (by omega)]; exact r5
              · have z9 : τ1 9 e = τ 9 e := by rw [← hτ1, ws_o (by omega), wr_n ec]
                rw [x1 _ (by omega) (by omega), x1 _ (by omega) (by omega), x1 _ (by omega) (by omega), x2 7 (by omega) (by omega), x2 8 (by omega) (by omega), z9]
                exact hR e he
            · obtain ⟨C, u1, u2, u3, u4⟩ := hL
              exact ⟨C, u1, by rw [x1 12 (by omega) (by omega)]; exact u2, by rw [x2 18 (by omega) (by omega)]; exact u3, fun k hk => by rw [x1 _ (by omega) (by omega), x2 10 (by omega) (by omega)]; exact u4 k hk⟩
            · rw [x1 4 (by omega) (by omega)]; exact hT.1
            · rw [x2 21 (by omega) (by omega)]; exact hT.2.1
          obtain ⟨P', U', D', sv', σ', τ', g1, g2, g3, g4, g5, g6⟩ := ih (i + 1) m1 m2 sv P U D mask σ1 τ1 (by omega) (by omega) (by omega) (by omega) (by omega) hf
          exact ⟨P', U', D', sv', σ', τ', g1, g2, g3, by omega, by omega, fun j hj => by rw [g6 j hj, ← hσ1, w0_o hj, w0_o hj]⟩
        | false =>
          rw [if_pos ((b_testu mask hl).mpr hb), if_pos ((b_test mask hl).mpr hb)]
          obtain ⟨m, σ1, s1, s2, s3⟩ := rl_serve_miss (T := T) hI hL hc hl r5 (by omega) (by omega) hh
          obtain ⟨P1, D1, τ1, t1, t2, t2', t3⟩ := s3 hM hT rfl
          unfold fX9_tick_j98 fX9_tick_j112 fX4_tick_j153 fX4_tick_j165
          rw [if_pos nI_0, if_pos nI_0, nI_add, p_ag (by omega) (by omega), Option.bind_some, r3, s1, t1, Option.bind_some]
          show ∃ P' U' D' sv' σ' τ', ((z_sg σ1 0 456 (nI (366 + 3 * c)) (-1)).bind fun σ11 => fX9_tick_l6 K9 m1 (mask ||| ((nI 1) <<< (nI l &&& 31))) (nI sv + nI 1) (nI i + nI 1) σ11) = _ ∧ _
          rw [p_w0 (by omega), Option.bind_some, nI_add, nI_add]
          exact served (mask ||| ((nI 1) <<< (nI l &&& 31))) σ1 τ1 P1 (U + 1) D1 t2 t3 (by omega) (by omega)
theorem rl_tick {n S R P U D T : Nat} {σ τ : zSt} (h : mFull n S R P U D T σ τ) (hU : U + 6 ≤ 10000000) (hD : D + 12 ≤ 20000000) (hT : T + 1 ≤ 200000) : ∃ P' U' D' sv σ' τ', fX9_tick σ = some (nI sv, σ') ∧ fX4_tick τ = some (nI sv, τ') ∧ mFull n S R P' U' D' (T + 1) σ' τ' ∧ U' ≤ U + 6 ∧ D' ≤ D + 12 ∧ ∀ i, i ≠ 0 → σ' i = σ i := by
  obtain ⟨⟨a1, a2, -⟩, b1, -⟩ := h.1.1
  have hTT := h.2.2.2.2
  obtain ⟨P', U', D', sv, σ1, τ1, g1, g2, g3, g4, g5, g6⟩ := rl_tick_l (K9 := fun x16 σ17 => (z_ag (σ17 0) 456 (nI 4)).bind fun x18 => (z_sg σ17 0 456 (nI 4) (x18 + (nI 1))).bind fun σ19 => some (x16, σ19)) (K4 := fun x9 σ10 => (z_sf σ10 21 ((σ10 21 0) + (nI 1))).bind fun σ11 => some (x9, σ11)) n 0 z_fu z_fu 0 P U D (nI 0) σ τ (by omega) (Nat.lt_of_le_of_lt a2 (by decide)) (Nat.lt_of_le_of_lt a2 (by decide)) (by omega) (by omega) h
  obtain ⟨k1, k2, k3, k4, k5⟩ := g3
  refine ⟨P', U', D', sv, w0 σ1 4 (nI (T + 1)), ws τ1 21 (nI (T + 1)), ?_, ?_, ⟨mInv_rows (mInv_ref k1 fun k _ z4 _ _ _ _ _ => w0_n z4) fun j _ _ _ _ _ z21 _ _ _ _ => ws_o z21, ⟨?_, ?_, ?_, ?_⟩, fun e he => ?_, ?_, w0_e _ _ _, ws_e _ _ _ _, hT⟩, by omega, by omega, fun j hj => by rw [w0_o hj, g6 j hj]⟩
  · unfold fX9_tick
    rw [g1, p_ag (by omega) (by omega), Option.bind_some, k5.1, nI_add, p_w0 (by omega), Option.bind_some]
  · unfold fX4_tick fX4_tick_j20
    rw [b1.2, if_neg (nI_nle (by omega) (by omega)), hTT.2.1, z_rm_nI (by omega) (by have := hTT.2.2; omega) (by omega), Option.bind_some, g2, k5.2.1, nI_add, p_ws, Option.bind_some]
  · rw [w0_n (by omega), ws_o (by omega)]; exact k2.1
  · rw [w0_n (by omega), ws_o (by omega)]; exact k2.2.1
  · rw [w0_n (by omega), ws_o (by omega)]; exact k2.2.2.1
  · rw [w0_n (by omega), ws_o (by omega)]; exact k2.2.2.2
  · rw [w0_n (by omega), w0_n (by omega), w0_n (by omega), ws_o (by omega), ws_o (by omega), ws_o (by omega)]
    exact k3 e he
  · obtain ⟨C, u1, u2, u3, u4⟩ := k4
    exact ⟨C, u1, by rw [w0_n (by omega)]; exact u2, by rw [ws_o (by omega)]; exact u3, fun k hk => by rw [w0_n (by omega), ws_o (by omega)]; exact u4 k hk⟩
