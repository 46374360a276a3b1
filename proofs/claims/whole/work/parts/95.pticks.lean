/-! ticks that pass -/
theorem add_n0 (x : Int32) : x + nI 0 = x := by rw [nI_0, Int32.add_zero]
theorem qr_idle_l {K : Int32 → zSt → Option (Int32 × zSt)} {n T : Nat} {σ : zSt} (hn : 2 ≤ n ∧ n ≤ 6) (h0 : σ 0 0 = nI n) (h4 : σ 0 4 = nI T) (hT : T ≤ 200000) (hq : ∀ c, c < 6 → σ 0 (366 + 3 * c) = -1) : ∀ (r i m : Nat) (x y : Int32), i + r = n → r < m → fX9_tick_l6 K m x y (nI i) σ = K y σ := by
  intro r
  induction r with
  | zero =>
    intro i m x y hi hm
    obtain ⟨m, rfl⟩ : ∃ k, m = k + 1 := ⟨m - 1, by omega⟩
    rw [fX9_tick_l6, p_ag (by omega) (by omega), Option.bind_some, h0, if_pos (nI_le (by omega) (by omega))]
  | succ r ih =>
    intro i m x y hi hm
    obtain ⟨m, rfl⟩ : ∃ k, m = k + 1 := ⟨m - 1, by omega⟩
    have hc : (T + i) % n < n := Nat.mod_lt _ (by omega)
    rw [fX9_tick_l6, p_ag (by omega) (by omega), Option.bind_some, h0, if_neg (nI_ge (by omega) (by omega)), p_ag (by omega) (by omega), Option.bind_some, h4, Option.bind_some, nI_add, z_rm_nI (by omega) (by omega) (by omega), Option.bind_some]
    generalize (T + i) % n = c at hc
    rw [p_mul, nI_add, p_ag (by omega) (by omega), Option.bind_some, hq c (by omega), if_pos p_neg, nI_add]
    exact ih (i + 1) m x y (by omega) (by omega)
def noPend (τ : zSt) : Prop := ∀ c, c < 6 → τ 7 c = -1
theorem rl_idle {n S R P U D T : Nat} {σ τ : zSt} (h : mFull n S R P U D T σ τ) (hT : T + 1 ≤ 200000) (hp : noPend τ) : fX9_tick σ = some (nI 0, w0 σ 4 (nI (T + 1))) ∧ mFull n S R P U D (T + 1) (w0 σ 4 (nI (T + 1))) (ws τ 21 (nI (T + 1))) := by
  obtain ⟨hI, hM, hR, ⟨C, u1, u2, u3, u4⟩, hTT⟩ := h
  obtain ⟨⟨a1, a2, -⟩, b1, -⟩ := id hI.1
  have hq : ∀ c, c < 6 → σ 0 (366 + 3 * c) = -1 := fun c hc => by
    rcases hR c hc with ⟨-, r2⟩ | ⟨-, l, hl, r1, -⟩
    · exact r2
    · rw [hp c hc] at r1
      exact absurd r1.symm (p_nneg (by omega))
  refine ⟨?_, mInv_rows (mInv_ref hI fun k _ z4 _ _ _ _ _ => w0_n z4) fun j _ _ _ _ _ z21 _ _ _ _ => ws_o z21, ⟨?_, ?_, ?_, ?_⟩, fun e he => ?_, ⟨C, u1, ?_, ?_, fun k hk => ?_⟩, w0_e _ _ _, ws_e _ _ _ _, hT⟩
  · unfold fX9_tick
    rw [qr_idle_l ⟨a1, a2⟩ b1.1 hTT.1 hTT.2.2 hq n 0 z_fu _ _ (by omega) (Nat.lt_of_le_of_lt a2 (by decide)), p_ag (by omega) (by omega), Option.bind_some, hTT.1, nI_add, p_w0 (by omega), Option.bind_some]
  · rw [w0_n (by omega), ws_o (by omega)]; exact hM.1
  · rw [w0_n (by omega), ws_o (by omega)]; exact hM.2.1
  · rw [w0_n (by omega), ws_o (by omega)]; exact hM.2.2.1
  · rw [w0_n (by omega), ws_o (by omega)]; exact hM.2.2.2
  · rw [w0_n (by omega), w0_n (by omega), w0_n (by omega), ws_o (by omega), ws_o (by omega), ws_o (by omega)]
    exact hR e he
  · rw [w0_n (by omega)]; exact u2
  · rw [ws_o (by omega)]; exact u3
  · rw [w0_n (by omega), ws_o (by omega)]; exact u4 k hk
theorem ws_ws (τ : zSt) (i : Nat) (x y : Int32) : ws (ws τ i x) i y = ws τ i y := by
  funext k
  by_cases h : k = i
  · rw [h]; funext j; rw [ws_e, ws_e]
  · rw [ws_o h, ws_o h, ws_o h]
theorem mFull_time {n S R P U D T : Nat} {σ τ : zSt} (h : mFull n S R P U D T σ τ) : mFull n S R P U D T σ (ws τ 21 (nI T)) := by
  refine mFull_g h (fun _ _ => rfl) fun i hi k hk => ?_
  by_cases e : i = 21
  · rw [e] at hk ⊢
    rw [gR_1 21 (by omega) (by omega)] at hk
    obtain rfl : k = 0 := by omega
    rw [ws_e, h.2.2.2.2.2.1]
  · rw [ws_o e]
theorem rl_idles {n S R P U D k : Nat} {y : Int32} : ∀ (r i m T : Nat) (σ τ : zSt), i + r = k → k ≤ 1000 → r < m → mFull n S R P U D T σ τ → T + r ≤ 200000 → noPend τ → ∃ σ', fX9_ticks_l4 (fun x3 σ4 => some (x3, σ4)) m (nI k) y (nI i) σ = some (y, σ') ∧ mFull n S R P U D (T + r) σ' (ws τ 21 (nI (T + r))) ∧ ∀ i, i ≠ 0 → σ' i = σ i := by
  intro r
  induction r with
  | zero =>
    intro i m T σ τ hi hk hm h hT hp
    obtain ⟨m, rfl⟩ : ∃ k, m = k + 1 := ⟨m - 1, by omega⟩
    rw [fX9_ticks_l4, if_pos (nI_le (by omega) (by omega))]
    exact ⟨σ, rfl, mFull_time h, fun _ _ => rfl⟩
  | succ r ih =>
    intro i m T σ τ hi hk hm h hT hp
    obtain ⟨m, rfl⟩ : ∃ k, m = k + 1 := ⟨m - 1, by omega⟩
    obtain ⟨h1, h2⟩ := rl_idle h (by omega) hp
    rw [fX9_ticks_l4, if_neg (nI_ge (by omega) (by omega)), h1]
    show ∃ σ', fX9_ticks_l4 (fun x3 σ4 => some (x3, σ4)) m (nI k) (y + nI 0) (nI i + nI 1) (w0 σ 4 (nI (T + 1))) = some (y, σ') ∧ _
    rw [add_n0, nI_add]
    obtain ⟨σ', g1, g2, g3⟩ := ih (i + 1) m (T + 1) _ _ (by omega) hk (by omega) h2 (by omega) (fun c hc => by rw [ws_o (by omega)]; exact hp c hc)
    rw [ws_ws, show T + 1 + r = T + (r + 1) by omega] at g2
    exact ⟨σ', g1, g2, fun i hi => by rw [g3 i hi, w0_o hi]⟩
theorem rl_pass_l {n S R k : Nat} : ∀ (r i m1 m2 P U D T : Nat) (y : Int32) (σ τ : zSt), i + r = k → k ≤ 1000 → r < m1 → r < m2 → mFull n S R P U D T σ τ → T + r ≤ 100000 → U ≤ 6 * T → D ≤ 12 * T →
    ∃ P' U' D' y' σ' τ', fX9_ticks_l4 (fun x3 σ4 => some (x3, σ4)) m1 (nI k) y (nI i) σ = some (y', σ') ∧ fX4_letPass_l12 (fun x4 x5 σ6 => (z_sf σ6 21 x4).bind fun σ7 => some (x5, σ7)) m2 (nI k) (nI (T + r)) y (nI i) τ = some (y', τ') ∧ mFull n S R P' U' D' (T + r) σ' τ' ∧ U' ≤ 6 * (T + r) ∧ D' ≤ 12 * (T + r) ∧ ∀ i, i ≠ 0 → σ' i = σ i := by
  intro r
  induction r with
  | zero =>
    intro i m1 m2 P U D T y σ τ hi hk h1 h2 h hT hU hD
    obtain ⟨m1, rfl⟩ : ∃ k, m1 = k + 1 := ⟨m1 - 1, by omega⟩
    obtain ⟨m2, rfl⟩ : ∃ k, m2 = k + 1 := ⟨m2 - 1, by omega⟩
    rw [fX9_ticks_l4, if_pos (nI_le (by omega) (by omega)), fX4_letPass_l12, if_pos (nI_le (by omega) (by omega))]
    exact ⟨P, U, D, y, σ, ws τ 21 (nI T), rfl, rfl, mFull_time h, hU, hD, fun _ _ => rfl⟩
  | succ r ih =>
    intro i m1 m2 P U D T y σ τ hi hk h1 h2 h hT hU hD
    obtain ⟨m1, rfl⟩ : ∃ k, m1 = k + 1 := ⟨m1 - 1, by omega⟩
    obtain ⟨m2, rfl⟩ : ∃ k, m2 = k + 1 := ⟨m2 - 1, by omega⟩
    have hle : pS (fun c => if τ 7 c = -1 then 0 else 1) 6 0 ≤ 6 * 1 := pS_le fun j => by split <;> omega
    rw [fX4_letPass_l12, if_neg (nI_ge (by omega) (by omega)), qx_count, Option.bind_some]
    by_cases hc : pS (fun c => if τ 7 c = -1 then 0 else 1) 6 0 = 0
    · have hp : noPend τ := fun c hc6 => by
        have := pS_eq0.mp hc c (by omega) (by omega)
        by_cases e : τ 7 c = -1
        · exact e
        · rw [if_neg e] at this; omega
      obtain ⟨σ', g1, g2, g3⟩ := rl_idles (y := y) (r + 1) i (m1 + 1) T σ τ hi hk h1 h (by omega) hp
      rw [if_pos ((nI_le0 (by omega)).mpr hc)]
      exact ⟨P, U, D, y, σ', _, g1, rfl, g2, by omega, by omega, g3⟩
    · obtain ⟨P1, U1, D1, s, σ1, τ1, t1, t2, t3, t4, t5, t6⟩ := rl_tick h (by omega) (by omega) (by omega)
      rw [if_neg (mt (nI_le0 (by omega)).mp hc), t2, fX9_ticks_l4, if_neg (nI_ge (by omega) (by omega)), t1]
      obtain ⟨P', U', D', y', σ', τ', g1, g2, g3, g4, g5, g6⟩ := ih (i + 1) m1 m2 P1 U1 D1 (T + 1) (y + nI s) σ1 τ1 (by omega) hk (by omega) (by omega) t3 (by omega) (by omega) (by omega)
      rw [show T + 1 + r = T + (r + 1) by omega] at g2 g3 g4 g5
      refine ⟨P', U', D', y', σ', τ', ?_, ?_, g3, g4, g5, fun i hi => by rw [g6 i hi, t6 i hi]⟩
      · show fX9_ticks_l4 (fun x3 σ4 => some (x3, σ4)) m1 (nI k) (y + nI s) (nI i + nI 1) σ1 = _
        rw [nI_add]
        exact g1
      · show fX4_letPass_l12 (fun x4 x5 σ6 => (z_sf σ6 21 x4).bind fun σ7 => some (x5, σ7)) m2 (nI k) (nI (T + (r + 1))) (y + nI s) (nI i + nI 1) τ1 = _
        rw [nI_add]
        exact g2
theorem rl_letPass {n S R P U D T k : Nat} {σ τ : zSt} (h : mFull n S R P U D T σ τ) (hk : k ≤ 1000) (hT : T + k ≤ 100000) (hU : U ≤ 6 * T) (hD : D ≤ 12 * T) :
    ∃ P' U' D' y σ' τ', fX9_ticks (nI k) σ = some (y, σ') ∧ fX4_letPass (nI k) τ = some (y, τ') ∧ mFull n S R P' U' D' (T + k) σ' τ' ∧ U' ≤ 6 * (T + k) ∧ D' ≤ 12 * (T + k) ∧ ∀ i, i ≠ 0 → σ' i = σ i := by
  have hf : k < z_fu := Nat.lt_of_le_of_lt hk (by decide)
  obtain ⟨P', U', D', y', σ', τ', g1, g2, g3, g4, g5, g6⟩ := rl_pass_l k 0 z_fu z_fu P U D T (nI 0) σ τ (by omega) hk hf hf h hT hU hD
  refine ⟨P', U', D', y', σ', τ', g1, ?_, g3, g4, g5, g6⟩
  unfold fX4_letPass
  rw [h.2.2.2.2.2.1, nI_add]
  exact g2
theorem qx_time {T k : Nat} {τ : zSt} (h : τ 21 0 = nI T) (hT : T ≤ 100000) (hk : k ≤ 1000) : fX4_hasTimeFor (nI k) τ = some (if T + k ≤ 100000 then nI 1 else nI 0) := by
  unfold fX4_hasTimeFor
  rw [h, p_sub hT]
  by_cases e : T + k ≤ 100000
  · rw [if_pos e, if_neg (nI_nlt (by omega) (by omega))]; rfl
  · rw [if_neg e, if_pos (nI_lt (by omega) (by omega))]; rfl
theorem rl_passop : lo_pass wRel := by
  intro σ χ h a0
  have h1 := wRel_7 (x := nI 0) h
  obtain ⟨n, S, R, P, U, D, T, f, hU, hD, hT⟩ := wRel_full h
  unfold fX8_pass fX9_pass
  rw [p_ws, Option.bind_some]
  rcases gd_in (lo := 1) (hi := 100) (by omega) (by omega) a0 (ws σ 7 (nI 0)) with ⟨g1, e1⟩ | ⟨g1, k, k1, k2, rfl, e1⟩
  · exact op_fail h (if_pos g1) (by rw [e1, Option.bind_some, if_pos nI_0]; rfl) rfl (by decide)
  rw [if_neg g1, e1, Option.bind_some, if_neg (show ¬ nI 1 = 0 by decide), qx_time f.2.2.2.2.2.1 hT (by omega), Option.bind_some, p_ag (by omega) (by omega), Option.bind_some, f.2.2.2.2.1, nI_add]
  by_cases c : T + k ≤ 100000
  · obtain ⟨σ', χ', s1, s2, s3, s4, s5, s6, s7, s8⟩ := rl_save2 h1 f
    obtain ⟨P', U', D', y, σ1, τ1, t1, t2, t3, t4, t5, t6⟩ := rl_letPass s4 (k := k) (by omega) c hU hD
    rw [if_pos c, if_neg (show ¬ nI 1 = 0 by decide), if_pos (nI_le (by omega) (by omega))]
    refine op_ok (r := y) (χ' := c_up χ' 0 τ1) (σ' := σ1) ?_ ?_ ?_ (wRel_0 s3 ⟨n, S, R, P', U', D', T + k, t3, t4, t5, c⟩ t6)
    · rw [s2, Option.bind_some]
      rw [t2, cb2]
    · rw [s1, Option.bind_some, t1]
      rfl
    · rw [t6 7 (by omega), s5 7 (by omega) (by omega), ws_e]
  · rw [if_neg c, if_pos nI_0, if_neg (nI_ge (by omega) (by omega))]
    exact op_fail h rfl rfl rfl (by decide)
theorem rl_wait {n : Nat} {σ τ : zSt} (hn : n ≤ 6) (hR : mReq n σ τ) : pS (fun c => if σ 0 (366 + 3 * c) < 0 then 0 else 1) n 0 = pS (fun c => if τ 7 c = -1 then 0 else 1) 6 0 := by
  rw [show (6 : Nat) = n + (6 - n) by omega, pS_split (r1 := n), pS_zero (r := 6 - n) (fun c c1 c2 => by
    rcases hR c (by omega) with ⟨r1, -⟩ | ⟨r0, -⟩
    · exact if_pos r1
    · omega), Nat.add_zero]
  refine pS_congr fun c _ hc => ?_
  rcases hR c (by omega) with ⟨r1, r2⟩ | ⟨-, l, hl, r1, r2, -⟩
  · rw [r1, r2, if_pos p_neg, if_pos rfl]
  · rw [r1, r2, if_neg (nI_pos (by omega)), if_neg (p_nneg (by omega))]
theorem rl_tts_l {n S R : Nat} {K : Int32 → zSt → Option (Int32 × zSt)} : ∀ (r i m1 m2 P U D T : Nat) (σ : zSt) (χ : cSt), i + r = 6 → r < m1 → r < m2 → mFull n S R P U D T σ (χ 1) → U + 6 * r ≤ 10000000 → D + 12 * r ≤ 20000000 → T + r ≤ 200000 →
    ∃ y σ' χ', fX9_ticksToServe_l11 K m1 (nI i) σ = K y σ' ∧ fX8_ticksToServe_l15 (fun x5 σ6 => some (x5, σ6)) m2 (nI i) (nI i) χ = some (y, χ') ∧ (∀ i, i ≠ 0 → σ' i = σ i) ∧ ∀ i, i ≠ 1 → χ' i = χ i := by
  intro r
  induction r with
  | zero =>
    intro i m1 m2 P U D T σ χ hi h1 h2 h hU hD hT
    obtain ⟨m1, rfl⟩ : ∃ k, m1 = k + 1 := ⟨m1 - 1, by omega⟩
    obtain ⟨m2, rfl⟩ : ∃ k, m2 = k + 1 := ⟨m2 - 1, by omega⟩
    obtain rfl : i = 6 := by omega
    obtain ⟨⟨a1, a2, -⟩, b1, -⟩ := id h.1.1
    refine ⟨nI 6, σ, χ, ?_, ?_, fun _ _ => rfl, fun _ _ => rfl⟩
    · rw [fX9_ticksToServe_l11, qr_waiting a2 b1.1, Option.bind_some, if_pos (nI_le (Nat.le_refl 6) (by omega))]
      split <;> rfl
    · rw [fX8_ticksToServe_l15, if_pos (nI_le (Nat.le_refl 6) (by omega))]
  | succ r ih =>
    intro i m1 m2 P U D T σ χ hi h1 h2 h hU hD hT
    obtain ⟨m1, rfl⟩ : ∃ k, m1 = k + 1 := ⟨m1 - 1, by omega⟩
    obtain ⟨m2, rfl⟩ : ∃ k, m2 = k + 1 := ⟨m2 - 1, by omega⟩
    obtain ⟨⟨a1, a2, -⟩, b1, -⟩ := id h.1.1
    have hle : pS (fun c => if χ 1 7 c = -1 then 0 else 1) 6 0 ≤ 6 * 1 := pS_le fun j => by split <;> omega
    rw [fX9_ticksToServe_l11, qr_waiting a2 b1.1, Option.bind_some, rl_wait a2 h.2.2.1, fX8_ticksToServe_l15, if_neg (nI_ge (show i < 6 by omega) (by omega)), qx_count, Option.bind_some]
    by_cases hc : pS (fun c => if χ 1 7 c = -1 then 0 else 1) 6 0 = 0
    · rw [if_pos ((nI_le0 (by omega)).mpr hc), if_pos ((nI_le0 (by omega)).mpr hc), if_neg (nI_ge (show i < 6 by omega) (by omega))]
      exact ⟨_, σ, χ, rfl, rfl, fun _ _ => rfl, fun _ _ => rfl⟩
    · obtain ⟨P1, U1, D1, s, σ1, τ1, t1, t2, t3, t4, t5, t6⟩ := rl_tick h (by omega) (by omega) (by omega)
      obtain ⟨y, σ', χ', g1, g2, g3, g4⟩ := ih (i + 1) m1 m2 P1 U1 D1 (T + 1) σ1 (c_up χ 1 τ1) (by omega) (by omega) (by omega) (by rw [c_ue]; exact t3) (by omega) (by omega) (by omega)
      rw [if_neg (mt (nI_le0 (by omega)).mp hc), if_neg (mt (nI_le0 (by omega)).mp hc), if_neg (nI_ge (show i < 6 by omega) (by omega)), t1]
      refine ⟨y, σ', χ', ?_, ?_, fun i hi => by rw [g3 i hi, t6 i hi], fun i hi => by rw [g4 i hi, c_un hi]⟩
      · show fX9_ticksToServe_l11 K m1 (nI i + nI 1) σ1 = _
        rw [nI_add]
        exact g1
      · rw [t2, cb2, nI_add]
        exact g2
theorem rl_tts : lo_ticksToServe wRel := by
  intro σ χ h
  obtain ⟨n, S, R, P, U, D, T, f, hU, hD, hT⟩ := wRel_full h
  obtain ⟨τ1, t1, t2⟩ := qx_takeOver (χ 0) (χ 1)
  obtain ⟨σ2, s1, s2, s3⟩ := qr_keep (ws σ 7 (nI 0))
  have f2 : mFull n S R P U D T σ2 (c_up χ 1 τ1 1) := by
    rw [c_ue]
    exact mFull_g f (fun k _ => by rw [s2 0 (by omega)]) t2
  obtain ⟨y, σ', χ', g1, g2, g3, g4⟩ := rl_tts_l (K := fun x6 σ7 => (fX9_bringBack σ7).bind fun σ8 => some (x6, σ8)) 6 0 z_fu z_fu P U D T σ2 (c_up χ 1 τ1) rfl (by decide) (by decide) f2 (by omega) (by omega) (by omega)
  obtain ⟨σ'', u1, u2, u3⟩ := qr_bringBack σ'
  refine ⟨y, χ', σ'', ?_, ?_, ?_⟩
  · unfold fX8_ticksToServe
    rw [t1, cb1]
    exact g2
  · unfold fX9_ticksToServe
    rw [p_ws, Option.bind_some, s1, Option.bind_some, g1, u1, Option.bind_some]
  · refine wRel_mach h ?_ (fun i i0 i1 _ i7 _ => by rw [u2 i i0, g3 i i0, s2 i i1, ws_o i7]) (fun i _ i1 _ => by rw [g4 i i1, c_un i1]) (by rw [g4 6 (by omega), c_un (by omega)])
    rw [g4 0 (by omega), c_un (by omega)]
    exact mGood_g h.1 (fun k hk => by rw [u3 k hk, g3 1 (by omega), s3 k hk, ws_o (by omega)]) gEq_rfl
