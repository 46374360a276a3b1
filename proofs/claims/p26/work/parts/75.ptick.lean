/-! a served request, a tick, ticks that pass -/
theorem i_cost {n S R P U D c l : Nat} {w : Int32} {X : Nat → Nat → Prop} {τ : zSt} (h : pInv n S R P U D X τ) (hc : c < 6) (hl : l < 32) : ∃ m, fX4_costOf (nI c) (nI l) w τ = some m := by
  have j87 : ∀ y, ∃ m, fX4_costOf_j87 τ (nI c) (nI l) y = some m := fun y => by
    unfold fX4_costOf_j87
    rw [qx_kindOf hc hl, Option.bind_some]
    by_cases k0 : τ 2 (c * 32 + l) = 0
    · rw [if_pos k0]
      obtain ⟨o, o1, -, o3⟩ := i_ltd h hc
      rw [o1, Option.bind_some]
      cases o with
      | none => rw [oI_none, if_pos rfl]; exact ⟨_, rfl⟩
      | some d =>
        obtain ⟨d1, -⟩ := o3 d rfl
        rw [oI_some, if_neg (p_nneg (by omega)), qx_kindOf hc d1, Option.bind_some]
        split
        · exact ⟨_, rfl⟩
        · exact ⟨_, rfl⟩
    · rw [if_neg k0]; exact ⟨_, rfl⟩
  have j61 : ∀ y, ∃ m, fX4_costOf_j61 τ (nI c) (nI l) w y = some m := fun y => by
    unfold fX4_costOf_j61
    by_cases hw : w = 0
    · rw [if_pos hw]; exact j87 _
    · rw [if_neg hw, qx_sharersOf hl, Option.bind_some]
      have hb : ∀ x, ∃ z, fJ6_bitCount_0f7a4 x τ = some z := fun x => ⟨_, rfl⟩
      obtain ⟨z, hz⟩ := hb (shF (fun c => τ 2 (c * 32 + l)) 6 &&& (((nI 1) <<< (nI c &&& 31)) ^^^ (-1)))
      rw [hz, Option.bind_some]
      exact j87 _
  have j44 : ∀ y, ∃ m, fX4_costOf_j44 τ (nI c) (nI l) w y = some m := fun y => by
    unfold fX4_costOf_j44
    rw [qx_ownerOf hl, Option.bind_some]
    split
    · exact j61 _
    · exact j61 _
  have j43 : ∃ m, fX4_costOf_j43 τ (nI c) (nI l) w = some m := j44 _
  unfold fX4_costOf
  by_cases hh : hitB τ c l w
  · rw [(qx_isHit hc hl).1 hh, Option.bind_some, if_neg (by decide)]
    exact ⟨_, rfl⟩
  · rw [(qx_isHit hc hl).2 hh, Option.bind_some, if_pos nI_0, qx_hasPage hl, Option.bind_some]
    by_cases h6 : τ 6 l ≤ 0
    · rw [if_pos h6, if_pos nI_0, qx_isMarked hl, Option.bind_some]
      cases hb : bt (τ 13 0) l with
      | false =>
        simp only [ifF]
        rw [if_pos nI_0]
        exact j43
      | true =>
        simp only [ifT]
        rw [if_neg (by decide)]
        exact j44 _
    · rw [if_neg h6, if_neg (by decide)]
      exact j43
theorem wB_01 (wv : Int32) : wB wv = nI 0 ∨ wB wv = nI 1 := by
  unfold wB
  split
  · exact Or.inl rfl
  · exact Or.inr rfl
def iLogN (V : Nat) : Nat := if V < 12 then V else 12
theorem iLogN_le (V : Nat) : iLogN V ≤ 12 := by
  unfold iLogN
  split <;> omega
theorem iLogN_succ (V : Nat) : (if iLogN V < 12 then iLogN V + 1 else iLogN V) = iLogN (V + 1) := by
  unfold iLogN
  by_cases h : V < 12
  · rw [if_pos h, if_pos h]
    split <;> omega
  · rw [if_neg h, if_neg (by omega), if_neg (by omega)]
theorem i_serve {n S R P U D c l V : Nat} {x : Int32} {τ : zSt} (h : pInv n S R P U D noX τ) (hc : c < n) (hl : l < 9) (hU : U + 1 ≤ 100000) (hD : D + 2 ≤ 100000) (h18 : τ 18 0 = nI (iLogN V)) (hx : (x = nI 1 ∧ hitB τ c l (wB (τ 8 c))) ∨ x = nI 0) :
    ∃ P' D' τ', fX4_serve (nI c) (nI l) x τ = some τ' ∧ pInv n S R P' (U + 1) D' noX τ' ∧ D' ≤ D + 2 ∧ τ' 7 = upd (τ 7) c (-1) ∧ τ' 21 = τ 21 ∧ τ' 18 0 = nI (iLogN (V + 1)) ∧ τ' 23 0 + τ' 24 0 = τ 23 0 + τ 24 0 + nI 1 := by
  obtain ⟨⟨⟨a1, a2, -⟩, -⟩, -⟩ := id h
  have hc6 : c < 6 := by omega
  have hl' : l < 32 := by omega
  obtain ⟨m, hm⟩ := i_cost (w := wB (τ 8 c)) h hc6 hl'
  unfold fX4_serve
  rw [qx_isWrite (wv := τ 8 c) hc6 rfl, Option.bind_some, hm, Option.bind_some, p_ws, Option.bind_some]
  -- behind the counting
  have tail : ∀ (P1 D1 : Nat) (ρ : zSt), pInv n S R P1 U D1 (atX c l) ρ → ρ 2 (c * 32 + l) ≠ 0 → (wB (τ 8 c) ≠ 0 → ∀ d, d < 6 → d ≠ c → ρ 2 (d * 32 + l) = 0) → ρ 7 = τ 7 → ρ 8 = τ 8 → ρ 18 = τ 18 → ρ 21 = τ 21 →
      ∃ τ', fX4_serve_j66 (nI c) (nI l) (wB (τ 8 c)) m ρ = some τ' ∧ pInv n S R P1 (U + 1) D1 noX τ' ∧ τ' 7 = upd (τ 7) c (-1) ∧ τ' 21 = τ 21 ∧ τ' 18 0 = nI (iLogN (V + 1)) ∧ τ' 23 = ρ 23 ∧ τ' 24 = ρ 24 := by
    intro P1 D1 ρ hp hk hw e7 e8 e18 e21
    have h11 : ρ 11 0 = nI U := hp.2.2.2.2.2.2.2.2.1
    obtain ⟨τ', t1, t2, t3, tv, t5, t11, t7, t18, -, -, to⟩ := qx_j66 (τ := ρ) (c := c) (l := l) (U := U) (C := iLogN V) (m := m) (w := wB (τ 8 c)) (wv := τ 8 c) hc6 hl' (wB_01 _) (fun _ => by rw [e8]) h11 (by rw [e18]; exact h18) (iLogN_le V)
    refine ⟨τ', t1, i_fin hp hc6 hl' hk hw hU t2 t3 tv t5 t11 to, by rw [t7, e7], ?_, ?_, ?_, ?_⟩
    · rw [to 21 (by omega) (by omega) (by omega) (by omega) (by omega) (by omega) (by omega) (by omega), e21]
    · rw [t18, iLogN_succ]
    · exact to 23 (by omega) (by omega) (by omega) (by omega) (by omega) (by omega) (by omega) (by omega)
    · exact to 24 (by omega) (by omega) (by omega) (by omega) (by omega) (by omega) (by omega) (by omega)
  rcases hx with ⟨hx, hh⟩ | hx
  · rw [hx, if_neg (by decide), p_ws, Option.bind_some]
    generalize hρ : ws (ws τ 22 (τ 22 0 + m)) 23 (ws τ 22 (τ 22 0 + m) 23 0 + nI 1) = ρ
    have ro : ∀ i, i ≠ 22 → i ≠ 23 → ρ i = τ i := fun i i1 i2 => by rw [← hρ, ws_o i2, ws_o i1]
    have r23 : ρ 23 0 = τ 23 0 + nI 1 := by rw [← hρ, ws_e, ws_o (by omega)]
    have hp : pInv n S R P U D noX ρ := pInv_rows h fun i _ _ _ _ _ _ _ _ i22 i23 _ _ _ => ro i i22 i23
    have hk : τ 2 (c * 32 + l) ≠ 0 := by
      unfold hitB at hh
      split at hh
      · exact hh
      · rw [hh]; decide
    obtain ⟨τ', t1, t2, t3, t4, t5, t6, t7⟩ := tail P D ρ (pInv_X hp (fun _ _ z => z.elim)) (by rw [ro 2 (by omega) (by omega)]; exact hk) (fun hw d hd hdc => by
      rw [ro 2 (by omega) (by omega)]
      unfold hitB at hh
      rw [if_neg hw] at hh
      exact Classical.byContradiction fun z => hdc (h.2.2.1 c d l hc6 hd hl' hh z).symm) (ro 7 (by omega) (by omega)) (ro 8 (by omega) (by omega)) (ro 18 (by omega) (by omega)) (ro 21 (by omega) (by omega))
    refine ⟨P, D, τ', t1, t2, by omega, t3, t4, t5, ?_⟩
    rw [t6, t7, r23, ro 24 (by omega) (by omega), Int32.add_assoc, Int32.add_comm (nI 1), ← Int32.add_assoc]
  · rw [hx, if_pos nI_0, p_ws, Option.bind_some]
    generalize hρ : ws (ws τ 22 (τ 22 0 + m)) 24 (ws τ 22 (τ 22 0 + m) 24 0 + nI 1) = ρ
    have ro : ∀ i, i ≠ 22 → i ≠ 24 → ρ i = τ i := fun i i1 i2 => by rw [← hρ, ws_o i2, ws_o i1]
    have r24 : ρ 24 0 = τ 24 0 + nI 1 := by rw [← hρ, ws_e, ws_o (by omega)]
    have hp : pInv n S R P U D noX ρ := pInv_rows h fun i _ _ _ _ _ _ _ _ i22 _ i24 _ _ => ro i i22 i24
    obtain ⟨P1, D1, τ1, f1, f2, f3, f4, f5, f6⟩ := i_fetch (w := wB (τ 8 c)) hp hc hl hD
    have fo : ∀ i, i = 7 ∨ i = 8 ∨ i = 18 ∨ i = 21 ∨ i = 23 ∨ i = 24 → τ1 i = ρ i := fun i hi => f6 i (by omega) (by omega) (by omega) (by omega) (by omega) (by omega) (by omega) (by omega) (by omega) (by omega) (by omega)
    rw [f1, Option.bind_some]
    obtain ⟨τ', t1, t2, t3, t4, t5, t6, t7⟩ := tail P1 D1 τ1 f2 f4 f5 (by rw [fo 7 (by omega), ro 7 (by omega) (by omega)]) (by rw [fo 8 (by omega), ro 8 (by omega) (by omega)]) (by rw [fo 18 (by omega), ro 18 (by omega) (by omega)]) (by rw [fo 21 (by omega), ro 21 (by omega) (by omega)])
    refine ⟨P1, D1, τ', t1, t2, f3, t3, t4, t5, ?_⟩
    rw [t6, t7, fo 23 (by omega), fo 24 (by omega), r24, ro 23 (by omega) (by omega), Int32.add_assoc]
def iReq (n : Nat) (τ : zSt) : Prop := ∀ c, c < 6 → τ 7 c = -1 ∨ (c < n ∧ ∃ l, l < 9 ∧ τ 7 c = nI l)
def mach (n S R P U D T V : Nat) (τ : zSt) : Prop := pInv n S R P U D noX τ ∧ iReq n τ ∧ τ 18 0 = nI (iLogN V) ∧ τ 23 0 + τ 24 0 = nI V ∧ τ 21 0 = nI T
theorem i_tick_l {n S R T : Nat} {K : Int32 → zSt → Option (Int32 × zSt)} (hT : T ≤ 100000) : ∀ (r i m sv P U D V : Nat) (mask : Int32) (τ : zSt), i + r = n → r < m → U + r ≤ 100000 → D + 2 * r ≤ 100000 → mach n S R P U D T V τ →
    ∃ P' U' D' k τ', fX4_tick_l28 K m (nI (T % n)) mask (nI sv) (nI i) τ = K (nI (sv + k)) τ' ∧ mach n S R P' U' D' T (V + k) τ' ∧ U' ≤ U + r ∧ D' ≤ D + 2 * r ∧ k ≤ r := by
  intro r
  induction r with
  | zero =>
    intro i m sv P U D V mask τ hi hm hU hD h
    obtain ⟨m, rfl⟩ : ∃ k, m = k + 1 := ⟨m - 1, by omega⟩
    obtain ⟨⟨a1, a2, -⟩, b1, -⟩ := h.1.1
    refine ⟨P, U, D, 0, τ, ?_, h, by omega, by omega, by omega⟩
    rw [fX4_tick_l28, b1, if_pos (nI_le (by omega) (by omega))]
    rfl
  | succ r ih =>
    intro i m sv P U D V mask τ hi hm hU hD h
    obtain ⟨m, rfl⟩ : ∃ k, m = k + 1 := ⟨m - 1, by omega⟩
    obtain ⟨hI, hR, h18, h23, h21⟩ := id h
    obtain ⟨⟨a1, a2, -⟩, b1, -⟩ := hI.1
    have hc : (T + i) % n < n := Nat.mod_lt _ (by omega)
    have hTn : T % n < n := Nat.mod_lt _ (by omega)
    generalize hcd : (T + i) % n = c at hc
    have hclass : fX4_tick_l28 K (m + 1) (nI (T % n)) mask (nI sv) (nI i) τ = fX4_tick_j64 (fX4_tick_l28 K m) (nI (T % n)) mask (nI sv) (nI i) (nI c) τ := by
      rw [fX4_tick_l28, b1, if_neg (nI_ge (by omega) (by omega)), nI_add]
      have ht := turn_eq (T := T) (n := n) (i := i) (by omega) (by omega)
      rw [hcd] at ht
      by_cases g : n ≤ T % n + i
      · rw [if_pos g] at ht
        rw [if_pos (nI_le g (by omega)), p_sub g, ht]
      · rw [if_neg g] at ht
        rw [if_neg (nI_ge (by omega) (by omega)), ht]
    rw [hclass]
    unfold fX4_tick_j64
    rw [qx_isPending (by omega), Option.bind_some]
    rcases hR c (by omega) with r1 | ⟨-, l, hl, r1⟩
    · rw [r1, if_pos rfl, if_pos nI_0, nI_add]
      obtain ⟨P', U', D', k, τ', g1, g2, g3, g4, g5⟩ := ih (i + 1) m sv P U D V mask τ (by omega) (by omega) (by omega) (by omega) h
      exact ⟨P', U', D', k, τ', g1, g2, by omega, by omega, by omega⟩
    · rw [r1, if_neg (p_nneg (by omega)), if_neg (show ¬ nI 1 = 0 by decide), p_ag (by omega) (by omega), Option.bind_some, r1, qx_isWrite (wv := τ 8 c) (by omega) rfl, Option.bind_some]
      have served : ∀ (mask' : Int32) (x : Int32), ((x = nI 1 ∧ hitB τ c l (wB (τ 8 c))) ∨ x = nI 0) → ∃ P' U' D' k τ', fX4_tick_j165 (fX4_tick_l28 K m) (nI (T % n)) mask' (nI sv) (nI i) (nI c) (nI l) x τ = K (nI (sv + k)) τ' ∧ mach n S R P' U' D' T (V + k) τ' ∧ U' ≤ U + (r + 1) ∧ D' ≤ D + 2 * (r + 1) ∧ k ≤ r + 1 := by
        intro mask' x hx
        obtain ⟨P1, D1, τ1, s1, s2, s3, s7, s21, s18, s23⟩ := i_serve hI hc hl (by omega) (by omega) h18 hx
        unfold fX4_tick_j165
        rw [s1, Option.bind_some, nI_add, nI_add]
        have hm1 : mach n S R P1 (U + 1) D1 T (V + 1) τ1 := by
          refine ⟨s2, fun e he => ?_, s18, by rw [s23, h23, nI_add], by rw [s21]; exact h21⟩
          rw [s7]
          by_cases ec : e = c
          · rw [ec, p_upe]; exact Or.inl rfl
          · rw [p_upn ec]; exact hR e he
        obtain ⟨P', U', D', k, τ', g1, g2, g3, g4, g5⟩ := ih (i + 1) m (sv + 1) P1 (U + 1) D1 (V + 1) mask' τ1 (by omega) (by omega) (by omega) (by omega) hm1
        refine ⟨P', U', D', k + 1, τ', ?_, ?_, by omega, by omega, by omega⟩
        · rw [g1, show sv + 1 + k = sv + (k + 1) by omega]
        · rw [show V + (k + 1) = V + 1 + k by omega]; exact g2
      by_cases hh : hitB τ c l (wB (τ 8 c))
      · rw [(qx_isHit (by omega) (by omega)).1 hh, Option.bind_some, if_neg (show ¬ nI 1 = 0 by decide)]
        unfold fX4_tick_j153
        rw [if_neg (show ¬ nI 1 = 0 by decide)]
        exact served mask (nI 1) (Or.inl ⟨rfl, hh⟩)
      · rw [(qx_isHit (by omega) (by omega)).2 hh, Option.bind_some, if_pos nI_0]
        by_cases hb : (mask >>> (nI l &&& 31)) &&& nI 1 = 0
        · rw [if_pos hb]
          unfold fX4_tick_j153
          rw [if_pos nI_0]
          exact served _ (nI 0) (Or.inr rfl)
        · rw [if_neg hb, p_ag (by omega) (by omega), Option.bind_some, p_wr (by omega) (by omega), Option.bind_some, p_ws, Option.bind_some, nI_add]
          generalize hτ1 : ws (wr τ 9 c (τ 9 c + nI 1)) 25 (wr τ 9 c (τ 9 c + nI 1) 25 0 + nI 1) = τ1
          have x2 : ∀ j, j ≠ 9 → j ≠ 25 → τ1 j = τ j := fun j z1 z2 => by rw [← hτ1, ws_o z2, wr_o z1]
          have hm1 : mach n S R P U D T V τ1 := by
            refine ⟨pInv_rows hI fun j _ _ z9 _ _ _ _ _ _ _ _ z25 _ => x2 j z9 z25, fun e he => ?_, ?_, ?_, ?_⟩
            · rw [x2 7 (by omega) (by omega)]; exact hR e he
            · rw [x2 18 (by omega) (by omega)]; exact h18
            · rw [x2 23 (by omega) (by omega), x2 24 (by omega) (by omega)]; exact h23
            · rw [x2 21 (by omega) (by omega)]; exact h21
          obtain ⟨P', U', D', k, τ', g1, g2, g3, g4, g5⟩ := ih (i + 1) m sv P U D V mask τ1 (by omega) (by omega) (by omega) (by omega) hm1
          exact ⟨P', U', D', k, τ', g1, g2, by omega, by omega, by omega⟩
theorem i_tick {n S R P U D T V : Nat} {τ : zSt} (h : mach n S R P U D T V τ) (hU : U + 6 ≤ 100000) (hD : D + 12 ≤ 100000) (hT : T + 1 ≤ 100000) : ∃ P' U' D' k τ', fX4_tick τ = some (nI k, τ') ∧ mach n S R P' U' D' (T + 1) (V + k) τ' ∧ U' ≤ U + 6 ∧ D' ≤ D + 12 ∧ k ≤ 6 := by
  obtain ⟨⟨a1, a2, -⟩, b1, -⟩ := h.1.1
  obtain ⟨P', U', D', k, τ1, g1, g2, g3, g4, g5⟩ := i_tick_l (K := fun x9 σ10 => (z_sf σ10 21 ((σ10 21 0) + (nI 1))).bind fun σ11 => some (x9, σ11)) (show T ≤ 100000 by omega) n 0 z_fu 0 P U D V (nI 0) τ (by omega) (Nat.lt_of_le_of_lt a2 (by decide)) (by omega) (by omega) h
  obtain ⟨k1, k2, k3, k4, k5⟩ := g2
  refine ⟨P', U', D', k, ws τ1 21 (nI (T + 1)), ?_, ⟨pInv_rows k1 fun j _ _ _ _ _ _ _ z21 _ _ _ _ _ => ws_o z21, fun e he => ?_, ?_, ?_, ws_e _ _ _ _⟩, by omega, by omega, by omega⟩
  · unfold fX4_tick fX4_tick_j20
    rw [b1, if_neg (nI_nle (by omega) (by omega)), h.2.2.2.2, z_rm_nI (by omega) (by omega) (by omega), Option.bind_some, g1, k5, nI_add, p_ws, Option.bind_some, Nat.zero_add]
  · rw [ws_o (by omega)]; exact k2 e he
  · rw [ws_o (by omega)]; exact k3
  · rw [ws_o (by omega), ws_o (by omega)]; exact k4
theorem i_pass_l {n S R k : Nat} {K : Int32 → Int32 → zSt → Option (Int32 × zSt)} {y : Int32} (hk : k ≤ 1000) : ∀ (r i m P U D T V sv : Nat) (τ : zSt), i + r = k → r < m → mach n S R P U D T V τ → U + 6 * r ≤ 100000 → D + 12 * r ≤ 100000 → T + r ≤ 100000 →
    ∃ P' U' D' T' q τ', fX4_letPass_l12 K m (nI k) y (nI sv) (nI i) τ = K y (nI (sv + q)) τ' ∧ mach n S R P' U' D' T' (V + q) τ' ∧ U' ≤ U + 6 * r ∧ D' ≤ D + 12 * r ∧ q ≤ 6 * r := by
  intro r
  induction r with
  | zero =>
    intro i m P U D T V sv τ hi hm h hU hD hT
    obtain ⟨m, rfl⟩ : ∃ k, m = k + 1 := ⟨m - 1, by omega⟩
    refine ⟨P, U, D, T, 0, τ, ?_, h, by omega, by omega, by omega⟩
    rw [fX4_letPass_l12, if_pos (nI_le (by omega) (by omega))]
    rfl
  | succ r ih =>
    intro i m P U D T V sv τ hi hm h hU hD hT
    obtain ⟨m, rfl⟩ : ∃ k, m = k + 1 := ⟨m - 1, by omega⟩
    rw [fX4_letPass_l12, if_neg (nI_ge (by omega) (by omega)), qx_count, Option.bind_some]
    by_cases h0 : nI (pS (fun c => if τ 7 c = -1 then 0 else 1) 6 0) ≤ 0
    · rw [if_pos h0]
      exact ⟨P, U, D, T, 0, τ, rfl, h, by omega, by omega, by omega⟩
    · rw [if_neg h0]
      obtain ⟨P1, U1, D1, k1, τ1, g1, g2, g3, g4, g5⟩ := i_tick h (by omega) (by omega) (by omega)
      rw [g1, b2_1, nI_add, nI_add]
      obtain ⟨P', U', D', T', q, τ', f1, f2, f3, f4, f5⟩ := ih (i + 1) m P1 U1 D1 (T + 1) (V + k1) (sv + k1) τ1 (by omega) (by omega) g2 (by omega) (by omega) (by omega)
      refine ⟨P', U', D', T', k1 + q, τ', ?_, ?_, by omega, by omega, by omega⟩
      · rw [f1, show sv + k1 + q = sv + (k1 + q) by omega]
      · rw [show V + (k1 + q) = V + k1 + q by omega]; exact f2
theorem i_letPass {n S R P U D T V k : Nat} {τ : zSt} (h : mach n S R P U D T V τ) (hk : k ≤ 1000) (hU : U + 6 * k ≤ 100000) (hD : D + 12 * k ≤ 100000) (hT : T + k ≤ 100000) : ∃ P' U' D' q τ', fX4_letPass (nI k) τ = some (nI q, τ') ∧ mach n S R P' U' D' (T + k) (V + q) τ' ∧ U' ≤ U + 6 * k ∧ D' ≤ D + 12 * k ∧ q ≤ 6 * k := by
  obtain ⟨P', U', D', T', q, τ1, g1, g2, g3, g4, g5⟩ := i_pass_l (K := fun x4 x5 σ6 => (z_sf σ6 21 x4).bind fun σ7 => some (x5, σ7)) (y := nI (T + k)) hk k 0 z_fu P U D T V 0 τ (by omega) (Nat.lt_of_le_of_lt hk (by decide)) h hU hD hT
  obtain ⟨k1, k2, k3, k4, k5⟩ := g2
  refine ⟨P', U', D', q, ws τ1 21 (nI (T + k)), ?_, ⟨pInv_rows k1 fun j _ _ _ _ _ _ _ z21 _ _ _ _ _ => ws_o z21, fun e he => ?_, ?_, ?_, ws_e _ _ _ _⟩, g3, g4, g5⟩
  · unfold fX4_letPass
    rw [h.2.2.2.2, nI_add]
    rw [Nat.zero_add] at g1
    exact g1
  · rw [ws_o (by omega)]; exact k2 e he
  · rw [ws_o (by omega)]; exact k3
  · rw [ws_o (by omega), ws_o (by omega)]; exact k4
