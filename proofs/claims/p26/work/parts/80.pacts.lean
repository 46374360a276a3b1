/-! the law's acts -/
theorem b2_c {α β γ : Type} {x : α} {y : β} {f : α → β → Option γ} : z_b2 (some (x, y)) f = f x y := rfl
theorem bt31 {x : Int32} (h : bt x 31 = false) : ∃ j : Nat, j < 2 ^ 31 ∧ x = nI j := by
  refine nI_of fun hx => ?_
  have h1 : x.toBitVec.msb = false := by
    rw [BitVec.msb_eq_getLsbD_last]
    exact h
  rw [BitVec.msb_eq_toInt] at h1
  have h2 := of_decide_eq_false h1
  have h3 : x.toInt < 0 := by
    have := Int32.lt_iff_toInt_lt.mp hx
    exact this
  exact h2 h3
theorem bt31_nI {v : Nat} (h : v < 2 ^ 31) : bt (nI v) 31 = false := by
  show (BitVec.ofNat 32 v).getLsbD 31 = false
  rw [BitVec.getLsbD_ofNat, Nat.testBit_lt_two_pow h]
  rfl
theorem shr_nI {v k : Nat} (h : v < 2 ^ 31) (hk : k < 32) : ∃ u, u < 2 ^ 31 ∧ (nI v) >>> (nI k &&& 31) = nI u := by
  refine bt31 ?_
  rw [b_sshr k hk _ (by omega)]
  split
  · rename_i z
    rw [show k + 31 = 31 by omega]
    exact bt31_nI h
  · exact bt31_nI h
theorem w_cell {xs : Nat → Int32} {L j : Nat} (hL : L ≤ 260) (hj : j < 1000) : ∃ v, v < 2 ^ 31 ∧ fL_cell xs L (nI j) = some (nI v) := by
  have h31 : ∀ x : Int32, ∃ v, v < 2 ^ 31 ∧ x &&& nI 2147483647 = nI v := fun x => bt31 (by
    rw [b_and, show bt (nI 2147483647) 31 = false by decide +kernel, Bool.and_false])
  unfold fL_cell
  by_cases c : L ≤ j
  · rw [if_pos (nI_le c (by omega))]
    obtain ⟨v, v1, v2⟩ := h31 ((nI 15551203 * nI j) + nI 617)
    exact ⟨v, v1, by rw [v2]⟩
  · rw [if_neg (nI_ge (by omega) (by omega)), p_ag (by omega) (by omega), Option.bind_some]
    obtain ⟨v, v1, v2⟩ := h31 (xs j)
    exact ⟨v, v1, by rw [v2]⟩
def hN (t : Nat) : Nat := if t < 4 then t else 4
theorem hN_succ (t : Nat) : (if hN t < 4 then hN t + 1 else 4) = hN (t + 1) := by
  unfold hN
  by_cases c : t < 4
  · rw [if_pos c, if_pos c]
    split <;> omega
  · rw [if_neg c, if_neg (by omega), if_neg (by omega)]
/-- what holds after t turns, V requests served -/
def lJ (n S R P U D T t V : Nat) (χ : cSt) : Prop := mach n S R P U D T V (χ 0) ∧ U ≤ 6 * T ∧ (D ≤ 12 * T ∧ V ≤ 6 * T) ∧ T ≤ 2 * t ∧ hM 90 (hN (t + 1)) χ ∧ χ 7 0 0 = nI 0
def lI (t V : Nat) (χ : cSt) : Prop := ∃ n S R P U D T, lJ n S R P U D T t V χ
def aG (t V : Nat) (o : Option (Int32 × cSt)) : Prop := ∃ k χ', o = some (nI k, χ') ∧ lI (t + 1) (V + k) χ'
theorem j_gM {n S R P U D T t V : Nat} {χ : cSt} (h : lJ n S R P U D T t V χ) (ht : t ≤ 45) : gM 90 (χ 0) := by
  obtain ⟨h1, h2, h3, h4, -⟩ := h
  exact ⟨n, S, R, P, U, D, T, V, h1, h2, h3.1, by omega⟩
theorem mach_of {n S R P U D T V P' U' D' : Nat} {τ τ' : zSt} (h : mach n S R P U D T V τ) (hp : pInv n S R P' U' D' noX τ') (e : ∀ i, i = 7 ∨ i = 18 ∨ i = 21 ∨ i = 23 ∨ i = 24 → τ' i = τ i) : mach n S R P' U' D' T V τ' := by
  obtain ⟨h1, h2, h3, h4, h5⟩ := h
  exact ⟨hp, fun c hc => by rw [e 7 (by omega)]; exact h2 c hc, by rw [e 18 (by omega)]; exact h3, by rw [e 23 (by omega), e 24 (by omega)]; exact h4, by rw [e 21 (by omega)]; exact h5⟩
/-- the object with a saved state more, and its machine changed -/
theorem j_next {n S R P U D T P' U' D' T' V V' t : Nat} {χ χ1 : cSt} {τ' : zSt} (h : lJ n S R P U D T t V χ) (hs : hM 90 (if hN (t + 1) < 4 then hN (t + 1) + 1 else 4) χ1) (h70 : χ1 7 0 = χ 7 0) (hm : mach n S R P' U' D' T' V' τ') (hU : U' ≤ 6 * T') (hD : D' ≤ 12 * T' ∧ V' ≤ 6 * T') (hT : T' ≤ 2 * (t + 1)) : lJ n S R P' U' D' T' (t + 1) V' (c_up χ1 0 τ') := by
  have un : ∀ i, i ≠ 0 → c_up χ1 0 τ' i = χ1 i := fun i hi => c_un hi
  rw [hN_succ] at hs
  obtain ⟨s2, s3, s4⟩ := hs
  refine ⟨by rw [c_ue]; exact hm, hU, hD, hT, ⟨s2, by rw [un 7 (by omega)]; exact s3, fun i hi => by rw [un (2 + i) (by omega)]; exact s4 i hi⟩, ?_⟩
  rw [un 7 (by omega), h70]
  exact h.2.2.2.2.2
theorem a_pass {n S R P U D T t V v : Nat} {χ : cSt} (h : lJ n S R P U D T t V χ) (ht : t ≤ 43) (hv : v < 2 ^ 31) : aG t V (fL_acts_j269 (nI v) χ) := by
  obtain ⟨hm, hU, hD, hT, hh, h7⟩ := id h
  unfold fL_acts_j269
  obtain ⟨u, u1, u2⟩ := shr_nI (k := 11) hv (by omega)
  rw [u2, z_rm_nI (by omega) u1 (by omega), Option.bind_some, nI_add]
  have hb : u % 2 < 2 := Nat.mod_lt _ (by omega)
  generalize u % 2 = b at hb
  unfold fX8_pass
  rw [if_neg (gRng (by omega) (by omega) (by omega)), qx_time hm.2.2.2.2 (by omega) (by omega), if_pos (by omega), Option.bind_some, if_neg (show ¬ nI 1 = 0 by decide)]
  obtain ⟨χ1, s1, s2, s5, s6, s7, -⟩ := o_save hh (j_gM h (by omega))
  obtain ⟨P', U', D', q, τ', f1, f2, f3, f4, f5⟩ := i_letPass hm (k := 1 + b) (by omega) (by omega) (by omega) (by omega)
  rw [s1, Option.bind_some, s5, f1, cb2, b2_c]
  exact ⟨q, _, rfl, n, S, R, P', U', D', T + (1 + b), j_next h s2 s7 f2 (by omega) (by omega) (by omega)⟩
theorem o_ask {n S R P U D T t V c l : Nat} {wv : Int32} {χ : cSt} (h : lJ n S R P U D T t V χ) (ht : t ≤ 43) (hc : c < n) (hl : l < 9) : ∃ χ1 τ', fX2_save χ = some χ1 ∧ fX7_ask (nI c) (nI l) wv (χ1 0) = some τ' ∧ lJ n S R P U D T (t + 1) V (c_up χ1 0 τ') ∧ (∀ i, i ≠ 7 → i ≠ 8 → i ≠ 9 → τ' i = χ 0 i) := by
  obtain ⟨hm, hU, hD, hT, hh, h7⟩ := id h
  obtain ⟨⟨a1, a2, -⟩, -⟩ := hm.1.1
  obtain ⟨χ1, s1, s2, s5, s6, s7, -⟩ := o_save hh (j_gM h (by omega))
  have e : fX7_ask (nI c) (nI l) wv (χ1 0) = some (wr (wr (wr (χ 0) 7 c (nI l)) 8 c wv) 9 c (nI 0)) := by
    unfold fX7_ask
    rw [s5, p_wr (by omega) (by omega), Option.bind_some, p_wr (by omega) (by omega), Option.bind_some, p_wr (by omega) (by omega), Option.bind_some]
  generalize hτ : wr (wr (wr (χ 0) 7 c (nI l)) 8 c wv) 9 c (nI 0) = τ' at e
  have eo : ∀ i, i ≠ 7 → i ≠ 8 → i ≠ 9 → τ' i = χ 0 i := fun i i1 i2 i3 => by rw [← hτ, wr_o i3, wr_o i2, wr_o i1]
  have e7 : τ' 7 = upd (χ 0 7) c (nI l) := by
    rw [← hτ, wr_o (by omega), wr_o (by omega)]
    exact p_ze _ _ _
  refine ⟨χ1, τ', s1, e, j_next h s2 s7 ⟨pInv_rows hm.1 fun i i7 i8 i9 _ _ _ _ _ _ _ _ _ _ => eo i i7 i8 i9, fun d hd => ?_, ?_, ?_, ?_⟩ hU hD (by omega), eo⟩
  · rw [e7]
    by_cases ed : d = c
    · rw [ed, p_upe]; exact Or.inr ⟨hc, l, hl, rfl⟩
    · rw [p_upn ed]; exact hm.2.1 d hd
  · rw [eo 18 (by omega) (by omega) (by omega)]; exact hm.2.2.1
  · rw [eo 23 (by omega) (by omega) (by omega), eo 24 (by omega) (by omega) (by omega)]; exact hm.2.2.2.1
  · rw [eo 21 (by omega) (by omega) (by omega)]; exact hm.2.2.2.2
theorem v_pending {n c : Nat} {χ : cSt} (hn : χ 0 19 0 = nI n) (hn6 : n ≤ 6) (hc : c < n) : fX8_pending (nI c) (nI 0) χ = some (χ 0 7 c) := by
  unfold fX8_pending fX7_fact
  rw [hn, if_neg (gIdx hc (by omega)), if_neg (gRng (by omega) (by omega) (by omega)), obs, p_ag (by omega) (by omega), Option.bind_some]
  by_cases h : χ 0 7 c = -1
  · rw [if_pos h, h]
  · rw [if_neg h, if_pos rfl, Option.bind_some]
theorem a_read {n S R P U D T t V c l : Nat} {χ : cSt} (h : lJ n S R P U D T t V χ) (ht : t ≤ 43) (hc : c < n) (hl : l < 9) (hp : χ 0 7 c = -1) : aG t V (z_b2 (fX8_read (nI c) (nI l) χ) fun x24 σ25 =>
  (fX8_copy (nI c) (nI l) (nI 0) σ25).bind fun x26 =>
  (if x26 ≤ 0 then
  fL_acts_j72 (nI 0) x24 σ25
  else
  fL_acts_j72 (nI 1) x24 σ25)) := by
  obtain ⟨⟨⟨a1, a2, -⟩, s19, -⟩, hC, -⟩ := h.1.1
  have hc6 : c < 6 := by omega
  have hl32 : l < 32 := by omega
  obtain ⟨χ1, τ', s1, s2, s3, s4⟩ := o_ask (wv := -1) h ht hc hl
  unfold fX8_read
  rw [s19, if_neg (gIdx hc (by omega)), if_neg (gIdx hl32 (by omega)), qx_isPending hc6, hp, if_pos rfl, Option.bind_some, if_pos nI_0]
  unfold fX8_read_j36
  rw [if_neg (show ¬ nI 1 = 0 by decide), s1, Option.bind_some, s2, cb1, c_ue]
  have n19 : c_up χ1 0 τ' 0 19 0 = nI n := by rw [c_ue, s4 19 (by omega) (by omega) (by omega)]; exact s19
  have e2 : τ' 2 = χ 0 2 := s4 2 (by omega) (by omega) (by omega)
  have cp : fX8_copy (nI c) (nI l) (nI 0) (c_up χ1 0 τ') = some (χ 0 2 (c * 32 + l)) := by
    rw [v_copy n19 a2 hc hl32 (by omega), f_0 hc6 hl32, c_ue, e2]
  by_cases hk : χ 0 2 (c * 32 + l) = 0
  · have hh : ¬ hitB τ' c l (nI 0) := by
      unfold hitB
      rw [if_pos nI_0, e2]
      exact fun z => z hk
    rw [(qx_isHit hc6 hl32).2 hh, Option.bind_some, if_pos nI_0, b2_c, cp, Option.bind_some, hk, if_pos (Int32.le_refl _)]
    unfold fL_acts_j72
    rw [if_pos rfl]
    exact ⟨0, _, rfl, n, S, R, P, U, D, T, s3⟩
  · have hh : hitB τ' c l (nI 0) := by
      unfold hitB
      rw [if_pos nI_0, e2]
      exact hk
    have hk12 : χ 0 2 (c * 32 + l) = nI 1 ∨ χ 0 2 (c * 32 + l) = nI 2 := by
      rcases hC c l hc6 hl32 with z | ⟨_, _, z, _⟩
      · exact absurd z hk
      · exact z
    rw [(qx_isHit hc6 hl32).1 hh, Option.bind_some, if_neg (show ¬ nI 1 = 0 by decide), b2_c, cp, Option.bind_some, if_neg (by rcases hk12 with z | z <;> rw [z] <;> decide)]
    unfold fL_acts_j72
    rw [if_pos rfl]
    exact ⟨0, _, rfl, n, S, R, P, U, D, T, s3⟩
theorem a_write {n S R P U D T t V c l w : Nat} {χ : cSt} (h : lJ n S R P U D T t V χ) (ht : t ≤ 43) (hc : c < n) (hl : l < 9) (hw : w < 1000) (hp : χ 0 7 c = -1) : aG t V (z_b2 (fX8_write (nI c) (nI l) (nI w) χ) fun x21 σ22 =>
  (fX8_copy (nI c) (nI l) (nI 0) σ22).bind fun x23 =>
  (if x23 = (nI 2) then
  fL_acts_j123 (nI 1) x21 σ22
  else
  fL_acts_j123 (nI 0) x21 σ22)) := by
  obtain ⟨⟨⟨a1, a2, -⟩, s19, -⟩, hC, -⟩ := h.1.1
  have hc6 : c < 6 := by omega
  have hl32 : l < 32 := by omega
  obtain ⟨χ1, τ', s1, s2, s3, s4⟩ := o_ask (wv := nI w) h ht hc hl
  unfold fX8_write
  rw [s19, if_neg (gIdx hc (by omega)), if_neg (gIdx hl32 (by omega)), if_neg (gRng (by omega) (by omega) (by omega)), qx_isPending hc6, hp, if_pos rfl, Option.bind_some, if_pos nI_0]
  unfold fX8_write_j44
  rw [if_neg (show ¬ nI 1 = 0 by decide), s1, Option.bind_some, s2, cb1, c_ue]
  have n19 : c_up χ1 0 τ' 0 19 0 = nI n := by rw [c_ue, s4 19 (by omega) (by omega) (by omega)]; exact s19
  have e2 : τ' 2 = χ 0 2 := s4 2 (by omega) (by omega) (by omega)
  have cp : fX8_copy (nI c) (nI l) (nI 0) (c_up χ1 0 τ') = some (χ 0 2 (c * 32 + l)) := by
    rw [v_copy n19 a2 hc hl32 (by omega), f_0 hc6 hl32, c_ue, e2]
  by_cases hk : χ 0 2 (c * 32 + l) = nI 2
  · have hh : hitB τ' c l (nI 1) := by
      unfold hitB
      rw [if_neg (by decide), e2]
      exact hk
    rw [(qx_isHit hc6 hl32).1 hh, Option.bind_some, if_neg (show ¬ nI 1 = 0 by decide), b2_c, cp, Option.bind_some, if_pos hk]
    unfold fL_acts_j123
    rw [if_pos rfl]
    exact ⟨0, _, rfl, n, S, R, P, U, D, T, s3⟩
  · have hh : ¬ hitB τ' c l (nI 1) := by
      unfold hitB
      rw [if_neg (by decide), e2]
      exact hk
    rw [(qx_isHit hc6 hl32).2 hh, Option.bind_some, if_pos nI_0, b2_c, cp, Option.bind_some, if_neg hk]
    unfold fL_acts_j123
    rw [if_pos rfl]
    exact ⟨0, _, rfl, n, S, R, P, U, D, T, s3⟩
theorem a_drop {n S R P U D T t V c l : Nat} {χ : cSt} (h : lJ n S R P U D T t V χ) (ht : t ≤ 43) (hc : c < n) (hl : l < 9) (hk : χ 0 2 (c * 32 + l) ≠ 0) : aG t V ((fX8_copy (nI c) (nI l) (nI 0) χ).bind fun x16 =>
  z_b2 (fX8_drop (nI c) (nI l) χ) fun x17 σ18 =>
  (if x17 = (x16 - (nI 1)) then
  (fX8_copy (nI c) (nI l) (nI 0) σ18).bind fun x19 =>
  (if x19 = 0 then
  some (nI 0, σ18)
  else
  some ((-2), σ18))
  else
  some ((-2), σ18))) := by
  obtain ⟨hm, hU, hD, hT, hh, h7⟩ := id h
  obtain ⟨⟨⟨a1, a2, -⟩, s19, -⟩, hC, -⟩ := hm.1
  have hc6 : c < 6 := by omega
  have hl32 : l < 32 := by omega
  have hk12 : χ 0 2 (c * 32 + l) = nI 1 ∨ χ 0 2 (c * 32 + l) = nI 2 := by
    rcases hC c l hc6 hl32 with z | ⟨_, _, z, _⟩
    · exact absurd z hk
    · exact z
  obtain ⟨χ1, s1, s2, s5, s6, s7, -⟩ := o_save hh (j_gM h (by omega))
  obtain ⟨v1, v2, v3⟩ := i_drop hm.1 hc6 hl32
  rw [v_copy s19 a2 hc hl32 (by omega), f_0 hc6 hl32, Option.bind_some]
  unfold fX8_drop
  rw [s19, if_neg (gIdx hc (by omega)), if_neg (gIdx hl32 (by omega)), qx_kindOf hc6 hl32, Option.bind_some, if_neg hk]
  unfold fX8_drop_j37
  rw [if_neg (show ¬ nI 1 = 0 by decide), s1, Option.bind_some, s5, qx_kindOf hc6 hl32, Option.bind_some]
  have j72 : ∀ w0 : Int32, ∃ χ', fX8_drop_j72 (nI c) (nI l) w0 χ1 = some (w0, χ') ∧ lJ n S R P U D T (t + 1) V χ' ∧ χ' 0 2 = upd (χ 0 2) (c * 32 + l) (nI 0) ∧ χ' 0 19 0 = nI n := by
    intro w0
    unfold fX8_drop_j72 c_sf
    rw [s5, qx_throwAway hc6 hl32, cb1, Option.bind_some, c_ue]
    generalize hx : dropT c l (χ 0) 22 0 + w0 = x
    have e : c_up (c_up χ1 0 (dropT c l (χ 0))) 0 (z_up (dropT c l (χ 0)) 22 (fun _ => x)) = c_up χ1 0 (ws (dropT c l (χ 0)) 22 x) := by
      funext i
      by_cases ei : i = 0
      · rw [ei, c_ue, c_ue]
        rfl
      · rw [c_un ei, c_un ei, c_un ei]
    rw [e]
    have eo : ∀ i, i ≠ 0 → i ≠ 2 → i ≠ 22 → i ≠ 26 → ws (dropT c l (χ 0)) 22 x i = χ 0 i := fun i i1 i2 i3 i4 => by rw [ws_o i3, v3 i i1 i2 i4]
    refine ⟨_, rfl, j_next h s2 s7 (mach_of hm (pInv_rows v1 fun i _ _ _ _ _ _ _ _ i22 _ _ _ _ => ws_o i22) fun i hi => eo i (by omega) (by omega) (by omega) (by omega)) hU hD (by omega), ?_, ?_⟩
    · rw [c_ue, ws_o (by omega), v2]
    · rw [c_ue, eo 19 (by omega) (by omega) (by omega) (by omega)]; exact s19
  have fin : ∀ (w0 : Int32) (χ' : cSt), χ' 0 2 = upd (χ 0 2) (c * 32 + l) (nI 0) → χ' 0 19 0 = nI n → fX8_copy (nI c) (nI l) (nI 0) χ' = some (nI 0) := fun w0 χ' e1 e2 => by
    rw [v_copy e2 a2 hc hl32 (by omega), f_0 hc6 hl32, e1, p_upe]
  rcases hk12 with z | z
  · rw [z, if_neg (by decide)]
    obtain ⟨χ', t1, t2, t3, t4⟩ := j72 (nI 0)
    rw [t1, b2_c, if_pos (by decide), fin (nI 0) χ' t3 t4, Option.bind_some, if_pos nI_0]
    exact ⟨0, _, rfl, n, S, R, P, U, D, T, t2⟩
  · rw [z, if_pos rfl]
    obtain ⟨χ', t1, t2, t3, t4⟩ := j72 (nI 1)
    rw [t1, b2_c, if_pos (by decide), fin (nI 1) χ' t3 t4, Option.bind_some, if_pos nI_0]
    exact ⟨0, _, rfl, n, S, R, P, U, D, T, t2⟩
theorem sh6 : ∀ b0 b1 b2 b3 b4 b5 : Bool, bitC (shB (six b0 b1 b2 b3 b4 b5)) 8 = bN b0 + bN b1 + bN b2 + bN b3 + bN b4 + bN b5 := by decide +kernel
theorem sh_cnt (k : Nat → Int32) : bitC (shF k 6) 8 = pS (fun c => bN (decide (k c = nI 1))) 6 0 := by
  rw [shF_B, shB_six, sh6]
  show _ = bN (decide (k 0 = nI 1)) + (bN (decide (k 1 = nI 1)) + (bN (decide (k 2 = nI 1)) + (bN (decide (k 3 = nI 1)) + (bN (decide (k 4 = nI 1)) + (bN (decide (k 5 = nI 1)) + 0)))))
  omega
/-- sharers and owner are the copies of a line -/
theorem copies {n S R P U D l : Nat} {τ : zSt} (h : pInv n S R P U D noX τ) (hl : l < 32) : bitC (shF (kdF τ l) 6) 8 + (match ownO τ l with | some _ => 1 | none => 0) = pS (fun c => if τ 2 (c * 32 + l) = 0 then 0 else 1) 6 0 := by
  obtain ⟨-, hC, hO, -⟩ := h
  rw [sh_cnt]
  have kind : ∀ c, c < 6 → τ 2 (c * 32 + l) ≠ 0 → τ 2 (c * 32 + l) = nI 1 ∨ τ 2 (c * 32 + l) = nI 2 := fun c hc z => by
    rcases hC c l hc hl with y | ⟨_, _, y, _⟩
    · exact absurd y z
    · exact y
  cases ho : ownO τ l with
  | none =>
    show _ + 0 = _
    refine pS_congr fun c _ hc => ?_
    show bN (decide (τ 2 (c * 32 + l) = nI 1)) = (if τ 2 (c * 32 + l) = 0 then 0 else 1)
    by_cases z : τ 2 (c * 32 + l) = 0
    · rw [if_pos z, z]
      rfl
    · rw [if_neg z]
      rcases kind c (by omega) z with y | y
      · rw [y]
        rfl
      · exact absurd y (pF_none.mp ho c (by omega) (by omega))
  | some d =>
    obtain ⟨d1, d2, d3, -⟩ := pF_some ho
    have oth : ∀ c, c < 6 → c ≠ d → τ 2 (c * 32 + l) = 0 := fun c hc hcd => Classical.byContradiction fun z => hcd (hO d c l (by omega) hc hl d3 z).symm
    have e2 : pS (fun c => if τ 2 (c * 32 + l) = 0 then 0 else 1) 6 0 = 1 := by
      have hz : pS (fun c => if c = d then 0 else (if τ 2 (c * 32 + l) = 0 then 0 else 1)) 6 0 = 0 := pS_zero fun c _ hc => by
        show (if c = d then 0 else (if τ 2 (c * 32 + l) = 0 then 0 else 1)) = 0
        by_cases e : c = d
        · rw [if_pos e]
        · rw [if_neg e, if_pos (oth c (by omega) e)]
      have := pS_one (f := fun c => if τ 2 (c * 32 + l) = 0 then 0 else 1) (g := fun c => if c = d then 0 else (if τ 2 (c * 32 + l) = 0 then 0 else 1)) (l := d) (fun c hc => by
        show (if τ 2 (c * 32 + l) = 0 then 0 else 1) = (if c = d then 0 else (if τ 2 (c * 32 + l) = 0 then 0 else 1))
        rw [if_neg hc]) (r := 6) (k := 0) (by omega) (by omega)
      have h1 : (if τ 2 (d * 32 + l) = 0 then 0 else 1) = 1 := if_neg (by rw [d3]; decide)
      rw [h1, if_pos rfl, hz] at this
      exact this
    rw [e2]
    have e3 : pS (fun c => bN (decide (kdF τ l c = nI 1))) 6 0 = 0 := pS_zero fun c _ hc => by
      show bN (decide (τ 2 (c * 32 + l) = nI 1)) = 0
      by_cases e : c = d
      · rw [e, d3]
        rfl
      · rw [oth c (by omega) e]
        rfl
    rw [e3]
    rfl
