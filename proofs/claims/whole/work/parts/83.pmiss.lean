/-! a miss, in both; what it costs -/
theorem pS_add {f g : Nat → Nat} : ∀ {r k : Nat}, pS (fun j => f j + g j) r k = pS f r k + pS g r k := by
  intro r
  induction r with
  | zero => intro k; rfl
  | succ r ih =>
    intro k
    show f k + g k + pS _ r (k + 1) = (f k + pS f r (k + 1)) + (g k + pS g r (k + 1))
    rw [ih]
    omega
theorem pS_one {f : Nat → Nat} {o v : Nat} : ∀ {r k : Nat}, k ≤ o → o < k + r → f o = v → (∀ j, k ≤ j → j < k + r → j ≠ o → f j = 0) → pS f r k = v := by
  intro r
  induction r with
  | zero => intro k h1 h2; omega
  | succ r ih =>
    intro k h1 h2 h3 h4
    show f k + pS f r (k + 1) = v
    by_cases e : o = k
    · rw [pS_zero fun j g1 g2 => h4 j (by omega) (by omega) (by omega), ← e, h3, Nat.add_zero]
    · rw [ih (by omega) (by omega) h3 fun j g1 g2 g3 => h4 j (by omega) (by omega) g3, h4 k (Nat.le_refl _) (by omega) (fun z => e z.symm), Nat.zero_add]
def gSh (τ : zSt) (l c d : Nat) : Nat := if d = c then 0 else bN (decide (τ 2 (d * 32 + l) = nI 1))
/-- the messages to the others, summed: both the same -/
theorem pay_eq {n : Nat} {τ : zSt} {l c : Nat} {w : Int32} (hn : n ≤ 6) (hK : mKind τ) (hO : mOne τ) (hout : ∀ d, n ≤ d → d < 6 → τ 2 (d * 32 + l) = 0) (hl : l < 32) (hc : τ 2 (c * 32 + l) ≠ nI 2) : pS (gPay τ l w c) n 0 = (if ownN τ l = none then 0 else 2) + (if w = 0 then 0 else pS (gSh τ l c) 6 0) := by
  have e6 : pS (gPay τ l w c) n 0 = pS (gPay τ l w c) 6 0 := by
    rw [show (6 : Nat) = n + (6 - n) by omega, pS_split, pS_zero (r := 6 - n) fun j g1 g2 => ?_, Nat.add_zero]
    unfold gPay
    rw [hout j (by omega) (by omega)]
    split
    · rfl
    · rw [if_neg (by decide), if_pos rfl]
  have esum : pS (gPay τ l w c) 6 0 = pS (fun d => (if d = c then 0 else if τ 2 (d * 32 + l) = nI 2 then 2 else 0) + (if w = 0 then 0 else gSh τ l c d)) 6 0 := pS_congr fun d g1 g2 => by
    unfold gPay gSh bN
    by_cases e : d = c
    · rw [if_pos e, if_pos e, if_pos e]
      split <;> rfl
    · rw [if_neg e, if_neg e, if_neg e]
      rcases hK d l (by omega) hl with z | z | z <;> rw [z]
      · rw [if_neg (by decide), if_pos rfl, if_neg (by decide), decide_eq_false (by decide)]
        split <;> rfl
      · rw [if_neg (show ¬ nI 1 = nI 2 by decide), if_neg (show ¬ nI 1 = nI 2 by decide), if_neg (show ¬ nI 1 = 0 by decide), decide_eq_true rfl, ifT, Nat.zero_add]
      · rw [if_pos rfl, if_pos rfl, decide_eq_false (by decide)]
        split <;> rfl
  rw [e6, esum, pS_add]
  congr 1
  · cases ho : ownN τ l with
    | none =>
      rw [if_pos rfl]
      exact pS_zero fun d g1 g2 => by
        rw [if_neg (pF_none.mp ho d (by omega) (by omega))]
        split <;> rfl
    | some o =>
      obtain ⟨-, o2, o3, -⟩ := pF_some ho
      rw [if_neg (by simp)]
      have oc : o ≠ c := fun z => hc (by rw [← z]; exact o3)
      refine pS_one (o := o) (by omega) (by omega) (by rw [if_neg oc, if_pos o3]) fun d g1 g2 g3 => ?_
      split
      · rfl
      · rw [if_neg fun z => g3 (hO d o l (by omega) (by omega) hl z o3)]
  · by_cases hw : w = 0
    · rw [if_pos hw]
      exact pS_zero fun d _ _ => by rw [if_pos hw]
    · rw [if_neg hw]
      exact pS_congr fun d _ _ => by rw [if_neg hw]
theorem bit_eq {τ ρ : zSt} {l c : Nat} (hc : c < 6) : fJ6_bitCount_0f7a4 (shF (kdF τ l) 6 &&& (((nI 1) <<< (nI c &&& 31)) ^^^ (-1))) ρ = some (nI (pS (gSh τ l c) 6 0)) := by
  rw [shF_B, shB_six]
  show fJ6_bitCount_0f7a4 _ z0 = _
  rw [bits6 c hc]
  show some (nI _) = some (nI (gSh τ l c 0 + (gSh τ l c 1 + (gSh τ l c 2 + (gSh τ l c 3 + (gSh τ l c 4 + (gSh τ l c 5 + 0)))))))
  unfold gSh kdF
  have e : ∀ (k : Nat) (x : Nat), (if c = k then 0 else x) = (if k = c then 0 else x) := fun k x => by
    by_cases q : c = k
    · rw [if_pos q, if_pos q.symm]
    · rw [if_neg q, if_neg fun z => q z.symm]
  rw [e 0, e 1, e 2, e 3, e 4, e 5]
  simp only [Nat.add_zero, Nat.add_assoc]
theorem qx_cost {n S R P U D c l : Nat} {w : Int32} {E : Nat → Prop} {σ τ : zSt} (h : mInv n S R P U D E noX σ τ) (hc : c < n) (hl : l < 32) (hm : ¬ hitB τ c l w) (hm2 : τ 2 (c * 32 + l) ≠ nI 2) : fX4_costOf (nI c) (nI l) w τ = fX4_costOf_j87 τ (nI c) (nI l) (nI (mPay n τ l + pS (gPay τ l w c) n 0)) := by
  obtain ⟨⟨⟨a1, a2, a3, a4, a5, a6, a7⟩, b1, c1, -⟩, -, -, -, hKi, hOn, hCo, hPa, -⟩ := h
  rw [pay_eq a2 hKi hOn (fun d h1 h2 => kd_out hCo h1 h2 hl) hl hm2]
  have J44 : ∀ y : Nat, fX4_costOf_j44 τ (nI c) (nI l) w (nI y) = fX4_costOf_j87 τ (nI c) (nI l) (nI (y + ((if ownN τ l = none then 0 else 2) + (if w = 0 then 0 else pS (gSh τ l c) 6 0)))) := by
    intro y
    have J61 : ∀ y : Nat, fX4_costOf_j61 τ (nI c) (nI l) w (nI y) = fX4_costOf_j87 τ (nI c) (nI l) (nI (y + (if w = 0 then 0 else pS (gSh τ l c) 6 0))) := by
      intro y
      unfold fX4_costOf_j61
      by_cases hw : w = 0
      · rw [if_pos hw, if_pos hw, Nat.add_zero]
      · rw [if_neg hw, if_neg hw, qx_sharersOf hl, Option.bind_some]
        rw [show (fun c => τ 2 (c * 32 + l)) = kdF τ l from rfl, bit_eq (by omega), Option.bind_some, nI_add]
    unfold fX4_costOf_j44
    rw [qx_ownerOf hl, Option.bind_some]
    show (if oI (ownN τ l) = -1 then _ else _) = _
    cases ho : ownN τ l with
    | none => rw [oI_none, if_pos rfl, if_pos rfl, J61, Nat.zero_add]
    | some o =>
      obtain ⟨-, o2, -⟩ := pF_some ho
      rw [oI_some, if_neg (p_nneg (by omega)), if_neg (by simp), nI_add, J61, Nat.add_assoc]
  unfold fX4_costOf mPay
  rw [(qx_isHit (by omega) hl).2 hm, Option.bind_some, if_pos nI_0, qx_hasPage hl, Option.bind_some]
  unfold fX4_costOf_j43
  by_cases h6 : τ 6 l = 0
  · rw [if_pos ((pg_le0 hPa hl).mpr h6), if_pos nI_0, qx_isMarked hl, Option.bind_some]
    cases hb : bt (τ 13 0) l with
    | false => rw [ifF, if_pos nI_0, if_neg (fun z => by cases z.2), J44]
    | true => rw [ifT, if_neg (by decide), if_pos ⟨h6, rfl⟩, b1.2, p_sub (by omega), J44]
  · rw [if_neg (fun z => h6 ((pg_le0 hPa hl).mp z)), if_neg (by decide), if_neg (fun z : τ 6 l = 0 ∧ bt (τ 13 0) l = true => h6 z.1), J44]
theorem j87_eq {τ τ' : zSt} {c l : Nat} {y : Int32} (hc : c < 6) (hl : l < 32) (e2 : ∀ k, k < 32 → τ' 2 (c * 32 + k) = τ 2 (c * 32 + k)) (hd : fX4_lineToDrop (nI c) τ' = fX4_lineToDrop (nI c) τ) {x : Int32} (hx : fX4_lineToDrop (nI c) τ = some x) (hx2 : x = -1 ∨ ∃ k, k < 32 ∧ x = nI k) : fX4_costOf_j87 τ' (nI c) (nI l) y = fX4_costOf_j87 τ (nI c) (nI l) y := by
  unfold fX4_costOf_j87
  rw [qx_kindOf hc hl, qx_kindOf hc hl, e2 l hl, Option.bind_some, Option.bind_some, hd, hx, Option.bind_some, Option.bind_some]
  rcases hx2 with z | ⟨k, k1, z⟩
  · rw [z, if_pos rfl, if_pos rfl]
  · rw [z, if_neg (p_nneg (by omega)), if_neg (p_nneg (by omega)), qx_kindOf hc k1, qx_kindOf hc k1, e2 k k1]
theorem ltd_some {n S R P U D c : Nat} {E : Nat → Prop} {σ τ : zSt} (h : mInv n S R P U D E noX σ τ) (hc : c < n) : ∃ x, fX4_lineToDrop (nI c) τ = some x ∧ (x = -1 ∨ ∃ k, k < 32 ∧ x = nI k) := by
  rcases rl_ltd h hc with ⟨s, s1, s2, s3, s4, s5⟩ | ⟨s1, s2, b, d, q1, q2, q3, q4, q5, q6, q7, q8⟩
  · exact ⟨_, s5, Or.inl rfl⟩
  · exact ⟨_, q7, Or.inr ⟨d, q2, rfl⟩⟩
def fillS (c l s p U : Nat) (w sh : Int32) (σ : zSt) : zSt :=
  w0 (w0 (w0 (w0 (w0 (w0 σ (sA c s) (nI l)) (sA c s + 1) (if w = 0 then nI 1 else nI 2)) (sA c s + 2) (σ 0 (14 + l))) (302 + 4 * p + 1) (if w = 0 then -1 else nI c)) (302 + 4 * p + 2) sh) (302 + 4 * p + 3) (nI (U + 1))
theorem qr_fill {n S R P U D c l s p m : Nat} {w : Int32} {E : Nat → Prop} {σ τ : zSt} (h : mInv n S R P U D E noX σ τ) (hl : l < 32) (hc : c < n) (hs : s < S) (hp : p < P) (hpl : σ 0 (302 + 4 * p) = nI l) (hr : w = 0 → τ 2 (c * 32 + l) = 0) :
    fX9_misses_j72 (nI c) (nI l) w (nI m) (nI (sA c s)) σ = some (nI m, fillS c l s p U w (if w = 0 then shF (fun e => if e = c then nI 1 else τ 2 (e * 32 + l)) 6 else nI 0) σ) := by
  obtain ⟨⟨⟨a1, a2, a3, a4, a5, a6, a7⟩, b1, c1, d1, e1⟩, -, -, -, -, -, hCo, hPa, -⟩ := h
  have ha : sA c s + 3 < 302 := sA_lt (by omega) (by omega) (by omega)
  have ha0 : 110 ≤ sA c s := by unfold sA; omega
  have hU : σ 0 13 = nI U := hCo.2.2.2.1
  have hpage : ∀ ρ : zSt, (∀ k, 302 ≤ k → k < 366 → ρ 0 k = σ 0 k) → ρ 0 3 = σ 0 3 → fX9_pageOf (nI l) ρ = some (nI (302 + 4 * p)) := by
    intro ρ h1 h2
    rw [qr_pageOf (P := P) (by omega) (by rw [h2]; exact e1.1)]
    rw [rpg_at (p := p) hp (by rw [h1 _ (by omega) (by omega)]; exact hpl) fun t ht z => ?_]
    · rfl
    · rw [h1 _ (by omega) (by omega)] at z
      have := hPa.2.2.2.1 t p (by omega) hp (by rw [z, hpl])
      omega
  have J : ∀ kd : Int32, kd = (if w = 0 then nI 1 else nI 2) → fX9_misses_j98 (nI c) (nI l) w (nI m) (nI (sA c s)) kd (nI (sA c s + 1)) (w0 σ (sA c s) (nI l)) = some (nI m, fillS c l s p U w (if w = 0 then shF (fun e => if e = c then nI 1 else τ 2 (e * 32 + l)) 6 else nI 0) σ) := by
    intro kd hkd
    unfold fX9_misses_j98
    rw [p_w0 (by omega), Option.bind_some, nI_add, p_ag (by omega) (by omega), Option.bind_some, w0_n (by omega), w0_n (by omega), nI_add, p_w0 (by omega), Option.bind_some, hpage _ (fun k h1 h2 => by rw [w0_n (by omega), w0_n (by omega), w0_n (by omega)]) (by rw [w0_n (by omega), w0_n (by omega), w0_n (by omega)]), Option.bind_some, nI_add]
    unfold fX9_misses_j142 fX9_misses_j165 fillS
    rw [hkd]
    by_cases hw : w = 0
    · rw [if_pos hw, p_w0 (by omega), Option.bind_some, if_pos hw, if_pos hw, if_pos hw, if_pos hw]
      generalize hρ : w0 (w0 (w0 (w0 σ (sA c s) (nI l)) (sA c s + 1) (nI 1)) (sA c s + 2) (σ 0 (14 + l))) (302 + 4 * p + 1) (-1) = ρ
      have c0 : ∀ k, k ≠ sA c s → k ≠ sA c s + 1 → k ≠ sA c s + 2 → k ≠ 302 + 4 * p + 1 → ρ 0 k = σ 0 k := fun k k1 k2 k3 k4 => by rw [← hρ, w0_n k4, w0_n k3, w0_n k2, w0_n k1]
      have hsh : fX9_sharersOf (nI l) ρ = some (shF (fun e => if e = c then nI 1 else τ 2 (e * 32 + l)) 6) := by
        rw [qr_sharersOf (n := n) (S := S) a2 a4 (by rw [c0 0 (by omega) (by omega) (by omega) (by omega)]; exact b1.1) (by rw [c0 1 (by omega) (by omega) (by omega) (by omega)]; exact c1.1)]
        congr 1
        refine shF_ext a2 (fun e he => ?_) fun e g1 g2 => ?_
        · by_cases ec : e = c
          · rw [ec, if_pos rfl]
            have hr1 : rcp ρ S c (nI l) = some (sA c s) := rcp_at hs (by rw [← hρ, w0_n (by omega), w0_n (by omega), w0_n (by omega), w0_e]) fun t ht z => by
              rw [c0 _ (by unfold sA; omega) (by unfold sA; omega) (by unfold sA; omega) (by have := sA_lt (c := c) (s := t) (k := 0) (by omega) (by omega) (by omega); omega)] at z
              exact rcp_none ((rcp_of a4 hCo hc a2 hl).1 (hr hw)) t (by omega) z
            unfold rkd
            rw [hr1]
            show ρ 0 (sA c s + 1) = nI 1
            rw [← hρ, w0_n (by omega), w0_n (by omega), w0_e]
          · rw [if_neg ec, ← rkd_of a4 hCo he a2 hl id]
            have hcell : ∀ t j, t < 8 → j < 4 → ρ 0 (sA e t + j) = σ 0 (sA e t + j) := fun t j ht hj => c0 _ (by unfold sA; omega) (by unfold sA; omega) (by unfold sA; omega) (by have := sA_lt (c := e) (s := t) (k := j) (by omega) ht hj; omega)
            have hrc : rcp ρ S e (nI l) = rcp σ S e (nI l) := by
              have hpf : pF (fun t => ρ 0 (sA e t) = nI l) S 0 = pF (fun t => σ 0 (sA e t) = nI l) S 0 := pF_congr fun t _ ht => by
                have q := hcell t 0 (by omega) (by omega)
                rw [Nat.add_zero] at q
                rw [q]
              unfold rcp
              rw [hpf]
            unfold rkd
            rw [hrc]
            cases hq : rcp σ S e (nI l) with
            | none => rfl
            | some x =>
              obtain ⟨t, t1, t2, -⟩ := rcp_some hq
              show ρ 0 (x + 1) = σ 0 (x + 1)
              rw [t2]
              exact hcell t 1 (by omega) (by omega)
        · rw [if_neg (by omega)]
          exact kd_out hCo g1 g2 hl
      rw [hsh, Option.bind_some, nI_add, p_w0 (by omega), Option.bind_some, p_ag (by omega) (by omega), Option.bind_some, w0_n (by omega), c0 13 (by omega) (by omega) (by omega) (by omega), hU, nI_add, nI_add, p_w0 (by omega), Option.bind_some]
    · rw [if_neg hw, p_w0 (by omega), Option.bind_some, if_neg hw, if_neg hw, if_neg hw, if_neg hw, nI_add, p_w0 (by omega), Option.bind_some, p_ag (by omega) (by omega), Option.bind_some, w0_n (by omega), w0_n (by omega), w0_n (by omega), w0_n (by omega), w0_n (by omega), hU, nI_add, nI_add, p_w0 (by omega), Option.bind_some]
  unfold fX9_misses_j72
  rw [p_w0 (by omega), Option.bind_some, nI_add]
  by_cases hw : w = 0
  · rw [if_pos hw]
    exact J _ (by rw [if_pos hw])
  · rw [if_neg hw]
    exact J _ (by rw [if_neg hw])
