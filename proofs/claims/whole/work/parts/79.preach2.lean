/-! the second step of a miss: the class's own way comes to the same -/
theorem vsN_spec {l c : Nat} {w : Int32} (hl : l < 32) : ∀ (r d : Nat) (τ : zSt), (∀ e e', τ 2 (e * 32 + l) = nI 2 → τ 2 (e' * 32 + l) = nI 2 → d ≤ e → e < d + r → d ≤ e' → e' < d + r → e = e') →
    (∀ e, d ≤ e → e < d + r → e ≠ c → τ 2 (e * 32 + l) ≠ 0 → vsN l w c r d τ 2 (e * 32 + l) = if w = 0 then nI 1 else nI 0) ∧
    (∀ j, (∀ e, d ≤ e → e < d + r → e ≠ c → τ 2 (e * 32 + l) ≠ 0 → j ≠ e * 32 + l) → vsN l w c r d τ 2 j = τ 2 j) ∧
    (∀ o, d ≤ o → o < d + r → o ≠ c → τ 2 (o * 32 + l) = nI 2 → vsN l w c r d τ 0 = upd (τ 0) l (τ 3 (o * 32 + l)) ∧ vsN l w c r d τ 26 = fun _ => τ 26 0 + nI 1) ∧
    ((∀ o, d ≤ o → o < d + r → o ≠ c → τ 2 (o * 32 + l) ≠ nI 2) → vsN l w c r d τ 0 = τ 0 ∧ vsN l w c r d τ 26 = τ 26) ∧
    (∀ i, i ≠ 0 → i ≠ 2 → i ≠ 26 → vsN l w c r d τ i = τ i) := by
  intro r
  induction r with
  | zero => intro d τ _; exact ⟨fun e h1 h2 => by omega, fun j _ => rfl, fun o h1 h2 => by omega, fun _ => ⟨rfl, rfl⟩, fun i _ _ _ => rfl⟩
  | succ r ih =>
    intro d τ hu
    show (∀ e, _ → _ → _ → _ → vsN l w c r (d + 1) (if d = c then τ else vs1 l w d τ) 2 (e * 32 + l) = _) ∧ (∀ j, _ → vsN l w c r (d + 1) (if d = c then τ else vs1 l w d τ) 2 j = _) ∧ (∀ o, _ → _ → _ → _ → vsN l w c r (d + 1) (if d = c then τ else vs1 l w d τ) 0 = _ ∧ vsN l w c r (d + 1) (if d = c then τ else vs1 l w d τ) 26 = _) ∧ (_ → vsN l w c r (d + 1) (if d = c then τ else vs1 l w d τ) 0 = _ ∧ vsN l w c r (d + 1) (if d = c then τ else vs1 l w d τ) 26 = _) ∧ (∀ i, _ → _ → _ → vsN l w c r (d + 1) (if d = c then τ else vs1 l w d τ) i = _)
    by_cases hdc : d = c ∨ τ 2 (d * 32 + l) = 0
    · have e0 : (if d = c then τ else vs1 l w d τ) = τ := by
        by_cases e : d = c
        · rw [if_pos e]
        · rw [if_neg e]
          unfold vs1
          rw [if_pos (hdc.resolve_left e)]
      rw [e0]
      obtain ⟨i1, i2, i3, i4, i5⟩ := ih (d + 1) τ (fun e e' z1 z2 g1 g2 g3 g4 => hu e e' z1 z2 (by omega) (by omega) (by omega) (by omega))
      refine ⟨fun e h1 h2 h3 h4 => i1 e ?_ (by omega) h3 h4, fun j hj => i2 j fun e h1 h2 h3 h4 => hj e (by omega) (by omega) h3 h4, fun o h1 h2 h3 h4 => i3 o ?_ (by omega) h3 h4, fun h => i4 fun o h1 h2 h3 => h o (by omega) (by omega) h3, i5⟩
      · by_cases e1 : e = d
        · rw [e1] at h3 h4
          rcases hdc with z | z
          · exact absurd z h3
          · exact absurd z h4
        · omega
      · by_cases e1 : o = d
        · rw [e1] at h3 h4
          rcases hdc with z | z
          · exact absurd z h3
          · rw [z] at h4
            exact absurd h4 (by decide)
        · omega
    · have hc : d ≠ c := fun z => hdc (Or.inl z)
      have hk : τ 2 (d * 32 + l) ≠ 0 := fun z => hdc (Or.inr z)
      rw [if_neg hc]
      have v2 : vs1 l w d τ 2 (d * 32 + l) = if w = 0 then nI 1 else nI 0 := by unfold vs1; rw [if_neg hk, wr_e]
      have v3 : ∀ j, j ≠ d * 32 + l → vs1 l w d τ 2 j = τ 2 j := fun j hj => vs1_o hj
      have vo : ∀ i, i ≠ 0 → i ≠ 2 → i ≠ 26 → vs1 l w d τ i = τ i := by
        intro i g1 g2 g3
        unfold vs1
        rw [if_neg hk, wr_o g2]
        split
        · rw [ws_o g3, wr_o g1]
        · rfl
      obtain ⟨i1, i2, i3, i4, i5⟩ := ih (d + 1) (vs1 l w d τ) (fun e e' z1 z2 g1 g2 g3 g4 => by
        rw [v3 _ (by omega)] at z1
        rw [v3 _ (by omega)] at z2
        exact hu e e' z1 z2 (by omega) (by omega) (by omega) (by omega))
      refine ⟨fun e h1 h2 h3 h4 => ?_, fun j hj => ?_, fun o h1 h2 h3 h4 => ?_, fun h => ?_, fun i g1 g2 g3 => ?_⟩
      · by_cases e1 : e = d
        · rw [e1, i2 (d * 32 + l) (fun e' g1 g2 g3 g4 => by omega), v2]
        · exact i1 e (by omega) (by omega) h3 (by rw [v3 _ (by omega)]; exact h4)
      · rw [i2 j (fun e g1 g2 g3 g4 => hj e (by omega) (by omega) g3 (by rw [v3 _ (by omega)] at g4; exact g4)), v3 j (hj d (by omega) (by omega) hc hk)]
      · by_cases e1 : o = d
        · subst e1
          have hn : ∀ e, o + 1 ≤ e → e < o + 1 + r → e ≠ c → vs1 l w o τ 2 (e * 32 + l) ≠ nI 2 := fun e g1 g2 g3 z => by
            rw [v3 _ (by omega)] at z
            have := hu e o z h4 (by omega) (by omega) (by omega) (by omega)
            omega
          obtain ⟨k1, k2⟩ := i4 hn
          rw [k1, k2]
          unfold vs1
          rw [if_neg hk, if_pos h4, wr_o (by omega), wr_o (by omega), ws_o (by omega)]
          refine ⟨p_ze _ _ _, ?_⟩
          unfold ws
          rw [p_ze]
        · have hd2 : τ 2 (d * 32 + l) ≠ nI 2 := fun z => e1 (hu o d h4 z (by omega) (by omega) (by omega) (by omega))
          obtain ⟨k1, k2⟩ := i3 o (by omega) (by omega) h3 (by rw [v3 _ (by omega)]; exact h4)
          rw [k1, k2, vo 3 (by omega) (by omega) (by omega)]
          unfold vs1
          rw [if_neg hk, if_neg hd2, wr_o (by omega), wr_o (by omega)]
          exact ⟨rfl, rfl⟩
      · have hd2 : τ 2 (d * 32 + l) ≠ nI 2 := h d (by omega) (by omega) hc
        obtain ⟨k1, k2⟩ := i4 (fun o g1 g2 g3 => by rw [v3 _ (by omega)]; exact h o (by omega) (by omega) g3)
        rw [k1, k2]
        unfold vs1
        rw [if_neg hk, if_neg hd2, wr_o (by omega), wr_o (by omega)]
        exact ⟨rfl, rfl⟩
      · rw [i5 i g1 g2 g3, vo i g1 g2 g3]
def rmN (l c : Nat) : Nat → Nat → zSt → zSt
  | 0, _, τ => τ
  | r + 1, d, τ => rmN l c r (d + 1) (if d = c then τ else wr τ 2 (d * 32 + l) (nI 0))
theorem qx_rmo_l {l c : Nat} (hl : l < 32) (hc : c < 6) : ∀ (r d n : Nat) (τ : zSt), d + r = 6 → r < n → fX0_removeOthers_l2 (fun σ2 => some σ2) n (nI c) (nI l) (nI d) τ = some (rmN l c r d τ) := by
  intro r
  induction r with
  | zero =>
    intro d n τ hd hn
    obtain ⟨n, rfl⟩ : ∃ k, n = k + 1 := ⟨n - 1, by omega⟩
    rw [fX0_removeOthers_l2, if_pos (nI_le (by omega) (by omega))]
    rfl
  | succ r ih =>
    intro d n τ hd hn
    obtain ⟨n, rfl⟩ : ∃ k, n = k + 1 := ⟨n - 1, by omega⟩
    rw [fX0_removeOthers_l2, if_neg (nI_ge (by omega) (by omega)), rmN]
    by_cases e : d = c
    · rw [if_pos (by rw [e]), if_pos e, nI_add, ih (d + 1) n τ (by omega) (by omega)]
    · rw [if_neg (fun z => e ((nI_eq (by omega) (by omega)).mp z)), if_neg e, p_mul, nI_add, p_wr (by omega) (by omega), Option.bind_some, nI_add, ih (d + 1) n _ (by omega) (by omega)]
theorem rmN_spec {l c : Nat} (hl : l < 32) : ∀ (r d : Nat) (τ : zSt), (∀ e, d ≤ e → e < d + r → e ≠ c → rmN l c r d τ 2 (e * 32 + l) = nI 0) ∧ (∀ j, (∀ e, d ≤ e → e < d + r → e ≠ c → j ≠ e * 32 + l) → rmN l c r d τ 2 j = τ 2 j) ∧ ∀ i, i ≠ 2 → rmN l c r d τ i = τ i := by
  intro r
  induction r with
  | zero => intro d τ; exact ⟨fun e h1 h2 => by omega, fun j _ => rfl, fun i _ => rfl⟩
  | succ r ih =>
    intro d τ
    show (∀ e, _ → _ → _ → rmN l c r (d + 1) (if d = c then τ else wr τ 2 (d * 32 + l) (nI 0)) 2 (e * 32 + l) = _) ∧ (∀ j, _ → rmN l c r (d + 1) (if d = c then τ else wr τ 2 (d * 32 + l) (nI 0)) 2 j = _) ∧ ∀ i, _ → rmN l c r (d + 1) (if d = c then τ else wr τ 2 (d * 32 + l) (nI 0)) i = _
    by_cases e : d = c
    · rw [if_pos e]
      obtain ⟨i1, i2, i3⟩ := ih (d + 1) τ
      exact ⟨fun e' h1 h2 h3 => i1 e' (by omega) (by omega) h3, fun j hj => i2 j fun e' h1 h2 h3 => hj e' (by omega) (by omega) h3, i3⟩
    · rw [if_neg e]
      obtain ⟨i1, i2, i3⟩ := ih (d + 1) (wr τ 2 (d * 32 + l) (nI 0))
      refine ⟨fun e' h1 h2 h3 => ?_, fun j hj => ?_, fun i hi => by rw [i3 i hi, wr_o hi]⟩
      · by_cases e1 : e' = d
        · rw [e1, i2 _ (fun e2 g1 g2 g3 => by omega), wr_e]
        · exact i1 e' (by omega) (by omega) h3
      · rw [i2 j (fun e' h1 h2 h3 => hj e' (by omega) (by omega) h3), wr_n (hj d (by omega) (by omega) e)]
theorem qx_rmo {τ : zSt} {l c : Nat} (hl : l < 32) (hc : c < 6) : fX0_removeOthers (nI c) (nI l) τ = some (rmN l c 6 0 τ) := qx_rmo_l hl hc 6 0 z_fu τ rfl (by decide)
theorem qx_bringBack {τ : zSt} {c l : Nat} (hc : c < 6) (hl : l < 32) : fX4_bringBack (nI c) (nI l) τ = some (ws (wr τ 0 l (τ 3 (c * 32 + l))) 26 (τ 26 0 + nI 1)) := by
  unfold fX4_bringBack
  rw [qx_valueOf hc hl, Option.bind_some, p_wr hl (by omega), Option.bind_some, p_ws, Option.bind_some, wr_o (by omega)]
theorem qx_share {τ : zSt} {c l : Nat} (hc : c < 6) (hl : l < 32) : fX0_share (nI c) (nI l) τ = some (wr τ 2 (c * 32 + l) (nI 1)) := by
  unfold fX0_share
  rw [p_mul, nI_add, p_wr (by omega) (by omega), Option.bind_some]
theorem rl_reach2 {n S R P U D l c : Nat} {w : Int32} {E : Nat → Prop} {X : Nat → Nat → Prop} {σ τ : zSt} (h : mInv n S R P U D E X σ τ) (hl : l < 32) (hc : c < n) (hm : τ 2 (c * 32 + l) ≠ nI 2) : fX4_fetch_j23 (nI c) (nI l) w τ = fX4_fetch_j69 (nI c) (nI l) (vsN l w c n 0 τ) := by
  obtain ⟨⟨⟨a1, a2, -⟩, -⟩, -, -, -, hKi, hOn, hCo, -⟩ := h
  obtain ⟨v1, v2, v3, v4, v5⟩ := vsN_spec (c := c) (w := w) hl n 0 τ (fun e e' z1 z2 g1 g2 g3 g4 => hOn e e' l (by omega) (by omega) hl z1 z2)
  unfold fX4_fetch_j23
  rw [qx_ownerOf hl, Option.bind_some]
  have out : ∀ d, n ≤ d → d < 6 → τ 2 (d * 32 + l) = 0 := fun d h1 h2 => kd_out hCo h1 h2 hl
  cases ho : pF (fun c => τ 2 (c * 32 + l) = nI 2) 6 0 with
  | none =>
    have hno : ∀ d, d < 6 → τ 2 (d * 32 + l) ≠ nI 2 := fun d hd => pF_none.mp ho d (by omega) (by omega)
    obtain ⟨u1, u2⟩ := v4 fun o _ h2 _ => hno o (by omega)
    rw [oI_none, if_pos rfl]
    unfold fX4_fetch_j56
    by_cases hw : w = 0
    · rw [if_pos hw]
      congr 1
      funext i j
      by_cases i0 : i = 0
      · rw [i0, u1]
      · by_cases i26 : i = 26
        · rw [i26, u2]
        · by_cases i2 : i = 2
          · subst i2
            by_cases hj : ∃ e, e < n ∧ e ≠ c ∧ τ 2 (e * 32 + l) ≠ 0 ∧ j = e * 32 + l
            · obtain ⟨e, e1, e2, e3, rfl⟩ := hj
              rw [v1 e (by omega) (by omega) e2 e3, if_pos hw]
              exact ((hKi e l (by omega) hl).resolve_left e3).resolve_right (hno e (by omega))
            · rw [v2 j fun e _ g2 g3 g4 z => hj ⟨e, by omega, g3, g4, z⟩]
          · rw [v5 i i0 i2 i26]
    · rw [if_neg hw, qx_rmo hl (by omega), Option.bind_some]
      obtain ⟨r1, r2, r3⟩ := rmN_spec (c := c) hl 6 0 τ
      congr 1
      funext i j
      by_cases i2 : i = 2
      · subst i2
        by_cases hj : ∃ e, e < 6 ∧ e ≠ c ∧ j = e * 32 + l
        · obtain ⟨e, e1, e2, rfl⟩ := hj
          rw [r1 e (by omega) (by omega) e2]
          by_cases ek : τ 2 (e * 32 + l) = 0
          · rw [v2 _ fun e' _ g2 g3 g4 z => by
              have : e = e' := by omega
              subst this
              exact g4 ek, ek, nI_0]
          · have en : e < n := by
              by_cases q : e < n
              · exact q
              · exact absurd (out e (by omega) e1) ek
            rw [v1 e (by omega) (by omega) e2 ek, if_neg hw]
        · rw [r2 j fun e _ g2 g3 z => hj ⟨e, by omega, g3, z⟩, v2 j fun e _ g2 g3 _ z => hj ⟨e, by omega, g3, z⟩]
      · rw [r3 i i2]
        by_cases i0 : i = 0
        · rw [i0, u1]
        · by_cases i26 : i = 26
          · rw [i26, u2]
          · rw [v5 i i0 i2 i26]
  | some o =>
    obtain ⟨-, o2, o3, -⟩ := pF_some ho
    have on : o < n := by
      by_cases q : o < n
      · exact q
      · rw [out o (by omega) (by omega)] at o3
        exact absurd o3 (by decide)
    have oc : o ≠ c := fun z => hm (by rw [← z]; exact o3)
    have huniq : ∀ e, e < 6 → τ 2 (e * 32 + l) = nI 2 → e = o := fun e he z => hOn e o l he (by omega) hl z o3
    obtain ⟨u1, u2⟩ := v3 o (by omega) (by omega) oc o3
    rw [oI_some, if_neg (p_nneg (by omega)), qx_bringBack (by omega) hl, Option.bind_some, qx_share (by omega) hl, Option.bind_some]
    generalize hρ : wr (ws (wr τ 0 l (τ 3 (o * 32 + l))) 26 (τ 26 0 + nI 1)) 2 (o * 32 + l) (nI 1) = ρ
    have p0 : ρ 0 = upd (τ 0) l (τ 3 (o * 32 + l)) := by rw [← hρ, wr_o (by omega), ws_o (by omega)]; exact p_ze _ _ _
    have p26 : ρ 26 = fun _ => τ 26 0 + nI 1 := by rw [← hρ, wr_o (by omega)]; exact p_ze _ _ _
    have p2 : ρ 2 (o * 32 + l) = nI 1 := by rw [← hρ, wr_e]
    have p2' : ∀ j, j ≠ o * 32 + l → ρ 2 j = τ 2 j := fun j hj => by rw [← hρ, wr_n hj, ws_o (by omega), wr_o (by omega)]
    have po : ∀ i, i ≠ 0 → i ≠ 2 → i ≠ 26 → ρ i = τ i := fun i g1 g2 g3 => by rw [← hρ, wr_o g2, ws_o g3, wr_o g1]
    unfold fX4_fetch_j56
    by_cases hw : w = 0
    · rw [if_pos hw]
      congr 1
      funext i j
      by_cases i0 : i = 0
      · rw [i0, u1, p0]
      · by_cases i26 : i = 26
        · rw [i26, u2, p26]
        · by_cases i2 : i = 2
          · subst i2
            by_cases hj : ∃ e, e < n ∧ e ≠ c ∧ τ 2 (e * 32 + l) ≠ 0 ∧ j = e * 32 + l
            · obtain ⟨e, e1, e2, e3, rfl⟩ := hj
              rw [v1 e (by omega) (by omega) e2 e3, if_pos hw]
              by_cases eo : e = o
              · rw [eo, p2]
              · rw [p2' _ (by omega)]
                exact ((hKi e l (by omega) hl).resolve_left e3).resolve_right fun z => eo (huniq e (by omega) z)
            · rw [v2 j fun e _ g2 g3 g4 z => hj ⟨e, by omega, g3, g4, z⟩, p2' j fun z => hj ⟨o, on, oc, by rw [o3]; decide, z⟩]
          · rw [v5 i i0 i2 i26, po i i0 i2 i26]
    · rw [if_neg hw, qx_rmo hl (by omega), Option.bind_some]
      obtain ⟨r1, r2, r3⟩ := rmN_spec (c := c) hl 6 0 ρ
      congr 1
      funext i j
      by_cases i2 : i = 2
      · subst i2
        by_cases hj : ∃ e, e < 6 ∧ e ≠ c ∧ j = e * 32 + l
        · obtain ⟨e, e1, e2, rfl⟩ := hj
          rw [r1 e (by omega) (by omega) e2]
          by_cases ek : τ 2 (e * 32 + l) = 0
          · rw [v2 _ fun e' _ g2 g3 g4 z => by
              have : e = e' := by omega
              subst this
              exact g4 ek, ek, nI_0]
          · have en : e < n := by
              by_cases q : e < n
              · exact q
              · exact absurd (out e (by omega) e1) ek
            rw [v1 e (by omega) (by omega) e2 ek, if_neg hw]
        · rw [r2 j fun e _ g2 g3 z => hj ⟨e, by omega, g3, z⟩, v2 j fun e _ g2 g3 _ z => hj ⟨e, by omega, g3, z⟩, p2' j fun z => hj ⟨o, o2, oc, z⟩]
      · rw [r3 i i2]
        by_cases i0 : i = 0
        · rw [i0, u1, p0]
        · by_cases i26 : i = 26
          · rw [i26, u2, p26]
          · rw [v5 i i0 i2 i26, po i i0 i2 i26]
