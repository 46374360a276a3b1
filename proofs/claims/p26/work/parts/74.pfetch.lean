/-! a request's steps keep what holds of a machine -/
theorem pS_ge {f : Nat → Nat} {j : Nat} : ∀ {r k : Nat}, k ≤ j → j < k + r → f j ≤ pS f r k := by
  intro r
  induction r with
  | zero => intro k h1 h2; omega
  | succ r ih =>
    intro k h1 h2
    show f j ≤ f k + pS f r (k + 1)
    by_cases e : k = j
    · rw [e]; omega
    · have := ih (k := k + 1) (by omega) (by omega)
      omega
theorem cnt_zero {τ : zSt} {l : Nat} : pS (fun c => if τ 2 (c * 32 + l) = 0 then 0 else 1) 6 0 = 0 ↔ ∀ c, c < 6 → τ 2 (c * 32 + l) = 0 := by
  refine ⟨fun h c hc => ?_, fun h => pS_zero fun c _ hc => if_pos (h c (by omega))⟩
  have h1 : (if τ 2 (c * 32 + l) = 0 then 0 else 1) ≤ pS (fun c => if τ 2 (c * 32 + l) = 0 then 0 else 1) 6 0 := pS_ge (f := fun c => if τ 2 (c * 32 + l) = 0 then 0 else 1) (by omega) (by omega)
  rw [h] at h1
  exact Classical.byContradiction fun z => by
    rw [if_neg z] at h1
    omega
theorem cnt_le {τ : zSt} {l : Nat} : pS (fun c => if τ 2 (c * 32 + l) = 0 then 0 else 1) 6 0 ≤ 6 := by
  have := pS_le (f := fun c => if τ 2 (c * 32 + l) = 0 then 0 else 1) (m := 1) (fun j => by
    show (if τ 2 (j * 32 + l) = 0 then 0 else 1) ≤ 1
    split <;> omega) (r := 6) (k := 0)
  omega
theorem pg_pos {n S R P U D : Nat} {X : Nat → Nat → Prop} {τ : zSt} (h : pInv n S R P U D X τ) {l : Nat} (hl : l < 32) : τ 6 l ≤ 0 ↔ τ 6 l = 0 := by
  obtain ⟨-, -, -, -, -, hP, -, -, hN⟩ := h
  rcases hP l hl with z | ⟨-, d, d1, d2, z⟩
  · rw [z]; exact ⟨fun _ => rfl, fun _ => by decide⟩
  · have := hN.2.2.2
    rw [z]
    exact ⟨fun y => absurd y (nI_nle (by omega) (by omega)), fun y => absurd y (nI_ne0 (by omega) (by omega))⟩
/-- the next page to go, if none is free -/
theorem i_torn {n S R P U D : Nat} {X : Nat → Nat → Prop} {τ : zSt} (h : pInv n S R P U D X τ) : (P < R ∧ fX1_lineToTear τ = some (-1)) ∨ (P = R ∧ ∃ m, m < 32 ∧ τ 6 m ≠ 0 ∧ fX1_lineToTear τ = some (nI m)) := by
  obtain ⟨⟨⟨a1, a2, a3, a4, a5, a6, a7⟩, s19, s20, s14, s15, sP⟩, -⟩ := id h
  by_cases c : P < R
  · exact Or.inl ⟨c, qx_lineToTear0 (by rw [s14, s15]; exact nI_ge c (by omega))⟩
  · obtain ⟨o, o1, o2, o3⟩ := qx_lineToTear (τ := τ) (by rw [s14, s15]; exact nI_le (by omega) (by omega))
    refine Or.inr ⟨by omega, ?_⟩
    cases o with
    | none =>
      have hz : pgs τ = 0 := pS_zero fun j _ hj => if_pos ((pg_pos h (by omega)).mp (o2 rfl j (by omega)))
      omega
    | some m =>
      obtain ⟨m1, m2, -⟩ := o3 m rfl
      exact ⟨m, m1, fun z => m2 ((pg_pos h m1).mpr z), o1⟩
theorem i_room {n S R P U D : Nat} {τ : zSt} (h : pInv n S R P U D noX τ) : ∃ Q τ', fX4_makeRoomInDiary τ = some τ' ∧ pInv n S R Q U D noX τ' ∧ Q < R ∧ (∀ l, τ 6 l = 0 → τ' 6 l = 0) ∧ ∀ i, i ≠ 6 → i ≠ 15 → i ≠ 17 → i ≠ 13 → τ' i = τ i := by
  unfold fX4_makeRoomInDiary
  rcases i_torn h with ⟨c, e⟩ | ⟨c, m, m1, m2, e⟩
  · rw [e, Option.bind_some, if_pos rfl]
    exact ⟨P, τ, rfl, h, c, fun _ z => z, fun _ _ _ _ _ => rfl⟩
  · rw [e, Option.bind_some, if_neg (p_nneg (by omega)), qx_countOf m1, Option.bind_some]
    have tearIt : ∀ b : Int32, (b = 0 ↔ ∀ c, c < 6 → τ 2 (c * 32 + m) = 0) → ∃ Q τ', fX4_makeRoomInDiary_j34 b (nI m) τ = some τ' ∧ pInv n S R Q U D noX τ' ∧ Q < R ∧ (∀ l, τ 6 l = 0 → τ' 6 l = 0) ∧ ∀ i, i ≠ 6 → i ≠ 15 → i ≠ 17 → i ≠ 13 → τ' i = τ i := by
      intro b hb
      obtain ⟨τ', t1, t6, t15, t17, t13, to⟩ := qx_tearOut (τ := τ) (l := m) (b := b) m1
      obtain ⟨Q, q1, q2⟩ := i_tear h m1 m2 hb t6 t15 t13 (fun i i1 i2 i3 i4 => to i i1 i2 i3 i4)
      refine ⟨Q, τ', ?_, q2, by omega, fun l z => ?_, to⟩
      · unfold fX4_makeRoomInDiary_j34
        rw [t1, Option.bind_some]
      · rw [t6]
        by_cases el : l = m
        · rw [el, p_upe, nI_0]
        · rw [p_upn el]; exact z
    by_cases h0 : pS (fun c => if τ 2 (c * 32 + m) = 0 then 0 else 1) 6 0 = 0
    · rw [if_pos ((nI_le0 (by have := cnt_le (τ := τ) (l := m); omega)).mpr h0)]
      exact tearIt (nI 0) ⟨fun _ => cnt_zero.mp h0, fun _ => nI_0⟩
    · rw [if_neg (mt (nI_le0 (by have := cnt_le (τ := τ) (l := m); omega)).mp h0)]
      exact tearIt (nI 1) ⟨fun z => absurd z (by decide), fun z => absurd (cnt_zero.mpr z) h0⟩
theorem i_open {n S R P U D c l : Nat} {w : Int32} {τ : zSt} (h : pInv n S R P U D noX τ) (hl : l < 9) (hD : D + 1 ≤ 100000) : ∃ P' D' τ', fX4_fetch (nI c) (nI l) w τ = fX4_fetch_j23 (nI c) (nI l) w τ' ∧ pInv n S R P' U D' noX τ' ∧ D' ≤ D + 1 ∧ τ' 6 l ≠ 0 ∧ ∀ i, i ≠ 6 → i ≠ 12 → i ≠ 13 → i ≠ 15 → i ≠ 16 → i ≠ 17 → τ' i = τ i := by
  unfold fX4_fetch
  rw [qx_hasPage (by omega), Option.bind_some]
  by_cases h6 : τ 6 l = 0
  · rw [if_pos ((pg_pos h (by omega)).mpr h6), if_pos nI_0]
    obtain ⟨Q, τ1, t1, t2, t3, t4, t5⟩ := i_room h
    obtain ⟨τ2, u1, u6, u12, u15, u16, u13, uo⟩ := qx_makePage (τ := τ1) (l := l) (by omega)
    obtain ⟨v1, v2⟩ := i_make t2 hl (t4 l h6) t3 hD u6 u12 u15 u13 uo
    rw [t1, Option.bind_some, u1, Option.bind_some]
    exact ⟨Q + 1, D + 1, τ2, rfl, v1, by omega, v2, fun i i1 i2 i3 i4 i5 i6 => by rw [uo i i1 i2 i4 i5 i3, t5 i i1 i4 i6 i3]⟩
  · rw [if_neg (mt (pg_pos h (by omega)).mp h6), if_neg (by decide)]
    exact ⟨P, D, τ, rfl, h, by omega, h6, fun _ _ _ _ _ _ _ => rfl⟩
theorem i_j23 {n S R P U D c l : Nat} {w : Int32} {τ : zSt} (h : pInv n S R P U D noX τ) (hl : l < 32) : ∃ τ', fX4_fetch_j23 (nI c) (nI l) w τ = fX4_fetch_j56 (nI c) (nI l) w τ' ∧ pInv n S R P U D noX τ' ∧ (∀ d, d < 6 → τ' 2 (d * 32 + l) ≠ nI 2) ∧ ∀ i, i ≠ 0 → i ≠ 2 → i ≠ 26 → τ' i = τ i := by
  unfold fX4_fetch_j23
  rw [qx_ownerOf hl, Option.bind_some]
  cases ho : pF (fun c => τ 2 (c * 32 + l) = nI 2) 6 0 with
  | none =>
    rw [oI_none, if_pos rfl]
    exact ⟨τ, rfl, h, fun d hd => pF_none.mp ho d (by omega) (by omega), fun _ _ _ _ => rfl⟩
  | some d =>
    obtain ⟨d1, d2, d3, -⟩ := pF_some ho
    have hd : d < 6 := by omega
    rw [oI_some, if_neg (p_nneg (by omega)), qx_bringBack hd hl, Option.bind_some, qx_share hd hl, Option.bind_some]
    generalize hτ : wr (ws (wr τ 0 l (τ 3 (d * 32 + l))) 26 (τ 26 0 + nI 1)) 2 (d * 32 + l) (nI 1) = τ'
    have e0 : τ' 0 = upd (τ 0) l (τ 3 (d * 32 + l)) := by
      rw [← hτ, wr_o (by omega), ws_o (by omega)]
      exact p_ze _ _ _
    have e2 : τ' 2 = upd (τ 2) (d * 32 + l) (nI 1) := by
      rw [← hτ]
      show z_up _ 2 _ 2 = _
      rw [p_ze, ws_o (by omega), wr_o (by omega)]
    have eo : ∀ i, i ≠ 0 → i ≠ 2 → i ≠ 26 → τ' i = τ i := fun i i1 i2 i3 => by rw [← hτ, wr_o i2, ws_o i3, wr_o i1]
    obtain ⟨v1, v2⟩ := i_share h hd hl d3 e0 e2 eo
    exact ⟨τ', rfl, v1, v2, eo⟩
theorem i_j56 {n S R P U D c l : Nat} {w : Int32} {τ : zSt} (h : pInv n S R P U D noX τ) (hc : c < 6) (hl : l < 32) (hno : ∀ d, d < 6 → τ 2 (d * 32 + l) ≠ nI 2) : ∃ τ', fX4_fetch_j56 (nI c) (nI l) w τ = fX4_fetch_j69 (nI c) (nI l) τ' ∧ pInv n S R P U D noX τ' ∧ (∀ d, d < 6 → τ' 2 (d * 32 + l) ≠ nI 2) ∧ (w ≠ 0 → ∀ d, d < 6 → d ≠ c → τ' 2 (d * 32 + l) = 0) ∧ ∀ i, i ≠ 2 → τ' i = τ i := by
  unfold fX4_fetch_j56
  by_cases hw : w = 0
  · rw [if_pos hw]
    exact ⟨τ, rfl, h, hno, fun z => absurd hw z, fun _ _ => rfl⟩
  · rw [if_neg hw, qx_rmo hl hc, Option.bind_some]
    obtain ⟨r1, r2, r3⟩ := rmN_spec (l := l) (c := c) hl 6 0 τ
    have e2 : ∀ d j, d < 6 → j < 32 → (rmN l c 6 0 τ 2 (d * 32 + j) = τ 2 (d * 32 + j) ∧ ¬ (j = l ∧ d ≠ c)) ∨ (rmN l c 6 0 τ 2 (d * 32 + j) = 0 ∧ j = l ∧ d ≠ c) := fun d j hd hj => by
      by_cases e : j = l ∧ d ≠ c
      · refine Or.inr ⟨?_, e.1, e.2⟩
        rw [e.1, r1 d (by omega) (by omega) e.2, nI_0]
      · refine Or.inl ⟨r2 _ fun d' _ h2 h3 => ?_, e⟩
        intro z
        have hz : d' = d ∧ j = l := by omega
        exact e ⟨hz.2, hz.1 ▸ h3⟩
    refine ⟨_, rfl, i_rem h (fun d j hd hj => ?_) r3, fun d hd z => ?_, fun _ d hd hdc => ?_, r3⟩
    · rcases e2 d j hd hj with ⟨y, -⟩ | ⟨y, y2, -⟩
      · exact Or.inl y
      · exact Or.inr ⟨y, by rw [y2]; exact hno d hd⟩
    · rcases e2 d l hd hl with ⟨y, -⟩ | ⟨y, -⟩
      · exact hno d hd (y ▸ z)
      · rw [y] at z
        exact absurd z (by decide)
    · rw [r1 d (by omega) (by omega) hdc, nI_0]
theorem slot8 {n S R P U D c : Nat} {X : Nat → Nat → Prop} {τ : zSt} (h : pInv n S R P U D X τ) (hc : c < 6) : ∀ l, l < 32 → τ 2 (c * 32 + l) ≠ 0 → ∃ s, s < 8 ∧ τ 4 (c * 32 + l) = nI s := fun l hl z => by
  obtain ⟨⟨⟨a1, a2, a3, a4, a5, a6, a7⟩, -⟩, hC, -⟩ := h
  rcases hC c l hc hl with y | ⟨_, _, _, _, ⟨s, s1, s2⟩, _⟩
  · exact absurd y z
  · exact ⟨s, by omega, s2⟩
theorem i_ltd {n S R P U D c : Nat} {X : Nat → Nat → Prop} {τ : zSt} (h : pInv n S R P U D X τ) (hc : c < 6) : ∃ o : Option Nat, fX4_lineToDrop (nI c) τ = some (oI o) ∧ (o = none → ∃ s, s < S ∧ isFr τ c s ∧ fX0_freeSlot (nI c) (nI S) τ = some (nI s)) ∧ ∀ d, o = some d → d < 32 ∧ τ 2 (c * 32 + d) ≠ 0 ∧ (∀ f, f < S → ¬ isFr τ c f) ∧ ∀ j, j < 32 → τ 2 (c * 32 + j) ≠ 0 → τ 5 (c * 32 + d) ≤ τ 5 (c * 32 + j) := by
  obtain ⟨⟨⟨a1, a2, a3, a4, a5, a6, a7⟩, s19, s20, -⟩, -⟩ := id h
  unfold fX4_lineToDrop
  rw [s20]
  obtain ⟨r, r1, r2, r3⟩ := qx_freeSlot (τ := τ) (c := c) (S := S) hc a4 (slot8 h hc)
  rw [r1, Option.bind_some]
  cases r with
  | some f =>
    obtain ⟨f1, f2, -⟩ := r3 f rfl
    rw [oI_some, if_neg (p_nneg (by omega))]
    exact ⟨none, rfl, fun _ => ⟨f, f1, f2, rfl⟩, fun d z => by cases z⟩
  | none =>
    rw [oI_none, if_pos rfl]
    obtain ⟨o, o1, o2, o3⟩ := qx_leastUsed (τ := τ) (c := c) hc
    rw [o1, Option.bind_some]
    refine ⟨o, rfl, fun z => ?_, fun d z => ?_⟩
    · exact absurd (fun l hl hk => absurd (o2 z l hl) hk) (r2 rfl 0 (by omega))
    · obtain ⟨d1, d2, d3⟩ := o3 d z
      exact ⟨d1, d2, r2 rfl, d3⟩
/-- a copy goes, brought back if it is owned -/
theorem i_drop {n S R P U D c d : Nat} {X : Nat → Nat → Prop} {τ : zSt} (h : pInv n S R P U D X τ) (hc : c < 6) (hd : d < 32) : pInv n S R P U D X (dropT c d τ) ∧ dropT c d τ 2 = upd (τ 2) (c * 32 + d) (nI 0) ∧ (∀ i, i ≠ 0 → i ≠ 2 → i ≠ 26 → dropT c d τ i = τ i) := by
  have e2 : dropT c d τ 2 = upd (τ 2) (c * 32 + d) (nI 0) := by
    unfold dropT
    show z_up _ 2 _ 2 = _
    rw [p_ze]
    split
    · rw [ws_o (by omega), wr_o (by omega)]
    · rfl
  have eo : ∀ i, i ≠ 0 → i ≠ 2 → i ≠ 26 → dropT c d τ i = τ i := fun i i1 i2 i3 => by
    unfold dropT
    rw [wr_o i2]
    split
    · rw [ws_o i3, wr_o i1]
    · rfl
  refine ⟨?_, e2, eo⟩
  by_cases hk : τ 2 (c * 32 + d) = nI 2
  · have hD : dropT c d τ = wr (ws (wr τ 0 d (τ 3 (c * 32 + d))) 26 (τ 26 0 + nI 1)) 2 (c * 32 + d) (nI 0) := by
      unfold dropT
      rw [if_pos hk]
    generalize hκ : wr (ws (wr τ 0 d (τ 3 (c * 32 + d))) 26 (τ 26 0 + nI 1)) 2 (c * 32 + d) (nI 1) = κ
    have k0 : κ 0 = upd (τ 0) d (τ 3 (c * 32 + d)) := by
      rw [← hκ, wr_o (by omega), ws_o (by omega)]
      exact p_ze _ _ _
    have k2 : κ 2 = upd (τ 2) (c * 32 + d) (nI 1) := by
      rw [← hκ]
      show z_up _ 2 _ 2 = _
      rw [p_ze, ws_o (by omega), wr_o (by omega)]
    have ko : ∀ i, i ≠ 0 → i ≠ 2 → i ≠ 26 → κ i = τ i := fun i i1 i2 i3 => by rw [← hκ, wr_o i2, ws_o i3, wr_o i1]
    obtain ⟨v1, -⟩ := i_share h hc hd hk k0 k2 ko
    refine i_rem v1 (fun c' l' hc' hl' => ?_) (fun i hi => ?_)
    · rw [e2, k2]
      by_cases e : c' = c ∧ l' = d
      · rw [e.1, e.2, p_upe, p_upe]
        exact Or.inr ⟨nI_0, by decide⟩
      · rw [p_upk hl' hd e, p_upk hl' hd e]
        exact Or.inl rfl
    · rw [hD, ← hκ, wr_o hi, wr_o hi]
  · refine i_rem h (fun c' l' hc' hl' => ?_) (fun i hi => ?_)
    · rw [e2]
      by_cases e : c' = c ∧ l' = d
      · rw [e.1, e.2, p_upe]
        exact Or.inr ⟨nI_0, hk⟩
      · rw [p_upk hl' hd e]
        exact Or.inl rfl
    · unfold dropT
      rw [if_neg hk, wr_o hi]
theorem i_j101 {n S R P U D c l : Nat} {w : Int32} {τ : zSt} (h : pInv n S R P U D noX τ) (hc : c < n) (hl : l < 9) (hk : τ 2 (c * 32 + l) = 0) (hno : ∀ d, d < 6 → τ 2 (d * 32 + l) ≠ nI 2) (h6 : τ 6 l ≠ 0) (hD : D + 1 ≤ 100000) (hfr : ∃ s, s < S ∧ isFr τ c s) (hw : w ≠ 0 → ∀ d, d < 6 → d ≠ c → τ 2 (d * 32 + l) = 0) : ∃ τ', fX4_fetch_j101 (nI c) (nI l) τ = some τ' ∧ pInv n S R P U (D + 1) (atX c l) τ' ∧ τ' 2 (c * 32 + l) ≠ 0 ∧ (w ≠ 0 → ∀ d, d < 6 → d ≠ c → τ' 2 (d * 32 + l) = 0) ∧ ∀ i, i ≠ 2 → i ≠ 3 → i ≠ 4 → i ≠ 6 → i ≠ 12 → τ' i = τ i := by
  obtain ⟨⟨⟨a1, a2, a3, a4, a5, a6, a7⟩, s19, s20, -⟩, -⟩ := id h
  have hc6 : c < 6 := by omega
  have hl' : l < 32 := by omega
  obtain ⟨r, r1, r2, r3⟩ := qx_freeSlot (τ := τ) (c := c) (S := S) hc6 a4 (slot8 h hc6)
  unfold fX4_fetch_j101 fX0_add
  rw [p_ag hl' (by omega), Option.bind_some, s20, r1, Option.bind_some]
  cases r with
  | none =>
    obtain ⟨s, h1, h2⟩ := hfr
    exact absurd h2 (r2 rfl s h1)
  | some s =>
    obtain ⟨s1, s2, -⟩ := r3 s rfl
    rw [oI_some, p_mul, nI_add, p_wr (by omega) (by omega), Option.bind_some, p_wr (by omega) (by omega), Option.bind_some, p_wr (by omega) (by omega), Option.bind_some, Option.bind_some, qx_use hl']
    generalize hκ : wr (wr (wr τ 2 (c * 32 + l) (nI 1)) 3 (c * 32 + l) (τ 0 l)) 4 (c * 32 + l) (nI s) = κ
    have k2 : κ 2 = upd (τ 2) (c * 32 + l) (nI 1) := by
      rw [← hκ, wr_o (by omega), wr_o (by omega)]
      exact p_ze _ _ _
    have k3 : κ 3 = upd (τ 3) (c * 32 + l) (τ 0 l) := by
      rw [← hκ, wr_o (by omega)]
      show z_up _ 3 _ 3 = _
      rw [p_ze, wr_o (by omega)]
    have k4 : κ 4 = upd (τ 4) (c * 32 + l) (nI s) := by
      rw [← hκ]
      show z_up _ 4 _ 4 = _
      rw [p_ze, wr_o (by omega), wr_o (by omega)]
    have ko : ∀ i, i ≠ 2 → i ≠ 3 → i ≠ 4 → κ i = τ i := fun i i1 i2 i3 => by rw [← hκ, wr_o i3, wr_o i2, wr_o i1]
    have hf := i_fill h hc hl hk hno s1 s2 h6 k2 k3 k4 ko
    have k12 : κ 12 0 + nI 1 = nI (D + 1) := by
      obtain ⟨-, -, -, -, -, -, -, -, hN⟩ := hf
      rw [hN.2.2.1, nI_add]
    rw [k12]
    have k6 : κ 6 = τ 6 := ko 6 (by omega) (by omega) (by omega)
    refine ⟨_, rfl, i_pguse hf hl (by rw [k6]; exact h6) hD ?_ ?_ (fun i i1 i2 => by rw [wr_o i1, ws_o i2]), ?_, fun z d hd hdc => ?_, fun i i1 i2 i3 i4 i5 => by rw [wr_o i4, ws_o i5, ko i i1 i2 i3]⟩
    · show z_up _ 6 _ 6 = _
      rw [p_ze, ws_o (by omega)]
    · rw [wr_o (by omega), ws_e]
    · rw [wr_o (by omega), ws_o (by omega), k2, p_upe]
      decide
    · rw [wr_o (by omega), ws_o (by omega), k2, p_upk hl' hl' (fun z => hdc z.1)]
      exact hw z d hd hdc
theorem i_j69 {n S R P U D c l : Nat} {w : Int32} {τ : zSt} (h : pInv n S R P U D noX τ) (hc : c < n) (hl : l < 9) (hno : ∀ d, d < 6 → τ 2 (d * 32 + l) ≠ nI 2) (h6 : τ 6 l ≠ 0) (hD : D + 1 ≤ 100000) (hw : w ≠ 0 → ∀ d, d < 6 → d ≠ c → τ 2 (d * 32 + l) = 0) : ∃ τ', fX4_fetch_j69 (nI c) (nI l) τ = some τ' ∧ pInv n S R P U (D + 1) (atX c l) τ' ∧ τ' 2 (c * 32 + l) ≠ 0 ∧ (w ≠ 0 → ∀ d, d < 6 → d ≠ c → τ' 2 (d * 32 + l) = 0) ∧ ∀ i, i ≠ 0 → i ≠ 2 → i ≠ 3 → i ≠ 4 → i ≠ 6 → i ≠ 12 → i ≠ 26 → τ' i = τ i := by
  obtain ⟨⟨⟨a1, a2, a3, a4, a5, a6, a7⟩, s19, s20, -⟩, -⟩ := id h
  have hc6 : c < 6 := by omega
  have hl' : l < 32 := by omega
  unfold fX4_fetch_j69
  rw [qx_kindOf hc6 hl', Option.bind_some]
  by_cases hk : τ 2 (c * 32 + l) = 0
  · rw [if_pos hk]
    obtain ⟨o, o1, o2, o3⟩ := i_ltd h hc6
    rw [o1, Option.bind_some]
    cases o with
    | none =>
      obtain ⟨s, f1, f2, -⟩ := o2 rfl
      rw [oI_none, if_pos rfl]
      obtain ⟨τ', t1, t2, t3, t4, t5⟩ := i_j101 (w := w) h hc hl hk hno h6 hD ⟨s, f1, f2⟩ hw
      exact ⟨τ', t1, t2, t3, t4, fun i i0 i2 i3 i4 i6 i12 _ => t5 i i2 i3 i4 i6 i12⟩
    | some d =>
      obtain ⟨d1, d2, d3, -⟩ := o3 d rfl
      rw [oI_some, if_neg (p_nneg (by omega)), qx_throwAway hc6 d1, Option.bind_some]
      obtain ⟨v1, v2, v3⟩ := i_drop h hc6 d1
      have hdl : ¬ l = d := fun e => d2 (by rw [← e]; exact hk)
      have same : ∀ c', dropT c d τ 2 (c' * 32 + l) = τ 2 (c' * 32 + l) := fun c' => by rw [v2, p_upk hl' d1 (fun z => hdl z.2)]
      have hfree : ∃ s, s < S ∧ isFr (dropT c d τ) c s := by
        obtain ⟨-, hC, -, hL, -⟩ := id h
        rcases hC c d hc6 d1 with y | ⟨_, _, _, _, ⟨s, s1, s2⟩, _⟩
        · exact absurd y d2
        · refine ⟨s, s1, fun j hj hk' e => ?_⟩
          rw [v3 4 (by omega) (by omega) (by omega)] at e
          rw [v2] at hk'
          by_cases ej : j = d
          · rw [ej, p_upe] at hk'
            exact hk' nI_0
          · rw [p_upk hj d1 (fun z => ej z.2)] at hk'
            exact ej (hL c j d hc6 hj d1 hk' d2 (by rw [e, s2]))
      obtain ⟨τ', t1, t2, t3, t4, t5⟩ := i_j101 (w := w) v1 hc hl (by rw [same]; exact hk) (fun c' hc' => by rw [same]; exact hno c' hc') (by rw [v3 6 (by omega) (by omega) (by omega)]; exact h6) hD hfree (fun z c' hc' hcc => by rw [same]; exact hw z c' hc' hcc)
      exact ⟨τ', t1, t2, t3, t4, fun i i0 i2 i3 i4 i6 i12 i26 => by rw [t5 i i2 i3 i4 i6 i12, v3 i i0 i2 i26]⟩
  · rw [if_neg hk, qx_use hl']
    have k12 : τ 12 0 + nI 1 = nI (D + 1) := by
      obtain ⟨-, -, -, -, -, -, -, -, hN⟩ := h
      rw [hN.2.2.1, nI_add]
    rw [k12]
    refine ⟨_, rfl, i_pguse (pInv_X h (X' := atX c l) (fun _ _ z => z.elim)) hl h6 hD ?_ ?_ (fun i i1 i2 => by rw [wr_o i1, ws_o i2]), ?_, fun z d hd hdc => ?_, fun i _ _ _ _ i4 i5 _ => by rw [wr_o i4, ws_o i5]⟩
    · show z_up _ 6 _ 6 = _
      rw [p_ze, ws_o (by omega)]
    · rw [wr_o (by omega), ws_e]
    · rw [wr_o (by omega), ws_o (by omega)]; exact hk
    · rw [wr_o (by omega), ws_o (by omega)]; exact hw z d hd hdc
theorem i_fetch {n S R P U D c l : Nat} {w : Int32} {τ : zSt} (h : pInv n S R P U D noX τ) (hc : c < n) (hl : l < 9) (hD : D + 2 ≤ 100000) : ∃ P' D' τ', fX4_fetch (nI c) (nI l) w τ = some τ' ∧ pInv n S R P' U D' (atX c l) τ' ∧ D' ≤ D + 2 ∧ τ' 2 (c * 32 + l) ≠ 0 ∧ (w ≠ 0 → ∀ d, d < 6 → d ≠ c → τ' 2 (d * 32 + l) = 0) ∧ ∀ i, i ≠ 0 → i ≠ 2 → i ≠ 3 → i ≠ 4 → i ≠ 6 → i ≠ 12 → i ≠ 13 → i ≠ 15 → i ≠ 16 → i ≠ 17 → i ≠ 26 → τ' i = τ i := by
  obtain ⟨⟨⟨a1, a2, -⟩, -⟩, -⟩ := id h
  obtain ⟨P1, D1, τ1, t1, t2, t3, t4, t5⟩ := i_open (c := c) (w := w) h hl (by omega)
  obtain ⟨τ2, u1, u2, u3, u4⟩ := i_j23 (c := c) (w := w) t2 (show l < 32 by omega)
  obtain ⟨τ3, v1, v2, v3, v4, v5⟩ := i_j56 (c := c) (w := w) u2 (by omega) (show l < 32 by omega) u3
  obtain ⟨τ4, w1, w2, w3, w4, w5⟩ := i_j69 (w := w) v2 hc hl v3 (by rw [v5 6 (by omega), u4 6 (by omega) (by omega) (by omega)]; exact t4) (by omega) v4
  refine ⟨P1, D1 + 1, τ4, by rw [t1, u1, v1, w1], w2, by omega, w3, w4, fun i i0 i2 i3 i4 i6 i12 i13 i15 i16 i17 i26 => ?_⟩
  rw [w5 i i0 i2 i3 i4 i6 i12 i26, v5 i i2, u4 i i0 i2 i26, t5 i i6 i12 i13 i15 i16 i17]
