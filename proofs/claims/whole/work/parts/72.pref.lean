/-! the reference's small methods in closed form -/
def sA (c s : Nat) : Nat := 110 + 4 * (8 * c + s)
theorem sA_lt {c s k : Nat} (hc : c < 6) (hs : s < 8) (hk : k < 4) : sA c s + k < 302 := by unfold sA; omega
theorem qr_slotAt {σ : zSt} (c s : Nat) : fX9_slotAt (nI c) (nI s) σ = some (nI (sA c s)) := by
  unfold fX9_slotAt sA
  rw [p_mul, nI_add, p_mul, nI_add]
/-- the address of the copy of x in cache c -/
def rcp (σ : zSt) (S c : Nat) (x : Int32) : Option Nat := (pF (fun s => σ 0 (sA c s) = x) S 0).map (sA c)
theorem qr_copyOf_l {σ : zSt} {c S : Nat} {x : Int32} (hc : c < 6) (hS : S ≤ 8) (h1 : σ 0 1 = nI S) : ∀ (r s n : Nat), s + r = S → r < n → fX9_copyOf_l2 σ (some (-1)) n (nI c) x (nI s) = some (oI ((pF (fun s => σ 0 (sA c s) = x) r s).map (sA c))) := by
  intro r
  induction r with
  | zero =>
    intro s n hs hn
    obtain ⟨n, rfl⟩ : ∃ k, n = k + 1 := ⟨n - 1, by omega⟩
    rw [fX9_copyOf_l2, p_ag (by omega) (by omega), Option.bind_some, h1, if_pos (nI_le (by omega) (by omega))]
    rfl
  | succ r ih =>
    intro s n hs hn
    obtain ⟨n, rfl⟩ : ∃ k, n = k + 1 := ⟨n - 1, by omega⟩
    have := sA_lt (c := c) (s := s) (k := 0) hc (by omega) (by omega)
    rw [fX9_copyOf_l2, p_ag (by omega) (by omega), Option.bind_some, h1, if_neg (nI_ge (by omega) (by omega)), qr_slotAt, Option.bind_some, p_ag (by omega) (by omega), Option.bind_some, Option.bind_some, pF]
    by_cases h : σ 0 (sA c s) = x
    · rw [if_pos h, if_pos h]
      rfl
    · rw [if_neg h, if_neg h, nI_add, ih (s + 1) n (by omega) (by omega)]
theorem qr_copyOf {σ : zSt} {c S : Nat} {x : Int32} (hc : c < 6) (hS : S ≤ 8) (h1 : σ 0 1 = nI S) : fX9_copyOf (nI c) x σ = some (oI (rcp σ S c x)) := qr_copyOf_l hc hS h1 S 0 z_fu (by omega) (Nat.lt_of_le_of_lt hS (by decide))
def rpg (σ : zSt) (P : Nat) (x : Int32) : Option Nat := (pF (fun p => σ 0 (302 + 4 * p) = x) P 0).map (fun p => 302 + 4 * p)
theorem qr_pageOf_l {σ : zSt} {P : Nat} {x : Int32} (hP : P ≤ 16) (h3 : σ 0 3 = nI P) : ∀ (r p n : Nat), p + r = P → r < n → fX9_pageOf_l2 σ (some (-1)) n x (nI p) = some (oI ((pF (fun p => σ 0 (302 + 4 * p) = x) r p).map (fun p => 302 + 4 * p))) := by
  intro r
  induction r with
  | zero =>
    intro p n hp hn
    obtain ⟨n, rfl⟩ : ∃ k, n = k + 1 := ⟨n - 1, by omega⟩
    rw [fX9_pageOf_l2, p_ag (by omega) (by omega), Option.bind_some, h3, if_pos (nI_le (by omega) (by omega))]
    rfl
  | succ r ih =>
    intro p n hp hn
    obtain ⟨n, rfl⟩ : ∃ k, n = k + 1 := ⟨n - 1, by omega⟩
    rw [fX9_pageOf_l2, p_ag (by omega) (by omega), Option.bind_some, h3, if_neg (nI_ge (by omega) (by omega)), p_mul, nI_add, p_ag (by omega) (by omega), Option.bind_some, pF]
    by_cases h : σ 0 (302 + 4 * p) = x
    · rw [if_pos h, if_pos h]
      rfl
    · rw [if_neg h, if_neg h, nI_add, ih (p + 1) n (by omega) (by omega)]
theorem qr_pageOf {σ : zSt} {P : Nat} {x : Int32} (hP : P ≤ 16) (h3 : σ 0 3 = nI P) : fX9_pageOf x σ = some (oI (rpg σ P x)) := qr_pageOf_l hP h3 P 0 z_fu (by omega) (Nat.lt_of_le_of_lt hP (by decide))
/-- the kind of cache c's copy of line l; 0: none -/
def rkd (σ : zSt) (S c l : Nat) : Int32 := match rcp σ S c (nI l) with
  | some a => σ 0 (a + 1)
  | none => 0
theorem rcp_some {σ : zSt} {S c a : Nat} {x : Int32} (h : rcp σ S c x = some a) : ∃ s, s < S ∧ a = sA c s ∧ σ 0 (sA c s) = x := by
  unfold rcp at h
  cases hp : pF (fun s => σ 0 (sA c s) = x) S 0 with
  | none => rw [hp] at h; cases h
  | some s =>
    rw [hp] at h
    obtain ⟨-, h2, h3, -⟩ := pF_some hp
    exact ⟨s, by omega, (Option.some.inj h).symm, h3⟩
theorem rcp_none {σ : zSt} {S c : Nat} {x : Int32} (h : rcp σ S c x = none) : ∀ s, s < S → σ 0 (sA c s) ≠ x := by
  unfold rcp at h
  cases hp : pF (fun s => σ 0 (sA c s) = x) S 0 with
  | none => exact fun s hs => pF_none.mp hp s (by omega) (by omega)
  | some s => rw [hp] at h; cases h
theorem rcp_at {σ : zSt} {S c s : Nat} {x : Int32} (hs : s < S) (h : σ 0 (sA c s) = x) (hu : ∀ t, t < s → σ 0 (sA c t) ≠ x) : rcp σ S c x = some (sA c s) := by
  unfold rcp
  rw [pF_mk (t := s) (by omega) (by omega) h (fun j _ hj => hu j hj)]
  rfl
theorem rpg_some {σ : zSt} {P a : Nat} {x : Int32} (h : rpg σ P x = some a) : ∃ p, p < P ∧ a = 302 + 4 * p ∧ σ 0 (302 + 4 * p) = x := by
  unfold rpg at h
  cases hp : pF (fun p => σ 0 (302 + 4 * p) = x) P 0 with
  | none => rw [hp] at h; cases h
  | some p =>
    rw [hp] at h
    obtain ⟨-, h2, h3, -⟩ := pF_some hp
    exact ⟨p, by omega, (Option.some.inj h).symm, h3⟩
theorem rpg_none {σ : zSt} {P : Nat} {x : Int32} (h : rpg σ P x = none) : ∀ p, p < P → σ 0 (302 + 4 * p) ≠ x := by
  unfold rpg at h
  cases hp : pF (fun p => σ 0 (302 + 4 * p) = x) P 0 with
  | none => exact fun p hq => pF_none.mp hp p (by omega) (by omega)
  | some s => rw [hp] at h; cases h
theorem rpg_at {σ : zSt} {P p : Nat} {x : Int32} (hp : p < P) (h : σ 0 (302 + 4 * p) = x) (hu : ∀ t, t < p → σ 0 (302 + 4 * t) ≠ x) : rpg σ P x = some (302 + 4 * p) := by
  unfold rpg
  rw [pF_mk (t := p) (by omega) (by omega) h (fun j _ hj => hu j hj)]
  rfl
theorem rcp_lt {σ : zSt} {S c a : Nat} {x : Int32} (hc : c < 6) (hS : S ≤ 8) (h : rcp σ S c x = some a) : a + 3 < 302 := by
  obtain ⟨s, h1, h2, -⟩ := rcp_some h
  rw [h2]
  exact sA_lt hc (by omega) (by omega)
theorem qr_ownerOf_l {σ : zSt} {n S l : Nat} (hn6 : n ≤ 6) (hS : S ≤ 8) (h0 : σ 0 0 = nI n) (h1 : σ 0 1 = nI S) : ∀ (r c m : Nat), c + r = n → r < m → fX9_ownerOf_l2 σ (some (-1)) m (nI l) (nI c) = some (oI (pF (fun c => rkd σ S c l = nI 2) r c)) := by
  intro r
  induction r with
  | zero =>
    intro c m hc hm
    obtain ⟨m, rfl⟩ : ∃ k, m = k + 1 := ⟨m - 1, by omega⟩
    rw [fX9_ownerOf_l2, p_ag (by omega) (by omega), Option.bind_some, h0, if_pos (nI_le (by omega) (by omega))]
    rfl
  | succ r ih =>
    intro c m hc hm
    obtain ⟨m, rfl⟩ : ∃ k, m = k + 1 := ⟨m - 1, by omega⟩
    rw [fX9_ownerOf_l2, p_ag (by omega) (by omega), Option.bind_some, h0, if_neg (nI_ge (by omega) (by omega)), qr_copyOf (by omega) hS h1, Option.bind_some, pF]
    cases hr : rcp σ S c (nI l) with
    | none =>
      have hk : rkd σ S c l = 0 := by unfold rkd; rw [hr]
      rw [oI_none, if_pos p_neg, hk, if_neg (by decide), nI_add, ih (c + 1) m (by omega) (by omega)]
    | some a =>
      have hk : rkd σ S c l = σ 0 (a + 1) := by unfold rkd; rw [hr]
      have ha := rcp_lt (by omega) hS hr
      rw [oI_some, if_neg (nI_pos (by omega)), nI_add, p_ag (by omega) (by omega), Option.bind_some, hk]
      by_cases h : σ 0 (a + 1) = nI 2
      · rw [if_pos h, if_pos h]
        rfl
      · rw [if_neg h, if_neg h, nI_add, ih (c + 1) m (by omega) (by omega)]
theorem qr_ownerOf {σ : zSt} {n S l : Nat} (hn6 : n ≤ 6) (hS : S ≤ 8) (h0 : σ 0 0 = nI n) (h1 : σ 0 1 = nI S) : fX9_ownerOf (nI l) σ = some (oI (pF (fun c => rkd σ S c l = nI 2) n 0)) := qr_ownerOf_l hn6 hS h0 h1 n 0 z_fu (by omega) (Nat.lt_of_le_of_lt hn6 (by decide))
theorem qr_sharersOf_l {σ : zSt} {n S l : Nat} (hn6 : n ≤ 6) (hS : S ≤ 8) (h0 : σ 0 0 = nI n) (h1 : σ 0 1 = nI S) : ∀ (r c m : Nat) (a : Int32), c + r = n → r < m → fX9_sharersOf_l4 σ (fun x4 => some x4) m (nI l) a (nI c) = some (pG (fun c a => if rkd σ S c l = nI 1 then a ||| ((nI 1) <<< (nI c &&& 31)) else a) r c a) := by
  intro r
  induction r with
  | zero =>
    intro c m a hc hm
    obtain ⟨m, rfl⟩ : ∃ k, m = k + 1 := ⟨m - 1, by omega⟩
    rw [fX9_sharersOf_l4, p_ag (by omega) (by omega), Option.bind_some, h0, if_pos (nI_le (by omega) (by omega))]
    rfl
  | succ r ih =>
    intro c m a hc hm
    obtain ⟨m, rfl⟩ : ∃ k, m = k + 1 := ⟨m - 1, by omega⟩
    have hor : a ||| nI 0 = a := b_ext fun i hi => by rw [b_or, show nI 0 = 0 from nI_0, b_0, Bool.or_false]
    rw [fX9_sharersOf_l4, p_ag (by omega) (by omega), Option.bind_some, h0, if_neg (nI_ge (by omega) (by omega)), qr_copyOf (by omega) hS h1, Option.bind_some, pG]
    unfold fX9_sharersOf_j47 fX9_sharersOf_j48
    cases hr : rcp σ S c (nI l) with
    | none =>
      have hk : rkd σ S c l = 0 := by unfold rkd; rw [hr]
      rw [oI_none, if_pos p_neg, hk, if_neg (by decide), nI_add, hor, ih (c + 1) m _ (by omega) (by omega)]
    | some a' =>
      have hk : rkd σ S c l = σ 0 (a' + 1) := by unfold rkd; rw [hr]
      have ha := rcp_lt (by omega) hS hr
      rw [oI_some, if_neg (nI_pos (by omega)), nI_add, p_ag (by omega) (by omega), Option.bind_some, hk]
      by_cases h : σ 0 (a' + 1) = nI 1
      · rw [if_pos h, if_pos h, nI_add, ih (c + 1) m _ (by omega) (by omega)]
      · rw [if_neg h, if_neg h, nI_add, hor, ih (c + 1) m _ (by omega) (by omega)]
theorem qr_sharersOf {σ : zSt} {n S l : Nat} (hn6 : n ≤ 6) (hS : S ≤ 8) (h0 : σ 0 0 = nI n) (h1 : σ 0 1 = nI S) : fX9_sharersOf (nI l) σ = some (shF (fun c => rkd σ S c l) n) := qr_sharersOf_l hn6 hS h0 h1 n 0 z_fu (nI 0) (by omega) (Nat.lt_of_le_of_lt hn6 (by decide))
theorem qr_oldestCopy_l {σ : zSt} {c S : Nat} (hc : c < 6) (hS : S ≤ 8) (h1 : σ 0 1 = nI S) : ∀ (r s n b : Nat), s + r = S → r < n → b < s → (∀ t, t < s → σ 0 (sA c b + 3) ≤ σ 0 (sA c t + 3)) →
    ∃ b', fX9_oldestCopy_l8 σ (fun x7 => some x7) n (nI c) (nI (sA c b)) (nI s) = some (nI (sA c b')) ∧ b' < S ∧ ∀ t, t < S → σ 0 (sA c b' + 3) ≤ σ 0 (sA c t + 3) := by
  intro r
  induction r with
  | zero =>
    intro s n b hs hn hb hm
    obtain ⟨n, rfl⟩ : ∃ k, n = k + 1 := ⟨n - 1, by omega⟩
    obtain rfl : s = S := by omega
    rw [fX9_oldestCopy_l8, p_ag (by omega) (by omega), Option.bind_some, h1, if_pos (nI_le (by omega) (by omega))]
    exact ⟨b, rfl, hb, hm⟩
  | succ r ih =>
    intro s n b hs hn hb hm
    obtain ⟨n, rfl⟩ : ∃ k, n = k + 1 := ⟨n - 1, by omega⟩
    have g1 := sA_lt (c := c) (s := s) (k := 3) hc (by omega) (by omega)
    have g2 := sA_lt (c := c) (s := b) (k := 3) hc (by omega) (by omega)
    rw [fX9_oldestCopy_l8, p_ag (by omega) (by omega), Option.bind_some, h1, if_neg (nI_ge (by omega) (by omega)), qr_slotAt, Option.bind_some, nI_add, p_ag (by omega) (by omega), Option.bind_some, nI_add, p_ag (by omega) (by omega), Option.bind_some, Option.bind_some, nI_add]
    by_cases h : σ 0 (sA c b + 3) ≤ σ 0 (sA c s + 3)
    · rw [if_pos h]
      refine ih (s + 1) n b (by omega) (by omega) (by omega) fun t ht => ?_
      by_cases e : t = s
      · rw [e]; exact h
      · exact hm t (by omega)
    · rw [if_neg h]
      refine ih (s + 1) n s (by omega) (by omega) (by omega) fun t ht => ?_
      by_cases e : t = s
      · rw [e]; exact Int32.le_refl _
      · exact Int32.le_trans (Int32.le_of_lt (Int32.not_le.mp h)) (hm t (by omega))
theorem qr_oldestCopy {σ : zSt} {c S : Nat} (hc : c < 6) (hS : S ≤ 8) (hS1 : 1 ≤ S) (h1 : σ 0 1 = nI S) : ∃ b, fX9_oldestCopy (nI c) σ = some (nI (sA c b)) ∧ b < S ∧ ∀ t, t < S → σ 0 (sA c b + 3) ≤ σ 0 (sA c t + 3) := by
  unfold fX9_oldestCopy
  rw [qr_slotAt, Option.bind_some]
  exact qr_oldestCopy_l hc hS h1 (S - 1) 1 z_fu 0 (by omega) (Nat.lt_of_le_of_lt (Nat.sub_le S 1) (Nat.lt_of_le_of_lt hS (by decide))) (by omega) fun t ht => by rw [show t = 0 by omega]; exact Int32.le_refl _
theorem qr_oldestPage_l {σ : zSt} {P : Nat} (hP : P ≤ 16) (h3 : σ 0 3 = nI P) : ∀ (r p n b : Nat), p + r = P → r < n → b < p → (∀ t, t < p → σ 0 (302 + 4 * b + 3) ≤ σ 0 (302 + 4 * t + 3)) →
    ∃ b', fX9_oldestPage_l6 σ (fun x4 => some x4) n (nI (302 + 4 * b)) (nI p) = some (nI (302 + 4 * b')) ∧ b' < P ∧ ∀ t, t < P → σ 0 (302 + 4 * b' + 3) ≤ σ 0 (302 + 4 * t + 3) := by
  intro r
  induction r with
  | zero =>
    intro p n b hp hn hb hm
    obtain ⟨n, rfl⟩ : ∃ k, n = k + 1 := ⟨n - 1, by omega⟩
    obtain rfl : p = P := by omega
    rw [fX9_oldestPage_l6, p_ag (by omega) (by omega), Option.bind_some, h3, if_pos (nI_le (by omega) (by omega))]
    exact ⟨b, rfl, hb, hm⟩
  | succ r ih =>
    intro p n b hp hn hb hm
    obtain ⟨n, rfl⟩ : ∃ k, n = k + 1 := ⟨n - 1, by omega⟩
    rw [fX9_oldestPage_l6, p_ag (by omega) (by omega), Option.bind_some, h3, if_neg (nI_ge (by omega) (by omega)), p_mul, nI_add, nI_add, p_ag (by omega) (by omega), Option.bind_some, nI_add, p_ag (by omega) (by omega), Option.bind_some, nI_add]
    by_cases h : σ 0 (302 + 4 * b + 3) ≤ σ 0 (302 + 4 * p + 3)
    · rw [if_pos h]
      refine ih (p + 1) n b (by omega) (by omega) (by omega) fun t ht => ?_
      by_cases e : t = p
      · rw [e]; exact h
      · exact hm t (by omega)
    · rw [if_neg h]
      refine ih (p + 1) n p (by omega) (by omega) (by omega) fun t ht => ?_
      by_cases e : t = p
      · rw [e]; exact Int32.le_refl _
      · exact Int32.le_trans (Int32.le_of_lt (Int32.not_le.mp h)) (hm t (by omega))
theorem qr_oldestPage {σ : zSt} {P : Nat} (hP : P ≤ 16) (hP1 : 1 ≤ P) (h3 : σ 0 3 = nI P) : ∃ b, fX9_oldestPage σ = some (nI (302 + 4 * b)) ∧ b < P ∧ ∀ t, t < P → σ 0 (302 + 4 * b + 3) ≤ σ 0 (302 + 4 * t + 3) := by
  unfold fX9_oldestPage
  exact qr_oldestPage_l hP h3 (P - 1) 1 z_fu 0 (by omega) (Nat.lt_of_le_of_lt (Nat.sub_le P 1) (Nat.lt_of_le_of_lt hP (by decide))) (by omega) fun t ht => by rw [show t = 0 by omega]; exact Int32.le_refl _
theorem qr_isAsking {σ : zSt} {c : Nat} (hc : c < 6) : fX9_isAsking (nI c) σ = some (if σ 0 (366 + 3 * c) < 0 then nI 0 else nI 1) := by
  unfold fX9_isAsking
  rw [p_mul, nI_add, p_ag (by omega) (by omega), Option.bind_some]
  split <;> rfl
theorem qr_waiting_l {σ : zSt} {n : Nat} (hn6 : n ≤ 6) (h0 : σ 0 0 = nI n) : ∀ (r c m a : Nat), c + r = n → r < m → fX9_waiting_l4 σ (fun x3 => some x3) m (nI a) (nI c) = some (nI (a + pS (fun c => if σ 0 (366 + 3 * c) < 0 then 0 else 1) r c)) := by
  intro r
  induction r with
  | zero =>
    intro c m a hc hm
    obtain ⟨m, rfl⟩ : ∃ k, m = k + 1 := ⟨m - 1, by omega⟩
    rw [fX9_waiting_l4, p_ag (by omega) (by omega), Option.bind_some, h0, if_pos (nI_le (by omega) (by omega))]
    rfl
  | succ r ih =>
    intro c m a hc hm
    obtain ⟨m, rfl⟩ : ∃ k, m = k + 1 := ⟨m - 1, by omega⟩
    rw [fX9_waiting_l4, p_ag (by omega) (by omega), Option.bind_some, h0, if_neg (nI_ge (by omega) (by omega)), qr_isAsking (by omega), Option.bind_some, pS]
    unfold fX9_waiting_j28
    by_cases h : σ 0 (366 + 3 * c) < 0
    · rw [if_pos h, if_pos nI_0, if_pos h, nI_add, nI_add, ih (c + 1) m _ (by omega) (by omega), Nat.zero_add, Nat.add_zero]
    · rw [if_neg h, if_neg (by decide), if_neg h, nI_add, nI_add, ih (c + 1) m _ (by omega) (by omega), Nat.add_assoc]
theorem qr_waiting {σ : zSt} {n : Nat} (hn6 : n ≤ 6) (h0 : σ 0 0 = nI n) : fX9_waiting σ = some (nI (pS (fun c => if σ 0 (366 + 3 * c) < 0 then 0 else 1) n 0)) := by
  have h := qr_waiting_l hn6 h0 n 0 z_fu 0 (by omega) (Nat.lt_of_le_of_lt hn6 (by decide))
  rw [Nat.zero_add] at h
  exact h
