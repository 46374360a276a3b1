/-! the law's check of the whole object -/
theorem n_0 {τ : zSt} : fX4_number (nI 0) τ = some (τ 19 0) := by
  unfold fX4_number
  rw [if_pos rfl]
theorem n_2 {τ : zSt} : fX4_number (nI 2) τ = some (τ 14 0) := by
  unfold fX4_number
  rw [if_neg (by decide), if_neg (by decide), if_pos rfl]
theorem n_3 {τ : zSt} : fX4_number (nI 3) τ = some (τ 15 0) := by
  unfold fX4_number
  rw [if_neg (by decide), if_neg (by decide), if_neg (by decide), if_pos rfl]
theorem n_6 {τ : zSt} : fX4_number (nI 6) τ = some (τ 23 0) := by
  unfold fX4_number
  rw [if_neg (by decide), if_neg (by decide), if_neg (by decide), if_neg (by decide), if_neg (by decide), if_neg (by decide), if_pos rfl]
theorem n_7 {τ : zSt} : fX4_number (nI 7) τ = some (τ 24 0) := by
  unfold fX4_number
  rw [if_neg (by decide), if_neg (by decide), if_neg (by decide), if_neg (by decide), if_neg (by decide), if_neg (by decide), if_neg (by decide), if_pos rfl]
theorem n_13 {τ : zSt} : fX4_number (nI 13) τ = some (τ 18 0) := by
  unfold fX4_number
  rw [if_neg (by decide), if_neg (by decide), if_neg (by decide), if_neg (by decide), if_neg (by decide), if_neg (by decide), if_neg (by decide), if_neg (by decide), if_neg (by decide), if_neg (by decide), if_neg (by decide), if_neg (by decide), if_neg (by decide)]
def pgN (τ : zSt) (l : Nat) : Nat := pS (fun j => if τ 6 j = 0 then 0 else 1) l 0
theorem s_sound_l {n S R P U D : Nat} {χ : cSt} {K : Int32 → Int32 → Option Int32} (h : pInv n S R P U D noX (χ 0)) : ∀ (r l m : Nat), l + r = 9 → r < m → fL_sound_l6 χ K m (nI 1) (nI (pgN (χ 0) l)) (nI l) = K (nI 1) (nI (pgN (χ 0) 9)) := by
  intro r
  induction r with
  | zero =>
    intro l m hl hm
    obtain ⟨m, rfl⟩ : ∃ k, m = k + 1 := ⟨m - 1, by omega⟩
    obtain rfl : l = 9 := by omega
    rw [fL_sound_l6, if_pos (nI_le (by omega) (by omega))]
  | succ r ih =>
    intro l m hl hm
    obtain ⟨m, rfl⟩ : ∃ k, m = k + 1 := ⟨m - 1, by omega⟩
    have hl32 : l < 32 := by omega
    rw [fL_sound_l6, if_neg (nI_ge (by omega) (by omega)), if_neg (show ¬ nI 1 = 0 by decide), s_line h hl32, Option.bind_some, v_line hl32 (by omega), g_4 hl32, Option.bind_some]
    have e : nI (pgN (χ 0) l) + (if χ 0 6 l ≤ 0 then nI 0 else nI 1) = nI (pgN (χ 0) (l + 1)) := by
      unfold pgN
      rw [pS_snoc, Nat.zero_add]
      by_cases h6 : χ 0 6 l = 0
      · rw [if_pos h6, if_pos ((pg_pos h hl32).mpr h6), nI_add]
      · rw [if_neg h6, if_neg (mt (pg_pos h hl32).mp h6), nI_add]
    rw [e, nI_add]
    exact ih (l + 1) m (by omega) (by omega)
theorem s_sound_c {n S R P U D : Nat} {χ : cSt} {K : Int32 → Int32 → Option Int32} {y : Int32} (h : pInv n S R P U D noX (χ 0)) : ∀ (r c m : Nat), c + r = n → r < m → fL_sound_l39 χ K m (nI 1) y (nI c) = K (nI 1) y := by
  obtain ⟨⟨⟨a1, a2, -⟩, s19, -⟩, -⟩ := id h
  have v0 : fX8_value (nI 0) χ = some (nI n) := by rw [v_value (by omega), n_0, s19]
  intro r
  induction r with
  | zero =>
    intro c m hc hm
    obtain ⟨m, rfl⟩ : ∃ k, m = k + 1 := ⟨m - 1, by omega⟩
    obtain rfl : c = n := by omega
    rw [fL_sound_l39, v0, Option.bind_some, if_pos (nI_le (by omega) (by omega))]
  | succ r ih =>
    intro c m hc hm
    obtain ⟨m, rfl⟩ : ∃ k, m = k + 1 := ⟨m - 1, by omega⟩
    rw [fL_sound_l39, v0, Option.bind_some, if_neg (nI_ge (by omega) (by omega)), if_neg (show ¬ nI 1 = 0 by decide), s_cache h (by omega), Option.bind_some, nI_add]
    exact ih (c + 1) m (by omega) (by omega)
theorem s_sound {n S R P U D : Nat} {χ : cSt} (h : pInv n S R P U D noX (χ 0)) : fL_sound χ = some (nI 1) := by
  obtain ⟨⟨⟨a1, a2, a3, a4, a5, a6, a7⟩, s19, s20, s14, s15, sP⟩, hC, hO, hL, hU, hP, -⟩ := id h
  unfold fL_sound
  have e := s_sound_l (K := fun x3 x4 => fL_sound_l39 χ (fun x7 x8 => (fX8_nextTorn  χ).bind fun x9 =>
  (if x7 = 0 then
  z_bz (nI 0)
  else
  (fX8_value (nI 3) χ).bind fun x10 =>
  (if x8 = x10 then
  (fX8_value (nI 2) χ).bind fun x11 =>
  (if x11 < x8 then
  z_bz (nI 0)
  else
  (if x9 < 0 then
  fL_sound_j100 χ x8 x9 (nI 0)
  else
  fL_sound_j100 χ x8 x9 (nI 1)))
  else
  z_bz (nI 0)))) z_fu x3 x4 (nI 0)) h 9 0 z_fu rfl (by decide)
  refine Eq.trans e ?_
  have hpg : pgN (χ 0) 9 = P := by
    rw [sP]
    unfold pgN pgs
    rw [show (32 : Nat) = 9 + 23 from rfl, pS_split, pS_zero (r := 23) (fun j h1 h2 => by
      rcases hP j (by omega) with z | ⟨z, -⟩
      · rw [if_pos z]
      · omega)]
    rfl
  rw [hpg]
  refine Eq.trans (s_sound_c h n 0 z_fu (by omega) (Nat.lt_of_le_of_lt a2 (by decide))) ?_
  have v3 : fX8_value (nI 3) χ = some (nI P) := by rw [v_value (by omega), n_3, s15]
  have v2 : fX8_value (nI 2) χ = some (nI R) := by rw [v_value (by omega), n_2, s14]
  have nt : fX8_nextTorn χ = fX1_lineToTear (χ 0) := by
    unfold fX8_nextTorn
    rw [obs]
  rw [nt, v3, v2]
  rcases i_torn h with ⟨c, e1⟩ | ⟨c, m, m1, m2, e1⟩
  · rw [e1, Option.bind_some, if_neg (show ¬ nI 1 = 0 by decide), Option.bind_some, if_pos rfl, Option.bind_some, if_neg (nI_nlt a7 (by omega)), if_pos (by decide)]
    unfold fL_sound_j100 fL_sound_j114
    rw [v2, Option.bind_some, if_neg (fun z => by have := (nI_eq (by omega) (by omega)).mp z; omega), if_pos rfl, if_pos (by decide)]
    exact bz1
  · rw [e1, Option.bind_some, if_neg (show ¬ nI 1 = 0 by decide), Option.bind_some, if_pos rfl, Option.bind_some, if_neg (nI_nlt a7 (by omega)), if_neg (nI_pos (by omega))]
    unfold fL_sound_j100 fL_sound_j114
    rw [v2, Option.bind_some, if_pos (by rw [c]), if_pos rfl, if_neg (nI_pos (by omega)), v_line m1 (by omega), g_4 m1, Option.bind_some, if_neg (mt (pg_pos h m1).mp m2), if_pos rfl]
    exact bz1
