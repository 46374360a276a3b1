/-! the whole object: machines that agree, saving, bringing back, beginning anew -/
theorem pInv_g {n S R P U D : Nat} {τ τ' : zSt} (h : pInv n S R P U D noX τ) (ht : gEq τ τ') : pInv n S R P U D noX τ' := by
  have sc : ∀ i, i < 27 → 11 ≤ i → τ' i 0 = τ i 0 := fun i hi h2 => ht i hi 0 (by rw [gR_1 i hi h2]; exact Nat.zero_lt_one)
  have t0 : ∀ l, l < 32 → τ' 0 l = τ 0 l := ht 0 (by omega)
  have t1 : ∀ l, l < 32 → τ' 1 l = τ 1 l := ht 1 (by omega)
  have t2 : ∀ c l, c < 6 → l < 32 → τ' 2 (c * 32 + l) = τ 2 (c * 32 + l) := fun c l hc hl => ht 2 (by omega) _ (show c * 32 + l < 192 by omega)
  have t3 : ∀ c l, c < 6 → l < 32 → τ' 3 (c * 32 + l) = τ 3 (c * 32 + l) := fun c l hc hl => ht 3 (by omega) _ (show c * 32 + l < 192 by omega)
  have t4 : ∀ c l, c < 6 → l < 32 → τ' 4 (c * 32 + l) = τ 4 (c * 32 + l) := fun c l hc hl => ht 4 (by omega) _ (show c * 32 + l < 192 by omega)
  have t5 : ∀ c l, c < 6 → l < 32 → τ' 5 (c * 32 + l) = τ 5 (c * 32 + l) := fun c l hc hl => ht 5 (by omega) _ (show c * 32 + l < 192 by omega)
  have t6 : ∀ l, l < 32 → τ' 6 l = τ 6 l := ht 6 (by omega)
  obtain ⟨⟨ha, s19, s20, s14, s15, sP⟩, hC, hO, hL, hU, hP, hM, hK, hN⟩ := h
  have hp : pgs τ' = pgs τ := pS_congr fun j _ hj => by rw [t6 j (by omega)]
  refine ⟨⟨ha, ?_, ?_, ?_, ?_, by rw [hp]; exact sP⟩, fun c l hc hl => ?_, fun c d l hc hd hl z1 z2 => ?_, fun c l k hc hl hk z1 z2 z3 => ?_, fun c l k hc hl hk z1 z2 x1 x2 z3 => ?_, fun l hl => ?_, fun l hl z => ?_, fun l hl => ⟨fun z => ?_, fun z1 z2 c hc => ?_⟩, ?_, hN.2.1, ?_, hN.2.2.2⟩
  · rw [sc 19 (by omega) (by omega)]; exact s19
  · rw [sc 20 (by omega) (by omega)]; exact s20
  · rw [sc 14 (by omega) (by omega)]; exact s14
  · rw [sc 15 (by omega) (by omega)]; exact s15
  · rw [t2 c l hc hl, t3 c l hc hl, t4 c l hc hl, t5 c l hc hl, t1 l hl]
    exact hC c l hc hl
  · rw [t2 c l hc hl] at z1
    rw [t2 d l hd hl] at z2
    exact hO c d l hc hd hl z1 z2
  · rw [t2 c l hc hl] at z1
    rw [t2 c k hc hk] at z2
    rw [t4 c l hc hl, t4 c k hc hk] at z3
    exact hL c l k hc hl hk z1 z2 z3
  · rw [t2 c l hc hl] at z1
    rw [t2 c k hc hk] at z2
    rw [t5 c l hc hl, t5 c k hc hk] at z3
    exact hU c l k hc hl hk z1 z2 x1 x2 z3
  · rw [t6 l hl]; exact hP l hl
  · rw [t0 l hl, t1 l hl]
    exact hM l hl fun c hc y => z c hc (by rw [t2 c l hc hl]; exact y)
  · rw [t6 l hl] at z
    rw [sc 13 (by omega) (by omega)]
    exact (hK l hl).1 z
  · rw [t6 l hl] at z1
    rw [sc 13 (by omega) (by omega)] at z2
    rw [t2 c l hc hl]
    exact (hK l hl).2 z1 z2 c hc
  · rw [sc 11 (by omega) (by omega)]; exact hN.1
  · rw [sc 12 (by omega) (by omega)]; exact hN.2.2.1
theorem mach_g {n S R P U D T V : Nat} {τ τ' : zSt} (h : mach n S R P U D T V τ) (ht : gEq τ τ') : mach n S R P U D T V τ' := by
  have sc : ∀ i, i < 27 → 11 ≤ i → τ' i 0 = τ i 0 := fun i hi h2 => ht i hi 0 (by rw [gR_1 i hi h2]; exact Nat.zero_lt_one)
  obtain ⟨h1, h2, h3, h4, h5⟩ := h
  refine ⟨pInv_g h1 ht, fun c hc => ?_, ?_, ?_, ?_⟩
  · rw [ht 7 (by omega) c hc]; exact h2 c hc
  · rw [sc 18 (by omega) (by omega)]; exact h3
  · rw [sc 23 (by omega) (by omega), sc 24 (by omega) (by omega)]; exact h4
  · rw [sc 21 (by omega) (by omega)]; exact h5
/-- a machine of at most B ticks -/
def gM (B : Nat) (τ : zSt) : Prop := ∃ n S R P U D T V, mach n S R P U D T V τ ∧ U ≤ 6 * T ∧ D ≤ 12 * T ∧ T ≤ B
theorem gM_g {B : Nat} {τ τ' : zSt} (h : gM B τ) (ht : gEq τ τ') : gM B τ' := by
  obtain ⟨n, S, R, P, U, D, T, V, h1, h2⟩ := h
  exact ⟨n, S, R, P, U, D, T, V, mach_g h1 ht, h2⟩
/-- the saved machines -/
def hM (B h : Nat) (χ : cSt) : Prop := h ≤ 4 ∧ χ 7 1 0 = nI h ∧ ∀ i, i < h → gM B (χ (2 + i))
theorem o_save {B h : Nat} {χ : cSt} (hh : hM B h χ) (hg : gM B (χ 0)) : ∃ χ', fX2_save χ = some χ' ∧ hM B (if h < 4 then h + 1 else 4) χ' ∧ χ' 0 = χ 0 ∧ χ' 6 = χ 6 ∧ χ' 7 0 = χ 7 0 ∧ (h < 4 → gEq (χ 0) (χ' (2 + h)) ∧ ∀ i, i < h → χ' (2 + i) = χ (2 + i)) := by
  obtain ⟨h4, h7, hs⟩ := hh
  by_cases c : h < 4
  · obtain ⟨χ', t1, t2, t3, t4, t5⟩ := c_sv_at c h7
    refine ⟨χ', ?_, ?_, t3 0 (by omega) (by omega), t3 6 (by omega) (by omega), t5 0 (by omega), fun _ => ⟨t2, fun i hi => t3 (2 + i) (by omega) (by omega)⟩⟩
    · unfold fX2_save
      rw [if_pos (by rw [h7]; exact nI_lt c (by omega))]
      exact t1
    · rw [if_pos c]
      refine ⟨by omega, t4, fun i hi => ?_⟩
      by_cases e : i = h
      · rw [e]; exact gM_g hg t2
      · rw [t3 (2 + i) (by omega) (by omega)]
        exact hs i (by omega)
  · obtain rfl : h = 4 := by omega
    have hr : c_rot χ 7 1 0 = nI 3 := by
      show χ 7 1 0 - nI 1 = nI 3
      rw [h7, p_sub (by omega)]
    obtain ⟨χ', t1, t2, t3, t4, t5⟩ := c_sv_at (χ := c_rot χ) (h := 3) (by omega) hr
    refine ⟨χ', ?_, ?_, t3 0 (by omega) (by omega), t3 6 (by omega) (by omega), t5 0 (by omega), fun z => absurd z c⟩
    · unfold fX2_save
      rw [if_neg (by rw [h7]; exact nI_nlt (by omega) (by omega))]
      unfold fX2_dropOldest
      rw [Option.bind_some]
      exact t1
    · rw [if_neg c]
      refine ⟨by omega, t4, fun i hi => ?_⟩
      by_cases e : i = 3
      · rw [e]; exact gM_g hg t2
      · rw [t3 (2 + i) (by omega) (by omega), show c_rot χ (2 + i) = χ (2 + (i + 1)) by rcases (show i = 0 ∨ i = 1 ∨ i = 2 by omega) with rfl | rfl | rfl <;> rfl]
        exact hs (i + 1) (by omega)
theorem o_undo {B h : Nat} {χ : cSt} (hh : hM B (h + 1) χ) : ∃ χ', fX8_undo χ = some (nI h, χ') ∧ hM B h χ' ∧ gEq (χ (2 + h)) (χ' 0) ∧ χ' 7 0 = χ 7 0 ∧ ∀ i, i ≠ 0 → i ≠ 7 → χ' i = χ i := by
  obtain ⟨h4, h7, hs⟩ := hh
  have h5 : h < 4 := by omega
  unfold fX8_undo
  rw [h7, if_neg (nI_nle (by omega) (by omega))]
  unfold fX8_undo_j15
  rw [if_neg (show ¬ nI 1 = 0 by decide)]
  obtain ⟨τ', t1, t2⟩ := qx_takeOver (χ (2 + h)) (χ 0)
  have e8 : fX2_restore χ = some (c_up (c_up χ 7 (z_up (χ 7) 1 (fun _ => nI h))) 0 τ') := by
    unfold fX2_restore c_sf
    rw [h7, p_sub (by omega), Nat.add_sub_cancel, Option.bind_some]
    have er : ∀ χ1 : cSt, χ1 7 1 0 = nI h → c_re χ1 = c_re1 χ1 (2 + h) := fun χ1 e => by
      unfold c_re
      rw [e]
      rcases (show h = 0 ∨ h = 1 ∨ h = 2 ∨ h = 3 by omega) with rfl | rfl | rfl | rfl <;> rfl
    rw [er _ (by rw [c_ue, p_ze])]
    unfold c_re1 c_b1
    rw [c_un (show ¬ 2 + h = 7 by omega), c_un (show ¬ 0 = 7 by omega), t1, Option.bind_some]
  rw [e8, Option.bind_some]
  have q7 : c_up (c_up χ 7 (z_up (χ 7) 1 (fun _ => nI h))) 0 τ' 7 = z_up (χ 7) 1 (fun _ => nI h) := by rw [c_un (by omega), c_ue]
  have ql : ∀ i, i ≠ 0 → i ≠ 7 → c_up (c_up χ 7 (z_up (χ 7) 1 (fun _ => nI h))) 0 τ' i = χ i := fun i i0 i7 => by rw [c_un i0, c_un i7]
  refine ⟨_, by rw [q7, p_ze], ⟨by omega, by rw [q7, p_ze], fun i hi => ?_⟩, by rw [c_ue]; exact t2, by rw [q7, p_zn (by omega)], ql⟩
  rw [ql (2 + i) (by omega) (by omega)]
  exact hs i (by omega)
theorem i_fresh {n S R : Nat} {τ τ0 : zSt} (hn : 2 ≤ n ∧ n ≤ 6) (hS : 1 ≤ S ∧ S ≤ 8) (hR : 1 ≤ R ∧ R ≤ 16) (ht : fX4_startAnew (nI n) (nI S) (nI R) τ0 = some τ) : mach n S R 0 0 0 0 0 τ := by
  obtain ⟨τ1, t0, ⟨t1, t2, t3, t4, t5⟩, t6, t7, t8, t9⟩ := qx_startAnew (nI n) (nI S) (nI R) τ0
  rw [ht] at t0
  obtain rfl := Option.some.inj t0
  have z : ∀ c l, c < 6 → l < 32 → τ 2 (c * 32 + l) = 0 := fun c l hc hl => by rw [t3 _ (by omega), nI_0]
  have sc : ∀ i, 11 ≤ i → i < 27 → i ≠ 19 → i ≠ 20 → i ≠ 14 → τ i 0 = nI 0 := t9
  refine ⟨⟨⟨⟨hn.1, hn.2, hS.1, hS.2, hR.1, hR.2, by omega⟩, t6, t7, t8, sc 15 (by omega) (by omega) (by omega) (by omega) (by omega), ?_⟩, fun c l hc hl => Or.inl (z c l hc hl), fun c d l hc hd hl z1 _ => ?_, fun c l k hc hl hk z1 _ _ => absurd (z c l hc hl) z1, fun c l k hc hl hk z1 _ _ _ _ => absurd (z c l hc hl) z1, fun l hl => Or.inl (by rw [t4 l hl, nI_0]), fun l hl _ => by rw [t1 l hl, t2 l hl], fun l hl => ⟨fun y => absurd (by rw [t4 l hl, nI_0]) y, fun _ _ c hc => z c l hc hl⟩, sc 11 (by omega) (by omega) (by omega) (by omega) (by omega), by omega, sc 12 (by omega) (by omega) (by omega) (by omega) (by omega), by omega⟩, fun c hc => Or.inl (t5 c hc), sc 18 (by omega) (by omega) (by omega) (by omega) (by omega), ?_, sc 21 (by omega) (by omega) (by omega) (by omega) (by omega)⟩
  · exact (pS_zero fun j _ hj => if_pos (by rw [t4 j (by omega), nI_0])).symm
  · rw [z c l hc hl] at z1
    exact absurd z1 (by decide)
  · rw [sc 23 (by omega) (by omega) (by omega) (by omega) (by omega), sc 24 (by omega) (by omega) (by omega) (by omega) (by omega), nI_add]
theorem o_begin {B h n S R T : Nat} {χ : cSt} (hh : hM B h χ) (hg : gM B (χ 0)) (h21 : χ 0 21 0 = nI T) (hn : 2 ≤ n ∧ n ≤ 6) (hS : 1 ≤ S ∧ S ≤ 8) (hR : 1 ≤ R ∧ R ≤ 16) : ∃ χ', fX8_begin (nI n) (nI S) (nI R) χ = some (nI T, χ') ∧ mach n S R 0 0 0 0 0 (χ' 0) ∧ hM B (if h < 4 then h + 1 else 4) χ' ∧ χ' 6 = χ 6 ∧ χ' 7 0 = χ 7 0 ∧ (h < 4 → gEq (χ 0) (χ' (2 + h)) ∧ ∀ i, i < h → χ' (2 + i) = χ (2 + i)) := by
  unfold fX8_begin
  rw [if_neg (gRng hn.1 hn.2 (by omega)), if_neg (gRng hS.1 hS.2 (by omega)), if_neg (gRng hR.1 hR.2 (by omega))]
  obtain ⟨χ1, s1, ⟨s2, s3, s4⟩, s5, s6, s7, s8⟩ := o_save hh hg
  obtain ⟨τ', t1, -⟩ := qx_startAnew (nI n) (nI S) (nI R) (χ1 0)
  rw [s1, Option.bind_some, t1, cb1, s5, h21]
  have un : ∀ i, i ≠ 0 → c_up χ1 0 τ' i = χ1 i := fun i hi => c_un hi
  refine ⟨_, rfl, by rw [c_ue]; exact i_fresh hn hS hR t1, ⟨s2, by rw [un 7 (by omega)]; exact s3, fun i hi => by rw [un (2 + i) (by omega)]; exact s4 i hi⟩, by rw [un 6 (by omega), s6], by rw [un 7 (by omega), s7], fun c => ⟨by rw [un (2 + h) (by omega)]; exact (s8 c).1, fun i hi => by rw [un (2 + i) (by omega)]; exact (s8 c).2 i hi⟩⟩
