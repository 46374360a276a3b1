/-! the relation of the reference's state and the whole object's; saving; what guards say -/
def mGood (σ τ : zSt) : Prop := ∃ n S R P U D T, mFull n S R P U D T σ τ ∧ U ≤ 6 * T ∧ D ≤ 12 * T ∧ T ≤ 100000
theorem mGood_g {σ τ σ' τ' : zSt} (h : mGood σ τ) (hs : ∀ k, k < 456 → σ' 0 k = σ 0 k) (ht : gEq τ τ') : mGood σ' τ' := by
  obtain ⟨n, S, R, P, U, D, T, h1, h2⟩ := h
  exact ⟨n, S, R, P, U, D, T, mFull_g h1 hs ht, h2⟩
def sv (σ : zSt) (i : Nat) : zSt := fun _ k => σ 2 (456 * i + k)
def hRel (σ : zSt) (χ : cSt) : Prop := ∃ h, h ≤ 4 ∧ σ 5 0 = nI h ∧ χ 7 1 0 = nI h ∧ ∀ i, i < h → mGood (sv σ i) (χ (2 + i))
def xRel (σ : zSt) (χ : cSt) : Prop := ∃ L, L ≤ 100 ∧ σ 6 0 = nI L ∧ χ 7 0 0 = nI L ∧ ∀ k, k < L → ∃ b, b < 128 ∧ σ 3 k = nI b ∧ χ 6 11 k = nI b
def wRel (σ : zSt) (χ : cSt) : Prop := mGood σ (χ 0) ∧ hRel σ χ ∧ xRel σ χ
theorem beq_ne {k i : Nat} (h : ¬ k = i) : Nat.beq k i = false := by
  cases hb : Nat.beq k i with
  | false => rfl
  | true => exact absurd (Nat.eq_of_beq_eq_true hb) h
theorem c_ue (χ : cSt) (i : Nat) (σ : zSt) : c_up χ i σ i = σ := by
  unfold c_up
  simp
theorem c_un {χ : cSt} {i k : Nat} {σ : zSt} (h : ¬ k = i) : c_up χ i σ k = χ k := by
  unfold c_up
  rw [beq_ne h]
  rfl
theorem cb1 {γ : Type} {χ : cSt} {i : Nat} {τ : zSt} {k : cSt → Option γ} : c_b1 χ i (some τ) k = k (c_up χ i τ) := rfl
theorem cb2 {γ : Type} {χ : cSt} {i : Nat} {x : Int32} {τ : zSt} {k : Int32 → cSt → Option γ} : c_b2 χ i (some (x, τ)) k = k x (c_up χ i τ) := rfl
theorem b2_1 {γ : Type} {x : Int32} {σ : zSt} {f : Int32 → zSt → Option γ} : z_b2 (some (x, σ)) f = f x σ := rfl
theorem hRel_same {σ σ' : zSt} {χ χ' : cSt} (h : hRel σ χ) (e2 : σ' 2 = σ 2) (e5 : σ' 5 = σ 5) (e7 : χ' 7 1 0 = χ 7 1 0) (ec : ∀ i, i < 4 → χ' (2 + i) = χ (2 + i)) : hRel σ' χ' := by
  obtain ⟨h, h1, h2, h3, h4⟩ := h
  refine ⟨h, h1, by rw [e5]; exact h2, by rw [e7]; exact h3, fun i hi => ?_⟩
  rw [ec i (by omega), show sv σ' i = sv σ i by unfold sv; rw [e2]]
  exact h4 i hi
theorem xRel_same {σ σ' : zSt} {χ χ' : cSt} (h : xRel σ χ) (e3 : σ' 3 = σ 3) (e6 : σ' 6 = σ 6) (e7 : χ' 7 0 0 = χ 7 0 0) (e11 : χ' 6 11 = χ 6 11) : xRel σ' χ' := by
  unfold xRel
  rw [e3, e6, e7, e11]
  exact h
theorem wRel_rows {σ σ' : zSt} {χ : cSt} (h : wRel σ χ) (e : ∀ i, i ≠ 1 → i ≠ 4 → i ≠ 7 → i ≠ 8 → σ' i = σ i) : wRel σ' χ :=
  ⟨mGood_g h.1 (fun k _ => by rw [e 0 (by omega) (by omega) (by omega) (by omega)]) gEq_rfl, hRel_same h.2.1 (e 2 (by omega) (by omega) (by omega) (by omega)) (e 5 (by omega) (by omega) (by omega) (by omega)) rfl fun _ _ => rfl, xRel_same h.2.2 (e 3 (by omega) (by omega) (by omega) (by omega)) (e 6 (by omega) (by omega) (by omega) (by omega)) rfl rfl⟩
/-- only the machines have changed -/
theorem wRel_mach {σ σ' : zSt} {χ χ' : cSt} (h : wRel σ χ) (hg : mGood σ' (χ' 0)) (e : ∀ i, i ≠ 0 → i ≠ 1 → i ≠ 4 → i ≠ 7 → i ≠ 8 → σ' i = σ i) (e' : ∀ i, i ≠ 0 → i ≠ 1 → i ≠ 6 → χ' i = χ i) (e11 : χ' 6 11 = χ 6 11) : wRel σ' χ' :=
  ⟨hg, hRel_same h.2.1 (e 2 (by omega) (by omega) (by omega) (by omega) (by omega)) (e 5 (by omega) (by omega) (by omega) (by omega) (by omega)) (by rw [e' 7 (by omega) (by omega) (by omega)]) fun i hi => e' _ (by omega) (by omega) (by omega), xRel_same h.2.2 (e 3 (by omega) (by omega) (by omega) (by omega) (by omega)) (e 6 (by omega) (by omega) (by omega) (by omega) (by omega)) (by rw [e' 7 (by omega) (by omega) (by omega)]) e11⟩
theorem wRel_7 {σ : zSt} {χ : cSt} {x : Int32} (h : wRel σ χ) : wRel (ws σ 7 x) χ := wRel_rows h fun i _ _ h7 _ => ws_o h7
theorem c_sv_at {χ : cSt} {h : Nat} (h3 : h < 4) (hh : χ 7 1 0 = nI h) : ∃ χ', c_sv χ = some χ' ∧ gEq (χ 0) (χ' (2 + h)) ∧ (∀ i, i ≠ 7 → i ≠ 2 + h → χ' i = χ i) ∧ χ' 7 1 0 = nI (h + 1) ∧ ∀ i, i ≠ 1 → χ' 7 i = χ 7 i := by
  have e : c_sv χ = c_sv1 χ (2 + h) := by
    unfold c_sv
    rw [hh]
    rcases (show h = 0 ∨ h = 1 ∨ h = 2 ∨ h = 3 by omega) with rfl | rfl | rfl | rfl <;> rfl
  obtain ⟨τ', t1, t2⟩ := qx_takeOver (χ 0) (χ (2 + h))
  refine ⟨c_up (c_up χ (2 + h) τ') 7 (z_up (χ 7) 1 (fun _ => nI (h + 1))), ?_, ?_, fun i i1 i2 => ?_, ?_, fun i i1 => ?_⟩
  · rw [e]
    unfold c_sv1 c_b1 c_sf
    rw [t1, Option.bind_some]
    show some (c_up (c_up χ (2 + h) τ') 7 (z_up (c_up χ (2 + h) τ' 7) 1 (fun _ => c_up χ (2 + h) τ' 7 1 0 + nI 1))) = _
    rw [c_un (show ¬ 7 = 2 + h by omega), hh, nI_add]
  · rw [c_un (by omega), c_ue]; exact t2
  · rw [c_un i1, c_un i2]
  · rw [c_ue, p_ze]
  · rw [c_ue, p_zn i1]
theorem rl_save {σ : zSt} {χ : cSt} (h : wRel σ χ) : ∃ σ' χ', fX9_save σ = some σ' ∧ fX2_save χ = some χ' ∧ wRel σ' χ' ∧ (∀ i, i ≠ 2 → i ≠ 5 → σ' i = σ i) ∧ (∀ i, i = 0 ∨ i = 1 ∨ i = 6 → χ' i = χ i) ∧ χ' 7 0 = χ 7 0 := by
  obtain ⟨hg, ⟨h, h1, h2, h3, h4⟩, hx⟩ := h
  by_cases c : h = 4
  · obtain rfl := c
    obtain ⟨σ', s1, s2, s3, s4, s5⟩ := qr_saveB h2
    have hr : c_rot χ 7 1 0 = nI 3 := by
      show χ 7 1 0 - nI 1 = nI 3
      rw [h3, p_sub (by omega)]
    obtain ⟨χ', t1, t2, t3, t4, t5⟩ := c_sv_at (χ := c_rot χ) (h := 3) (by omega) hr
    have q0 : χ' 0 = χ 0 := t3 0 (by omega) (by omega)
    have q7 : χ' 7 0 = χ 7 0 := t5 0 (by omega)
    have q6 : χ' 6 = χ 6 := t3 6 (by omega) (by omega)
    refine ⟨σ', χ', s1, ?_, ⟨?_, ⟨4, by omega, s3, t4, fun i hi => ?_⟩, xRel_same hx (s2 3 (by omega) (by omega)) (s2 6 (by omega) (by omega)) (by rw [q7]) (by rw [q6])⟩, s2, fun i hi => ?_, q7⟩
    · unfold fX2_save
      rw [if_neg (by rw [h3]; exact nI_nlt (by omega) (by omega))]
      unfold fX2_dropOldest
      rw [Option.bind_some]
      exact t1
    · rw [q0]
      exact mGood_g hg (fun k hk => by rw [s2 0 (by omega) (by omega)]) gEq_rfl
    · by_cases i3 : i = 3
      · rw [i3]
        exact mGood_g hg (fun k hk => s5 k hk) t2
      · rw [t3 (2 + i) (by omega) (by omega)]
        have hm := h4 (i + 1) (by omega)
        rw [show c_rot χ (2 + i) = χ (2 + (i + 1)) by rcases (show i = 0 ∨ i = 1 ∨ i = 2 by omega) with rfl | rfl | rfl <;> rfl]
        exact mGood_g hm (fun k hk => s4 i k (by omega) hk) gEq_rfl
    · rcases hi with rfl | rfl | rfl
      · exact q0
      · exact t3 1 (by omega) (by omega)
      · exact q6
  · have h5 : h < 4 := by omega
    obtain ⟨σ', s1, s2, s3, s4, s5⟩ := qr_saveA h5 h2
    obtain ⟨χ', t1, t2, t3, t4, t5⟩ := c_sv_at h5 h3
    have q0 : χ' 0 = χ 0 := t3 0 (by omega) (by omega)
    have q7 : χ' 7 0 = χ 7 0 := t5 0 (by omega)
    have q6 : χ' 6 = χ 6 := t3 6 (by omega) (by omega)
    refine ⟨σ', χ', s1, ?_, ⟨?_, ⟨h + 1, by omega, s3, t4, fun i hi => ?_⟩, xRel_same hx (s2 3 (by omega) (by omega)) (s2 6 (by omega) (by omega)) (by rw [q7]) (by rw [q6])⟩, s2, fun i hi => ?_, q7⟩
    · unfold fX2_save
      rw [if_pos (by rw [h3]; exact nI_lt h5 (by omega))]
      exact t1
    · rw [q0]
      exact mGood_g hg (fun k hk => by rw [s2 0 (by omega) (by omega)]) gEq_rfl
    · by_cases ih : i = h
      · rw [ih]
        exact mGood_g hg (fun k hk => s5 k hk) t2
      · rw [t3 (2 + i) (by omega) (by omega)]
        exact mGood_g (h4 i (by omega)) (fun k hk => s4 i k (by omega) hk) gEq_rfl
    · rcases hi with rfl | rfl | rfl
      · exact q0
      · exact t3 1 (by omega) (by omega)
      · exact q6
/-! a call that fails, one that answers -/
theorem op_fail {wc : Nat → Int32} {χ : cSt} {σ : zSt} {j : Nat} {x : Int32} {o8 : Option cRes} {o9 : Option (Int32 × zSt)} (h : wRel σ χ) (e8 : o8 = some (Sum.inl j)) (e9 : o9 = some (nI 0, ws (ws σ 7 (nI 0)) 7 x)) (hw : wc j = x) (hx : x ≠ 0) : opT wRel wc χ o8 o9 :=
  ⟨_, _, _, e8, e9, by rw [hw]; exact hx, by rw [ws_e, hw], wRel_7 (wRel_7 h)⟩
theorem op_ok {wc : Nat → Int32} {χ χ' : cSt} {σ' : zSt} {r : Int32} {o8 : Option cRes} {o9 : Option (Int32 × zSt)} (e8 : o8 = some (Sum.inr (r, χ'))) (e9 : o9 = some (r, σ')) (h7 : σ' 7 0 = nI 0) (h : wRel σ' χ') : opT wRel wc χ o8 o9 :=
  ⟨_, _, _, e8, e9, h7.trans nI_0, rfl, h⟩
theorem gd_in {lo hi : Nat} (hl : lo ≤ hi) (hh : hi < 2 ^ 31) (a : Int32) (σ : zSt) : ((a < nI lo ∨ nI hi < a) ∧ fX9_in a (nI lo) (nI hi) σ = some (nI 0)) ∨ (¬ (a < nI lo ∨ nI hi < a) ∧ ∃ k, lo ≤ k ∧ k ≤ hi ∧ a = nI k ∧ fX9_in a (nI lo) (nI hi) σ = some (nI 1)) := by
  unfold fX9_in
  by_cases h1 : a < nI lo
  · rw [if_pos h1]
    exact Or.inl ⟨Or.inl h1, rfl⟩
  · rw [if_neg h1]
    by_cases h2 : nI hi < a
    · rw [if_pos h2]
      exact Or.inl ⟨Or.inr h2, rfl⟩
    · rw [if_neg h2]
      refine Or.inr ⟨fun z => z.elim h1 h2, ?_⟩
      have h3 : ¬ a < 0 := fun z => h1 (Int32.lt_of_lt_of_le z (nI_pos' (by omega)))
      obtain ⟨k, k1, rfl⟩ := nI_of2 (M := nI hi) (nI_toInt hh) h3 (Int32.not_lt.mp h2)
      exact ⟨k, Nat.le_of_not_lt fun z => h1 (nI_lt z (by omega)), k1, rfl, rfl⟩
theorem gd_idx {N : Nat} (hN : N < 1000) (a : Int32) (σ : zSt) : ((a < 0 ∨ nI N ≤ a) ∧ fX9_in a (nI 0) (nI N - nI 1) σ = some (nI 0)) ∨ (¬ (a < 0 ∨ nI N ≤ a) ∧ ∃ c, c < N ∧ a = nI c ∧ fX9_in a (nI 0) (nI N - nI 1) σ = some (nI 1)) := by
  have e2 : (nI N).toInt = N := nI_toInt (by omega)
  have e : (nI N - nI 1).toInt = (N : Int) - 1 := by
    by_cases h : N = 0
    · rw [h]; decide
    · rw [p_sub (by omega), nI_toInt (by omega)]; omega
  unfold fX9_in
  by_cases h1 : a < 0
  · rw [if_pos (show a < nI 0 from h1)]
    exact Or.inl ⟨Or.inl h1, rfl⟩
  · rw [if_neg (show ¬ a < nI 0 from h1)]
    by_cases h2 : nI N ≤ a
    · rw [if_pos (by
        rw [Int32.le_iff_toInt_le, e2] at h2
        rw [Int32.lt_iff_toInt_lt, e]
        omega)]
      exact Or.inl ⟨Or.inr h2, rfl⟩
    · rw [if_neg (by
        rw [Int32.le_iff_toInt_le, e2] at h2
        rw [Int32.lt_iff_toInt_lt, e]
        omega)]
      refine Or.inr ⟨fun z => z.elim h1 h2, ?_⟩
      obtain ⟨k, k1, rfl⟩ := nI_of2 (M := nI N) e2 h1 (Int32.le_of_lt (Int32.not_le.mp h2))
      exact ⟨k, Nat.lt_of_not_le fun z => h2 (nI_le z (by omega)), rfl, rfl⟩
theorem gd_line (a : Int32) (σ : zSt) : ((a < 0 ∨ nI 32 ≤ a) ∧ fX9_isLine a σ = some (nI 0)) ∨ (¬ (a < 0 ∨ nI 32 ≤ a) ∧ ∃ l, l < 32 ∧ a = nI l ∧ fX9_isLine a σ = some (nI 1)) := by
  have h := gd_idx (N := 32) (by omega) a σ
  rw [p_sub (by omega)] at h
  unfold fX9_isLine
  rcases h with ⟨h1, h2⟩ | ⟨h1, l, hl, h2, h3⟩
  · exact Or.inl ⟨h1, by rw [h2]; rfl⟩
  · exact Or.inr ⟨h1, l, hl, h2, by rw [h3]; rfl⟩
theorem gd_cache {n : Nat} (hn : n ≤ 6) (a : Int32) {σ : zSt} (h0 : σ 0 0 = nI n) : ((a < 0 ∨ nI n ≤ a) ∧ fX9_isCache a σ = some (nI 0)) ∨ (¬ (a < 0 ∨ nI n ≤ a) ∧ ∃ c, c < n ∧ a = nI c ∧ fX9_isCache a σ = some (nI 1)) := by
  have h := gd_idx (N := n) (by omega) a σ
  unfold fX9_isCache
  rw [p_ag (by omega) (by omega), Option.bind_some, h0]
  rcases h with ⟨h1, h2⟩ | ⟨h1, l, hl, h2, h3⟩
  · exact Or.inl ⟨h1, by rw [h2]; rfl⟩
  · exact Or.inr ⟨h1, l, hl, h2, by rw [h3]; rfl⟩
