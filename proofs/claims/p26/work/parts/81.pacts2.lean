/-! tearing, and an act of the law -/
theorem a_tear {n S R P U D T t V l : Nat} {χ : cSt} (h : lJ n S R P U D T t V χ) (ht : t ≤ 43) (hl : l < 9) (h6 : χ 0 6 l ≠ 0) : aG t V ((fX8_line (nI l) (nI 3) χ).bind fun x9 =>
  (fL_ones x9 χ).bind fun x10 =>
  (fX8_line (nI l) (nI 2) χ).bind fun x11 =>
  (if x11 < 0 then
  fL_acts_j229 (nI l) (nI 0) x10 χ
  else
  fL_acts_j229 (nI l) (nI 1) x10 χ)) := by
  obtain ⟨hm, hU, hD, hT, hh, h7⟩ := id h
  obtain ⟨-, -, -, -, -, -, -, hK, -⟩ := hm.1
  have hl32 : l < 32 := by omega
  obtain ⟨χ1, s1, s2, s5, s6, s7, -⟩ := o_save hh (j_gM h (by omega))
  have hC := copies hm.1 hl32
  have hle := cnt_le (τ := χ 0) (l := l)
  rw [v_line hl32 (by omega), g_3 hl32, Option.bind_some, w_ones, Option.bind_some, v_line hl32 (by omega), g_2 hl32, Option.bind_some]
  -- the call and what follows it
  have main : ∀ w0 : Nat, bitC (shF (kdF (χ 0) l) 6) 8 + w0 = pS (fun c => if χ 0 2 (c * 32 + l) = 0 then 0 else 1) 6 0 → aG t V (fL_acts_j229 (nI l) (nI w0) (nI (bitC (shF (kdF (χ 0) l) 6) 8)) χ) := by
    intro w0 hw
    unfold fL_acts_j229 fX8_tear
    rw [nI_add, hw, if_neg (gIdx hl32 (by omega)), qx_hasPage hl32, if_neg (mt (pg_pos hm.1 hl32).mp h6), Option.bind_some, if_neg (show ¬ nI 1 = 0 by decide), s1, Option.bind_some, s5, qx_countOf hl32, Option.bind_some]
    have tr : ∀ b : Int32, (b = 0 ↔ ∀ c, c < 6 → χ 0 2 (c * 32 + l) = 0) → ∃ χ', (∀ y2, fX8_tear_j60 y2 b (nI l) χ1 = some (y2, χ')) ∧ (∃ Q, lJ n S R Q U D T (t + 1) V χ') ∧ fX8_line (nI l) (nI 7) χ' = some (if b = 0 then nI 0 else nI 1) := by
      intro b hb
      obtain ⟨τ', t1, t6, t15, t17, t13, to⟩ := qx_tearOut (τ := χ 0) (l := l) (b := b) hl32
      obtain ⟨Q, q1, q2⟩ := i_tear hm.1 hl32 h6 hb t6 t15 t13 (fun i i1 i2 i3 i4 => to i i1 i2 i3 i4)
      refine ⟨c_up χ1 0 τ', fun y2 => ?_, ⟨Q, j_next h s2 s7 (mach_of hm q2 fun i hi => to i (by omega) (by omega) (by omega) (by omega)) hU hD (by omega)⟩, ?_⟩
      · unfold fX8_tear_j60
        rw [s5, t1, cb1]
      · rw [v_line hl32 (by omega), c_ue, g_7 hl32, t13]
        by_cases b0 : b = 0
        · rw [if_pos b0, if_pos b0, (hK l hl32).1 h6]
          rfl
        · rw [if_neg b0, if_neg b0, b_set _ hl32 hl32, decide_eq_true rfl, Bool.or_true, if_pos rfl]
    by_cases h0 : pS (fun c => if χ 0 2 (c * 32 + l) = 0 then 0 else 1) 6 0 = 0
    · obtain ⟨χ', u1, ⟨Q, u2⟩, u3⟩ := tr (nI 0) ⟨fun _ => cnt_zero.mp h0, fun _ => nI_0⟩
      rw [if_pos nI_0] at u3
      rw [if_pos ((nI_le0 (by omega)).mpr h0), u1, b2_c, if_pos rfl, u3, Option.bind_some, if_pos ((nI_le0 (by omega)).mpr h0)]
      unfold fL_acts_j259
      rw [if_pos rfl]
      exact ⟨0, _, rfl, n, S, R, Q, U, D, T, u2⟩
    · obtain ⟨χ', u1, ⟨Q, u2⟩, u3⟩ := tr (nI 1) ⟨fun z => absurd z (by decide), fun z => absurd (cnt_zero.mpr z) h0⟩
      rw [if_neg (show ¬ nI 1 = 0 by decide)] at u3
      rw [if_neg (mt (nI_le0 (by omega)).mp h0), u1, b2_c, if_pos rfl, u3, Option.bind_some, if_neg (mt (nI_le0 (by omega)).mp h0)]
      unfold fL_acts_j259
      rw [if_pos rfl]
      exact ⟨0, _, rfl, n, S, R, Q, U, D, T, u2⟩
  cases ho : ownO (χ 0) l with
  | none =>
    rw [ho] at hC
    rw [oI_none, if_pos (by decide)]
    exact main 0 hC
  | some d =>
    rw [ho] at hC
    obtain ⟨d1, d2, -⟩ := pF_some ho
    rw [oI_some, if_neg (nI_pos (by omega))]
    exact main 1 hC
theorem a_acts {n S R P U D T t V v : Nat} {χ : cSt} (h : lJ n S R P U D T t V χ) (ht : t ≤ 43) (hv : v < 2 ^ 31) : aG t V (fL_acts (nI v) χ) := by
  obtain ⟨⟨⟨a1, a2, -⟩, s19, -⟩, hC, -⟩ := h.1.1
  have hR := h.1.2.1
  obtain ⟨u3, p3, e3⟩ := shr_nI (k := 3) hv (by omega)
  obtain ⟨u7, p7, e7⟩ := shr_nI (k := 7) hv (by omega)
  unfold fL_acts
  rw [v_value (by omega), n_0, s19, Option.bind_some, e3, z_rm_nI (by omega) p3 (by omega), Option.bind_some, e7, z_rm_nI (by omega) p7 (by omega), Option.bind_some]
  have hc : u3 % n < n := Nat.mod_lt _ (by omega)
  have hl : u7 % 9 < 9 := Nat.mod_lt _ (by omega)
  generalize u3 % n = c at hc
  generalize u7 % 9 = l at hl
  generalize nI v &&& nI 7 = y4
  have hc6 : c < 6 := by omega
  have hl32 : l < 32 := by omega
  rw [v_pending s19 a2 hc, Option.bind_some]
  have j189 : aG t V (fL_acts_j189 (nI v) (nI l) y4 χ) := by
    unfold fL_acts_j189
    by_cases c1 : y4 = nI 7
    · rw [if_pos c1, v_line hl32 (by omega), g_4 hl32, Option.bind_some]
      by_cases h6 : χ 0 6 l = 0
      · rw [if_pos ((pg_pos h.1.1 hl32).mpr h6), if_neg (by decide)]
        exact a_pass h ht hv
      · rw [if_neg (mt (pg_pos h.1.1 hl32).mp h6), if_pos rfl]
        exact a_tear h ht hl h6
    · rw [if_neg c1]
      exact a_pass h ht hv
  have j133 : aG t V (fL_acts_j133 (nI v) (nI c) (nI l) y4 χ) := by
    unfold fL_acts_j133
    by_cases c1 : y4 = nI 6
    · rw [if_pos c1, v_copy s19 a2 hc hl32 (by omega), f_0 hc6 hl32, Option.bind_some]
      by_cases hk : χ 0 2 (c * 32 + l) = 0
      · rw [hk, if_pos (Int32.le_refl _)]
        exact j189
      · have hk12 : χ 0 2 (c * 32 + l) = nI 1 ∨ χ 0 2 (c * 32 + l) = nI 2 := by
          rcases hC c l hc6 hl32 with z | ⟨_, _, z, _⟩
          · exact absurd z hk
          · exact z
        rw [if_neg (by rcases hk12 with z | z <;> rw [z] <;> decide)]
        have := a_drop h ht hc hl hk
        rw [v_copy s19 a2 hc hl32 (by omega), f_0 hc6 hl32] at this
        exact this
    · rw [if_neg c1]
      exact j189
  have j82 : ∀ y5 : Int32, (y5 ≠ 0 → χ 0 7 c = -1) → aG t V (fL_acts_j82 (nI v) (nI c) (nI l) y4 y5 χ) := fun y5 hy => by
    unfold fL_acts_j82
    by_cases c1 : nI 5 ≤ y4
    · rw [if_pos c1]; exact j133
    · rw [if_neg c1]
      by_cases c2 : y5 = 0
      · rw [if_pos c2]; exact j133
      · rw [if_neg c2]
        obtain ⟨u, p, e⟩ := shr_nI (k := 11) hv (by omega)
        rw [e, z_rm_nI (by omega) p (by omega), Option.bind_some]
        exact a_write h ht hc hl (Nat.mod_lt _ (by omega)) (hy c2)
  have j38 : ∀ y5 : Int32, (y5 ≠ 0 → χ 0 7 c = -1) → aG t V (fL_acts_j38 (nI v) (nI c) (nI l) y4 y5 χ) := fun y5 hy => by
    unfold fL_acts_j38
    by_cases c1 : nI 3 ≤ y4
    · rw [if_pos c1]; exact j82 y5 hy
    · rw [if_neg c1]
      by_cases c2 : y5 = 0
      · rw [if_pos c2]; exact j82 y5 hy
      · rw [if_neg c2]
        exact a_read h ht hc hl (hy c2)
  rcases hR c hc6 with z | ⟨-, k, k1, k2⟩
  · rw [z, if_neg (by decide)]
    exact j38 (nI 1) fun _ => z
  · rw [k2, if_pos (nI_pos' (by omega))]
    exact j38 (nI 0) fun z => absurd nI_0 z
