/-! texts: what the order reader does with them (rows of whole, picked) -/
theorem nar_ok : ∀ b, b < 128 → vp_nar .byte (nI b).toInt8.toInt32 = nI b := by decide +kernel
abbrev dgt (t : Nat → Nat) (L k : Nat) : Prop := k < L ∧ 48 ≤ t k ∧ t k ≤ 57
def tC (t : Nat → Nat) (L : Nat) (τ : zSt) : Prop := L ≤ 100 ∧ ∀ k, k < L → t k < 128 ∧ τ 11 k = nI (t k)
theorem tC_same {t : Nat → Nat} {L : Nat} {τ τ' : zSt} (h : tC t L τ) (e : τ' 11 = τ 11) : tC t L τ' := by
  unfold tC
  rw [e]
  exact h
/-- the class's sign at place k -/
def sg (t : Nat → Nat) (L k : Nat) : Int32 := if k < L then nI (t k) else -1
theorem qx_step {t : Nat → Nat} {L k g : Nat} {K : zSt → Option (Int32 × zSt)} {τ : zSt} (hC : tC t L τ) (hk : k ≤ L) : fX5_readAll_l14 K (g + 1) (nI L) (nI k) τ = z_b2 (fX5_take (sg t L k) (nI k) τ) fun x3 σ4 => (if x3 = (-1) then fX5_readAll_l14 K g (nI L) (nI (k + 1)) σ4 else some (x3, σ4)) := by
  obtain ⟨hL, ht⟩ := hC
  rw [fX5_readAll_l14, if_neg (nI_nlt hk (by omega))]
  unfold fX5_readAll_j36 fX5_readAll_j37 sg
  rw [nI_add]
  by_cases hkL : k < L
  · rw [if_neg (nI_ge hkL (by omega)), if_neg (nI_ge (show k < 100 by omega) (by omega)), p_ag (by omega) (by omega), Option.bind_some, (ht k hkL).2, if_pos hkL]
  · rw [if_pos (nI_le (by omega) (by omega)), if_neg hkL]
/-- the places at which a number stands, with its digits and range -/
def plc (p mx lo hi : Nat) : Prop := (p = 3 ∧ mx = 2 ∧ lo = 0 ∧ hi = 31) ∨ (p = 4 ∧ mx = 3 ∧ lo = 0 ∧ hi = 999) ∨ (p = 5 ∧ mx = 2 ∧ lo = 1 ∧ hi = 50)
theorem plc_tab {p mx lo hi : Nat} (h : plc p mx lo hi) : z_tab [0, 0, 0, 2, 3, 2] (nI p) = some (nI mx) ∧ z_tab [0, 0, 0, 0, 0, 1] (nI p) = some (nI lo) ∧ z_tab [0, 0, 0, 31, 999, 50] (nI p) = some (nI hi) ∧ z_pq (nI p) (nI 0) = some false ∧ z_pq (nI p) (nI 1) = some false ∧ z_pq (nI p) (nI 2) = some false ∧ z_pq (nI p) (nI 3) = some (decide (p = 3)) := by
  rcases h with ⟨rfl, rfl, rfl, rfl⟩ | ⟨rfl, rfl, rfl, rfl⟩ | ⟨rfl, rfl, rfl, rfl⟩ <;> decide +kernel
theorem qx_take3 {p mx lo hi : Nat} {w a1 : Int32} {τ : zSt} (h : plc p mx lo hi) (h4 : τ 4 0 = nI p) : fX5_take w a1 τ = fX5_takeOfNumber w a1 τ := by
  obtain ⟨-, -, -, q0, q1, q2, -⟩ := plc_tab h
  unfold fX5_take
  rw [h4, q0, Option.bind_some, ifF, q1, Option.bind_some, ifF, q2, Option.bind_some, ifF]
  unfold z_b2
  cases fX5_takeOfNumber w a1 τ with
  | none => rfl
  | some q => rfl
theorem qx_digit {t : Nat → Nat} {L p mx lo hi k d a : Nat} {τ : zSt} (hC : tC t L τ) (h : plc p mx lo hi) (h4 : τ 4 0 = nI p) (h8 : τ 8 0 = nI a) (h9 : τ 9 0 = nI d) (hd : d ≤ mx) (hk : dgt t L k) :
    (d = mx → fX5_take (sg t L k) (nI k) τ = some (nI k, τ)) ∧ (d < mx → ∃ τ', fX5_take (sg t L k) (nI k) τ = some (-1, τ') ∧ τ' 8 0 = nI (10 * a + (t k - 48)) ∧ τ' 9 0 = nI (d + 1) ∧ τ' 10 0 = (if d = 0 then nI k else τ 10 0) ∧ ∀ i, i ≠ 8 → i ≠ 9 → i ≠ 10 → τ' i = τ i) := by
  obtain ⟨q0, -⟩ := plc_tab h
  have hmx : mx ≤ 3 := by unfold plc at h; omega
  rw [qx_take3 h h4]
  unfold fX5_takeOfNumber fX5_takeDigit
  have hs : sg t L k = nI (t k) := if_pos hk.1
  have ht := (hC.2 k hk.1).1
  rw [hs, if_neg (nI_nlt hk.2.1 (by omega)), if_neg (nI_nlt hk.2.2 (by omega)), h4, q0, Option.bind_some, h9, p_sub hk.2.1]
  refine ⟨fun e => ?_, fun e => ?_⟩
  · rw [e, if_pos rfl]
    rfl
  · rw [if_neg (fun z => by have := (nI_eq (by omega) (by omega)).mp z; omega)]
    unfold fX5_takeDigit_j28
    by_cases d0 : d = 0
    · rw [d0, if_pos nI_0, p_ws, Option.bind_some, ws_o (show ¬ 8 = 10 by omega), h8, p_ws, Option.bind_some, ws_o (show ¬ 9 = 8 by omega), ws_o (show ¬ 9 = 10 by omega), h9, d0, p_mul, nI_add, nI_add, p_ws, Option.bind_some]
      refine ⟨ws (ws (ws τ 10 (nI k)) 8 (nI (a * 10 + (t k - 48)))) 9 (nI (0 + 1)), rfl, ?_, ws_e _ _ _ _, ?_, fun i i8 i9 i10 => ?_⟩
      · rw [ws_o (by omega), ws_e, Nat.mul_comm a 10]
      · rw [ws_o (by omega), ws_o (by omega), ws_e, if_pos rfl]
      · rw [ws_o i9, ws_o i8, ws_o i10]
    · rw [if_neg (nI_ne0 (by omega) (by omega)), h8, p_ws, Option.bind_some, ws_o (show ¬ 9 = 8 by omega), h9, p_mul, nI_add, nI_add, p_ws, Option.bind_some]
      refine ⟨ws (ws τ 8 (nI (a * 10 + (t k - 48)))) 9 (nI (d + 1)), rfl, ?_, ws_e _ _ _ _, ?_, fun i i8 i9 i10 => ?_⟩
      · rw [ws_o (by omega), ws_e, Nat.mul_comm a 10]
      · rw [ws_o (by omega), ws_o (by omega), if_neg d0]
      · rw [ws_o i9, ws_o i8]
