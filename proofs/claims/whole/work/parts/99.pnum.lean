/-! numbers of a text, as both read them -/
/-- the text, as the reference has it; as the class has it -/
def tR (t : Nat → Nat) (L : Nat) (σ : zSt) : Prop := σ 6 0 = nI L ∧ L ≤ 100 ∧ ∀ k, k < L → t k < 128 ∧ σ 3 k = nI (t k)
def tC (t : Nat → Nat) (L : Nat) (τ : zSt) : Prop := L ≤ 100 ∧ ∀ k, k < L → t k < 128 ∧ τ 11 k = nI (t k)
theorem tC_same {t : Nat → Nat} {L : Nat} {τ τ' : zSt} (h : tC t L τ) (e : τ' 11 = τ 11) : tC t L τ' := by
  unfold tC
  rw [e]
  exact h
/-- the reference at place k, with the order o -/
def rs (σ : zSt) (o : Nat → Int32) (k : Nat) : zSt := ws (z_up σ 4 o) 8 (nI k)
theorem rs_8 (σ : zSt) (o : Nat → Int32) (k : Nat) : rs σ o k 8 0 = nI k := ws_e _ _ _ _
theorem rs_4 (σ : zSt) (o : Nat → Int32) (k : Nat) : rs σ o k 4 = o := by
  unfold rs
  rw [ws_o (by omega), p_ze]
theorem rs_o {σ : zSt} {o : Nat → Int32} {k i : Nat} (h4 : i ≠ 4) (h8 : i ≠ 8) : rs σ o k i = σ i := by
  unfold rs
  rw [ws_o h8, p_zn h4]
theorem rs_ws (σ : zSt) (o : Nat → Int32) (k j : Nat) : ws (rs σ o k) 8 (nI j) = rs σ o j := ws_ws _ _ _ _
theorem rs_wr (σ : zSt) (o : Nat → Int32) (k p : Nat) (v : Int32) : wr (rs σ o k) 4 p v = rs σ (upd o p v) k := by
  funext i
  by_cases h4 : i = 4
  · rw [h4, rs_4]
    unfold wr
    rw [p_ze, rs_4]
  · by_cases h8 : i = 8
    · rw [h8, wr_o (by omega)]
      rfl
    · rw [wr_o h4, rs_o h4 h8, rs_o h4 h8]
theorem tR_rs {t : Nat → Nat} {L : Nat} {σ : zSt} (h : tR t L σ) (o : Nat → Int32) (k : Nat) : tR t L (rs σ o k) := by
  unfold tR
  rw [rs_o (by omega) (by omega), rs_o (by omega) (by omega)]
  exact h
abbrev dg (t : Nat → Nat) (L k : Nat) : Prop := k < L ∧ 48 ≤ t k ∧ t k ≤ 57
theorem qr_isDigit {t : Nat → Nat} {L h k : Nat} {σ : zSt} {o : Nat → Int32} (hR : tR t L σ) (hh : h < 128) (hk : k ≤ L) : fX9_isDigit (nI h) (rs σ o k) = some (if k < L ∧ 48 ≤ t k ∧ t k ≤ h then nI 1 else nI 0) := by
  obtain ⟨h6, hL, ht⟩ := hR
  unfold fX9_isDigit
  rw [rs_8, rs_o (show 6 ≠ 4 by omega) (show 6 ≠ 8 by omega), h6, rs_o (show 3 ≠ 4 by omega) (show 3 ≠ 8 by omega)]
  by_cases hkL : k < L
  · obtain ⟨t1, t2⟩ := ht k hkL
    rw [if_neg (nI_ge hkL (by omega)), p_ag (by omega) (by omega), Option.bind_some, t2]
    unfold fX9_in
    by_cases c1 : t k < 48
    · rw [if_pos (nI_lt c1 (by omega)), if_neg (fun z => by omega)]; rfl
    · rw [if_neg (nI_nlt (by omega) (by omega))]
      by_cases c2 : h < t k
      · rw [if_pos (nI_lt c2 (by omega)), if_neg (fun z => by omega)]; rfl
      · rw [if_neg (nI_nlt (by omega) (by omega)), if_pos ⟨hkL, by omega, by omega⟩]; rfl
  · rw [if_pos (nI_le (by omega) (by omega)), if_neg (fun z => hkL z.1)]; rfl
theorem qr_sign {t : Nat → Nat} {L c k : Nat} {σ : zSt} {o : Nat → Int32} (hR : tR t L σ) (hc : c < 128) (hk : k ≤ L) : fX9_sign (nI c) (rs σ o k) = if k < L ∧ t k = c then some (nI 1, rs σ o (k + 1)) else some (nI 0, rs σ o k) := by
  obtain ⟨h6, hL, ht⟩ := hR
  unfold fX9_sign fX9_sign_j28 fX9_sign_j29 fX9_sign_j44
  rw [rs_8, rs_o (show 6 ≠ 4 by omega) (show 6 ≠ 8 by omega), h6, rs_o (show 3 ≠ 4 by omega) (show 3 ≠ 8 by omega), if_pos nI_0, if_neg (show ¬ nI 1 = 0 by decide), nI_add, nI_add, p_ws, p_ws, Option.bind_some, Option.bind_some, rs_ws, rs_ws]
  by_cases hkL : k < L
  · obtain ⟨t1, t2⟩ := ht k hkL
    rw [if_neg (nI_ge hkL (by omega)), p_ag (by omega) (by omega), Option.bind_some, t2]
    by_cases e : t k = c
    · rw [if_pos (by rw [e]), if_pos ⟨hkL, e⟩]; rfl
    · rw [if_neg (fun z => e ((nI_eq (by omega) (by omega)).mp z)), if_neg (fun z => e z.2)]; rfl
  · rw [if_pos (nI_le (by omega) (by omega)), if_neg (fun z => hkL z.1)]; rfl
/-- at most m digits from k on -/
def nD (t : Nat → Nat) (L : Nat) : Nat → Nat → Nat → Nat × Nat
  | 0, k, a => (k, a)
  | m + 1, k, a => if dg t L k then nD t L m (k + 1) (10 * a + (t k - 48)) else (k, a)
theorem nD_le {t : Nat → Nat} {L : Nat} : ∀ (m k a : Nat), k ≤ L → k ≤ (nD t L m k a).1 ∧ (nD t L m k a).1 ≤ L ∧ (nD t L m k a).1 ≤ k + m ∧ (dg t L (nD t L m k a).1 → (nD t L m k a).1 = k + m) := by
  intro m
  induction m with
  | zero => exact fun k a hk => ⟨Nat.le_refl _, hk, Nat.le_refl _, fun _ => rfl⟩
  | succ m ih =>
    intro k a hk
    rw [nD]
    by_cases h : dg t L k
    · rw [if_pos h]
      obtain ⟨h1, h2, h3, h4⟩ := ih (k + 1) (10 * a + (t k - 48)) h.1
      exact ⟨by omega, h2, by omega, fun z => by have := h4 z; omega⟩
    · rw [if_neg h]
      exact ⟨Nat.le_refl _, hk, Nat.le_add_right _ _, fun z => absurd z h⟩
theorem nD_lt {t : Nat → Nat} {L : Nat} : ∀ (m k a b : Nat), a < b → (nD t L m k a).2 < 10 ^ m * b := by
  intro m
  induction m with
  | zero =>
    intro k a b h
    rw [Nat.pow_zero, Nat.one_mul]
    exact h
  | succ m ih =>
    intro k a b h
    rw [nD]
    by_cases hd : dg t L k
    · rw [if_pos hd]
      have := ih (k + 1) (10 * a + (t k - 48)) (10 * b) (by have := hd.2; omega)
      rw [Nat.pow_succ, Nat.mul_assoc]
      exact this
    · rw [if_neg hd]
      exact Nat.lt_of_lt_of_le h (Nat.le_mul_of_pos_left b (Nat.pow_pos (by omega)))
theorem qr_num_l {t : Nat → Nat} {L mx from' p : Nat} {x3 x4 : Int32} {K : Int32 → Int32 → Int32 → Int32 → Int32 → zSt → Option (Int32 × zSt)} {σ : zSt} {o : Nat → Int32} (hR : tR t L σ) (hmx : mx ≤ 3) (hfr : from' ≤ 100) : ∀ (m k a f : Nat), k + m = from' + mx → k ≤ L → m < f → fX9_numberInto_l9 K f (nI p) (nI mx) x3 x4 (nI from') (nI a) (rs σ o k) = K (nI p) x3 x4 (nI from') (nI (nD t L m k a).2) (rs σ o (nD t L m k a).1) := by
  intro m
  induction m with
  | zero =>
    intro k a f hk hkL hf
    have hL := hR.2.1
    obtain ⟨f, rfl⟩ : ∃ k, f = k + 1 := ⟨f - 1, by omega⟩
    rw [fX9_numberInto_l9, qr_isDigit hR (by omega) hkL, Option.bind_some, rs_8, nI_add, if_pos (nI_le (by omega) (by omega))]
    split <;> rfl
  | succ m ih =>
    intro k a f hk hkL hf
    have hL := hR.2.1
    obtain ⟨f, rfl⟩ : ∃ k, f = k + 1 := ⟨f - 1, by omega⟩
    rw [fX9_numberInto_l9, qr_isDigit hR (by omega) hkL, Option.bind_some, rs_8, nI_add, if_neg (nI_ge (show k < from' + mx by omega) (by omega)), nD]
    by_cases h : dg t L k
    · obtain ⟨t1, t2⟩ := hR.2.2 k h.1
      rw [if_pos h, if_neg (show ¬ nI 1 = 0 by decide), if_pos h, p_ag (by omega) (by omega), Option.bind_some, rs_o (show 3 ≠ 4 by omega) (show 3 ≠ 8 by omega), t2, nI_add, p_ws, Option.bind_some, rs_ws, p_mul, nI_add, p_sub (by have := h.2; omega), show 10 * a + t k - 48 = 10 * a + (t k - 48) by have := h.2; omega]
      exact ih (k + 1) _ f (by omega) h.1 (by omega)
    · rw [if_neg h, if_pos nI_0, if_neg h]
theorem qr_num {t : Nat → Nat} {L mx lo hi k p : Nat} {σ : zSt} {o : Nat → Int32} (hR : tR t L σ) (hmx : mx ≤ 3) (hlh : lo ≤ hi) (hhi : hi < 1000) (hk : k ≤ L) (hp : p < 4) :
    fX9_numberInto (nI p) (nI mx) (nI lo) (nI hi) (rs σ o k) = if (nD t L mx k 0).1 = k then some (nI 0, rs σ o k) else if dg t L (nD t L mx k 0).1 then some (nI 0, rs σ o (nD t L mx k 0).1) else if (nD t L mx k 0).2 < lo ∨ hi < (nD t L mx k 0).2 then some (nI 0, rs σ o k) else some (nI 1, rs σ (upd o p (nI (nD t L mx k 0).2)) (nD t L mx k 0).1) := by
  have hL := hR.2.1
  obtain ⟨n1, n2, n3, n4⟩ := nD_le (t := t) mx k 0 hk
  have n5 := nD_lt (t := t) (L := L) mx k 0 1 (by omega)
  have n6 : 10 ^ mx * 1 ≤ 10 ^ 3 := by
    rw [Nat.mul_one]
    exact Nat.pow_le_pow_right (by omega) hmx
  unfold fX9_numberInto
  rw [rs_8, qr_num_l hR hmx (show k ≤ 100 by omega) mx k 0 z_fu rfl hk (Nat.lt_of_le_of_lt hmx (by decide))]
  generalize nD t L mx k 0 = q at n1 n2 n3 n4 n5
  rw [rs_8, qr_isDigit hR (by omega) n2, Option.bind_some, p_ws, rs_ws, p_wr hp (by omega), rs_wr, Option.bind_some, Option.bind_some]
  by_cases c1 : q.1 = k
  · rw [if_pos (by rw [c1]), if_pos c1, c1]; rfl
  · rw [if_neg (fun z => c1 ((nI_eq (by omega) (by omega)).mp z)), if_neg c1]
    by_cases c2 : dg t L q.1
    · rw [if_pos c2, if_pos c2, if_neg (show ¬ nI 1 = 0 by decide)]; rfl
    · rw [if_neg c2, if_neg c2, if_pos nI_0]
      unfold fX9_in
      by_cases c3 : q.2 < lo
      · rw [if_pos (nI_lt c3 (by omega)), if_pos (Or.inl c3)]; rfl
      · rw [if_neg (nI_nlt (by omega) (by omega))]
        by_cases c4 : hi < q.2
        · rw [if_pos (nI_lt c4 (by omega)), if_pos (Or.inr c4)]; rfl
        · rw [if_neg (nI_nlt (by omega) (by omega)), if_neg (fun z => z.elim c3 c4)]; rfl
/-- the class's sign at place k -/
def sg (t : Nat → Nat) (L k : Nat) : Int32 := if k < L then nI (t k) else -1
theorem qx_step {t : Nat → Nat} {L k g : Nat} {K : zSt → Option (Int32 × zSt)} {τ : zSt} (hC : tC t L τ) (hk : k ≤ L) : fX5_readAll_l14 K (g + 1) (nI L) (nI k) τ = z_b2 (fX5_take (sg t L k) (nI k) τ) fun x3 σ4 => (if x3 = (-1) then fX5_readAll_l14 K g (nI L) (nI (k + 1)) σ4 else some (x3, σ4)) := by
  obtain ⟨hL, ht⟩ := hC
  rw [fX5_readAll_l14, if_neg (nI_nlt hk (by omega))]
  unfold fX5_readAll_j36 fX5_readAll_j37 sg
  rw [nI_add]
  by_cases hkL : k < L
  · rw [if_neg (nI_ge hkL (by omega)), if_neg (nI_ge (show k < 100 by omega) (by omega)), p_ag (by omega) (by omega), Option.bind_some, (ht k hkL).2, if_pos hkL]
  · rw [if_pos (nI_le (by omega) (by omega)), if_neg hkL]
theorem sg_eq {t : Nat → Nat} {L k c : Nat} {τ : zSt} (hC : tC t L τ) (hc : c < 128) : sg t L k = nI c ↔ k < L ∧ t k = c := by
  unfold sg
  by_cases h : k < L
  · rw [if_pos h]
    have := (hC.2 k h).1
    exact ⟨fun z => ⟨h, (nI_eq (by omega) (by omega)).mp z⟩, fun z => by rw [z.2]⟩
  · rw [if_neg h]
    exact ⟨fun z => absurd z (p_nneg' (by omega)), fun z => absurd z.1 h⟩
theorem sg_dg {t : Nat → Nat} {L k : Nat} {τ : zSt} (hC : tC t L τ) : ¬ dg t L k ↔ (sg t L k < nI 48 ∨ nI 57 < sg t L k) := by
  unfold sg
  by_cases h : k < L
  · rw [if_pos h]
    have := (hC.2 k h).1
    rw [nI_ltI (by omega) (by omega), nI_ltI (by omega) (by omega)]
    exact ⟨fun z => by by_cases c : t k < 48; exact Or.inl c; exact Or.inr (Nat.lt_of_not_le fun y => z ⟨h, by omega, y⟩), fun z y => by have := y.2; omega⟩
  · rw [if_neg h]
    exact ⟨fun _ => Or.inl (by decide), fun _ z => h z.1⟩
/-- the places at which a number stands, with its digits and range -/
def plc (p mx lo hi : Nat) : Prop := (p = 3 ∧ mx = 2 ∧ lo = 0 ∧ hi = 31) ∨ (p = 4 ∧ mx = 3 ∧ lo = 0 ∧ hi = 999) ∨ (p = 5 ∧ mx = 2 ∧ lo = 1 ∧ hi = 50)
theorem plc_tab {p mx lo hi : Nat} (h : plc p mx lo hi) : z_tab [0, 0, 0, 2, 3, 2] (nI p) = some (nI mx) ∧ z_tab [0, 0, 0, 0, 0, 1] (nI p) = some (nI lo) ∧ z_tab [0, 0, 0, 31, 999, 50] (nI p) = some (nI hi) ∧ z_pq (nI p) (nI 0) = some false ∧ z_pq (nI p) (nI 1) = some false ∧ z_pq (nI p) (nI 2) = some false ∧ z_pq (nI p) (nI 3) = some (decide (p = 3)) := by
  rcases h with ⟨rfl, rfl, rfl, rfl⟩ | ⟨rfl, rfl, rfl, rfl⟩ | ⟨rfl, rfl, rfl, rfl⟩ <;> decide +kernel
theorem qx_take3 {p mx lo hi : Nat} {w a1 : Int32} {τ : zSt} (h : plc p mx lo hi) (h4 : τ 4 0 = nI p) : fX5_take w a1 τ = fX5_takeOfNumber w a1 τ := by
  obtain ⟨-, -, -, q0, q1, q2, -⟩ := plc_tab h
  unfold fX5_take
  rw [h4, q0, Option.bind_some, ifF, q1, Option.bind_some, ifF, q2, Option.bind_some, ifF]
  unfold z_b2
  cases fX5_takeOfNumber w a1 τ with
  | none => rfl
  | some q => rfl
theorem qx_digit {t : Nat → Nat} {L p mx lo hi k d a : Nat} {τ : zSt} (hC : tC t L τ) (h : plc p mx lo hi) (h4 : τ 4 0 = nI p) (h8 : τ 8 0 = nI a) (h9 : τ 9 0 = nI d) (hd : d ≤ mx) (hk : dg t L k) :
    (d = mx → fX5_take (sg t L k) (nI k) τ = some (nI k, τ)) ∧ (d < mx → ∃ τ', fX5_take (sg t L k) (nI k) τ = some (-1, τ') ∧ τ' 8 0 = nI (10 * a + (t k - 48)) ∧ τ' 9 0 = nI (d + 1) ∧ τ' 10 0 = (if d = 0 then nI k else τ 10 0) ∧ ∀ i, i ≠ 8 → i ≠ 9 → i ≠ 10 → τ' i = τ i) := by
  obtain ⟨q0, -⟩ := plc_tab h
  have hmx : mx ≤ 3 := by unfold plc at h; omega
  rw [qx_take3 h h4]
  unfold fX5_takeOfNumber fX5_takeDigit
  have hs : sg t L k = nI (t k) := if_pos hk.1
  have ht := (hC.2 k hk.1).1
  rw [hs, if_neg (nI_nlt hk.2.1 (by omega)), if_neg (nI_nlt hk.2.2 (by omega)), h4, q0, Option.bind_some, h9, p_sub hk.2.1]
  refine ⟨fun e => ?_, fun e => ?_⟩
  · rw [e, if_pos rfl]
    rfl
  · rw [if_neg (fun z => by have := (nI_eq (by omega) (by omega)).mp z; omega)]
    unfold fX5_takeDigit_j28
    by_cases d0 : d = 0
    · rw [d0, if_pos nI_0, p_ws, Option.bind_some, ws_o (show ¬ 8 = 10 by omega), h8, p_ws, Option.bind_some, ws_o (show ¬ 9 = 8 by omega), ws_o (show ¬ 9 = 10 by omega), h9, d0, p_mul, nI_add, nI_add, p_ws, Option.bind_some]
      refine ⟨ws (ws (ws τ 10 (nI k)) 8 (nI (a * 10 + (t k - 48)))) 9 (nI (0 + 1)), rfl, ?_, ws_e _ _ _ _, ?_, fun i i8 i9 i10 => ?_⟩
      · rw [ws_o (by omega), ws_e, Nat.mul_comm a 10]
      · rw [ws_o (by omega), ws_o (by omega), ws_e, if_pos rfl]
      · rw [ws_o i9, ws_o i8, ws_o i10]
    · rw [if_neg (nI_ne0 (by omega) (by omega)), h8, p_ws, Option.bind_some, ws_o (show ¬ 9 = 8 by omega), h9, p_mul, nI_add, nI_add, p_ws, Option.bind_some]
      refine ⟨ws (ws τ 8 (nI (a * 10 + (t k - 48)))) 9 (nI (d + 1)), rfl, ?_, ws_e _ _ _ _, ?_, fun i i8 i9 i10 => ?_⟩
      · rw [ws_o (by omega), ws_e, Nat.mul_comm a 10]
      · rw [ws_o (by omega), ws_o (by omega), if_neg d0]
      · rw [ws_o i9, ws_o i8]
theorem qx_digits {t : Nat → Nat} {L p mx lo hi from' : Nat} {K : zSt → Option (Int32 × zSt)} (h : plc p mx lo hi) : ∀ (m k d a : Nat) (τ : zSt), tC t L τ → τ 4 0 = nI p → τ 8 0 = nI a → τ 9 0 = nI d → d + m = mx → k = from' + d → (d ≠ 0 → τ 10 0 = nI from') → k ≤ L →
    ∃ τ' d', (∀ g, fX5_readAll_l14 K (g + ((nD t L m k a).1 - k)) (nI L) (nI k) τ = fX5_readAll_l14 K g (nI L) (nI (nD t L m k a).1) τ') ∧ τ' 8 0 = nI (nD t L m k a).2 ∧ τ' 9 0 = nI d' ∧ (nD t L m k a).1 = from' + d' ∧ (d' ≠ 0 → τ' 10 0 = nI from') ∧ ∀ i, i ≠ 8 → i ≠ 9 → i ≠ 10 → τ' i = τ i := by
  intro m
  induction m with
  | zero =>
    intro k d a τ hC h4 h8 h9 hd hk h10 hkL
    refine ⟨τ, d, fun g => ?_, h8, h9, hk, h10, fun _ _ _ _ => rfl⟩
    show fX5_readAll_l14 K (g + (k - k)) (nI L) (nI k) τ = fX5_readAll_l14 K g (nI L) (nI k) τ
    rw [Nat.sub_self, Nat.add_zero]
  | succ m ih =>
    intro k d a τ hC h4 h8 h9 hd hk h10 hkL
    rw [nD]
    by_cases hdg : dg t L k
    · rw [if_pos hdg]
      obtain ⟨τ1, s1, s2, s3, s4, s5⟩ := (qx_digit hC h h4 h8 h9 (by omega) hdg).2 (by omega)
      have hC1 : tC t L τ1 := tC_same hC (s5 11 (by omega) (by omega) (by omega))
      obtain ⟨τ', d', g1, g2, g3, g4, g5, g6⟩ := ih (k + 1) (d + 1) (10 * a + (t k - 48)) τ1 hC1 (by rw [s5 4 (by omega) (by omega) (by omega)]; exact h4) s2 s3 (by omega) (by omega) (fun _ => by
        rw [s4]
        by_cases d0 : d = 0
        · rw [if_pos d0, hk, d0, Nat.add_zero]
        · rw [if_neg d0]; exact h10 d0) hdg.1
      refine ⟨τ', d', fun g => ?_, g2, g3, g4, g5, fun i i8 i9 i10 => by rw [g6 i i8 i9 i10, s5 i i8 i9 i10]⟩
      have hle := (nD_le (t := t) m (k + 1) (10 * a + (t k - 48)) hdg.1).1
      rw [show g + ((nD t L m (k + 1) (10 * a + (t k - 48))).1 - k) = (g + ((nD t L m (k + 1) (10 * a + (t k - 48))).1 - (k + 1))) + 1 by omega, qx_step hC hkL, s1, b2_1, if_pos rfl, ← g1 g]
    · rw [if_neg hdg]
      refine ⟨τ, d, fun g => ?_, h8, h9, hk, h10, fun _ _ _ _ => rfl⟩
      show fX5_readAll_l14 K (g + (k - k)) (nI L) (nI k) τ = fX5_readAll_l14 K g (nI L) (nI k) τ
      rw [Nat.sub_self, Nat.add_zero]
/-- behind a number that is in its range -/
theorem qx_term {t : Nat → Nat} {L p mx lo hi k n d : Nat} {τ : zSt} (hC : tC t L τ) (h : plc p mx lo hi) (h4 : τ 4 0 = nI p) (h8 : τ 8 0 = nI n) (h9 : τ 9 0 = nI d) (hd : d ≠ 0) (hd2 : d < 1000) (hn : lo ≤ n) (hn2 : n ≤ hi) (hk : ¬ dg t L k) :
    fX5_take (sg t L k) (nI k) τ = if τ 5 0 ≠ 0 ∧ p = 3 then fX5_takeOfNumber_j86 (sg t L k) (nI k) (nI 1) τ else fX5_takeOfNumber_j86 (sg t L k) (nI k) (nI 0) τ := by
  obtain ⟨-, q1, q2, -, -, -, q3⟩ := plc_tab h
  have hhi : hi < 1000 := by unfold plc at h; omega
  have e : fX5_takeOfNumber (sg t L k) (nI k) τ = fX5_takeOfNumber_j22 (sg t L k) (nI k) τ := by
    unfold fX5_takeOfNumber
    rcases (sg_dg hC).mp hk with z | z
    · rw [if_pos z]
    · by_cases z2 : sg t L k < nI 48
      · rw [if_pos z2]
      · rw [if_neg z2, if_pos z]
  rw [qx_take3 h h4, e]
  unfold fX5_takeOfNumber_j22 fX5_takeOfNumber_j85
  rw [h9, if_neg (nI_ne0 (by omega) (by omega)), h4, q1, Option.bind_some, h8, if_neg (nI_nlt hn (by omega)), q2, Option.bind_some, if_pos (nI_le hn2 (by omega)), q3, Option.bind_some]
  by_cases c5 : τ 5 0 = 0
  · rw [if_pos c5, if_neg (fun z => z.1 c5)]
  · rw [if_neg c5]
    by_cases c3 : p = 3
    · rw [decide_eq_true c3, ifT, if_pos ⟨c5, c3⟩]
    · rw [decide_eq_false c3, ifF, if_neg (fun z => c3 z.2)]
theorem rl_num {t : Nat → Nat} {L p mx lo hi k : Nat} (hL : L ≤ 100) (ht : ∀ k, k < L → t k < 128) (h : plc p mx lo hi) (hk : k ≤ L) :
    (∃ e, e ≤ L ∧ (∀ (σ : zSt) (o : Nat → Int32) (q : Nat), tR t L σ → q < 4 → fX9_numberInto (nI q) (nI mx) (nI lo) (nI hi) (rs σ o k) = some (nI 0, rs σ o e)) ∧ ∀ (τ : zSt) (K : zSt → Option (Int32 × zSt)), tC t L τ → τ 4 0 = nI p → τ 8 0 = nI 0 → τ 9 0 = nI 0 → ∃ τ', τ' 11 = τ 11 ∧ ∀ g, L < g + k → fX5_readAll_l14 K g (nI L) (nI k) τ = some (nI e, τ')) ∨
    (∃ k' n, k < k' ∧ k' ≤ L ∧ lo ≤ n ∧ n ≤ hi ∧ (∀ (σ : zSt) (o : Nat → Int32) (q : Nat), tR t L σ → q < 4 → fX9_numberInto (nI q) (nI mx) (nI lo) (nI hi) (rs σ o k) = some (nI 1, rs σ (upd o q (nI n)) k')) ∧ ∀ (τ : zSt) (K : zSt → Option (Int32 × zSt)), tC t L τ → τ 4 0 = nI p → τ 8 0 = nI 0 → τ 9 0 = nI 0 → ∃ τ', (∀ i, i ≠ 8 → i ≠ 9 → i ≠ 10 → τ' i = τ i) ∧ τ' 8 0 = nI n ∧ (fX5_take (sg t L k') (nI k') τ' = if τ 5 0 ≠ 0 ∧ p = 3 then fX5_takeOfNumber_j86 (sg t L k') (nI k') (nI 1) τ' else fX5_takeOfNumber_j86 (sg t L k') (nI k') (nI 0) τ') ∧ ∀ g, fX5_readAll_l14 K (g + (k' - k)) (nI L) (nI k) τ = fX5_readAll_l14 K g (nI L) (nI k') τ') := by
  have hmx : mx ≤ 3 := by unfold plc at h; omega
  have hhi : hi < 1000 := by unfold plc at h; omega
  have hlh : lo ≤ hi := by unfold plc at h; omega
  obtain ⟨n1, n2, n3, n4⟩ := nD_le (t := t) mx k 0 hk
  have n5 := nD_lt (t := t) (L := L) mx k 0 1 (by omega)
  have n6 : 10 ^ mx * 1 ≤ 10 ^ 3 := by
    rw [Nat.mul_one]
    exact Nat.pow_le_pow_right (by omega) hmx
  have hr := fun (σ : zSt) (o : Nat → Int32) (q : Nat) (hR : tR t L σ) (hq : q < 4) => qr_num (lo := lo) (hi := hi) (o := o) hR hmx hlh hhi hk hq
  have hx := fun (τ : zSt) (K : zSt → Option (Int32 × zSt)) (hC : tC t L τ) (h4 : τ 4 0 = nI p) (h8 : τ 8 0 = nI 0) (h9 : τ 9 0 = nI 0) => qx_digits (from' := k) (K := K) h mx k 0 0 τ hC h4 h8 h9 (by omega) rfl (fun z => absurd rfl z) hk
  generalize hq : nD t L mx k 0 = q at n1 n2 n3 n4 n5 hr hx
  -- an error that the step at q.1 tells
  have err : ∀ (e : Nat) (τ τ1 : zSt) (K : zSt → Option (Int32 × zSt)), tC t L τ1 → e < 1000 → (∀ g, fX5_readAll_l14 K (g + (q.1 - k)) (nI L) (nI k) τ = fX5_readAll_l14 K g (nI L) (nI q.1) τ1) → fX5_take (sg t L q.1) (nI q.1) τ1 = some (nI e, τ1) → ∀ g, L < g + k → fX5_readAll_l14 K g (nI L) (nI k) τ = some (nI e, τ1) := by
    intro e τ τ1 K hC1 he hg hst g hgk
    obtain ⟨g', rfl⟩ : ∃ g', g = (g' + 1) + (q.1 - k) := ⟨g - (q.1 - k) - 1, by omega⟩
    rw [hg, qx_step hC1 n2, hst, b2_1, if_neg (p_nneg (by omega))]
  have j22 : ∀ τ1 : zSt, tC t L τ1 → τ1 4 0 = nI p → ¬ dg t L q.1 → fX5_take (sg t L q.1) (nI q.1) τ1 = fX5_takeOfNumber_j22 (sg t L q.1) (nI q.1) τ1 := by
    intro τ1 hC1 h4 hnd
    rw [qx_take3 h h4]
    unfold fX5_takeOfNumber
    rcases (sg_dg hC1).mp hnd with z | z
    · rw [if_pos z]
    · by_cases z2 : sg t L q.1 < nI 48
      · rw [if_pos z2]
      · rw [if_neg z2, if_pos z]
  obtain ⟨-, w1, w2, -⟩ := plc_tab h
  by_cases c1 : q.1 = k
  · refine Or.inl ⟨k, hk, fun σ o r hR hr4 => by rw [hr σ o r hR hr4, if_pos c1], fun τ K hC h4 h8 h9 => ?_⟩
    obtain ⟨τ1, d, g1, g2, g3, g4, g5, g6⟩ := hx τ K hC h4 h8 h9
    have hC1 : tC t L τ1 := tC_same hC (g6 11 (by omega) (by omega) (by omega))
    have d0 : d = 0 := by omega
    have h41 : τ1 4 0 = nI p := by rw [g6 4 (by omega) (by omega) (by omega)]; exact h4
    refine ⟨τ1, g6 11 (by omega) (by omega) (by omega), err k τ τ1 K hC1 (by omega) g1 ?_⟩
    have hnd : ¬ dg t L q.1 := fun z => by
      have := n4 z
      unfold plc at h
      omega
    rw [j22 τ1 hC1 h41 hnd]
    unfold fX5_takeOfNumber_j22
    rw [g3, d0, if_pos nI_0, c1]
  · by_cases c2 : dg t L q.1
    · refine Or.inl ⟨q.1, n2, fun σ o r hR hr4 => by rw [hr σ o r hR hr4, if_neg c1, if_pos c2], fun τ K hC h4 h8 h9 => ?_⟩
      obtain ⟨τ1, d, g1, g2, g3, g4, g5, g6⟩ := hx τ K hC h4 h8 h9
      have hC1 : tC t L τ1 := tC_same hC (g6 11 (by omega) (by omega) (by omega))
      have h41 : τ1 4 0 = nI p := by rw [g6 4 (by omega) (by omega) (by omega)]; exact h4
      have hd : d = mx := by have := n4 c2; omega
      exact ⟨τ1, g6 11 (by omega) (by omega) (by omega), err q.1 τ τ1 K hC1 (by omega) g1 ((qx_digit hC1 h h41 g2 g3 (by omega) c2).1 hd)⟩
    · by_cases c3 : q.2 < lo ∨ hi < q.2
      · refine Or.inl ⟨k, hk, fun σ o r hR hr4 => by rw [hr σ o r hR hr4, if_neg c1, if_neg c2, if_pos c3], fun τ K hC h4 h8 h9 => ?_⟩
        obtain ⟨τ1, d, g1, g2, g3, g4, g5, g6⟩ := hx τ K hC h4 h8 h9
        have hC1 : tC t L τ1 := tC_same hC (g6 11 (by omega) (by omega) (by omega))
        have h41 : τ1 4 0 = nI p := by rw [g6 4 (by omega) (by omega) (by omega)]; exact h4
        refine ⟨τ1, g6 11 (by omega) (by omega) (by omega), err k τ τ1 K hC1 (by omega) g1 ?_⟩
        rw [j22 τ1 hC1 h41 c2]
        unfold fX5_takeOfNumber_j22 fX5_takeOfNumber_j59
        rw [g3, if_neg (nI_ne0 (by omega) (by omega)), h41, w1, Option.bind_some, g2, w2, Option.bind_some, g5 (by omega)]
        by_cases c4 : q.2 < lo
        · rw [if_pos (nI_lt c4 (by omega))]
        · rw [if_neg (nI_nlt (by omega) (by omega)), if_neg (nI_ge (by omega) (by omega))]
      · refine Or.inr ⟨q.1, q.2, by omega, n2, by omega, by omega, fun σ o r hR hr4 => by rw [hr σ o r hR hr4, if_neg c1, if_neg c2, if_neg c3], fun τ K hC h4 h8 h9 => ?_⟩
        obtain ⟨τ1, d, g1, g2, g3, g4, g5, g6⟩ := hx τ K hC h4 h8 h9
        have hC1 : tC t L τ1 := tC_same hC (g6 11 (by omega) (by omega) (by omega))
        have h41 : τ1 4 0 = nI p := by rw [g6 4 (by omega) (by omega) (by omega)]; exact h4
        refine ⟨τ1, g6, g2, ?_, g1⟩
        rw [qx_term hC1 h h41 g2 g3 (by omega) (by omega) (by omega) (by omega) c2, g6 5 (by omega) (by omega) (by omega)]
