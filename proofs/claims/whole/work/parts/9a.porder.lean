/-! one order of a text, as both read it -/
theorem qx_err {t : Nat → Nat} {L k e g : Nat} {K : zSt → Option (Int32 × zSt)} {τ τ' : zSt} (hC : tC t L τ) (hk : k ≤ L) (he : e < 1000) (ht : fX5_take (sg t L k) (nI k) τ = some (nI e, τ')) (hg : L < g + k) : fX5_readAll_l14 K g (nI L) (nI k) τ = some (nI e, τ') := by
  obtain ⟨g, rfl⟩ : ∃ g', g = g' + 1 := ⟨g - 1, by omega⟩
  rw [qx_step hC hk, ht, b2_1, if_neg (p_nneg (by omega))]
theorem qx_go {t : Nat → Nat} {L k g : Nat} {K : zSt → Option (Int32 × zSt)} {τ τ' : zSt} (hC : tC t L τ) (hk : k ≤ L) (ht : fX5_take (sg t L k) (nI k) τ = some (-1, τ')) : fX5_readAll_l14 K (g + 1) (nI L) (nI k) τ = fX5_readAll_l14 K g (nI L) (nI (k + 1)) τ' := by
  rw [qx_step hC hk, ht, b2_1, if_pos rfl]
theorem qx_keep {τ : zSt} {p mx lo hi cnt : Nat} (h : plc p mx lo hi) (h4 : τ 4 0 = nI p) (h3 : τ 3 0 = nI cnt) (hc : cnt < 34) : ∃ τ', fX5_keepOrder τ = some τ' ∧ τ' 11 = τ 11 ∧ τ' 4 0 = nI 0 ∧ τ' 3 0 = nI (cnt + 1) ∧ τ' 0 = upd (τ 0) cnt (τ 6 0) ∧ τ' 1 = upd (τ 1) cnt (τ 7 0) ∧ τ' 2 = upd (τ 2) cnt (if p = 3 then -1 else τ 8 0) := by
  obtain ⟨-, -, -, -, -, -, q3⟩ := plc_tab h
  have go : ∀ x : Int32, ∃ τ', fX5_keepOrder_j61 x (nI cnt) (wr (wr τ 0 cnt (τ 6 0)) 1 cnt (τ 7 0)) = some τ' ∧ τ' 11 = τ 11 ∧ τ' 4 0 = nI 0 ∧ τ' 3 0 = nI (cnt + 1) ∧ τ' 0 = upd (τ 0) cnt (τ 6 0) ∧ τ' 1 = upd (τ 1) cnt (τ 7 0) ∧ τ' 2 = upd (τ 2) cnt x := by
    intro x
    unfold fX5_keepOrder_j61 fX5_keepOrder_j72
    rw [p_wr hc (by omega), Option.bind_some, wr_o (show ¬ 3 = 2 by omega), wr_o (show ¬ 3 = 1 by omega), wr_o (show ¬ 3 = 0 by omega), h3, nI_add, p_ws, Option.bind_some, p_ws, Option.bind_some]
    refine ⟨_, rfl, ?_, ws_e _ _ _ _, ?_, ?_, ?_, ?_⟩
    · rw [ws_o (by omega), ws_o (by omega), wr_o (by omega), wr_o (by omega), wr_o (by omega)]
    · rw [ws_o (by omega), ws_e]
    · rw [ws_o (by omega), ws_o (by omega), wr_o (by omega), wr_o (by omega)]
      exact p_ze _ _ _
    · rw [ws_o (by omega), ws_o (by omega), wr_o (by omega)]
      refine (p_ze _ _ _).trans ?_
      rw [wr_o (by omega)]
    · rw [ws_o (by omega), ws_o (by omega)]
      refine (p_ze _ _ _).trans ?_
      rw [wr_o (by omega), wr_o (by omega)]
  unfold fX5_keepOrder
  rw [h3, if_neg (nI_ge hc (by omega)), p_wr hc (by omega), Option.bind_some, wr_o (show ¬ 3 = 0 by omega), h3, wr_o (show ¬ 7 = 0 by omega), p_wr hc (by omega), Option.bind_some, wr_o (show ¬ 4 = 1 by omega), wr_o (show ¬ 4 = 0 by omega), h4, q3, Option.bind_some, wr_o (show ¬ 3 = 1 by omega), wr_o (show ¬ 3 = 0 by omega), h3, wr_o (show ¬ 8 = 1 by omega), wr_o (show ¬ 8 = 0 by omega)]
  by_cases c3 : p = 3
  · rw [decide_eq_true c3, ifT, if_pos c3]
    exact go (-1)
  · rw [decide_eq_false c3, ifF, if_neg c3]
    exact go (τ 8 0)
theorem qx_semi {t : Nat → Nat} {L p mx lo hi k cnt : Nat} {τ : zSt} (hC : tC t L τ) (h : plc p mx lo hi) (h4 : τ 4 0 = nI p) (h3 : τ 3 0 = nI cnt) (hc : cnt < 34) :
    (k < L ∧ t k = 59 → ∃ τ', fX5_takeOfNumber_j86 (sg t L k) (nI k) (nI 0) τ = some (-1, τ') ∧ τ' 11 = τ 11 ∧ τ' 4 0 = nI 0 ∧ τ' 3 0 = nI (cnt + 1) ∧ τ' 0 = upd (τ 0) cnt (τ 6 0) ∧ τ' 1 = upd (τ 1) cnt (if p = 3 then τ 8 0 else τ 7 0) ∧ τ' 2 = upd (τ 2) cnt (if p = 3 then -1 else τ 8 0)) ∧
    (¬ (k < L ∧ t k = 59) → fX5_takeOfNumber_j86 (sg t L k) (nI k) (nI 0) τ = some (nI k, τ)) := by
  obtain ⟨-, -, -, -, -, -, q3⟩ := plc_tab h
  unfold fX5_takeOfNumber_j86 fX5_takeOfNumber_j99 fX5_takeOfNumber_j122
  rw [if_pos nI_0, if_pos nI_0]
  refine ⟨fun z => ?_, fun z => if_neg (mt (sg_eq hC (by omega)).mp z)⟩
  rw [if_pos ((sg_eq hC (by omega)).mpr z), h4, q3, Option.bind_some]
  by_cases c3 : p = 3
  · rw [decide_eq_true c3, ifT, p_ws, Option.bind_some, if_pos nI_0, if_pos c3]
    obtain ⟨τ', k1, k2, k3, k4, k5, k6, k7⟩ := qx_keep (τ := ws τ 7 (τ 8 0)) h (by rw [ws_o (by omega)]; exact h4) (by rw [ws_o (by omega)]; exact h3) hc
    rw [k1, Option.bind_some]
    refine ⟨τ', rfl, ?_, k3, k4, ?_, ?_, ?_⟩
    · rw [k2, ws_o (by omega)]
    · rw [k5, ws_o (by omega), ws_o (by omega)]
    · rw [k6, ws_o (by omega), ws_e]
    · rw [k7, ws_o (by omega), if_pos c3, if_pos c3]
  · rw [decide_eq_false c3, ifF, if_neg c3]
    obtain ⟨τ', k1, k2, k3, k4, k5, k6, k7⟩ := qx_keep h h4 h3 hc
    rw [k1, Option.bind_some]
    exact ⟨τ', rfl, k2, k3, k4, k5, k6, by rw [k7]⟩
theorem qx_equ {t : Nat → Nat} {L k : Nat} {τ : zSt} (hC : tC t L τ) (h4 : τ 4 0 = nI 3) :
    (k < L ∧ t k = 61 → ∃ τ', fX5_takeOfNumber_j86 (sg t L k) (nI k) (nI 1) τ = some (-1, τ') ∧ τ' 4 0 = nI 4 ∧ τ' 8 0 = nI 0 ∧ τ' 9 0 = nI 0 ∧ τ' 7 0 = τ 8 0 ∧ ∀ i, i ≠ 4 → i ≠ 7 → i ≠ 8 → i ≠ 9 → τ' i = τ i) ∧
    (¬ (k < L ∧ t k = 61) → fX5_takeOfNumber_j86 (sg t L k) (nI k) (nI 1) τ = some (nI k, τ)) := by
  have hne : ¬ nI 1 = (0 : Int32) := by decide
  unfold fX5_takeOfNumber_j86 fX5_takeOfNumber_j99 fX5_takeOfNumber_j122
  rw [if_neg hne, if_neg hne]
  refine ⟨fun z => ?_, fun z => if_neg (mt (sg_eq hC (by omega)).mp z)⟩
  rw [if_pos ((sg_eq hC (by omega)).mpr z), h4, show z_pq (nI 3) (nI 3) = some true by decide +kernel, Option.bind_some, ifT, p_ws, Option.bind_some, if_neg hne]
  unfold fX5_startNumber
  rw [p_ws, Option.bind_some, p_ws, Option.bind_some, p_ws, Option.bind_some, Option.bind_some]
  refine ⟨_, rfl, ?_, ?_, ws_e _ _ _ _, ?_, fun i i4 i7 i8 i9 => ?_⟩
  · rw [ws_o (by omega), ws_o (by omega), ws_e]
  · rw [ws_o (by omega), ws_e]
  · rw [ws_o (by omega), ws_o (by omega), ws_o (by omega), ws_e]
  · rw [ws_o i9, ws_o i8, ws_o i4, ws_o i7]
/-- what an order tells: the cache (none: ticks), the line, the number -/
def okO (c l v : Int32) : Prop := (c = -1 ∧ ∃ x, 1 ≤ x ∧ x ≤ 50 ∧ v = nI x) ∨ (∃ cc ll, cc ≤ 5 ∧ ll < 32 ∧ c = nI cc ∧ l = nI ll ∧ (v = -1 ∨ ∃ x, x < 1000 ∧ v = nI x))
def ordR (o : Nat → Int32) (c l v : Int32) : Prop := o 3 = v ∧ ((c = -1 ∧ o 0 = nI 2) ∨ (c ≠ -1 ∧ (o 0 = nI 0 ∨ o 0 = nI 1) ∧ o 1 = c ∧ o 2 = l))
def ent (τ : zSt) (i : Nat) (c l v : Int32) : Prop := τ 0 i = c ∧ (c ≠ -1 → τ 1 i = l) ∧ τ 2 i = v
/-- both come to an error -/
def oErr (t : Nat → Nat) (L k : Nat) : Prop := ∃ e, e ≤ L ∧ (∀ (σ : zSt) (o : Nat → Int32), tR t L σ → ∃ o', fX9_readOrder (rs σ o k) = some (nI 0, rs σ o' e)) ∧ ∀ (τ : zSt) (K : zSt → Option (Int32 × zSt)) (cnt : Nat), tC t L τ → τ 4 0 = nI 0 → τ 3 0 = nI cnt → cnt < 34 → ∃ τ', τ' 11 = τ 11 ∧ ∀ g, L < g + k → fX5_readAll_l14 K g (nI L) (nI k) τ = some (nI e, τ')
/-- both read the order -/
def oRead (t : Nat → Nat) (L k j : Nat) (c l v : Int32) : Prop := k + 3 ≤ j ∧ j ≤ L ∧ okO c l v ∧ (∀ (σ : zSt) (o : Nat → Int32), tR t L σ → ∃ o', fX9_readOrder (rs σ o k) = some (nI 1, rs σ o' j) ∧ ordR o' c l v) ∧ ∀ (τ : zSt) (K : zSt → Option (Int32 × zSt)) (cnt : Nat), tC t L τ → τ 4 0 = nI 0 → τ 3 0 = nI cnt → cnt < 34 → ∃ τ', τ' 11 = τ 11 ∧ τ' 4 0 = nI 0 ∧ τ' 3 0 = nI (cnt + 1) ∧ (∀ i, i ≠ cnt → τ' 0 i = τ 0 i ∧ τ' 1 i = τ 1 i ∧ τ' 2 i = τ 2 i) ∧ ent τ' cnt c l v ∧ ∀ g, fX5_readAll_l14 K (g + (j - k)) (nI L) (nI k) τ = fX5_readAll_l14 K g (nI L) (nI j) τ'
theorem take0 {w a1 : Int32} {τ : zSt} (h4 : τ 4 0 = nI 0) : fX5_take w a1 τ = z_b2 (fX5_takeKind w τ) fun x7 σ8 => (if x7 = 0 then some (a1, σ8) else some ((-1), σ8)) := by
  unfold fX5_take
  rw [h4, show z_pq (nI 0) (nI 0) = some true by decide +kernel, Option.bind_some, ifT]
theorem take1 {w a1 : Int32} {τ : zSt} (h4 : τ 4 0 = nI 1) : fX5_take w a1 τ = z_b2 (fX5_takeCache w τ) fun x5 σ6 => (if x5 = 0 then some (a1, σ6) else some ((-1), σ6)) := by
  unfold fX5_take
  rw [h4, show z_pq (nI 1) (nI 0) = some false by decide +kernel, Option.bind_some, ifF, show z_pq (nI 1) (nI 1) = some true by decide +kernel, Option.bind_some, ifT]
theorem take2 {w a1 : Int32} {τ : zSt} (h4 : τ 4 0 = nI 2) : fX5_take w a1 τ = z_b2 (fX5_takeColon w τ) fun x3 σ4 => (if x3 = 0 then some (a1, σ4) else some ((-1), σ4)) := by
  unfold fX5_take
  rw [h4, show z_pq (nI 2) (nI 0) = some false by decide +kernel, Option.bind_some, ifF, show z_pq (nI 2) (nI 1) = some false by decide +kernel, Option.bind_some, ifF, show z_pq (nI 2) (nI 2) = some true by decide +kernel, Option.bind_some, ifT]
theorem kind_t {a1 : Int32} {τ : zSt} (h4 : τ 4 0 = nI 0) : ∃ τ', fX5_take (nI 116) a1 τ = some (-1, τ') ∧ τ' 4 0 = nI 5 ∧ τ' 6 0 = -1 ∧ τ' 8 0 = nI 0 ∧ τ' 9 0 = nI 0 ∧ ∀ i, i ≠ 4 → i ≠ 6 → i ≠ 8 → i ≠ 9 → τ' i = τ i := by
  rw [take0 h4]
  unfold fX5_takeKind fX5_startNumber
  rw [if_pos rfl, p_ws, Option.bind_some, p_ws, Option.bind_some, p_ws, Option.bind_some, p_ws, Option.bind_some, Option.bind_some]
  refine ⟨ws (ws (ws (ws τ 6 (-1)) 4 (nI 5)) 8 (nI 0)) 9 (nI 0), rfl, ?_, ?_, ?_, ws_e _ _ _ _, fun i i4 i6 i8 i9 => ?_⟩
  · rw [ws_o (by omega), ws_o (by omega), ws_e]
  · rw [ws_o (by omega), ws_o (by omega), ws_o (by omega), ws_e]
  · rw [ws_o (by omega), ws_e]
  · rw [ws_o i9, ws_o i8, ws_o i4, ws_o i6]
theorem kind_rw {a1 : Int32} {b : Nat} {τ : zSt} (hb : b = 114 ∨ b = 119) (h4 : τ 4 0 = nI 0) : ∃ τ', fX5_take (nI b) a1 τ = some (-1, τ') ∧ τ' 4 0 = nI 1 ∧ τ' 5 0 = (if b = 119 then nI 1 else nI 0) ∧ ∀ i, i ≠ 4 → i ≠ 5 → τ' i = τ i := by
  rw [take0 h4]
  unfold fX5_takeKind fX5_takeKind_j32 fX5_takeKind_j44
  rcases hb with rfl | rfl
  · rw [if_neg (show ¬ nI 114 = nI 116 by decide), if_pos rfl, if_neg (show ¬ nI 114 = nI 119 by decide)]
    exact ⟨ws (ws τ 5 (nI 0)) 4 (nI 1), rfl, ws_e _ _ _ _, by rw [ws_o (by omega), ws_e]; rfl, fun i i4 i5 => by rw [ws_o i4, ws_o i5]⟩
  · rw [if_neg (show ¬ nI 119 = nI 116 by decide), if_neg (show ¬ nI 119 = nI 114 by decide), if_pos rfl, if_pos rfl]
    exact ⟨ws (ws τ 5 (nI 1)) 4 (nI 1), rfl, ws_e _ _ _ _, by rw [ws_o (by omega), ws_e]; rfl, fun i i4 i5 => by rw [ws_o i4, ws_o i5]⟩
theorem kind_no {a1 : Int32} {b : Nat} {τ : zSt} (hb : b < 128) (h1 : b ≠ 116) (h2 : b ≠ 114) (h3 : b ≠ 119) (h4 : τ 4 0 = nI 0) : fX5_take (nI b) a1 τ = some (a1, τ) := by
  rw [take0 h4]
  unfold fX5_takeKind
  rw [if_neg (fun z => h1 ((nI_eq (by omega) (by omega)).mp z)), if_neg (fun z => h2 ((nI_eq (by omega) (by omega)).mp z)), if_neg (fun z => h3 ((nI_eq (by omega) (by omega)).mp z)), if_neg (p_nneg (by omega))]
  rfl
theorem cache_st {t : Nat → Nat} {L k : Nat} {τ : zSt} (hC : tC t L τ) (h4 : τ 4 0 = nI 1) :
    (k < L ∧ 48 ≤ t k ∧ t k ≤ 53 → ∃ τ', fX5_take (sg t L k) (nI k) τ = some (-1, τ') ∧ τ' 4 0 = nI 2 ∧ τ' 6 0 = nI (t k - 48) ∧ ∀ i, i ≠ 4 → i ≠ 6 → τ' i = τ i) ∧
    (¬ (k < L ∧ 48 ≤ t k ∧ t k ≤ 53) → fX5_take (sg t L k) (nI k) τ = some (nI k, τ)) := by
  rw [take1 h4]
  unfold fX5_takeCache sg
  refine ⟨fun ⟨z1, z2, z3⟩ => ?_, fun z => ?_⟩
  · rw [if_pos z1, if_neg (nI_nlt z2 (by omega)), if_pos (nI_le z3 (by omega)), p_sub z2]
    exact ⟨ws (ws τ 6 (nI (t k - 48))) 4 (nI 2), rfl, ws_e _ _ _ _, by rw [ws_o (by omega), ws_e], fun i i4 i6 => by rw [ws_o i4, ws_o i6]⟩
  · by_cases hk : k < L
    · have := (hC.2 k hk).1
      rw [if_pos hk]
      by_cases c : t k < 48
      · rw [if_pos (nI_lt c (by omega))]; rfl
      · rw [if_neg (nI_nlt (by omega) (by omega)), if_neg (nI_ge (show 53 < t k by omega) (by omega))]; rfl
    · rw [if_neg hk, if_pos (show (-1 : Int32) < nI 48 by decide)]; rfl
theorem colon_st {t : Nat → Nat} {L k : Nat} {τ : zSt} (hC : tC t L τ) (h4 : τ 4 0 = nI 2) :
    (k < L ∧ t k = 58 → ∃ τ', fX5_take (sg t L k) (nI k) τ = some (-1, τ') ∧ τ' 4 0 = nI 3 ∧ τ' 8 0 = nI 0 ∧ τ' 9 0 = nI 0 ∧ ∀ i, i ≠ 4 → i ≠ 8 → i ≠ 9 → τ' i = τ i) ∧
    (¬ (k < L ∧ t k = 58) → fX5_take (sg t L k) (nI k) τ = some (nI k, τ)) := by
  rw [take2 h4]
  unfold fX5_takeColon
  refine ⟨fun z => ?_, fun z => ?_⟩
  · rw [if_pos ((sg_eq hC (by omega)).mpr z)]
    unfold fX5_startNumber
    rw [p_ws, Option.bind_some, p_ws, Option.bind_some, p_ws, Option.bind_some, Option.bind_some]
    refine ⟨ws (ws (ws τ 4 (nI 3)) 8 (nI 0)) 9 (nI 0), rfl, ?_, ?_, ws_e _ _ _ _, fun i i4 i8 i9 => ?_⟩
    · rw [ws_o (by omega), ws_o (by omega), ws_e]
    · rw [ws_o (by omega), ws_e]
    · rw [ws_o i9, ws_o i8, ws_o i4]
  · rw [if_neg (mt (sg_eq hC (by omega)).mp z)]
    rfl
theorem rl_order_t {t : Nat → Nat} {L k : Nat} (hL : L ≤ 100) (ht : ∀ k, k < L → t k < 128) (hk : k < L) (hb : t k = 116) : oErr t L k ∨ ∃ j c l v, oRead t L k j c l v := by
  have hp : plc 5 2 1 50 := Or.inr (Or.inr ⟨rfl, rfl, rfl, rfl⟩)
  have hsg : sg t L k = nI 116 := by unfold sg; rw [if_pos hk, hb]
  have hne : ¬ nI 1 = (0 : Int32) := by decide
  have start : ∀ (σ : zSt) (o : Nat → Int32), tR t L σ → fX9_readOrder (rs σ o k) = z_b2 (fX9_numberInto (nI 3) (nI 2) (nI 1) (nI 50) (rs σ (upd o 0 (nI 2)) (k + 1))) fun x26 σ27 => (if x26 = 0 then (z_bz (nI 0)).bind fun r => some (r, σ27) else z_b2 (fX9_sign (nI 59) σ27) fun x28 σ29 => (if x28 = 0 then (z_bz (nI 0)).bind fun r => some (r, σ29) else (z_bz (nI 1)).bind fun r => some (r, σ29))) := by
    intro σ o hR
    unfold fX9_readOrder
    rw [qr_sign hR (by omega) (by omega), if_pos ⟨hk, hb⟩, b2_1, if_neg hne, p_wr (by omega) (by omega), Option.bind_some, rs_wr]
  rcases rl_num hL ht hp (show k + 1 ≤ L from hk) with ⟨e, e1, e2, e3⟩ | ⟨k', n, n1, n2, n3, n4, n5, n6⟩
  · refine Or.inl ⟨e, e1, fun σ o hR => ⟨upd o 0 (nI 2), ?_⟩, fun τ K cnt hC h4 h3 hc => ?_⟩
    · rw [start σ o hR, e2 σ _ 3 hR (by omega), b2_1, if_pos nI_0]; rfl
    · obtain ⟨τ1, s1, s2, s3, s4, s5, s6⟩ := kind_t (a1 := nI k) h4
      rw [← hsg] at s1
      have hC1 := tC_same hC (s6 11 (by omega) (by omega) (by omega) (by omega))
      obtain ⟨τ', u1, u2⟩ := e3 τ1 K hC1 s2 s4 s5
      refine ⟨τ', u1.trans (s6 11 (by omega) (by omega) (by omega) (by omega)), fun g hg => ?_⟩
      obtain ⟨g, rfl⟩ : ∃ g', g = g' + 1 := ⟨g - 1, by omega⟩
      rw [qx_go hC (by omega) s1]
      exact u2 g (by omega)
  · have cls : ∀ (τ : zSt) (K : zSt → Option (Int32 × zSt)) (cnt : Nat), tC t L τ → τ 4 0 = nI 0 → τ 3 0 = nI cnt → cnt < 34 → ∃ τ2, tC t L τ2 ∧ τ2 4 0 = nI 5 ∧ τ2 3 0 = nI cnt ∧ τ2 6 0 = -1 ∧ τ2 8 0 = nI n ∧ τ2 11 = τ 11 ∧ τ2 0 = τ 0 ∧ τ2 1 = τ 1 ∧ τ2 2 = τ 2 ∧ fX5_take (sg t L k') (nI k') τ2 = fX5_takeOfNumber_j86 (sg t L k') (nI k') (nI 0) τ2 ∧ ∀ g, fX5_readAll_l14 K (g + (k' - k)) (nI L) (nI k) τ = fX5_readAll_l14 K g (nI L) (nI k') τ2 := by
      intro τ K cnt hC h4 h3 hc
      obtain ⟨τ1, s1, s2, s3, s4, s5, s6⟩ := kind_t (a1 := nI k) h4
      rw [← hsg] at s1
      have hC1 := tC_same hC (s6 11 (by omega) (by omega) (by omega) (by omega))
      obtain ⟨τ2, u1, u2, u3, u4⟩ := n6 τ1 K hC1 s2 s4 s5
      refine ⟨τ2, tC_same hC1 (u1 11 (by omega) (by omega) (by omega)), ?_, ?_, ?_, u2, ?_, ?_, ?_, ?_, ?_, fun g => ?_⟩
      · rw [u1 4 (by omega) (by omega) (by omega)]; exact s2
      · rw [u1 3 (by omega) (by omega) (by omega), s6 3 (by omega) (by omega) (by omega) (by omega)]; exact h3
      · rw [u1 6 (by omega) (by omega) (by omega)]; exact s3
      · rw [u1 11 (by omega) (by omega) (by omega), s6 11 (by omega) (by omega) (by omega) (by omega)]
      · rw [u1 0 (by omega) (by omega) (by omega), s6 0 (by omega) (by omega) (by omega) (by omega)]
      · rw [u1 1 (by omega) (by omega) (by omega), s6 1 (by omega) (by omega) (by omega) (by omega)]
      · rw [u1 2 (by omega) (by omega) (by omega), s6 2 (by omega) (by omega) (by omega) (by omega)]
      · rw [u3, if_neg (fun z => by have := z.2; omega)]
      · rw [show g + (k' - k) = (g + (k' - (k + 1))) + 1 by omega, qx_go hC (by omega) s1]
        exact u4 g
    by_cases hs : k' < L ∧ t k' = 59
    · refine Or.inr ⟨k' + 1, -1, nI 0, nI n, by omega, by omega, Or.inl ⟨rfl, n, n3, n4, rfl⟩, fun σ o hR => ⟨upd (upd o 0 (nI 2)) 3 (nI n), ?_, p_upe _ _ _, Or.inl ⟨rfl, ?_⟩⟩, fun τ K cnt hC h4 h3 hc => ?_⟩
      · rw [start σ o hR, n5 σ _ 3 hR (by omega), b2_1, if_neg hne, qr_sign hR (by omega) n2, if_pos hs, b2_1, if_neg hne]; rfl
      · rw [p_upn (by omega), p_upe]
      · obtain ⟨τ2, c1, c2, c3, c4, c5, c6, c7, c8, c9, c10, c11⟩ := cls τ K cnt hC h4 h3 hc
        obtain ⟨τ3, d1, d2, d3, d4, d5, d6, d7⟩ := (qx_semi (k := k') c1 hp c2 c3 hc).1 hs
        refine ⟨τ3, d2.trans c6, d3, d4, fun i hi => ⟨?_, ?_, ?_⟩, ⟨?_, fun z => absurd rfl z, ?_⟩, fun g => ?_⟩
        · rw [d5, p_upn hi, c7]
        · rw [d6, p_upn hi, c8]
        · rw [d7, p_upn hi, c9]
        · rw [d5, p_upe, c4]
        · rw [d7, p_upe, if_neg (by omega), c5]
        · rw [show g + (k' + 1 - k) = (g + 1) + (k' - k) by omega, c11, qx_go c1 n2 (c10.trans d1)]
    · refine Or.inl ⟨k', n2, fun σ o hR => ⟨upd (upd o 0 (nI 2)) 3 (nI n), ?_⟩, fun τ K cnt hC h4 h3 hc => ?_⟩
      · rw [start σ o hR, n5 σ _ 3 hR (by omega), b2_1, if_neg hne, qr_sign hR (by omega) n2, if_neg hs, b2_1, if_pos nI_0]; rfl
      · obtain ⟨τ2, c1, c2, c3, c4, c5, c6, c7, c8, c9, c10, c11⟩ := cls τ K cnt hC h4 h3 hc
        have d1 := (qx_semi (k := k') c1 hp c2 c3 hc).2 hs
        refine ⟨τ2, c6, fun g hg => ?_⟩
        obtain ⟨g', rfl⟩ : ∃ g', g = g' + (k' - k) := ⟨g - (k' - k), by omega⟩
        rw [c11]
        exact qx_err c1 n2 (by omega) (c10.trans d1) (by omega)
theorem rl_order_rw {t : Nat → Nat} {L k : Nat} (hL : L ≤ 100) (ht : ∀ k, k < L → t k < 128) (hk : k < L) (hb : t k = 114 ∨ t k = 119) : oErr t L k ∨ ∃ j c l v, oRead t L k j c l v := by
  have hp3 : plc 3 2 0 31 := Or.inl ⟨rfl, rfl, rfl, rfl⟩
  have hp4 : plc 4 3 0 999 := Or.inr (Or.inl ⟨rfl, rfl, rfl, rfl⟩)
  have hsg : sg t L k = nI (t k) := by unfold sg; rw [if_pos hk]
  have hne : ¬ nI 1 = (0 : Int32) := by decide
  -- the reference behind its kind
  obtain ⟨kd, hkd, hkr, hkw⟩ : ∃ kd : Int32, (kd = nI 0 ∨ kd = nI 1) ∧ (t k = 114 → kd = nI 0) ∧ (t k = 119 → kd = nI 1) := by
    by_cases c : t k = 114
    · exact ⟨nI 0, Or.inl rfl, fun _ => rfl, fun z => by omega⟩
    · exact ⟨nI 1, Or.inr rfl, fun z => absurd z c, fun _ => rfl⟩
  have start : ∀ (σ : zSt) (o : Nat → Int32), tR t L σ → fX9_readOrder (rs σ o k) = fX9_readOrder_j89 (rs σ (upd (upd o 0 kd) 3 (-1)) (k + 1)) := by
    intro σ o hR
    unfold fX9_readOrder
    rw [qr_sign hR (by omega) (by omega), if_neg (fun z => by have := z.2; omega), b2_1, if_pos nI_0, qr_sign hR (by omega) (by omega)]
    unfold fX9_readOrder_j62
    rcases hb with c | c
    · rw [if_pos ⟨hk, c⟩, b2_1, if_neg hne, p_wr (by omega) (by omega), Option.bind_some, rs_wr, p_wr (by omega) (by omega), Option.bind_some, rs_wr, p_ag (by omega) (by omega), Option.bind_some, rs_4, p_upn (show ¬ 0 = 3 by omega), p_upe, if_neg (show ¬ nI 0 = nI 1 by decide), hkr c]
    · rw [if_neg (fun z => by have := z.2; omega), b2_1, if_pos nI_0, p_wr (by omega) (by omega), Option.bind_some, rs_wr, p_wr (by omega) (by omega), Option.bind_some, rs_wr, p_ag (by omega) (by omega), Option.bind_some, rs_4, p_upn (show ¬ 0 = 3 by omega), p_upe, if_pos rfl, qr_sign hR (by omega) (by omega), if_pos ⟨hk, c⟩, b2_1, if_neg hne, hkw c]
  -- the class behind its kind
  have cls1 : ∀ (τ : zSt), tC t L τ → τ 4 0 = nI 0 → ∃ τ1, tC t L τ1 ∧ fX5_take (sg t L k) (nI k) τ = some (-1, τ1) ∧ τ1 4 0 = nI 1 ∧ (τ1 5 0 = kd) ∧ ∀ i, i ≠ 4 → i ≠ 5 → τ1 i = τ i := by
    intro τ hC h4
    obtain ⟨τ1, s1, s2, s3, s4⟩ := kind_rw (a1 := nI k) hb h4
    refine ⟨τ1, tC_same hC (s4 11 (by omega) (by omega)), by rw [hsg]; exact s1, s2, ?_, s4⟩
    rw [s3]
    rcases hb with c | c
    · rw [if_neg (by omega), hkr c]
    · rw [if_pos c, hkw c]
  by_cases hd : k + 1 < L ∧ 48 ≤ t (k + 1) ∧ t (k + 1) ≤ 53
  rotate_left
  · -- no digit of a cache
    refine Or.inl ⟨k + 1, hk, fun σ o hR => ⟨upd (upd o 0 kd) 3 (-1), ?_⟩, fun τ K cnt hC h4 h3 hc => ?_⟩
    · rw [start σ o hR]
      unfold fX9_readOrder_j89
      rw [qr_isDigit hR (by omega) hk, if_neg hd, Option.bind_some, if_pos nI_0]; rfl
    · obtain ⟨τ1, q1, q2, q3, q4, q5⟩ := cls1 τ hC h4
      refine ⟨τ1, q5 11 (by omega) (by omega), fun g hg => ?_⟩
      obtain ⟨g, rfl⟩ : ∃ g', g = g' + 1 := ⟨g - 1, by omega⟩
      rw [qx_go hC (by omega) q2]
      exact qx_err q1 hk (by omega) ((cache_st q1 q3).2 hd) (by omega)
  have ref2 : ∀ (σ : zSt) (o : Nat → Int32), tR t L σ → fX9_readOrder_j89 (rs σ o (k + 1)) = z_b2 (fX9_sign (nI 58) (rs σ (upd o 1 (nI (t (k + 1) - 48))) (k + 2))) fun x12 σ13 => (if x12 = 0 then (z_bz (nI 0)).bind fun r => some (r, σ13) else z_b2 (fX9_numberInto (nI 2) (nI 2) (nI 0) (nI 31) σ13) fun x14 σ15 => (if x14 = 0 then (z_bz (nI 0)).bind fun r => some (r, σ15) else (z_ag (σ15 4) 4 (nI 0)).bind fun x16 => (if x16 = 0 then fX9_readOrder_j182 σ15 else z_b2 (fX9_sign (nI 61) σ15) fun x19 σ20 => (if x19 = 0 then (z_bz (nI 0)).bind fun r => some (r, σ20) else z_b2 (fX9_numberInto (nI 3) (nI 3) (nI 0) (nI 999) σ20) fun x21 σ22 => (if x21 = 0 then (z_bz (nI 0)).bind fun r => some (r, σ22) else fX9_readOrder_j182 σ22))))) := by
    intro σ o hR
    unfold fX9_readOrder_j89
    rw [qr_isDigit hR (by omega) hk, if_pos hd, Option.bind_some, if_neg hne, rs_8, rs_o (show 3 ≠ 4 by omega) (show 3 ≠ 8 by omega), p_ag (by omega) (by omega), Option.bind_some, (hR.2.2 _ hd.1).2, p_sub hd.2.1, p_wr (by omega) (by omega), Option.bind_some, rs_wr, rs_8, nI_add, p_ws, Option.bind_some, rs_ws]
  have cls2 : ∀ (τ : zSt), tC t L τ → τ 4 0 = nI 0 → ∃ τ2, tC t L τ2 ∧ τ2 4 0 = nI 2 ∧ τ2 5 0 = kd ∧ τ2 6 0 = nI (t (k + 1) - 48) ∧ (∀ i, i ≠ 4 → i ≠ 5 → i ≠ 6 → τ2 i = τ i) ∧ ∀ (K : zSt → Option (Int32 × zSt)) (g : Nat), fX5_readAll_l14 K (g + 2) (nI L) (nI k) τ = fX5_readAll_l14 K g (nI L) (nI (k + 2)) τ2 := by
    intro τ hC h4
    obtain ⟨τ1, q1, q2, q3, q4, q5⟩ := cls1 τ hC h4
    obtain ⟨τ2, r1, r2, r3, r4⟩ := (cache_st q1 q3).1 hd
    refine ⟨τ2, tC_same q1 (r4 11 (by omega) (by omega)), r2, by rw [r4 5 (by omega) (by omega)]; exact q4, r3, fun i i4 i5 i6 => by rw [r4 i i4 i6, q5 i i4 i5], fun K g => ?_⟩
    rw [qx_go hC (by omega) q2, qx_go q1 hk r1]
  by_cases hcol : k + 2 < L ∧ t (k + 2) = 58
  rotate_left
  · refine Or.inl ⟨k + 2, by omega, fun σ o hR => ⟨upd (upd (upd o 0 kd) 3 (-1)) 1 (nI (t (k + 1) - 48)), ?_⟩, fun τ K cnt hC h4 h3 hc => ?_⟩
    · rw [start σ o hR, ref2 σ _ hR, qr_sign hR (by omega) (by omega), if_neg hcol, b2_1, if_pos nI_0]; rfl
    · obtain ⟨τ2, q1, q2, q3, q4, q5, q6⟩ := cls2 τ hC h4
      refine ⟨τ2, q5 11 (by omega) (by omega) (by omega), fun g hg => ?_⟩
      obtain ⟨g, rfl⟩ : ∃ g', g = g' + 2 := ⟨g - 2, by omega⟩
      rw [q6]
      exact qx_err q1 (by omega) (by omega) ((colon_st q1 q2).2 hcol) (by omega)
  have cls3 : ∀ (τ : zSt), tC t L τ → τ 4 0 = nI 0 → ∃ τ3, tC t L τ3 ∧ τ3 4 0 = nI 3 ∧ τ3 5 0 = kd ∧ τ3 6 0 = nI (t (k + 1) - 48) ∧ τ3 8 0 = nI 0 ∧ τ3 9 0 = nI 0 ∧ (∀ i, i ≠ 4 → i ≠ 5 → i ≠ 6 → i ≠ 8 → i ≠ 9 → τ3 i = τ i) ∧ ∀ (K : zSt → Option (Int32 × zSt)) (g : Nat), fX5_readAll_l14 K (g + 3) (nI L) (nI k) τ = fX5_readAll_l14 K g (nI L) (nI (k + 3)) τ3 := by
    intro τ hC h4
    obtain ⟨τ2, q1, q2, q3, q4, q5, q6⟩ := cls2 τ hC h4
    obtain ⟨τ3, r1, r2, r3, r4, r5⟩ := (colon_st q1 q2).1 hcol
    refine ⟨τ3, tC_same q1 (r5 11 (by omega) (by omega) (by omega)), r2, by rw [r5 5 (by omega) (by omega) (by omega)]; exact q3, by rw [r5 6 (by omega) (by omega) (by omega)]; exact q4, r3, r4, fun i i4 i5 i6 i8 i9 => by rw [r5 i i4 i8 i9, q5 i i4 i5 i6], fun K g => ?_⟩
    rw [show g + 3 = (g + 1) + 2 by omega, q6, qx_go q1 (by omega) r1]
  have hk3 : k + 3 ≤ L := hcol.1
  have ref3 := fun (σ : zSt) (o : Nat → Int32) (hR : tR t L σ) => qr_sign (o := o) (c := 58) hR (by omega) (show k + 2 ≤ L by omega)
  rcases rl_num hL ht hp3 hk3 with ⟨e, e1, e2, e3⟩ | ⟨k', l, l1, l2, l3, l4, l5, l6⟩
  · -- the line's number is wrong
    refine Or.inl ⟨e, e1, fun σ o hR => ⟨upd (upd (upd o 0 kd) 3 (-1)) 1 (nI (t (k + 1) - 48)), ?_⟩, fun τ K cnt hC h4 h3 hc => ?_⟩
    · rw [start σ o hR, ref2 σ _ hR, qr_sign hR (by omega) (by omega), if_pos hcol, b2_1, if_neg hne, e2 σ _ 2 hR (by omega), b2_1, if_pos nI_0]; rfl
    · obtain ⟨τ3, q1, q2, q3, q4, q5, q6, q7, q8⟩ := cls3 τ hC h4
      obtain ⟨τ', u1, u2⟩ := e3 τ3 K q1 q2 q5 q6
      refine ⟨τ', u1.trans (q7 11 (by omega) (by omega) (by omega) (by omega) (by omega)), fun g hg => ?_⟩
      obtain ⟨g, rfl⟩ : ∃ g', g = g' + 3 := ⟨g - 3, by omega⟩
      rw [q8]
      exact u2 g (by omega)
  have cls4 : ∀ (τ : zSt) (K : zSt → Option (Int32 × zSt)), tC t L τ → τ 4 0 = nI 0 → ∃ τ4, tC t L τ4 ∧ τ4 4 0 = nI 3 ∧ τ4 6 0 = nI (t (k + 1) - 48) ∧ τ4 8 0 = nI l ∧ τ4 5 0 = kd ∧ (fX5_take (sg t L k') (nI k') τ4 = if kd ≠ 0 then fX5_takeOfNumber_j86 (sg t L k') (nI k') (nI 1) τ4 else fX5_takeOfNumber_j86 (sg t L k') (nI k') (nI 0) τ4) ∧ (∀ i, i ≠ 4 → i ≠ 5 → i ≠ 6 → i ≠ 8 → i ≠ 9 → i ≠ 10 → τ4 i = τ i) ∧ ∀ (g : Nat), fX5_readAll_l14 K (g + (k' - k)) (nI L) (nI k) τ = fX5_readAll_l14 K g (nI L) (nI k') τ4 := by
    intro τ K hC h4
    obtain ⟨τ3, q1, q2, q3, q4, q5, q6, q7, q8⟩ := cls3 τ hC h4
    obtain ⟨τ4, u1, u2, u3, u4⟩ := l6 τ3 K q1 q2 q5 q6
    refine ⟨τ4, tC_same q1 (u1 11 (by omega) (by omega) (by omega)), by rw [u1 4 (by omega) (by omega) (by omega)]; exact q2, by rw [u1 6 (by omega) (by omega) (by omega)]; exact q4, u2, by rw [u1 5 (by omega) (by omega) (by omega)]; exact q3, ?_, fun i i4 i5 i6 i8 i9 i10 => by rw [u1 i i8 i9 i10, q7 i i4 i5 i6 i8 i9], fun g => ?_⟩
    · rw [u3, q3]
      by_cases ck : kd = 0
      · rw [if_neg (fun z => z.1 ck), if_neg (fun z => z ck)]
      · rw [if_pos ⟨ck, rfl⟩, if_pos ck]
    · rw [show g + (k' - k) = (g + (k' - (k + 3))) + 3 by omega, q8]
      exact u4 g
  have hc5 : t (k + 1) - 48 ≤ 5 := by omega
  rcases hb with hr | hw
  · -- a read
    have hkd0 := hkr hr
    have ref4 : ∀ (σ : zSt) (o : Nat → Int32), tR t L σ → fX9_readOrder (rs σ o k) = if k' < L ∧ t k' = 59 then some (nI 1, rs σ (upd (upd (upd (upd o 0 kd) 3 (-1)) 1 (nI (t (k + 1) - 48))) 2 (nI l)) (k' + 1)) else some (nI 0, rs σ (upd (upd (upd (upd o 0 kd) 3 (-1)) 1 (nI (t (k + 1) - 48))) 2 (nI l)) k') := by
      intro σ o hR
      rw [start σ o hR, ref2 σ _ hR, qr_sign hR (by omega) (by omega), if_pos hcol, b2_1, if_neg hne, l5 σ _ 2 hR (by omega), b2_1, if_neg hne, p_ag (by omega) (by omega), Option.bind_some, rs_4, p_upn (show ¬ 0 = 2 by omega), p_upn (show ¬ 0 = 1 by omega), p_upn (show ¬ 0 = 3 by omega), p_upe, hkd0, if_pos nI_0]
      unfold fX9_readOrder_j182
      rw [qr_sign hR (by omega) l2]
      by_cases hs : k' < L ∧ t k' = 59
      · rw [if_pos hs, b2_1, if_neg hne]; rfl
      · rw [if_neg hs, b2_1, if_pos nI_0]; rfl
    by_cases hs : k' < L ∧ t k' = 59
    · refine Or.inr ⟨k' + 1, nI (t (k + 1) - 48), nI l, -1, by omega, by omega, Or.inr ⟨t (k + 1) - 48, l, hc5, by omega, rfl, rfl, Or.inl rfl⟩, fun σ o hR => ⟨_, by rw [ref4 σ o hR, if_pos hs], ?_, Or.inr ⟨p_nneg (by omega), Or.inl ?_, ?_, p_upe _ _ _⟩⟩, fun τ K cnt hC h4 h3 hc => ?_⟩
      · rw [p_upn (by omega), p_upn (by omega), p_upe]
      · rw [p_upn (by omega), p_upn (by omega), p_upn (by omega), p_upe, hkd0]
      · rw [p_upn (by omega), p_upe]
      · obtain ⟨τ4, v1, v2, v3, v4, v5, v6, v7, v8⟩ := cls4 τ K hC h4
        rw [if_neg (fun z => z (hkd0.trans nI_0))] at v6
        obtain ⟨τ5, d1, d2, d3, d4, d5, d6, d7⟩ := (qx_semi (k := k') (cnt := cnt) v1 hp3 v2 (by rw [v7 3 (by omega) (by omega) (by omega) (by omega) (by omega) (by omega)]; exact h3) hc).1 hs
        refine ⟨τ5, d2.trans (v7 11 (by omega) (by omega) (by omega) (by omega) (by omega) (by omega)), d3, d4, fun i hi => ⟨?_, ?_, ?_⟩, ⟨?_, fun _ => ?_, ?_⟩, fun g => ?_⟩
        · rw [d5, p_upn hi, v7 0 (by omega) (by omega) (by omega) (by omega) (by omega) (by omega)]
        · rw [d6, p_upn hi, v7 1 (by omega) (by omega) (by omega) (by omega) (by omega) (by omega)]
        · rw [d7, p_upn hi, v7 2 (by omega) (by omega) (by omega) (by omega) (by omega) (by omega)]
        · rw [d5, p_upe, v3]
        · rw [d6, p_upe, if_pos rfl, v4]
        · rw [d7, p_upe, if_pos rfl]
        · rw [show g + (k' + 1 - k) = (g + 1) + (k' - k) by omega, v8, qx_go v1 l2 (v6.trans d1)]
    · refine Or.inl ⟨k', l2, fun σ o hR => ⟨_, by rw [ref4 σ o hR, if_neg hs]⟩, fun τ K cnt hC h4 h3 hc => ?_⟩
      obtain ⟨τ4, v1, v2, v3, v4, v5, v6, v7, v8⟩ := cls4 τ K hC h4
      rw [if_neg (fun z => z (hkd0.trans nI_0))] at v6
      have d1 := (qx_semi (k := k') (cnt := cnt) v1 hp3 v2 (by rw [v7 3 (by omega) (by omega) (by omega) (by omega) (by omega) (by omega)]; exact h3) hc).2 hs
      refine ⟨τ4, v7 11 (by omega) (by omega) (by omega) (by omega) (by omega) (by omega), fun g hg => ?_⟩
      obtain ⟨g', rfl⟩ : ∃ g', g = g' + (k' - k) := ⟨g - (k' - k), by omega⟩
      rw [v8]
      exact qx_err v1 l2 (by omega) (v6.trans d1) (by omega)
  · -- a write
    have hkd1 := hkw hw
    have hkdn : kd ≠ 0 := by rw [hkd1]; exact hne
    have ref4 : ∀ (σ : zSt) (o : Nat → Int32), tR t L σ → fX9_readOrder (rs σ o k) = z_b2 (fX9_sign (nI 61) (rs σ (upd (upd (upd (upd o 0 kd) 3 (-1)) 1 (nI (t (k + 1) - 48))) 2 (nI l)) k')) fun x19 σ20 => (if x19 = 0 then (z_bz (nI 0)).bind fun r => some (r, σ20) else z_b2 (fX9_numberInto (nI 3) (nI 3) (nI 0) (nI 999) σ20) fun x21 σ22 => (if x21 = 0 then (z_bz (nI 0)).bind fun r => some (r, σ22) else fX9_readOrder_j182 σ22)) := by
      intro σ o hR
      rw [start σ o hR, ref2 σ _ hR, qr_sign hR (by omega) (by omega), if_pos hcol, b2_1, if_neg hne, l5 σ _ 2 hR (by omega), b2_1, if_neg hne, p_ag (by omega) (by omega), Option.bind_some, rs_4, p_upn (show ¬ 0 = 2 by omega), p_upn (show ¬ 0 = 1 by omega), p_upn (show ¬ 0 = 3 by omega), p_upe, if_neg hkdn]
    by_cases hq : k' < L ∧ t k' = 61
    rotate_left
    · refine Or.inl ⟨k', l2, fun σ o hR => ⟨_, by rw [ref4 σ o hR, qr_sign hR (by omega) l2, if_neg hq, b2_1, if_pos nI_0]; rfl⟩, fun τ K cnt hC h4 h3 hc => ?_⟩
      obtain ⟨τ4, v1, v2, v3, v4, v5, v6, v7, v8⟩ := cls4 τ K hC h4
      rw [if_pos hkdn] at v6
      have d1 := (qx_equ (k := k') v1 v2).2 hq
      refine ⟨τ4, v7 11 (by omega) (by omega) (by omega) (by omega) (by omega) (by omega), fun g hg => ?_⟩
      obtain ⟨g', rfl⟩ : ∃ g', g = g' + (k' - k) := ⟨g - (k' - k), by omega⟩
      rw [v8]
      exact qx_err v1 l2 (by omega) (v6.trans d1) (by omega)
    have cls5 : ∀ (τ : zSt) (K : zSt → Option (Int32 × zSt)), tC t L τ → τ 4 0 = nI 0 → ∃ τ5, tC t L τ5 ∧ τ5 4 0 = nI 4 ∧ τ5 6 0 = nI (t (k + 1) - 48) ∧ τ5 7 0 = nI l ∧ τ5 8 0 = nI 0 ∧ τ5 9 0 = nI 0 ∧ (∀ i, i ≠ 4 → i ≠ 5 → i ≠ 6 → i ≠ 7 → i ≠ 8 → i ≠ 9 → i ≠ 10 → τ5 i = τ i) ∧ ∀ (g : Nat), fX5_readAll_l14 K (g + (k' + 1 - k)) (nI L) (nI k) τ = fX5_readAll_l14 K g (nI L) (nI (k' + 1)) τ5 := by
      intro τ K hC h4
      obtain ⟨τ4, v1, v2, v3, v4, v5, v6, v7, v8⟩ := cls4 τ K hC h4
      rw [if_pos hkdn] at v6
      obtain ⟨τ5, d1, d2, d3, d4, d5, d6⟩ := (qx_equ (k := k') v1 v2).1 hq
      refine ⟨τ5, tC_same v1 (d6 11 (by omega) (by omega) (by omega) (by omega)), d2, by rw [d6 6 (by omega) (by omega) (by omega) (by omega)]; exact v3, d5.trans v4, d3, d4, fun i i4 i5 i6 i7 i8 i9 i10 => by rw [d6 i i4 i7 i8 i9, v7 i i4 i5 i6 i8 i9 i10], fun g => ?_⟩
      rw [show g + (k' + 1 - k) = (g + 1) + (k' - k) by omega, v8, qx_go v1 l2 (v6.trans d1)]
    rcases rl_num hL ht hp4 (show k' + 1 ≤ L from hq.1) with ⟨e, e1, e2, e3⟩ | ⟨j', x, x1, x2, x3, x4, x5, x6⟩
    · refine Or.inl ⟨e, e1, fun σ o hR => ⟨_, by rw [ref4 σ o hR, qr_sign hR (by omega) l2, if_pos hq, b2_1, if_neg hne, e2 σ _ 3 hR (by omega), b2_1, if_pos nI_0]; rfl⟩, fun τ K cnt hC h4 h3 hc => ?_⟩
      obtain ⟨τ5, v1, v2, v3, v4, v5, v6, v7, v8⟩ := cls5 τ K hC h4
      obtain ⟨τ', u1, u2⟩ := e3 τ5 K v1 v2 v5 v6
      refine ⟨τ', u1.trans (v7 11 (by omega) (by omega) (by omega) (by omega) (by omega) (by omega) (by omega)), fun g hg => ?_⟩
      obtain ⟨g', rfl⟩ : ∃ g', g = g' + (k' + 1 - k) := ⟨g - (k' + 1 - k), by omega⟩
      rw [v8]
      exact u2 g' (by omega)
    have ref5 : ∀ (σ : zSt) (o : Nat → Int32), tR t L σ → fX9_readOrder (rs σ o k) = if j' < L ∧ t j' = 59 then some (nI 1, rs σ (upd (upd (upd (upd (upd o 0 kd) 3 (-1)) 1 (nI (t (k + 1) - 48))) 2 (nI l)) 3 (nI x)) (j' + 1)) else some (nI 0, rs σ (upd (upd (upd (upd (upd o 0 kd) 3 (-1)) 1 (nI (t (k + 1) - 48))) 2 (nI l)) 3 (nI x)) j') := by
      intro σ o hR
      rw [ref4 σ o hR, qr_sign hR (by omega) l2, if_pos hq, b2_1, if_neg hne, x5 σ _ 3 hR (by omega), b2_1, if_neg hne]
      unfold fX9_readOrder_j182
      rw [qr_sign hR (by omega) x2]
      by_cases hs : j' < L ∧ t j' = 59
      · rw [if_pos hs, b2_1, if_neg hne]; rfl
      · rw [if_neg hs, b2_1, if_pos nI_0]; rfl
    have cls6 : ∀ (τ : zSt) (K : zSt → Option (Int32 × zSt)), tC t L τ → τ 4 0 = nI 0 → ∃ τ6, tC t L τ6 ∧ τ6 4 0 = nI 4 ∧ τ6 6 0 = nI (t (k + 1) - 48) ∧ τ6 7 0 = nI l ∧ τ6 8 0 = nI x ∧ fX5_take (sg t L j') (nI j') τ6 = fX5_takeOfNumber_j86 (sg t L j') (nI j') (nI 0) τ6 ∧ (∀ i, i ≠ 4 → i ≠ 5 → i ≠ 6 → i ≠ 7 → i ≠ 8 → i ≠ 9 → i ≠ 10 → τ6 i = τ i) ∧ ∀ (g : Nat), fX5_readAll_l14 K (g + (j' - k)) (nI L) (nI k) τ = fX5_readAll_l14 K g (nI L) (nI j') τ6 := by
      intro τ K hC h4
      obtain ⟨τ5, v1, v2, v3, v4, v5, v6, v7, v8⟩ := cls5 τ K hC h4
      obtain ⟨τ6, u1, u2, u3, u4⟩ := x6 τ5 K v1 v2 v5 v6
      refine ⟨τ6, tC_same v1 (u1 11 (by omega) (by omega) (by omega)), by rw [u1 4 (by omega) (by omega) (by omega)]; exact v2, by rw [u1 6 (by omega) (by omega) (by omega)]; exact v3, by rw [u1 7 (by omega) (by omega) (by omega)]; exact v4, u2, ?_, fun i i4 i5 i6 i7 i8 i9 i10 => by rw [u1 i i8 i9 i10, v7 i i4 i5 i6 i7 i8 i9 i10], fun g => ?_⟩
      · rw [u3, if_neg (fun z => by have := z.2; omega)]
      · rw [show g + (j' - k) = (g + (j' - (k' + 1))) + (k' + 1 - k) by omega, v8]
        exact u4 g
    by_cases hs : j' < L ∧ t j' = 59
    · refine Or.inr ⟨j' + 1, nI (t (k + 1) - 48), nI l, nI x, by omega, by omega, Or.inr ⟨t (k + 1) - 48, l, hc5, by omega, rfl, rfl, Or.inr ⟨x, by omega, rfl⟩⟩, fun σ o hR => ⟨_, by rw [ref5 σ o hR, if_pos hs], p_upe _ _ _, Or.inr ⟨p_nneg (by omega), Or.inr ?_, ?_, ?_⟩⟩, fun τ K cnt hC h4 h3 hc => ?_⟩
      · rw [p_upn (by omega), p_upn (by omega), p_upn (by omega), p_upn (by omega), p_upe, hkd1]
      · rw [p_upn (by omega), p_upn (by omega), p_upe]
      · rw [p_upn (by omega), p_upe]
      · obtain ⟨τ6, v1, v2, v3, v4, v5, v6, v7, v8⟩ := cls6 τ K hC h4
        obtain ⟨τ7, d1, d2, d3, d4, d5, d6, d7⟩ := (qx_semi (k := j') (cnt := cnt) v1 hp4 v2 (by rw [v7 3 (by omega) (by omega) (by omega) (by omega) (by omega) (by omega) (by omega)]; exact h3) hc).1 hs
        refine ⟨τ7, d2.trans (v7 11 (by omega) (by omega) (by omega) (by omega) (by omega) (by omega) (by omega)), d3, d4, fun i hi => ⟨?_, ?_, ?_⟩, ⟨?_, fun _ => ?_, ?_⟩, fun g => ?_⟩
        · rw [d5, p_upn hi, v7 0 (by omega) (by omega) (by omega) (by omega) (by omega) (by omega) (by omega)]
        · rw [d6, p_upn hi, v7 1 (by omega) (by omega) (by omega) (by omega) (by omega) (by omega) (by omega)]
        · rw [d7, p_upn hi, v7 2 (by omega) (by omega) (by omega) (by omega) (by omega) (by omega) (by omega)]
        · rw [d5, p_upe, v3]
        · rw [d6, p_upe, if_neg (by omega), v4]
        · rw [d7, p_upe, if_neg (by omega), v5]
        · rw [show g + (j' + 1 - k) = (g + 1) + (j' - k) by omega, v8, qx_go v1 x2 (v6.trans d1)]
    · refine Or.inl ⟨j', x2, fun σ o hR => ⟨_, by rw [ref5 σ o hR, if_neg hs]⟩, fun τ K cnt hC h4 h3 hc => ?_⟩
      obtain ⟨τ6, v1, v2, v3, v4, v5, v6, v7, v8⟩ := cls6 τ K hC h4
      have d1 := (qx_semi (k := j') (cnt := cnt) v1 hp4 v2 (by rw [v7 3 (by omega) (by omega) (by omega) (by omega) (by omega) (by omega) (by omega)]; exact h3) hc).2 hs
      refine ⟨τ6, v7 11 (by omega) (by omega) (by omega) (by omega) (by omega) (by omega) (by omega), fun g hg => ?_⟩
      obtain ⟨g', rfl⟩ : ∃ g', g = g' + (j' - k) := ⟨g - (j' - k), by omega⟩
      rw [v8]
      exact qx_err v1 x2 (by omega) (v6.trans d1) (by omega)
theorem rl_order {t : Nat → Nat} {L k : Nat} (hL : L ≤ 100) (ht : ∀ k, k < L → t k < 128) (hk : k < L) : oErr t L k ∨ ∃ j c l v, oRead t L k j c l v := by
  by_cases h1 : t k = 116
  · exact rl_order_t hL ht hk h1
  · by_cases h2 : t k = 114 ∨ t k = 119
    · exact rl_order_rw hL ht hk h2
    · refine Or.inl ⟨k, by omega, fun σ o hR => ⟨upd (upd o 0 (nI 1)) 3 (-1), ?_⟩, fun τ K cnt hC h4 h3 hc => ⟨τ, rfl, fun g hg => ?_⟩⟩
      · unfold fX9_readOrder
        rw [qr_sign hR (by omega) (by omega), if_neg (fun z => h1 z.2), b2_1, if_pos nI_0, qr_sign hR (by omega) (by omega), if_neg (fun z => h2 (Or.inl z.2)), b2_1, if_pos nI_0]
        unfold fX9_readOrder_j62
        rw [p_wr (by omega) (by omega), Option.bind_some, rs_wr, p_wr (by omega) (by omega), Option.bind_some, rs_wr, p_ag (by omega) (by omega), Option.bind_some, rs_4, p_upn (show ¬ 0 = 3 by omega), p_upe, if_pos rfl, qr_sign hR (by omega) (by omega), if_neg (fun z => h2 (Or.inr z.2)), b2_1, if_pos nI_0]
        rfl
      · refine qx_err hC (by omega) (by omega) ?_ hg
        rw [show sg t L k = nI (t k) from if_pos hk]
        exact kind_no (ht k hk) h1 (fun z => h2 (Or.inl z)) (fun z => h2 (Or.inr z)) h4
