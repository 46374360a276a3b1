/-! numbers, writes and the class's small steps (rows of whole, picked by wip/tools26/pick.py) -/
/-- what a set of sharers tells -/
def shB (b : Nat → Bool) : Int32 := pG (fun c a => if b c = true then a ||| ((nI 1) <<< (nI c &&& 31)) else a) 6 0 (nI 0)
theorem shF_B (k : Nat → Int32) : shF k 6 = shB (fun c => decide (k c = nI 1)) := by
  unfold shF shB
  exact pG_congr fun j _ _ a => by
    by_cases h : k j = nI 1
    · rw [if_pos h, if_pos (decide_eq_true h)]
    · rw [if_neg h, if_neg (fun e => h (of_decide_eq_true e))]
theorem shF_ext {k k' : Nat → Int32} {n : Nat} (hn : n ≤ 6) (h : ∀ c, c < n → k c = k' c) (h0 : ∀ c, n ≤ c → c < 6 → k' c = 0) : shF k n = shF k' 6 := by
  unfold shF
  rw [show (6 : Nat) = n + (6 - n) by omega, pG_split, pG_id (r := 6 - n) (fun j h1 h2 a => if_neg (by rw [h0 j (by omega) (by omega)]; decide))]
  exact pG_congr fun j h1 h2 a => by rw [h j (by omega)]
def bN (b : Bool) : Nat := if b then 1 else 0
def six (b0 b1 b2 b3 b4 b5 : Bool) : Nat → Bool
  | 0 => b0
  | 1 => b1
  | 2 => b2
  | 3 => b3
  | 4 => b4
  | 5 => b5
  | _ => false
theorem shB_six (b : Nat → Bool) : shB b = shB (six (b 0) (b 1) (b 2) (b 3) (b 4) (b 5)) := by
  unfold shB
  exact pG_congr fun j _ hj a => by
    rcases (show j = 0 ∨ j = 1 ∨ j = 2 ∨ j = 3 ∨ j = 4 ∨ j = 5 by omega) with rfl | rfl | rfl | rfl | rfl | rfl <;> rfl
theorem sh_zero6 : ∀ b0 b1 b2 b3 b4 b5 : Bool, shB (six b0 b1 b2 b3 b4 b5) = 0 ↔ (b0 = false ∧ b1 = false ∧ b2 = false ∧ b3 = false ∧ b4 = false ∧ b5 = false) := by decide +kernel
theorem sh_zero (k : Nat → Int32) : shF k 6 = 0 ↔ ∀ c, c < 6 → k c ≠ nI 1 := by
  rw [shF_B, shB_six, sh_zero6]
  simp only [decide_eq_false_iff_not]
  refine ⟨fun ⟨h0, h1, h2, h3, h4, h5⟩ c hc => ?_, fun h => ⟨h 0 (by omega), h 1 (by omega), h 2 (by omega), h 3 (by omega), h 4 (by omega), h 5 (by omega)⟩⟩
  rcases (show c = 0 ∨ c = 1 ∨ c = 2 ∨ c = 3 ∨ c = 4 ∨ c = 5 by omega) with rfl | rfl | rfl | rfl | rfl | rfl <;> assumption
theorem ifF {α : Type} (a b : α) : (if false = true then a else b) = b := rfl
theorem ifT {α : Type} (a b : α) : (if true = true then a else b) = a := rfl
theorem nI_le0 {k : Nat} (h : k < 2 ^ 31) : nI k ≤ 0 ↔ k = 0 := by
  rw [show (0 : Int32) = nI 0 from nI_0.symm, nI_leI h (by omega)]
  omega
theorem nI_dec {k : Nat} : nI (k + 1) + (-1) = nI k := (Int32.sub_eq_add_neg _ _).symm.trans (nI_pred k)
def wr (τ : zSt) (i k : Nat) (x : Int32) : zSt := z_up τ i (upd (τ i) k x)
theorem wr_e (τ : zSt) (i k : Nat) (x : Int32) : wr τ i k x i k = x := by unfold wr; rw [p_ze, p_upe]
theorem wr_n {τ : zSt} {i k j : Nat} {x : Int32} (h : ¬ j = k) : wr τ i k x i j = τ i j := by unfold wr; rw [p_ze, p_upn h]
theorem wr_o {τ : zSt} {i k j : Nat} {x : Int32} (h : ¬ j = i) : wr τ i k x j = τ j := by unfold wr; rw [p_zn h]
def ws (τ : zSt) (i : Nat) (x : Int32) : zSt := z_up τ i (fun _ => x)
theorem ws_e (τ : zSt) (i k : Nat) (x : Int32) : ws τ i x i k = x := by unfold ws; rw [p_ze]
theorem ws_o {τ : zSt} {i j : Nat} {x : Int32} (h : ¬ j = i) : ws τ i x j = τ j := by unfold ws; rw [p_zn h]
theorem p_ws (τ : zSt) (i : Nat) (x : Int32) : z_sf τ i x = some (ws τ i x) := rfl
theorem p_wr {τ : zSt} {i n k : Nat} {x : Int32} (hk : k < n) (h : n ≤ 2000) : z_sg τ i n (nI k) x = some (wr τ i k x) := p_sg hk h
theorem qx_tearOut {τ : zSt} {l : Nat} {b : Int32} (hl : l < 32) : ∃ τ', fX1_tearOut (nI l) b τ = some τ' ∧ τ' 6 = upd (τ 6) l (nI 0) ∧ τ' 15 0 = τ 15 0 - nI 1 ∧ τ' 17 0 = τ 17 0 + nI 1 ∧ τ' 13 0 = (if b = 0 then τ 13 0 else τ 13 0 ||| ((nI 1) <<< (nI l &&& 31))) ∧ ∀ i, i ≠ 6 → i ≠ 15 → i ≠ 17 → i ≠ 13 → τ' i = τ i := by
  unfold fX1_tearOut
  rw [p_wr hl (by omega), Option.bind_some, p_ws, Option.bind_some, p_ws, Option.bind_some]
  by_cases hb : b = 0
  · rw [if_pos hb, if_pos hb]
    refine ⟨_, rfl, ?_, ?_, ?_, ?_, fun i h1 h2 h3 h4 => ?_⟩
    · rw [ws_o (by omega), ws_o (by omega)]
      exact p_ze _ _ _
    · rw [ws_o (by omega), ws_e, wr_o (by omega)]
    · rw [ws_e, ws_o (by omega), wr_o (by omega)]
    · rw [ws_o (by omega), ws_o (by omega), wr_o (by omega)]
    · rw [ws_o h3, ws_o h2, wr_o h1]
  · rw [if_neg hb, if_neg hb, p_ws, Option.bind_some]
    refine ⟨_, rfl, ?_, ?_, ?_, ?_, fun i h1 h2 h3 h4 => ?_⟩
    · rw [ws_o (by omega), ws_o (by omega), ws_o (by omega)]
      exact p_ze _ _ _
    · rw [ws_o (by omega), ws_o (by omega), ws_e, wr_o (by omega)]
    · rw [ws_o (by omega), ws_e, ws_o (by omega), wr_o (by omega)]
    · rw [ws_e, ws_o (by omega), ws_o (by omega), wr_o (by omega)]
    · rw [ws_o h4, ws_o h3, ws_o h2, wr_o h1]

theorem qx_use1 {τ : zSt} {l : Nat} (hl : l < 32) : fX1_use (nI l) τ = some (wr (ws τ 12 (τ 12 0 + nI 1)) 6 l (τ 12 0 + nI 1)) := by
  unfold fX1_use
  rw [p_ws, Option.bind_some, p_wr hl (by omega), Option.bind_some, ws_e]
theorem qx_makePage {τ : zSt} {l : Nat} (hl : l < 32) : ∃ τ', fX1_makePage (nI l) τ = some τ' ∧ τ' 6 = upd (τ 6) l (τ 12 0 + nI 1) ∧ τ' 12 0 = τ 12 0 + nI 1 ∧ τ' 15 0 = τ 15 0 + nI 1 ∧ τ' 16 0 = τ 16 0 + (if bt (τ 13 0) l = true then nI 1 else nI 0) ∧ τ' 13 0 = (if bt (τ 13 0) l = true then τ 13 0 &&& (((nI 1) <<< (nI l &&& 31)) ^^^ (-1)) else τ 13 0) ∧ ∀ i, i ≠ 6 → i ≠ 12 → i ≠ 15 → i ≠ 16 → i ≠ 13 → τ' i = τ i := by
  have tail : ∀ ρ : zSt, ∃ τ', fX1_makePage_j32 (nI l) ρ = some τ' ∧ τ' 6 = upd (ρ 6) l (ρ 12 0 + nI 1) ∧ τ' 12 0 = ρ 12 0 + nI 1 ∧ τ' 15 0 = ρ 15 0 + nI 1 ∧ ∀ i, i ≠ 6 → i ≠ 12 → i ≠ 15 → τ' i = ρ i := by
    intro ρ
    unfold fX1_makePage_j32
    rw [p_ws, Option.bind_some, qx_use1 hl, Option.bind_some]
    refine ⟨_, rfl, ?_, ?_, ?_, fun i h1 h2 h3 => ?_⟩
    · rw [ws_o (by omega)]
      show z_up _ 6 _ 6 = _
      rw [p_ze, ws_o (by omega), ws_o (by omega)]
    · rw [wr_o (by omega), ws_e, ws_o (by omega)]
    · rw [wr_o (by omega), ws_o (by omega), ws_e]
    · rw [wr_o h1, ws_o h2, ws_o h3]
  unfold fX1_makePage
  rw [qx_isMarked hl, Option.bind_some]
  cases hb : bt (τ 13 0) l with
  | false =>
    simp only [ifF]
    rw [if_pos nI_0]
    obtain ⟨τ', g1, g2, g3, g4, g5⟩ := tail τ
    exact ⟨τ', g1, g2, g3, g4, by rw [g5 16 (by omega) (by omega) (by omega), nI_0, Int32.add_zero], g5 13 (by omega) (by omega) (by omega) ▸ rfl, fun i h1 h2 h3 _ _ => g5 i h1 h2 h3⟩
  | true =>
    simp only [ifT, if_true]
    rw [if_neg (by decide), p_ws, Option.bind_some, p_ws, Option.bind_some]
    obtain ⟨τ', g1, g2, g3, g4, g5⟩ := tail (ws (ws τ 16 (τ 16 0 + nI 1)) 13 ((ws τ 16 (τ 16 0 + nI 1)) 13 0 &&& (((nI 1) <<< (nI l &&& 31)) ^^^ (-1))))
    refine ⟨τ', g1, ?_, ?_, ?_, ?_, ?_, fun i h1 h2 h3 h4 h5 => ?_⟩
    · rw [g2, ws_o (by omega), ws_o (by omega), ws_o (by omega), ws_o (by omega)]
    · rw [g3, ws_o (by omega), ws_o (by omega)]
    · rw [g4, ws_o (by omega), ws_o (by omega)]
    · rw [g5 16 (by omega) (by omega) (by omega), ws_o (by omega), ws_e]
    · rw [g5 13 (by omega) (by omega) (by omega), ws_e, ws_o (by omega)]
    · rw [g5 i h1 h2 h3, ws_o h5, ws_o h4]
def rmN (l c : Nat) : Nat → Nat → zSt → zSt
  | 0, _, τ => τ
  | r + 1, d, τ => rmN l c r (d + 1) (if d = c then τ else wr τ 2 (d * 32 + l) (nI 0))
theorem qx_rmo_l {l c : Nat} (hl : l < 32) (hc : c < 6) : ∀ (r d n : Nat) (τ : zSt), d + r = 6 → r < n → fX0_removeOthers_l2 (fun σ2 => some σ2) n (nI c) (nI l) (nI d) τ = some (rmN l c r d τ) := by
  intro r
  induction r with
  | zero =>
    intro d n τ hd hn
    obtain ⟨n, rfl⟩ : ∃ k, n = k + 1 := ⟨n - 1, by omega⟩
    rw [fX0_removeOthers_l2, if_pos (nI_le (by omega) (by omega))]
    rfl
  | succ r ih =>
    intro d n τ hd hn
    obtain ⟨n, rfl⟩ : ∃ k, n = k + 1 := ⟨n - 1, by omega⟩
    rw [fX0_removeOthers_l2, if_neg (nI_ge (by omega) (by omega)), rmN]
    by_cases e : d = c
    · rw [if_pos (by rw [e]), if_pos e, nI_add, ih (d + 1) n τ (by omega) (by omega)]
    · rw [if_neg (fun z => e ((nI_eq (by omega) (by omega)).mp z)), if_neg e, p_mul, nI_add, p_wr (by omega) (by omega), Option.bind_some, nI_add, ih (d + 1) n _ (by omega) (by omega)]
theorem rmN_spec {l c : Nat} (hl : l < 32) : ∀ (r d : Nat) (τ : zSt), (∀ e, d ≤ e → e < d + r → e ≠ c → rmN l c r d τ 2 (e * 32 + l) = nI 0) ∧ (∀ j, (∀ e, d ≤ e → e < d + r → e ≠ c → j ≠ e * 32 + l) → rmN l c r d τ 2 j = τ 2 j) ∧ ∀ i, i ≠ 2 → rmN l c r d τ i = τ i := by
  intro r
  induction r with
  | zero => intro d τ; exact ⟨fun e h1 h2 => by omega, fun j _ => rfl, fun i _ => rfl⟩
  | succ r ih =>
    intro d τ
    show (∀ e, _ → _ → _ → rmN l c r (d + 1) (if d = c then τ else wr τ 2 (d * 32 + l) (nI 0)) 2 (e * 32 + l) = _) ∧ (∀ j, _ → rmN l c r (d + 1) (if d = c then τ else wr τ 2 (d * 32 + l) (nI 0)) 2 j = _) ∧ ∀ i, _ → rmN l c r (d + 1) (if d = c then τ else wr τ 2 (d * 32 + l) (nI 0)) i = _
    by_cases e : d = c
    · rw [if_pos e]
      obtain ⟨i1, i2, i3⟩ := ih (d + 1) τ
      exact ⟨fun e' h1 h2 h3 => i1 e' (by omega) (by omega) h3, fun j hj => i2 j fun e' h1 h2 h3 => hj e' (by omega) (by omega) h3, i3⟩
    · rw [if_neg e]
      obtain ⟨i1, i2, i3⟩ := ih (d + 1) (wr τ 2 (d * 32 + l) (nI 0))
      refine ⟨fun e' h1 h2 h3 => ?_, fun j hj => ?_, fun i hi => by rw [i3 i hi, wr_o hi]⟩
      · by_cases e1 : e' = d
        · rw [e1, i2 _ (fun e2 g1 g2 g3 => by omega), wr_e]
        · exact i1 e' (by omega) (by omega) h3
      · rw [i2 j (fun e' h1 h2 h3 => hj e' (by omega) (by omega) h3), wr_n (hj d (by omega) (by omega) e)]
theorem qx_rmo {τ : zSt} {l c : Nat} (hl : l < 32) (hc : c < 6) : fX0_removeOthers (nI c) (nI l) τ = some (rmN l c 6 0 τ) := qx_rmo_l hl hc 6 0 z_fu τ rfl (by decide)
theorem qx_bringBack {τ : zSt} {c l : Nat} (hc : c < 6) (hl : l < 32) : fX4_bringBack (nI c) (nI l) τ = some (ws (wr τ 0 l (τ 3 (c * 32 + l))) 26 (τ 26 0 + nI 1)) := by
  unfold fX4_bringBack
  rw [qx_valueOf hc hl, Option.bind_some, p_wr hl (by omega), Option.bind_some, p_ws, Option.bind_some, wr_o (by omega)]
theorem qx_share {τ : zSt} {c l : Nat} (hc : c < 6) (hl : l < 32) : fX0_share (nI c) (nI l) τ = some (wr τ 2 (c * 32 + l) (nI 1)) := by
  unfold fX0_share
  rw [p_mul, nI_add, p_wr (by omega) (by omega), Option.bind_some]
def dropT (c d : Nat) (τ : zSt) : zSt := wr (if τ 2 (c * 32 + d) = nI 2 then ws (wr τ 0 d (τ 3 (c * 32 + d))) 26 (τ 26 0 + nI 1) else τ) 2 (c * 32 + d) (nI 0)
theorem qx_throwAway {τ : zSt} {c d : Nat} (hc : c < 6) (hd : d < 32) : fX4_throwAway (nI c) (nI d) τ = some (dropT c d τ) := by
  unfold fX4_throwAway dropT fX4_throwAway_j19 fX0_remove
  rw [qx_kindOf hc hd, Option.bind_some]
  by_cases h : τ 2 (c * 32 + d) = nI 2
  · rw [if_pos h, if_pos h, qx_bringBack hc hd, Option.bind_some, p_mul, nI_add, p_wr (by omega) (by omega), Option.bind_some, Option.bind_some]
  · rw [if_neg h, if_neg h, p_mul, nI_add, p_wr (by omega) (by omega), Option.bind_some, Option.bind_some]
def hitB (τ : zSt) (c l : Nat) (w : Int32) : Prop := if w = 0 then τ 2 (c * 32 + l) ≠ 0 else τ 2 (c * 32 + l) = nI 2
theorem qx_isHit {τ : zSt} {c l : Nat} {w : Int32} (hc : c < 6) (hl : l < 32) : (hitB τ c l w → fX4_isHit (nI c) (nI l) w τ = some (nI 1)) ∧ (¬ hitB τ c l w → fX4_isHit (nI c) (nI l) w τ = some (nI 0)) := by
  unfold fX4_isHit hitB
  rw [qx_kindOf hc hl, Option.bind_some]
  by_cases hw : w = 0
  · rw [if_pos hw, if_pos hw]
    by_cases h : τ 2 (c * 32 + l) = 0
    · rw [if_pos h]; exact ⟨fun z => absurd h z, fun _ => rfl⟩
    · rw [if_neg h]; exact ⟨fun _ => rfl, fun z => absurd h z⟩
  · rw [if_neg hw, if_neg hw]
    by_cases h : τ 2 (c * 32 + l) = nI 2
    · rw [if_pos h]; exact ⟨fun _ => rfl, fun z => absurd h z⟩
    · rw [if_neg h]; exact ⟨fun z => absurd z h, fun _ => rfl⟩
theorem qx_use {τ : zSt} {l : Nat} (hl : l < 32) : fX4_fetch_j128 (nI l) τ = some (wr (ws τ 12 (τ 12 0 + nI 1)) 6 l (τ 12 0 + nI 1)) := by
  unfold fX4_fetch_j128
  rw [qx_use1 hl, Option.bind_some]
/-- the class's log -/
theorem qx_shift {K : Int32 → Int32 → Int32 → Int32 → Int32 → Int32 → zSt → Option zSt} {x1 x2 x3 x4 x5 x6 : Int32} : ∀ (r n : Nat) (τ : zSt), r ≤ 66 → r < n → ∃ τ', fX3_add_l9 K n x1 x2 x3 x4 x5 x6 (nI (5 + r)) τ = K x1 x2 x3 x4 x5 x6 τ' ∧ (∀ i, i ≠ 10 → τ' i = τ i) ∧ (∀ k, 6 ≤ k → k ≤ 5 + r → τ' 10 k = τ 10 (k - 6)) ∧ ∀ k, (k < 6 ∨ 5 + r < k) → τ' 10 k = τ 10 k := by
  intro r
  induction r with
  | zero =>
    intro n τ hr hn
    obtain ⟨n, rfl⟩ : ∃ k, n = k + 1 := ⟨n - 1, by omega⟩
    rw [fX3_add_l9, if_pos (nI_lt (by omega) (by omega))]
    exact ⟨τ, rfl, fun _ _ => rfl, fun k h1 h2 => by omega, fun _ _ => rfl⟩
  | succ r ih =>
    intro n τ hr hn
    obtain ⟨n, rfl⟩ : ∃ k, n = k + 1 := ⟨n - 1, by omega⟩
    rw [fX3_add_l9, if_neg (nI_nlt (by omega) (by omega)), p_sub (by omega), p_ag (by omega) (by omega), Option.bind_some, p_wr (by omega) (by omega), Option.bind_some, show 5 + (r + 1) = (5 + r) + 1 by omega, nI_dec]
    obtain ⟨τ', g1, g2, g3, g4⟩ := ih n (wr τ 10 (5 + r + 1) (τ 10 (5 + r + 1 - 6))) (by omega) (by omega)
    refine ⟨τ', g1, fun i hi => by rw [g2 i hi, wr_o hi], fun k h1 h2 => ?_, fun k hk => by rw [g4 k (by omega), wr_n (by omega)]⟩
    by_cases e : k = 5 + r + 1
    · rw [e, g4 _ (by omega), wr_e]
    · rw [g3 k h1 (by omega), wr_n (by omega)]
theorem qx_add {τ : zSt} {C : Nat} (x1 x2 x3 x4 x5 x6 : Int32) (h18 : τ 18 0 = nI C) (hC : C ≤ 12) : ∃ τ', fX3_add x1 x2 x3 x4 x5 x6 τ = some τ' ∧ (∀ i, i ≠ 10 → i ≠ 18 → τ' i = τ i) ∧ τ' 18 0 = nI (if C < 12 then C + 1 else C) ∧ (τ' 10 0 = x1 ∧ τ' 10 1 = x2 ∧ τ' 10 2 = x3 ∧ τ' 10 3 = x4 ∧ τ' 10 4 = x5 ∧ τ' 10 5 = x6) ∧ ∀ k, 6 ≤ k → k < 72 → τ' 10 k = τ 10 (k - 6) := by
  unfold fX3_add
  rw [p_sub (by omega), show 72 - 1 = 5 + 66 from rfl]
  obtain ⟨τ1, g1, g2, g3, g4⟩ := qx_shift (K := fun x3 x4 x5 x6 x7 x8 σ9 => (z_sg σ9 10 72 (nI 0) x3).bind fun σ10 => (z_sg σ10 10 72 (nI 1) x4).bind fun σ11 => (z_sg σ11 10 72 (nI 2) x5).bind fun σ12 => (z_sg σ12 10 72 (nI 3) x6).bind fun σ13 => (z_sg σ13 10 72 (nI 4) x7).bind fun σ14 => (z_sg σ14 10 72 (nI 5) x8).bind fun σ15 => (if (nI 12) ≤ (σ15 18 0) then some σ15 else (z_sf σ15 18 ((σ15 18 0) + (nI 1))).bind fun σ16 => some σ16)) (x1 := x1) (x2 := x2) (x3 := x3) (x4 := x4) (x5 := x5) (x6 := x6) 66 z_fu τ (by omega) (by decide)
  rw [g1, p_wr (by omega) (by omega), Option.bind_some, p_wr (by omega) (by omega), Option.bind_some, p_wr (by omega) (by omega), Option.bind_some, p_wr (by omega) (by omega), Option.bind_some, p_wr (by omega) (by omega), Option.bind_some, p_wr (by omega) (by omega), Option.bind_some]
  generalize hκ : wr (wr (wr (wr (wr (wr τ1 10 0 x1) 10 1 x2) 10 2 x3) 10 3 x4) 10 4 x5) 10 5 x6 = κ
  have ko : ∀ i, i ≠ 10 → κ i = τ i := fun i hi => by rw [← hκ, wr_o hi, wr_o hi, wr_o hi, wr_o hi, wr_o hi, wr_o hi, g2 i hi]
  have kv : κ 10 0 = x1 ∧ κ 10 1 = x2 ∧ κ 10 2 = x3 ∧ κ 10 3 = x4 ∧ κ 10 4 = x5 ∧ κ 10 5 = x6 := by
    rw [← hκ]
    refine ⟨?_, ?_, ?_, ?_, ?_, wr_e _ _ _ _⟩
    · rw [wr_n (by omega), wr_n (by omega), wr_n (by omega), wr_n (by omega), wr_n (by omega), wr_e]
    · rw [wr_n (by omega), wr_n (by omega), wr_n (by omega), wr_n (by omega), wr_e]
    · rw [wr_n (by omega), wr_n (by omega), wr_n (by omega), wr_e]
    · rw [wr_n (by omega), wr_n (by omega), wr_e]
    · rw [wr_n (by omega), wr_e]
  have ks : ∀ k, 6 ≤ k → k < 72 → κ 10 k = τ 10 (k - 6) := fun k h1 h2 => by
    rw [← hκ, wr_n (by omega), wr_n (by omega), wr_n (by omega), wr_n (by omega), wr_n (by omega), wr_n (by omega), g3 k h1 (by omega)]
  have k18 : κ 18 0 = nI C := by rw [ko 18 (by omega)]; exact h18
  rw [k18]
  by_cases h : C < 12
  · rw [if_neg (nI_ge h (by omega)), p_ws, Option.bind_some, nI_add, if_pos h]
    refine ⟨_, rfl, fun i h1 h2 => by rw [ws_o h2, ko i h1], ws_e _ _ _ _, ?_, fun k h1 h2 => by rw [ws_o (by omega), ks k h1 h2]⟩
    rw [ws_o (by omega)]
    exact kv
  · rw [if_pos (nI_le (by omega) (by omega)), if_neg h]
    exact ⟨κ, rfl, fun i h1 _ => ko i h1, k18, kv, ks⟩

/-- the class's way behind the fetching -/
theorem qx_j66 {τ : zSt} {c l U C : Nat} {m : Int32} {w wv : Int32} (hc : c < 6) (hl : l < 32) (hw : w = nI 0 ∨ w = nI 1) (h8 : w ≠ 0 → τ 8 c = wv) (h11 : τ 11 0 = nI U) (h18 : τ 18 0 = nI C) (hC : C ≤ 12) :
    ∃ τ', fX4_serve_j66 (nI c) (nI l) w m τ = some τ' ∧ τ' 2 = (if w = 0 then τ 2 else upd (τ 2) (c * 32 + l) (nI 2)) ∧ τ' 3 = (if w = 0 then τ 3 else upd (τ 3) (c * 32 + l) wv) ∧ τ' 1 = (if w = 0 then τ 1 else upd (τ 1) l wv) ∧ τ' 5 = upd (τ 5) (c * 32 + l) (nI (U + 1)) ∧ τ' 11 0 = nI (U + 1) ∧ τ' 7 = upd (τ 7) c (-1) ∧
      τ' 18 0 = nI (if C < 12 then C + 1 else C) ∧ (τ' 10 0 = nI c ∧ τ' 10 1 = nI l ∧ τ' 10 2 = w ∧ τ' 10 3 = τ' 3 (c * 32 + l) ∧ τ' 10 4 = m ∧ τ' 10 5 = τ 21 0) ∧ (∀ k, 6 ≤ k → k < 72 → τ' 10 k = τ 10 (k - 6)) ∧ ∀ i, i ≠ 1 → i ≠ 2 → i ≠ 3 → i ≠ 5 → i ≠ 7 → i ≠ 10 → i ≠ 11 → i ≠ 18 → τ' i = τ i := by
  have J104 : ∀ ρ : zSt, ρ 11 0 = nI U → ρ 18 0 = nI C → ∃ τ', fX4_serve_j104 (nI c) (nI l) w m ρ = some τ' ∧ τ' 5 = upd (ρ 5) (c * 32 + l) (nI (U + 1)) ∧ τ' 11 0 = nI (U + 1) ∧ τ' 7 = upd (ρ 7) c (-1) ∧ τ' 18 0 = nI (if C < 12 then C + 1 else C) ∧ (τ' 10 0 = nI c ∧ τ' 10 1 = nI l ∧ τ' 10 2 = w ∧ τ' 10 3 = ρ 3 (c * 32 + l) ∧ τ' 10 4 = m ∧ τ' 10 5 = ρ 21 0) ∧ (∀ k, 6 ≤ k → k < 72 → τ' 10 k = ρ 10 (k - 6)) ∧ ∀ i, i ≠ 5 → i ≠ 7 → i ≠ 10 → i ≠ 11 → i ≠ 18 → τ' i = ρ i := by
    intro ρ h1 h2
    unfold fX4_serve_j104 fX0_use
    rw [h1, p_ws, Option.bind_some, nI_add, p_mul, nI_add, ws_e, p_wr (by omega) (by omega), Option.bind_some, Option.bind_some]
    generalize hκ : wr (ws ρ 11 (nI (U + 1))) 5 (c * 32 + l) (nI (U + 1)) = κ
    have k5 : κ 5 = upd (ρ 5) (c * 32 + l) (nI (U + 1)) := by
      rw [← hκ]
      show z_up _ 5 _ 5 = _
      rw [p_ze, ws_o (by omega)]
    have k11 : κ 11 0 = nI (U + 1) := by rw [← hκ, wr_o (by omega), ws_e]
    have ko : ∀ i, i ≠ 5 → i ≠ 11 → κ i = ρ i := fun i e1 e2 => by rw [← hκ, wr_o e1, ws_o e2]
    have J129 : ∀ x0 : Int32, x0 = w → ∃ τ', fX4_serve_j129 (nI c) (nI l) m x0 (nI l) (nI c) κ = some τ' ∧ τ' 5 = upd (ρ 5) (c * 32 + l) (nI (U + 1)) ∧ τ' 11 0 = nI (U + 1) ∧ τ' 7 = upd (ρ 7) c (-1) ∧ τ' 18 0 = nI (if C < 12 then C + 1 else C) ∧ (τ' 10 0 = nI c ∧ τ' 10 1 = nI l ∧ τ' 10 2 = w ∧ τ' 10 3 = ρ 3 (c * 32 + l) ∧ τ' 10 4 = m ∧ τ' 10 5 = ρ 21 0) ∧ (∀ k, 6 ≤ k → k < 72 → τ' 10 k = ρ 10 (k - 6)) ∧ ∀ i, i ≠ 5 → i ≠ 7 → i ≠ 10 → i ≠ 11 → i ≠ 18 → τ' i = ρ i := by
      intro x0 hx0
      unfold fX4_serve_j129 fX7_forget
      obtain ⟨τ1, g1, g2, g3, g4, g5⟩ := qx_add (τ := κ) (nI c) (nI l) x0 (κ 3 (c * 32 + l)) m (κ 21 0) (by rw [ko 18 (by omega) (by omega)]; exact h2) hC
      rw [qx_valueOf hc hl, Option.bind_some, g1, Option.bind_some, p_wr hc (by omega), Option.bind_some, Option.bind_some]
      refine ⟨_, rfl, ?_, ?_, ?_, ?_, ?_, fun k e1 e2 => ?_, fun i e1 e2 e3 e4 e5 => ?_⟩
      · rw [wr_o (by omega), g2 5 (by omega) (by omega), k5]
      · rw [wr_o (by omega), g2 11 (by omega) (by omega), k11]
      · show z_up _ 7 _ 7 = _
        rw [p_ze, g2 7 (by omega) (by omega), ko 7 (by omega) (by omega)]
      · rw [wr_o (by omega), g3]
      · rw [wr_o (by omega)]
        rw [ko 3 (by omega) (by omega), ko 21 (by omega) (by omega), hx0] at g4
        exact g4
      · rw [wr_o (by omega), g5 k e1 e2, ko 10 (by omega) (by omega)]
      · rw [wr_o e2, g2 i e3 e5, ko i e1 e4]
    rcases hw with hw | hw
    · rw [if_pos (by rw [hw]; exact nI_0)]
      exact J129 _ hw.symm
    · rw [if_neg (by rw [hw]; decide)]
      exact J129 _ hw.symm
  unfold fX4_serve_j66
  by_cases hw0 : w = 0
  · rw [if_pos hw0, if_pos hw0, if_pos hw0, if_pos hw0]
    obtain ⟨τ', u1, u2, u3, u4, u5, u6, u7, u8⟩ := J104 τ h11 h18
    refine ⟨τ', u1, u8 2 (by omega) (by omega) (by omega) (by omega) (by omega), u8 3 (by omega) (by omega) (by omega) (by omega) (by omega), u8 1 (by omega) (by omega) (by omega) (by omega) (by omega), u2, u3, u4, u5, ?_, u7, fun i e1 e2 e3 e4 e5 e6 e7 e8 => u8 i e4 e5 e6 e7 e8⟩
    rw [u8 3 (by omega) (by omega) (by omega) (by omega) (by omega)]
    exact u6
  · rw [if_neg hw0, if_neg hw0, if_neg hw0, if_neg hw0, p_ag hc (by omega), Option.bind_some, h8 hw0]
    unfold fX0_own
    rw [p_mul, nI_add, p_wr (by omega) (by omega), Option.bind_some, p_wr (by omega) (by omega), Option.bind_some, Option.bind_some, p_ag hc (by omega), Option.bind_some, wr_o (by omega), wr_o (by omega), h8 hw0, p_wr hl (by omega), Option.bind_some]
    generalize hκ : wr (wr (wr τ 2 (c * 32 + l) (nI 2)) 3 (c * 32 + l) wv) 1 l wv = κ
    have k2 : κ 2 = upd (τ 2) (c * 32 + l) (nI 2) := by
      rw [← hκ, wr_o (by omega), wr_o (by omega)]
      exact p_ze _ _ _
    have k3 : κ 3 = upd (τ 3) (c * 32 + l) wv := by
      rw [← hκ, wr_o (by omega)]
      show z_up _ 3 _ 3 = _
      rw [p_ze, wr_o (by omega)]
    have k1 : κ 1 = upd (τ 1) l wv := by
      rw [← hκ]
      show z_up _ 1 _ 1 = _
      rw [p_ze, wr_o (by omega), wr_o (by omega)]
    have ko : ∀ i, i ≠ 1 → i ≠ 2 → i ≠ 3 → κ i = τ i := fun i e1 e2 e3 => by rw [← hκ, wr_o e1, wr_o e3, wr_o e2]
    obtain ⟨τ', u1, u2, u3, u4, u5, u6, u7, u8⟩ := J104 κ (by rw [ko 11 (by omega) (by omega) (by omega)]; exact h11) (by rw [ko 18 (by omega) (by omega) (by omega)]; exact h18)
    have t3 := u8 3 (by omega) (by omega) (by omega) (by omega) (by omega)
    refine ⟨τ', u1, by rw [u8 2 (by omega) (by omega) (by omega) (by omega) (by omega), k2], by rw [t3, k3], by rw [u8 1 (by omega) (by omega) (by omega) (by omega) (by omega), k1], by rw [u2, ko 5 (by omega) (by omega) (by omega)], u3, by rw [u4, ko 7 (by omega) (by omega) (by omega)], u5, ?_, fun k e1 e2 => by rw [u7 k e1 e2, ko 10 (by omega) (by omega) (by omega)], fun i e1 e2 e3 e4 e5 e6 e7 e8 => by rw [u8 i e4 e5 e6 e7 e8, ko i e1 e2 e3]⟩
    rw [t3]
    rw [ko 21 (by omega) (by omega) (by omega)] at u6
    exact u6
def wB (wv : Int32) : Int32 := if wv = -1 then nI 0 else nI 1
theorem qx_isWrite {τ : zSt} {c : Nat} {wv : Int32} (hc : c < 6) (h8 : τ 8 c = wv) : fX7_isWrite (nI c) τ = some (wB wv) := by
  unfold fX7_isWrite wB
  rw [p_ag hc (by omega), Option.bind_some, h8]
  split <;> rfl
theorem z_rm_nI {a b : Nat} (hb : 0 < b) (ha : a < 2 ^ 31) (hb2 : b < 2 ^ 31) : z_rm (nI a) (nI b) = some (nI (a % b)) := by
  unfold z_rm
  rw [if_neg (nI_ne0 hb hb2), pk_rem ha hb hb2]
theorem qx_isPending {τ : zSt} {c : Nat} (hc : c < 6) : fX7_isPending (nI c) τ = some (if τ 7 c = -1 then nI 0 else nI 1) := by
  unfold fX7_isPending
  rw [p_ag hc (by omega), Option.bind_some]
  split <;> rfl
theorem turn_eq {T n i : Nat} (hn : 0 < n) (hi : i < n) : (if n ≤ T % n + i then T % n + i - n else T % n + i) = (T + i) % n := by
  have h := Nat.mod_lt T hn
  have e : (T + i) % n = (T % n + i) % n := by rw [Nat.add_mod, Nat.mod_eq_of_lt hi]
  rw [e]
  generalize T % n = t at h
  split
  · rw [Nat.mod_eq_sub_mod (by omega), Nat.mod_eq_of_lt (by omega)]
  · rw [Nat.mod_eq_of_lt (by omega)]
def gR : Nat → Nat
  | 0 => 32
  | 1 => 32
  | 2 => 192
  | 3 => 192
  | 4 => 192
  | 5 => 192
  | 6 => 32
  | 7 => 6
  | 8 => 6
  | 9 => 6
  | 10 => 72
  | _ => 1
theorem gR_1 : ∀ i, i < 27 → 11 ≤ i → gR i = 1 := by decide
def gEq (τ τ' : zSt) : Prop := ∀ i, i < 27 → ∀ k, k < gR i → τ' i k = τ i k
theorem gEq_trans {a b c : zSt} (h : gEq a b) (g : gEq b c) : gEq a c := fun i hi k hk => (g i hi k hk).trans (h i hi k hk)
theorem gEq_rfl {a : zSt} : gEq a a := fun _ _ _ _ => rfl
theorem va_cpy0 {f g : Nat → Int32} {n k : Nat} (h : k < n) : va_cpy f g 0 0 n k = f k := by
  unfold va_cpy
  rw [if_pos ⟨Nat.zero_le _, by omega⟩, Nat.zero_add, Nat.sub_zero]
theorem qx_takeOver (τ σ : zSt) : ∃ σ', fX4_takeOver τ σ = some σ' ∧ gEq τ σ' := by
  refine ⟨_, rfl, fun i hi k hk => ?_⟩
  match i, hi with
  | 0, _ => exact (show va_cpy (τ 0) (σ 0) 0 0 32 k = τ 0 k from va_cpy0 hk)
  | 1, _ => exact (show va_cpy (τ 1) (σ 1) 0 0 32 k = τ 1 k from va_cpy0 hk)
  | 2, _ => exact (show va_cpy (τ 2) (σ 2) 0 0 192 k = τ 2 k from va_cpy0 hk)
  | 3, _ => exact (show va_cpy (τ 3) (σ 3) 0 0 192 k = τ 3 k from va_cpy0 hk)
  | 4, _ => exact (show va_cpy (τ 4) (σ 4) 0 0 192 k = τ 4 k from va_cpy0 hk)
  | 5, _ => exact (show va_cpy (τ 5) (σ 5) 0 0 192 k = τ 5 k from va_cpy0 hk)
  | 6, _ => exact (show va_cpy (τ 6) (σ 6) 0 0 32 k = τ 6 k from va_cpy0 hk)
  | 7, _ => exact (show va_cpy (τ 7) (σ 7) 0 0 6 k = τ 7 k from va_cpy0 hk)
  | 8, _ => exact (show va_cpy (τ 8) (σ 8) 0 0 6 k = τ 8 k from va_cpy0 hk)
  | 9, _ => exact (show va_cpy (τ 9) (σ 9) 0 0 6 k = τ 9 k from va_cpy0 hk)
  | 10, _ => exact (show va_cpy (τ 10) (σ 10) 0 0 72 k = τ 10 k from va_cpy0 hk)
  | i + 11, hi =>
    rw [gR_1 _ hi (by omega)] at hk
    obtain rfl : k = 0 := by omega
    rcases (show i = 0 ∨ i = 1 ∨ i = 2 ∨ i = 3 ∨ i = 4 ∨ i = 5 ∨ i = 6 ∨ i = 7 ∨ i = 8 ∨ i = 9 ∨ i = 10 ∨ i = 11 ∨ i = 12 ∨ i = 13 ∨ i = 14 ∨ i = 15 by omega) with rfl | rfl | rfl | rfl | rfl | rfl | rfl | rfl | rfl | rfl | rfl | rfl | rfl | rfl | rfl | rfl <;> rfl
theorem qx_startAnew (x1 x2 x3 : Int32) (τ : zSt) : ∃ τ', fX4_startAnew x1 x2 x3 τ = some τ' ∧ ((∀ l, l < 32 → τ' 0 l = nI 0) ∧ (∀ l, l < 32 → τ' 1 l = nI 0) ∧ (∀ k, k < 192 → τ' 2 k = nI 0) ∧ (∀ l, l < 32 → τ' 6 l = nI 0) ∧ ∀ c, c < 6 → τ' 7 c = -1) ∧ τ' 19 0 = x1 ∧ τ' 20 0 = x2 ∧ τ' 14 0 = x3 ∧ ∀ i, 11 ≤ i → i < 27 → i ≠ 19 → i ≠ 20 → i ≠ 14 → τ' i 0 = nI 0 := by
  refine ⟨_, rfl, ⟨fun l hl => ?_, fun l hl => ?_, fun l hl => ?_, fun l hl => ?_, fun l hl => ?_⟩, rfl, rfl, rfl, fun i i1 i2 i3 i4 i5 => ?_⟩
  · exact (show (if l < 32 then nI 0 else τ 0 l) = nI 0 from if_pos hl)
  · exact (show (if l < 32 then nI 0 else τ 1 l) = nI 0 from if_pos hl)
  · exact (show (if l < 192 then nI 0 else τ 2 l) = nI 0 from if_pos hl)
  · exact (show (if l < 32 then nI 0 else τ 6 l) = nI 0 from if_pos hl)
  · exact (show (if l < 6 then -1 else τ 7 l) = -1 from if_pos hl)
  · rcases (show i = 11 ∨ i = 12 ∨ i = 13 ∨ i = 15 ∨ i = 16 ∨ i = 17 ∨ i = 18 ∨ i = 21 ∨ i = 22 ∨ i = 23 ∨ i = 24 ∨ i = 25 ∨ i = 26 by omega) with rfl | rfl | rfl | rfl | rfl | rfl | rfl | rfl | rfl | rfl | rfl | rfl | rfl <;> rfl
theorem beq_ne {k i : Nat} (h : ¬ k = i) : Nat.beq k i = false := by
  cases hb : Nat.beq k i with
  | false => rfl
  | true => exact absurd (Nat.eq_of_beq_eq_true hb) h
theorem c_ue (χ : cSt) (i : Nat) (σ : zSt) : c_up χ i σ i = σ := by
  unfold c_up
  simp
theorem c_un {χ : cSt} {i k : Nat} {σ : zSt} (h : ¬ k = i) : c_up χ i σ k = χ k := by
  unfold c_up
  rw [beq_ne h]
  rfl
theorem cb1 {γ : Type} {χ : cSt} {i : Nat} {τ : zSt} {k : cSt → Option γ} : c_b1 χ i (some τ) k = k (c_up χ i τ) := rfl
theorem cb2 {γ : Type} {χ : cSt} {i : Nat} {x : Int32} {τ : zSt} {k : Int32 → cSt → Option γ} : c_b2 χ i (some (x, τ)) k = k x (c_up χ i τ) := rfl
theorem b2_1 {γ : Type} {x : Int32} {σ : zSt} {f : Int32 → zSt → Option γ} : z_b2 (some (x, σ)) f = f x σ := rfl
theorem c_sv_at {χ : cSt} {h : Nat} (h3 : h < 4) (hh : χ 7 1 0 = nI h) : ∃ χ', c_sv χ = some χ' ∧ gEq (χ 0) (χ' (2 + h)) ∧ (∀ i, i ≠ 7 → i ≠ 2 + h → χ' i = χ i) ∧ χ' 7 1 0 = nI (h + 1) ∧ ∀ i, i ≠ 1 → χ' 7 i = χ 7 i := by
  have e : c_sv χ = c_sv1 χ (2 + h) := by
    unfold c_sv
    rw [hh]
    rcases (show h = 0 ∨ h = 1 ∨ h = 2 ∨ h = 3 by omega) with rfl | rfl | rfl | rfl <;> rfl
  obtain ⟨τ', t1, t2⟩ := qx_takeOver (χ 0) (χ (2 + h))
  refine ⟨c_up (c_up χ (2 + h) τ') 7 (z_up (χ 7) 1 (fun _ => nI (h + 1))), ?_, ?_, fun i i1 i2 => ?_, ?_, fun i i1 => ?_⟩
  · rw [e]
    unfold c_sv1 c_b1 c_sf
    rw [t1, Option.bind_some]
    show some (c_up (c_up χ (2 + h) τ') 7 (z_up (c_up χ (2 + h) τ' 7) 1 (fun _ => c_up χ (2 + h) τ' 7 1 0 + nI 1))) = _
    rw [c_un (show ¬ 7 = 2 + h by omega), hh, nI_add]
  · rw [c_un (by omega), c_ue]; exact t2
  · rw [c_un i1, c_un i2]
  · rw [c_ue, p_ze]
  · rw [c_ue, p_zn i1]
theorem qx_time {T k : Nat} {τ : zSt} (h : τ 21 0 = nI T) (hT : T ≤ 100000) (hk : k ≤ 1000) : fX4_hasTimeFor (nI k) τ = some (if T + k ≤ 100000 then nI 1 else nI 0) := by
  unfold fX4_hasTimeFor
  rw [h, p_sub hT]
  by_cases e : T + k ≤ 100000
  · rw [if_pos e, if_neg (nI_nlt (by omega) (by omega))]; rfl
  · rw [if_neg e, if_pos (nI_lt (by omega) (by omega))]; rfl
