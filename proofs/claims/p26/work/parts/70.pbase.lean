/-! pure part: numbers, reads and writes, loops that search and count -/
theorem z_ag_at (f : Nat → Int32) (n k : Nat) (hk : k < n) (h : k < 2 ^ 31) : z_ag f n (nI k) = some (f k) := by
  unfold z_ag
  rw [if_neg (by rw [nI_clamp h]; rintro (h1 | h1); exact nI_pos h h1; omega), nI_clamp h]
theorem p_mul (a b : Nat) : nI a * nI b = nI (a * b) := (Int32.ofNat_mul a b).symm
theorem p_sub {a b : Nat} (h : b ≤ a) : nI a - nI b = nI (a - b) := (Int32.ofNat_sub a b h).symm
theorem p_ag {f : Nat → Int32} {n k : Nat} (hk : k < n) (h : n ≤ 2000) : z_ag f n (nI k) = some (f k) := z_ag_at f n k hk (by omega)
theorem p_sg {σ : zSt} {j n k : Nat} {x : Int32} (hk : k < n) (h : n ≤ 2000) : z_sg σ j n (nI k) x = some (z_up σ j (upd (σ j) k x)) := by
  unfold z_sg
  rw [if_neg (by rw [nI_clamp (by omega)]; rintro (h1 | h1); exact nI_pos (by omega) h1; omega), nI_clamp (by omega)]
theorem p_neg : (-1 : Int32) < 0 := by decide
theorem p_nneg {k : Nat} (h : k < 2 ^ 31) : ¬ nI k = -1 := fun e => nI_pos h (by rw [e]; decide)
theorem p_nneg' {k : Nat} (h : k < 2 ^ 31) : ¬ (-1 : Int32) = nI k := fun e => p_nneg h e.symm
theorem p_upe (f : Nat → Int32) (k : Nat) (x : Int32) : upd f k x k = x := by unfold upd; rw [if_pos rfl]
theorem p_upn {f : Nat → Int32} {k j : Nat} {x : Int32} (h : ¬ j = k) : upd f k x j = f j := by unfold upd; rw [if_neg h]
theorem p_ze (σ : zSt) (f : Nat) (g : Nat → Int32) : z_up σ f g f = g := by
  unfold z_up
  simp
theorem p_zn {σ : zSt} {f i : Nat} {g : Nat → Int32} (h : ¬ i = f) : z_up σ f g i = σ i := by
  unfold z_up
  rw [show Nat.beq i f = false from by
    cases hb : Nat.beq i f with
    | false => rfl
    | true => exact absurd (Nat.eq_of_beq_eq_true hb) h]
  rfl
theorem p_fu : z_fu = 1999 + 1 := rfl
/-- the first number from k on, of r, that p holds of -/
def pF (p : Nat → Prop) [DecidablePred p] : Nat → Nat → Option Nat
  | 0, _ => none
  | r + 1, k => if p k then some k else pF p r (k + 1)
theorem pF_none {p : Nat → Prop} [DecidablePred p] : ∀ {r k : Nat}, pF p r k = none ↔ ∀ j, k ≤ j → j < k + r → ¬ p j := by
  intro r
  induction r with
  | zero => intro k; exact ⟨fun _ j h1 h2 => by omega, fun _ => rfl⟩
  | succ r ih =>
    intro k
    unfold pF
    by_cases hp : p k
    · rw [if_pos hp]
      exact ⟨(fun h => by cases h), fun h => absurd hp (h k (Nat.le_refl _) (by omega))⟩
    · rw [if_neg hp, ih]
      refine ⟨fun h j h1 h2 => ?_, fun h j h1 h2 => h j (by omega) (by omega)⟩
      by_cases hj : j = k
      · rw [hj]; exact hp
      · exact h j (by omega) (by omega)
theorem pF_some {p : Nat → Prop} [DecidablePred p] : ∀ {r k t : Nat}, pF p r k = some t → k ≤ t ∧ t < k + r ∧ p t ∧ ∀ j, k ≤ j → j < t → ¬ p j := by
  intro r
  induction r with
  | zero => intro k t h; cases h
  | succ r ih =>
    intro k t h
    unfold pF at h
    by_cases hp : p k
    · rw [if_pos hp] at h
      obtain rfl := Option.some.inj h
      exact ⟨Nat.le_refl _, by omega, hp, fun j h1 h2 => by omega⟩
    · rw [if_neg hp] at h
      obtain ⟨h1, h2, h3, h4⟩ := ih h
      refine ⟨by omega, by omega, h3, fun j g1 g2 => ?_⟩
      by_cases hj : j = k
      · rw [hj]; exact hp
      · exact h4 j (by omega) g2
theorem pF_mk {p : Nat → Prop} [DecidablePred p] {r k t : Nat} (h1 : k ≤ t) (h2 : t < k + r) (h3 : p t) (h4 : ∀ j, k ≤ j → j < t → ¬ p j) : pF p r k = some t := by
  cases h : pF p r k with
  | none => exact absurd h3 (pF_none.mp h t h1 h2)
  | some u =>
    obtain ⟨g1, g2, g3, g4⟩ := pF_some h
    by_cases e : u = t
    · rw [e]
    · by_cases l : u < t
      · exact absurd g3 (h4 u g1 l)
      · exact absurd h3 (g4 t h1 (by omega))
theorem pF_congr {p q : Nat → Prop} [DecidablePred p] [DecidablePred q] : ∀ {r k : Nat}, (∀ j, k ≤ j → j < k + r → (p j ↔ q j)) → pF p r k = pF q r k := by
  intro r
  induction r with
  | zero => intro k _; rfl
  | succ r ih =>
    intro k h
    unfold pF
    have h0 := h k (Nat.le_refl _) (by omega)
    rw [ih fun j h1 h2 => h j (by omega) (by omega)]
    by_cases hp : p k
    · rw [if_pos hp, if_pos (h0.mp hp)]
    · rw [if_neg hp, if_neg fun z => hp (h0.mpr z)]
/-- the sum of f over r numbers from k on -/
def pS (f : Nat → Nat) : Nat → Nat → Nat
  | 0, _ => 0
  | r + 1, k => f k + pS f r (k + 1)
theorem pS_congr {f g : Nat → Nat} : ∀ {r k : Nat}, (∀ j, k ≤ j → j < k + r → f j = g j) → pS f r k = pS g r k := by
  intro r
  induction r with
  | zero => intro k _; rfl
  | succ r ih =>
    intro k h
    unfold pS
    rw [ih fun j h1 h2 => h j (by omega) (by omega), h k (Nat.le_refl _) (by omega)]
theorem pS_le {f : Nat → Nat} {m : Nat} (hm : ∀ j, f j ≤ m) : ∀ {r k : Nat}, pS f r k ≤ r * m := by
  intro r
  induction r with
  | zero => intro k; simp [pS]
  | succ r ih =>
    intro k
    unfold pS
    have h1 := hm k
    have h2 := @ih (k + 1)
    rw [Nat.succ_mul]
    omega
theorem pS_zero {f : Nat → Nat} : ∀ {r k : Nat}, (∀ j, k ≤ j → j < k + r → f j = 0) → pS f r k = 0 := by
  intro r
  induction r with
  | zero => intro k _; rfl
  | succ r ih =>
    intro k h
    unfold pS
    rw [ih fun j h1 h2 => h j (by omega) (by omega), h k (Nat.le_refl _) (by omega)]
theorem pS_split {f : Nat → Nat} : ∀ {r1 r2 k : Nat}, pS f (r1 + r2) k = pS f r1 k + pS f r2 (k + r1) := by
  intro r1
  induction r1 with
  | zero => intro r2 k; simp [pS]
  | succ r1 ih =>
    intro r2 k
    rw [show r1 + 1 + r2 = (r1 + r2) + 1 by omega]
    show f k + pS f (r1 + r2) (k + 1) = (f k + pS f r1 (k + 1)) + pS f r2 (k + (r1 + 1))
    rw [ih, show k + 1 + r1 = k + (r1 + 1) by omega, Nat.add_assoc]
/-- a fold over r numbers from k on -/
def pG {α : Type} (f : Nat → α → α) : Nat → Nat → α → α
  | 0, _, a => a
  | r + 1, k, a => pG f r (k + 1) (f k a)
theorem pG_congr {α : Type} {f g : Nat → α → α} : ∀ {r k : Nat} {a : α}, (∀ j, k ≤ j → j < k + r → ∀ a, f j a = g j a) → pG f r k a = pG g r k a := by
  intro r
  induction r with
  | zero => intro k a _; rfl
  | succ r ih =>
    intro k a h
    unfold pG
    rw [h k (Nat.le_refl _) (by omega)]
    exact ih fun j h1 h2 => h j (by omega) (by omega)
theorem pG_split {α : Type} {f : Nat → α → α} : ∀ {r1 r2 k : Nat} {a : α}, pG f (r1 + r2) k a = pG f r2 (k + r1) (pG f r1 k a) := by
  intro r1
  induction r1 with
  | zero => intro r2 k a; simp [pG]
  | succ r1 ih =>
    intro r2 k a
    rw [show r1 + 1 + r2 = (r1 + r2) + 1 by omega]
    show pG f (r1 + r2) (k + 1) (f k a) = pG f r2 (k + (r1 + 1)) (pG f r1 (k + 1) (f k a))
    rw [ih, show k + 1 + r1 = k + (r1 + 1) by omega]
theorem pG_id {α : Type} {f : Nat → α → α} : ∀ {r k : Nat} {a : α}, (∀ j, k ≤ j → j < k + r → ∀ a, f j a = a) → pG f r k a = a := by
  intro r
  induction r with
  | zero => intro k a _; rfl
  | succ r ih =>
    intro k a h
    unfold pG
    rw [h k (Nat.le_refl _) (by omega)]
    exact ih fun j h1 h2 => h j (by omega) (by omega)
