/-! the law's check of a cache -/
theorem pS_snoc {f : Nat → Nat} {r k : Nat} : pS f (r + 1) k = pS f r k + f (k + r) := by
  rw [pS_split]
  rfl
theorem pS_lt {f g : Nat → Nat} (hle : ∀ i, f i ≤ g i) {j : Nat} (hj : f j < g j) : ∀ {r k : Nat}, k ≤ j → j < k + r → pS f r k < pS g r k := by
  intro r
  induction r with
  | zero => intro k h1 h2; omega
  | succ r ih =>
    intro k h1 h2
    show f k + pS f r (k + 1) < g k + pS g r (k + 1)
    have hk := hle k
    by_cases e : k = j
    · have hr : ∀ {r k : Nat}, pS f r k ≤ pS g r k := by
        intro r
        induction r with
        | zero => intro k; exact Nat.le_refl _
        | succ r ih2 =>
          intro k
          show f k + pS f r (k + 1) ≤ g k + pS g r (k + 1)
          have := hle k
          have := ih2 (k := k + 1)
          omega
      have := hr (r := r) (k := k + 1)
      rw [e] at this ⊢
      omega
    · have := ih (k := k + 1) (by omega) (by omega)
      omega
theorem pS_full {f : Nat → Nat} (h1 : ∀ i, f i ≤ 1) : ∀ {M : Nat}, pS f M 0 = M → ∀ i, i < M → f i = 1 := by
  intro M
  induction M with
  | zero => intro _ i hi; omega
  | succ M ih =>
    intro h i hi
    rw [pS_snoc, Nat.zero_add] at h
    have h2 := pS_le (f := f) (m := 1) h1 (r := M) (k := 0)
    have h3 := h1 M
    by_cases e : i = M
    · rw [e]; omega
    · exact ih (by omega) i (by omega)
theorem pS_all1 {f : Nat → Nat} : ∀ {r : Nat}, (∀ i, i < r → f i = 1) → pS f r 0 = r := by
  intro r
  induction r with
  | zero => intro _; rfl
  | succ r ih =>
    intro h
    rw [pS_snoc, Nat.zero_add, ih fun i hi => h i (by omega), h r (by omega)]
/-- how many of the first n bits are set -/
def bitC (x : Int32) (n : Nat) : Nat := pS (fun i => if bt x i = true then 1 else 0) n 0
theorem bit1 (x : Int32) (i : Nat) : (fun i => if bt x i = true then 1 else 0) i ≤ 1 := by
  show (if bt x i = true then 1 else 0) ≤ 1
  split <;> omega
theorem bitC_set {x : Int32} {s n : Nat} (hs : s < n) (hn : n ≤ 32) (h : bt x s = false) : bitC (x ||| ((nI 1) <<< (nI s &&& 31))) n = bitC x n + 1 := by
  have hs32 : s < 32 := by omega
  have e : ∀ j, j ≠ s → (fun i => if bt (x ||| ((nI 1) <<< (nI s &&& 31))) i = true then 1 else 0) j = (fun i => if bt x i = true then 1 else 0) j := fun j hj => by
    show (if bt (x ||| ((nI 1) <<< (nI s &&& 31))) j = true then 1 else 0) = (if bt x j = true then 1 else 0)
    by_cases h32 : j < 32
    · rw [b_set x hs32 h32, decide_eq_false hj, Bool.or_false]
    · rw [b_big (by omega), b_big (by omega)]
  have := pS_one e (r := n) (k := 0) (by omega) (by omega)
  have h1 : (if bt (x ||| ((nI 1) <<< (nI s &&& 31))) s = true then 1 else 0) = 1 := by rw [b_set x hs32 hs32, decide_eq_true rfl, Bool.or_true, if_pos rfl]
  have h2 : (if bt x s = true then 1 else 0) = 0 := by
    rw [h]
    rfl
  rw [h1, h2] at this
  exact this
theorem bitC_0 (n : Nat) : bitC (nI 0) n = 0 := pS_zero fun j _ _ => by
  show (if bt (nI 0) j = true then 1 else 0) = 0
  rw [nI_0, b_0]
  rfl
theorem bitC_cut {x : Int32} {S n : Nat} (hS : S ≤ n) (h : ∀ i, S ≤ i → i < n → bt x i = false) : bitC x n = bitC x S := by
  unfold bitC
  rw [show n = S + (n - S) by omega, pS_split, pS_zero (r := n - S) (fun j h1 h2 => by
    rw [h j (by omega) (by omega)]
    rfl)]
  rfl
theorem bitC_le (x : Int32) (n : Nat) : bitC x n ≤ n := by
  have := pS_le (f := fun i => if bt x i = true then 1 else 0) (m := 1) (bit1 x) (r := n) (k := 0)
  unfold bitC
  omega
theorem bitC_full {x : Int32} {n : Nat} (h : bitC x n = n) : ∀ i, i < n → bt x i = true := fun i hi => by
  have := pS_full (f := fun i => if bt x i = true then 1 else 0) (bit1 x) h i hi
  have h2 : (if bt x i = true then 1 else 0) = 1 := this
  exact Classical.byContradiction fun z => by
    rw [if_neg z] at h2
    omega
theorem bitC_all {x : Int32} {n : Nat} (h : ∀ i, i < n → bt x i = true) : bitC x n = n := pS_all1 fun i hi => if_pos (h i hi)
theorem b_bit (x : Int32) {f : Nat} (hf : f < 32) : (x >>> (nI f &&& 31)) &&& nI 1 = if bt x f = true then nI 1 else nI 0 := by
  refine b_ext fun i hi => ?_
  rw [b_and, b_one i hi]
  by_cases e : i = 0
  · subst e
    rw [b_sshr f hf x hi, if_pos (by omega), Nat.add_zero, decide_eq_true rfl, Bool.and_true]
    cases h : bt x f with
    | true => rw [if_pos rfl, b_one 0 hi]; rfl
    | false => rw [if_neg (by decide), nI_0, b_0]
  · rw [decide_eq_false e, Bool.and_false]
    split
    · rw [b_one i hi, decide_eq_false e]
    · rw [nI_0, b_0]
theorem w_ones_l {x : Int32} {χ : cSt} {K : Int32 → Option Int32} : ∀ (r i m : Nat), i + r = 8 → r < m → fL_ones_l4 χ K m x (nI (bitC x i)) (nI i) = K (nI (bitC x 8)) := by
  intro r
  induction r with
  | zero =>
    intro i m hi hm
    obtain ⟨m, rfl⟩ : ∃ k, m = k + 1 := ⟨m - 1, by omega⟩
    obtain rfl : i = 8 := by omega
    rw [fL_ones_l4, if_pos (nI_le (by omega) (by omega))]
  | succ r ih =>
    intro i m hi hm
    obtain ⟨m, rfl⟩ : ∃ k, m = k + 1 := ⟨m - 1, by omega⟩
    rw [fL_ones_l4, if_neg (nI_ge (by omega) (by omega)), b_bit x (by omega), nI_add]
    have e : nI (bitC x i) + (if bt x i = true then nI 1 else nI 0) = nI (bitC x (i + 1)) := by
      unfold bitC
      rw [pS_snoc, Nat.zero_add]
      split
      · rw [nI_add]
      · rw [nI_add]
    rw [e]
    exact ih (i + 1) m (by omega) (by omega)
theorem w_ones (x : Int32) (χ : cSt) : fL_ones x χ = some (nI (bitC x 8)) := w_ones_l (K := fun x1 => some x1) 8 0 z_fu rfl (by decide)
/-- copies of a cache among its first lines -/
def cpN (τ : zSt) (c l : Nat) : Nat := pS (fun j => if τ 2 (c * 32 + j) = 0 then 0 else 1) l 0
theorem cpN_succ (τ : zSt) (c l : Nat) : cpN τ c (l + 1) = cpN τ c l + (if τ 2 (c * 32 + l) = 0 then 0 else 1) := by
  unfold cpN
  rw [pS_snoc, Nat.zero_add]
theorem cpN_9 {n S R P U D c : Nat} {X : Nat → Nat → Prop} {τ : zSt} (h : pInv n S R P U D X τ) (hc : c < 6) : cpN τ c 32 = cpN τ c 9 := by
  unfold cpN
  rw [show (32 : Nat) = 9 + 23 from rfl, pS_split, pS_zero (r := 23) (fun j h1 h2 => by
    rcases h.2.1 c j hc (by omega) with z | ⟨-, z, -⟩
    · rw [if_pos z]
    · omega)]
  rfl
theorem rk_self {τ : zSt} {c j : Nat} (hj : j < 32) (hk : τ 2 (c * 32 + j) ≠ 0) : rkN τ c j < cpN τ c 32 := by
  refine pS_lt (j := j) (fun i => ?_) ?_ (by omega) (by omega)
  · show (if τ 2 (c * 32 + i) = 0 then 0 else if τ 5 (c * 32 + i) ≤ τ 5 (c * 32 + j) then 0 else 1) ≤ (if τ 2 (c * 32 + i) = 0 then 0 else 1)
    split
    · omega
    · split <;> omega
  · show (if τ 2 (c * 32 + j) = 0 then 0 else if τ 5 (c * 32 + j) ≤ τ 5 (c * 32 + j) then 0 else 1) < (if τ 2 (c * 32 + j) = 0 then 0 else 1)
    rw [if_neg hk, if_neg hk, if_pos (Int32.le_refl _)]
    omega
theorem use_at {n S R P U D c l : Nat} {τ : zSt} (h : pInv n S R P U D noX τ) (hc : c < 6) (hl : l < 32) (hk : τ 2 (c * 32 + l) ≠ 0) : l < 9 ∧ ∃ a, a ≤ 100000 ∧ τ 5 (c * 32 + l) = nI a := by
  have hU := h.2.2.2.2.2.2.2.2.2.1
  rcases h.2.1 c l hc hl with z | ⟨_, z, _, _, _, y⟩
  · exact absurd z hk
  · obtain ⟨a, a1, a2⟩ := y id
    exact ⟨z, a, by omega, a2⟩
/-- who was used earlier has the greater rank -/
theorem rk_lt {n S R P U D c j k : Nat} {τ : zSt} (h : pInv n S R P U D noX τ) (hc : c < 6) (hj : j < 32) (hk : k < 32) (kj : τ 2 (c * 32 + j) ≠ 0) (kk : τ 2 (c * 32 + k) ≠ 0) (hlt : ¬ τ 5 (c * 32 + k) ≤ τ 5 (c * 32 + j)) : rkN τ c k < rkN τ c j := by
  refine pS_lt (j := k) (fun i => ?_) ?_ (by omega) (by omega)
  · show (if τ 2 (c * 32 + i) = 0 then 0 else if τ 5 (c * 32 + i) ≤ τ 5 (c * 32 + k) then 0 else 1) ≤ (if τ 2 (c * 32 + i) = 0 then 0 else if τ 5 (c * 32 + i) ≤ τ 5 (c * 32 + j) then 0 else 1)
    split
    · omega
    · by_cases e : τ 5 (c * 32 + i) ≤ τ 5 (c * 32 + k)
      · rw [if_pos e]; omega
      · rw [if_neg e, if_neg (fun z => e (Int32.le_trans z (Int32.le_of_lt (Int32.not_le.mp hlt))))]
        omega
  · show (if τ 2 (c * 32 + k) = 0 then 0 else if τ 5 (c * 32 + k) ≤ τ 5 (c * 32 + k) then 0 else 1) < (if τ 2 (c * 32 + k) = 0 then 0 else if τ 5 (c * 32 + k) ≤ τ 5 (c * 32 + j) then 0 else 1)
    rw [if_neg kk, if_neg kk, if_pos (Int32.le_refl _), if_neg hlt]
    omega
theorem rk_inj {n S R P U D c j k : Nat} {τ : zSt} (h : pInv n S R P U D noX τ) (hc : c < 6) (hj : j < 32) (hk : k < 32) (kj : τ 2 (c * 32 + j) ≠ 0) (kk : τ 2 (c * 32 + k) ≠ 0) (he : rkN τ c j = rkN τ c k) : j = k := by
  by_cases h1 : τ 5 (c * 32 + k) ≤ τ 5 (c * 32 + j)
  · by_cases h2 : τ 5 (c * 32 + j) ≤ τ 5 (c * 32 + k)
    · exact h.2.2.2.2.1 c j k hc hj hk kj kk id id (Int32.le_antisymm h2 h1)
    · have := rk_lt h hc hk hj kk kj h2
      omega
  · have := rk_lt h hc hj hk kj kk h1
    omega
/-- what the loop over the lines knows -/
def cLp (S : Nat) (τ : zSt) (c l : Nat) (y3 y4 : Int32) (o : Option Nat) : Prop :=
  (∀ i, i < 32 → (bt y3 i = true ↔ ∃ j, j < l ∧ τ 2 (c * 32 + j) ≠ 0 ∧ rkN τ c j = i)) ∧ bitC y3 32 = cpN τ c l ∧
  (∀ i, i < 32 → (bt y4 i = true ↔ ∃ j, j < l ∧ τ 2 (c * 32 + j) ≠ 0 ∧ τ 4 (c * 32 + j) = nI i)) ∧ bitC y4 8 = cpN τ c l ∧
  (o = none → ∀ j, j < l → τ 2 (c * 32 + j) = 0) ∧ (∀ m, o = some m → m < l ∧ τ 2 (c * 32 + m) ≠ 0 ∧ ∀ j, j < l → τ 2 (c * 32 + j) ≠ 0 → rkN τ c j ≤ rkN τ c m)
theorem s_cache_l {n S R P U D c : Nat} {χ : cSt} {K : Int32 → Int32 → Int32 → Int32 → Int32 → Option Int32} (h : pInv n S R P U D noX (χ 0)) (hc : c < n) : ∀ (r l m : Nat) (y3 y4 : Int32) (o : Option Nat), l + r = 9 → r < m → cLp S (χ 0) c l y3 y4 o →
    ∃ y3' y4' o', fL_cache_l13 χ K m (nI c) (nI (cpN (χ 0) c l)) y3 y4 (oI o) (nI l) = K (nI c) (nI (cpN (χ 0) c 9)) y3' y4' (oI o') ∧ cLp S (χ 0) c 9 y3' y4' o' := by
  obtain ⟨⟨⟨a1, a2, a3, a4, -⟩, s19, -⟩, hC, hO, hL, hU, -⟩ := id h
  have hc6 : c < 6 := by omega
  intro r
  induction r with
  | zero =>
    intro l m y3 y4 o hl hm hp
    obtain ⟨m, rfl⟩ : ∃ k, m = k + 1 := ⟨m - 1, by omega⟩
    obtain rfl : l = 9 := by omega
    rw [fL_cache_l13, if_pos (nI_le (by omega) (by omega))]
    exact ⟨y3, y4, o, rfl, hp⟩
  | succ r ih =>
    intro l m y3 y4 o hl hm hp
    obtain ⟨m, rfl⟩ : ∃ k, m = k + 1 := ⟨m - 1, by omega⟩
    have hl32 : l < 32 := by omega
    rw [fL_cache_l13, if_neg (nI_ge (by omega) (by omega)), v_copy s19 a2 hc hl32 (by omega), f_0 hc6 hl32, Option.bind_some]
    obtain ⟨p1, p2, p3, p4, p5, p6⟩ := hp
    by_cases hk : χ 0 2 (c * 32 + l) = 0
    · rw [hk, if_pos (Int32.le_refl _), nI_add]
      have e : cpN (χ 0) c (l + 1) = cpN (χ 0) c l := by
        have := cpN_succ (χ 0) c l
        rw [if_pos hk] at this
        omega
      rw [← e]
      have ex : ∀ (Q : Nat → Prop), (∃ j, j < l + 1 ∧ χ 0 2 (c * 32 + j) ≠ 0 ∧ Q j) ↔ ∃ j, j < l ∧ χ 0 2 (c * 32 + j) ≠ 0 ∧ Q j := fun Q => by
        refine ⟨fun ⟨j, j1, j2, j3⟩ => ⟨j, ?_, j2, j3⟩, fun ⟨j, j1, j2, j3⟩ => ⟨j, by omega, j2, j3⟩⟩
        by_cases ej : j = l
        · rw [ej] at j2
          exact absurd hk j2
        · omega
      refine ih (l + 1) m y3 y4 o (by omega) (by omega) ⟨fun i hi => (p1 i hi).trans (ex _).symm, by rw [e]; exact p2, fun i hi => (p3 i hi).trans (ex _).symm, by rw [e]; exact p4, fun z j hj => ?_, fun q hq => ?_⟩
      · by_cases ej : j = l
        · rw [ej]; exact hk
        · exact p5 z j (by omega)
      · obtain ⟨q1, q2, q3⟩ := p6 q hq
        refine ⟨by omega, q2, fun j hj hkj => ?_⟩
        by_cases ej : j = l
        · rw [ej] at hkj
          exact absurd hk hkj
        · exact q3 j (by omega) hkj
    · have hk12 : χ 0 2 (c * 32 + l) = nI 1 ∨ χ 0 2 (c * 32 + l) = nI 2 := by
        rcases hC c l hc6 hl32 with z | ⟨_, _, z, _⟩
        · exact absurd z hk
        · exact z
      obtain ⟨s, hs1, hs2⟩ : ∃ s, s < S ∧ χ 0 4 (c * 32 + l) = nI s := by
        rcases hC c l hc6 hl32 with z | ⟨_, _, _, _, z, _⟩
        · exact absurd z hk
        · exact z
      have hr32 : rkN (χ 0) c l < 32 := by
        have h1 := rk_self (τ := χ 0) (c := c) hl32 hk
        have h2 : cpN (χ 0) c 32 ≤ 32 := by
          have := pS_le (f := fun j => if χ 0 2 (c * 32 + j) = 0 then 0 else 1) (m := 1) (fun j => by
            show (if χ 0 2 (c * 32 + j) = 0 then 0 else 1) ≤ 1
            split <;> omega) (r := 32) (k := 0)
          unfold cpN
          omega
        omega
      rw [if_neg (by rcases hk12 with z | z <;> rw [z] <;> decide), v_copy s19 a2 hc hl32 (by omega), f_3 hc6 hl32, Option.bind_some, v_copy s19 a2 hc hl32 (by omega), f_2 hc6 hl32, Option.bind_some, if_neg hk, if_neg hk, hs2, nI_add]
      have e := cpN_succ (χ 0) c l
      rw [if_neg hk] at e
      rw [← e]
      -- the sets with the new copy
      have n3 : bt y3 (rkN (χ 0) c l) = false := by
        cases hb : bt y3 (rkN (χ 0) c l) with
        | false => rfl
        | true =>
          obtain ⟨j, j1, j2, j3⟩ := (p1 _ hr32).mp hb
          have := rk_inj h hc6 (by omega) hl32 j2 hk j3
          omega
      have n4 : bt y4 s = false := by
        cases hb : bt y4 s with
        | false => rfl
        | true =>
          obtain ⟨j, j1, j2, j3⟩ := (p3 s (by omega)).mp hb
          have := hL c j l hc6 (by omega) hl32 j2 hk (by rw [j3, hs2])
          omega
      have q1 : ∀ i, i < 32 → (bt (y3 ||| ((nI 1) <<< (nI (rkN (χ 0) c l) &&& 31))) i = true ↔ ∃ j, j < l + 1 ∧ χ 0 2 (c * 32 + j) ≠ 0 ∧ rkN (χ 0) c j = i) := fun i hi => by
        rw [b_set y3 hr32 hi, Bool.or_eq_true, decide_eq_true_iff]
        refine ⟨fun z => z.elim (fun z => ?_) (fun z => ⟨l, by omega, hk, z.symm⟩), fun ⟨j, j1, j2, j3⟩ => ?_⟩
        · obtain ⟨j, j1, j2, j3⟩ := (p1 i hi).mp z
          exact ⟨j, by omega, j2, j3⟩
        · by_cases ej : j = l
          · rw [ej] at j3
            exact Or.inr j3.symm
          · exact Or.inl ((p1 i hi).mpr ⟨j, by omega, j2, j3⟩)
      have q2 : bitC (y3 ||| ((nI 1) <<< (nI (rkN (χ 0) c l) &&& 31))) 32 = cpN (χ 0) c (l + 1) := by rw [bitC_set hr32 (by omega) n3, p2, e]
      have q3 : ∀ i, i < 32 → (bt (y4 ||| ((nI 1) <<< (nI s &&& 31))) i = true ↔ ∃ j, j < l + 1 ∧ χ 0 2 (c * 32 + j) ≠ 0 ∧ χ 0 4 (c * 32 + j) = nI i) := fun i hi => by
        rw [b_set y4 (by omega) hi, Bool.or_eq_true, decide_eq_true_iff]
        refine ⟨fun z => z.elim (fun z => ?_) (fun z => ⟨l, by omega, hk, by rw [z]; exact hs2⟩), fun ⟨j, j1, j2, j3⟩ => ?_⟩
        · obtain ⟨j, j1, j2, j3⟩ := (p3 i hi).mp z
          exact ⟨j, by omega, j2, j3⟩
        · by_cases ej : j = l
          · rw [ej, hs2] at j3
            exact Or.inr ((nI_eq (by omega) (by omega)).mp j3).symm
          · exact Or.inl ((p3 i hi).mpr ⟨j, by omega, j2, j3⟩)
      have q4 : bitC (y4 ||| ((nI 1) <<< (nI s &&& 31))) 8 = cpN (χ 0) c (l + 1) := by rw [bitC_set (by omega) (by omega) n4, p4, e]
      -- the new copy is the oldest
      have new : (∀ j, j < l → χ 0 2 (c * 32 + j) ≠ 0 → rkN (χ 0) c j ≤ rkN (χ 0) c l) → ∃ y3' y4' o', fL_cache_j86 χ (fL_cache_l13 χ K m) (nI c) (nI (cpN (χ 0) c (l + 1))) (y3 ||| ((nI 1) <<< (nI (rkN (χ 0) c l) &&& 31))) (y4 ||| ((nI 1) <<< (nI s &&& 31))) (nI l) = K (nI c) (nI (cpN (χ 0) c 9)) y3' y4' (oI o') ∧ cLp S (χ 0) c 9 y3' y4' o' := by
        intro hmax
        unfold fL_cache_j86
        rw [nI_add]
        refine ih (l + 1) m _ _ (some l) (by omega) (by omega) ⟨q1, q2, q3, q4, fun z => by (cases z), fun q hq => ?_⟩
        obtain rfl := Option.some.inj hq
        refine ⟨by omega, hk, fun j hj hkj => ?_⟩
        by_cases ej : j = l
        · rw [ej]; exact Nat.le_refl _
        · exact hmax j (by omega) hkj
      cases o with
      | none =>
        rw [oI_none, if_pos (by decide)]
        exact new fun j hj hkj => absurd (p5 rfl j hj) hkj
      | some q =>
        obtain ⟨t1, t2, t3⟩ := p6 q rfl
        rw [oI_some, if_neg (nI_pos (by omega)), Option.bind_some, v_copy s19 a2 hc (by omega) (by omega), f_3 hc6 (by omega), Option.bind_some, if_neg t2]
        have hq32 : rkN (χ 0) c q < 2 ^ 31 := by
          have h1 := pS_le (f := fun j => if χ 0 2 (c * 32 + j) = 0 then 0 else if χ 0 5 (c * 32 + j) ≤ χ 0 5 (c * 32 + q) then 0 else 1) (m := 1) (fun j => by
            show (if χ 0 2 (c * 32 + j) = 0 then 0 else if χ 0 5 (c * 32 + j) ≤ χ 0 5 (c * 32 + q) then 0 else 1) ≤ 1
            split
            · omega
            · split <;> omega) (r := 32) (k := 0)
          unfold rkN
          omega
        by_cases hle : rkN (χ 0) c l ≤ rkN (χ 0) c q
        · rw [if_pos (nI_le hle hq32), nI_add]
          refine ih (l + 1) m _ _ (some q) (by omega) (by omega) ⟨q1, q2, q3, q4, fun z => by (cases z), fun q' hq' => ?_⟩
          obtain rfl := Option.some.inj hq'
          refine ⟨by omega, t2, fun j hj hkj => ?_⟩
          by_cases ej : j = l
          · rw [ej]; exact hle
          · exact t3 j (by omega) hkj
        · rw [if_neg (nI_ge (by omega) (by omega))]
          exact new fun j hj hkj => by
            have := t3 j hj hkj
            omega
theorem bz1 : z_bz (nI 1) = some (nI 1) := rfl
theorem msk : ∀ M, M < 9 → ∀ i, i < 32 → bt (((nI 1) <<< (nI M &&& 31)) - nI 1) i = decide (i < M) := by decide +kernel
theorem pw2 : ∀ S, S < 9 → (nI 1) <<< (nI S &&& 31) = nI (2 ^ S) := by decide +kernel
theorem small {x : Int32} {S : Nat} (h : ∀ i, S ≤ i → i < 32 → bt x i = false) : ∃ v, v < 2 ^ S ∧ x = nI v := by
  refine ⟨x.toBitVec.toNat, Nat.lt_pow_two_of_testBit _ fun i hi => ?_, ?_⟩
  · by_cases h32 : i < 32
    · exact h i hi h32
    · exact BitVec.getLsbD_of_ge _ _ (by omega)
  · apply Int32.toBitVec_inj.mp
    show _ = BitVec.ofNat 32 _
    simp
theorem s_cache {n S R P U D c : Nat} {χ : cSt} (h : pInv n S R P U D noX (χ 0)) (hc : c < n) : fL_cache (nI c) χ = some (nI 1) := by
  obtain ⟨⟨⟨a1, a2, a3, a4, -⟩, s19, s20, -⟩, hC, hO, hL, hU, -⟩ := id h
  have hc6 : c < 6 := by omega
  have v1 : fX8_value (nI 1) χ = some (nI S) := by
    rw [v_value (by omega)]
    unfold fX4_number
    rw [if_neg (by decide), if_pos rfl, s20]
  unfold fL_cache
  have start : cLp S (χ 0) c 0 (nI 0) (nI 0) none := by
    refine ⟨fun i hi => ⟨fun z => ?_, fun ⟨j, j1, _⟩ => by omega⟩, bitC_0 32, fun i hi => ⟨fun z => ?_, fun ⟨j, j1, _⟩ => by omega⟩, bitC_0 8, fun _ j hj => by omega, fun m hm => by cases hm⟩
    · rw [nI_0, b_0] at z
      cases z
    · rw [nI_0, b_0] at z
      cases z
  obtain ⟨y3, y4, o, e, p1, p2, p3, p4, p5, p6⟩ := s_cache_l (K := fun x6 x7 x8 x9 x10 => (fX8_value (nI 1) χ).bind fun x11 =>
  (if x11 < x7 then
  fL_cache_j135 χ x6 x7 x9 x10
  else
  (if x8 = (((nI 1) <<< (x7 &&& 31)) - (nI 1)) then
  (fX8_value (nI 1) χ).bind fun x15 =>
  (if ((nI 1) <<< (x15 &&& 31)) ≤ x9 then
  fL_cache_j135 χ x6 x7 x9 x10
  else
  fL_cache_j136 χ x6 x7 x9 x10 (nI 1))
  else
  fL_cache_j135 χ x6 x7 x9 x10))) h hc 9 0 z_fu (nI 0) (nI 0) none rfl (by decide) start
  refine Eq.trans e ?_
  generalize hM : cpN (χ 0) c 9 = M at p2 p4
  have h32 : cpN (χ 0) c 32 = M := by rw [cpN_9 h hc6, hM]
  have slot : ∀ j, j < 32 → χ 0 2 (c * 32 + j) ≠ 0 → j < 9 ∧ ∃ s, s < S ∧ χ 0 4 (c * 32 + j) = nI s := fun j hj hk => by
    rcases hC c j hc6 hj with z | ⟨_, z1, _, _, z2, _⟩
    · exact absurd z hk
    · exact ⟨z1, z2⟩
  have out4 : ∀ i, S ≤ i → i < 32 → bt y4 i = false := fun i h1 h2 => by
    cases hb : bt y4 i with
    | false => rfl
    | true =>
      obtain ⟨j, j1, j2, j3⟩ := (p3 i h2).mp hb
      obtain ⟨-, s, s1, s2⟩ := slot j (by omega) j2
      rw [s2] at j3
      have := (nI_eq (by omega) (by omega)).mp j3
      omega
  have c4 : bitC y4 S = M := by rw [← bitC_cut (n := 8) a4 (fun i h1 h2 => out4 i h1 (by omega)), p4]
  have hMS : M ≤ S := by
    have := bitC_le y4 S
    omega
  have out3 : ∀ i, M ≤ i → i < 32 → bt y3 i = false := fun i h1 h2 => by
    cases hb : bt y3 i with
    | false => rfl
    | true =>
      obtain ⟨j, j1, j2, j3⟩ := (p1 i h2).mp hb
      have := rk_self (τ := χ 0) (c := c) (j := j) (by omega) j2
      omega
  have c3 : bitC y3 M = M := by rw [← bitC_cut (n := 32) (by omega) out3, p2]
  have e3 : y3 = ((nI 1) <<< (nI M &&& 31)) - nI 1 := b_ext fun i hi => by
    rw [msk M (by omega) i hi]
    by_cases hi2 : i < M
    · rw [bitC_full c3 i hi2, decide_eq_true hi2]
    · rw [out3 i (by omega) hi, decide_eq_false hi2]
  obtain ⟨v, w1, w2⟩ := small out4
  have h2S : 2 ^ S ≤ 256 := by
    have := Nat.pow_le_pow_right (show 0 < 2 by omega) a4
    exact this
  rw [v1, Option.bind_some, if_neg (nI_nlt hMS (by omega)), if_pos e3, Option.bind_some, pw2 S (by omega), if_neg (by rw [w2]; exact nI_ge w1 (by omega))]
  unfold fL_cache_j136
  obtain ⟨o', o1, o2, o3⟩ := i_ltd h hc6
  have nd : fX8_nextDropped (nI c) χ = some (oI o') := by
    unfold fX8_nextDropped
    rw [s19, if_neg (gIdx hc (by omega)), o1, obs]
  have free : ∀ i, i < S → (isFr (χ 0) c i ↔ bt y4 i = false) := fun i hi => by
    refine ⟨fun z => ?_, fun z j hj hk ej => ?_⟩
    · cases hb : bt y4 i with
      | false => rfl
      | true =>
        obtain ⟨j, j1, j2, j3⟩ := (p3 i (by omega)).mp hb
        exact absurd j3 (z j (by omega) j2)
    · have := (p3 i (by omega)).mpr ⟨j, (slot j hj hk).1, hk, ej⟩
      rw [z] at this
      cases this
  rw [if_neg (show ¬ nI 1 = 0 by decide), w_ones, Option.bind_some, p4, if_pos rfl, nd, Option.bind_some, v1, Option.bind_some]
  unfold fL_cache_j172
  by_cases hE : M = S
  · have eo : o' = o := by
      have all : ∀ i, i < S → bt y4 i = true := bitC_full (by rw [c4, hE])
      cases o' with
      | none =>
        obtain ⟨s, f1, f2, -⟩ := o2 rfl
        have := (free s f1).mp f2
        rw [all s f1] at this
        cases this
      | some d =>
        obtain ⟨d1, d2, -, d4⟩ := o3 d rfl
        cases o with
        | none =>
          have hz : cpN (χ 0) c 9 = 0 := pS_zero fun j _ hj => if_pos (p5 rfl j (by omega))
          omega
        | some m =>
          obtain ⟨m1, m2, m3⟩ := p6 m rfl
          have hd9 := (slot d d1 d2).1
          have hr := m3 d hd9 d2
          have hu := d4 m (by omega) m2
          by_cases h2 : χ 0 5 (c * 32 + m) ≤ χ 0 5 (c * 32 + d)
          · rw [hU c d m hc6 d1 (by omega) d2 m2 id id (Int32.le_antisymm hu h2)]
          · have := rk_lt h hc6 d1 (by omega) d2 m2 h2
            omega
    rw [if_pos (congrArg nI hE), if_pos (congrArg oI eo)]
    exact bz1
  · have eo : o' = none := by
      cases o' with
      | none => rfl
      | some d =>
        obtain ⟨-, -, d3, -⟩ := o3 d rfl
        have all : ∀ i, i < S → bt y4 i = true := fun i hi => by
          cases hb : bt y4 i with
          | true => rfl
          | false => exact absurd ((free i hi).mpr hb) (d3 i hi)
        have := bitC_all all
        omega
    rw [if_neg (fun z => hE ((nI_eq (by omega) (by omega)).mp z)), eo, if_pos oI_none]
    exact bz1
