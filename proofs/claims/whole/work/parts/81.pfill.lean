/-! a copy is written and used, a page is used: what becomes of the relation -/
theorem upd_same (f : Nat → Int32) (k : Nat) : upd f k (f k) = f := by
  funext j
  unfold upd
  split
  · rename_i h
    rw [h]
  · rfl
theorem mCop_set {n S U c l s : Nat} {kd vl : Int32} {X : Nat → Nat → Prop} {σ τ σ' τ' : zSt} (hn : n ≤ 6) (hS : S ≤ 8) (h : mCop n S U X σ τ) (hX : ∀ e k, X e k → e = c ∧ k = l) (hc : c < n) (hl : l < 32) (hs : s < S) (hU : U + 1 ≤ 10000000) (hkd : kd ≠ 0)
    (hpl : (τ 2 (c * 32 + l) ≠ 0 ∧ τ 4 (c * 32 + l) = nI s) ∨ (τ 2 (c * 32 + l) = 0 ∧ σ 0 (sA c s) = -1))
    (s0 : σ' 0 (sA c s) = nI l) (s1 : σ' 0 (sA c s + 1) = kd) (s2 : σ' 0 (sA c s + 2) = vl) (s3 : σ' 0 (sA c s + 3) = nI (U + 1)) (s13 : σ' 0 13 = nI (U + 1)) (so : ∀ k, 110 ≤ k → k < 302 → (k < sA c s ∨ sA c s + 3 < k) → σ' 0 k = σ 0 k)
    (t2 : τ' 2 = upd (τ 2) (c * 32 + l) kd) (t3 : τ' 3 = upd (τ 3) (c * 32 + l) vl) (t4 : τ' 4 = upd (τ 4) (c * 32 + l) (nI s)) (t5 : τ' 5 = upd (τ 5) (c * 32 + l) (nI (U + 1))) (t11 : τ' 11 0 = nI (U + 1)) : mCop n S (U + 1) noX σ' τ' := by
  obtain ⟨hA, hB, hC, hD⟩ := h
  have ex : ∀ e k, k < 32 → e * 32 + k ≠ c * 32 + l → ¬ X e k := fun e k hk hne z => by
    obtain ⟨rfl, rfl⟩ := hX e k z
    exact hne rfl
  -- who stands at the place
  have who : ∀ k, k < 32 → k ≠ l → τ 2 (c * 32 + k) ≠ 0 → ∀ t, t < 8 → τ 4 (c * 32 + k) = nI t → σ 0 (sA c t) = nI k → t ≠ s := by
    intro k hk hkl hz t ht h4 h0 e
    subst e
    rcases hpl with ⟨g1, g2⟩ | ⟨g1, g2⟩
    · obtain ⟨-, u, u1, u2, u3, -⟩ := hA c l (by omega) hl g1
      rw [g2] at u2
      obtain rfl := (nI_eq (by omega) (by omega)).mp u2
      rw [h0] at u3
      exact hkl ((nI_eq (by omega) (by omega)).mp u3)
    · rw [g2] at h0
      exact absurd h0 (p_nneg' (by omega))
  refine ⟨fun e k he hk hz => ?_, fun e t he ht => ?_, fun e k m he hk hm z1 z2 _ _ z3 => ?_, ⟨s13, t11, hU⟩⟩
  · rw [t2, t3, t4, t5] at *
    by_cases q : e * 32 + k = c * 32 + l
    · have q1 : e = c := by omega
      have q2 : k = l := by omega
      subst q1; subst q2
      rw [p_upe, p_upe, p_upe, p_upe]
      exact ⟨hc, s, hs, rfl, s0, fun _ => ⟨s1, s2, s3, U + 1, Nat.le_refl _, rfl⟩⟩
    · rw [p_upn q] at hz
      rw [p_upn q, p_upn q, p_upn q, p_upn q]
      obtain ⟨g1, t, g2, g3, g4, g5⟩ := hA e k he hk hz
      have hne : ¬ (e = c ∧ t = s) := fun z => by
        obtain ⟨rfl, z2⟩ := z
        exact who k hk (by omega) hz t (by omega) g3 g4 z2
      have adr : ∀ j, j < 4 → σ' 0 (sA e t + j) = σ 0 (sA e t + j) := fun j hj => so _ (by unfold sA; omega) (sA_lt he (by omega) hj) (by unfold sA; omega)
      have adr0 : σ' 0 (sA e t) = σ 0 (sA e t) := adr 0 (by omega)
      refine ⟨g1, t, g2, g3, by rw [adr0]; exact g4, fun _ => ?_⟩
      rw [adr 1 (by omega), adr 2 (by omega), adr 3 (by omega)]
      obtain ⟨w1, w2, w3, a, w4, w5⟩ := g5 (ex e k hk q)
      exact ⟨w1, w2, w3, a, by omega, w5⟩
  · rw [t2, t4]
    by_cases q : e = c ∧ t = s
    · obtain ⟨rfl, rfl⟩ := q
      exact Or.inr ⟨l, hl, s0, by rw [p_upe]; exact hkd, by rw [p_upe]⟩
    · have adr0 : σ' 0 (sA e t) = σ 0 (sA e t) := so _ (by unfold sA; omega) (sA_lt (k := 0) (by omega) (by omega) (by omega)) (by unfold sA; omega)
      rw [adr0]
      rcases hB e t he ht with z | ⟨k, k1, k2, k3, k4⟩
      · exact Or.inl z
      · refine Or.inr ⟨k, k1, k2, ?_⟩
        have hne : e * 32 + k ≠ c * 32 + l := by
          intro q2
          have q3 : e = c := by omega
          have q4 : k = l := by omega
          subst q3; subst q4
          rcases hpl with ⟨g1, g2⟩ | ⟨g1, g2⟩
          · rw [g2] at k4
            exact q ⟨rfl, ((nI_eq (by omega) (by omega)).mp k4).symm⟩
          · exact k3 g1
        rw [p_upn hne, p_upn hne]
        exact ⟨k3, k4⟩
  · rw [t2] at z1 z2
    rw [t5] at z3
    by_cases q : e * 32 + k = c * 32 + l
    · by_cases q' : e * 32 + m = c * 32 + l
      · omega
      · rw [p_upn q'] at z2
        rw [q, p_upe, p_upn q'] at z3
        obtain ⟨-, t, -, -, -, g5⟩ := hA e m he hm z2
        obtain ⟨-, -, -, a, w4, w5⟩ := g5 (ex e m hm q')
        rw [w5] at z3
        have := (nI_eq (by omega) (by omega)).mp z3
        omega
    · rw [p_upn q] at z1
      by_cases q' : e * 32 + m = c * 32 + l
      · rw [q', p_upe, p_upn q] at z3
        obtain ⟨-, t, -, -, -, g5⟩ := hA e k he hk z1
        obtain ⟨-, -, -, a, w4, w5⟩ := g5 (ex e k hk q)
        rw [w5] at z3
        have := (nI_eq (by omega) (by omega)).mp z3
        omega
      · rw [p_upn q'] at z2
        rw [p_upn q, p_upn q'] at z3
        exact hC e k m he hk hm z1 z2 (ex e k hk q) (ex e m hm q') z3
theorem mPage_use {P U D l p : Nat} {σ τ σ' τ' : zSt} (hP : P ≤ 16) (h : mPage P U D (fun k => k = l) σ τ) (hl : l < 32) (hU : U + 1 ≤ 10000000) (hD : D + 1 ≤ 20000000) (hp : p < P) (hpl : σ 0 (302 + 4 * p) = nI l)
    (s1 : σ' 0 (302 + 4 * p + 1) = oI (ownN τ' l)) (s2 : σ' 0 (302 + 4 * p + 2) = shF (kdF τ' l) 6) (s3 : σ' 0 (302 + 4 * p + 3) = nI (U + 1)) (so : ∀ k, 302 ≤ k → k < 366 → k ≠ 302 + 4 * p + 1 → k ≠ 302 + 4 * p + 2 → k ≠ 302 + 4 * p + 3 → σ' 0 k = σ 0 k)
    (t6 : τ' 6 = upd (τ 6) l (nI (D + 1))) (t12 : τ' 12 0 = nI (D + 1)) (t2 : ∀ k, k < 32 → k ≠ l → ∀ c, c < 6 → τ' 2 (c * 32 + k) = τ 2 (c * 32 + k)) : mPage P (U + 1) (D + 1) noE σ' τ' := by
  obtain ⟨a, b, c, d, e, f, g, i, j⟩ := h
  have q0 : ∀ q, q < P → σ' 0 (302 + 4 * q) = σ 0 (302 + 4 * q) := fun q hq => so _ (by omega) (by omega) (by omega) (by omega) (by omega)
  have qn : ∀ q j, q < P → q ≠ p → j < 4 → σ' 0 (302 + 4 * q + j) = σ 0 (302 + 4 * q + j) := fun q j hq hqp hj => so _ (by omega) (by omega) (by omega) (by omega) (by omega)
  have t6n : ∀ k, k ≠ l → τ' 6 k = τ 6 k := fun k hk => by rw [t6, p_upn hk]
  have t6l : τ' 6 l = nI (D + 1) := by rw [t6, p_upe]
  have ln : ∀ q k, q < P → k < 32 → σ 0 (302 + 4 * q) = nI k → (q = p ↔ k = l) := by
    intro q k hq hk hqk
    refine ⟨fun z => ?_, fun z => ?_⟩
    · rw [z, hpl] at hqk
      exact ((nI_eq (by omega) (by omega)).mp hqk).symm
    · exact d q p hq hp (by rw [hqk, hpl, z])
  have bnd : ∀ k, k < 32 → ∃ x, x ≤ D ∧ τ 6 k = nI x := fun k hk => by
    rcases a k hk with z | ⟨x, x1, x2, x3⟩
    · exact ⟨0, by omega, by rw [z]; exact nI_0.symm⟩
    · exact ⟨x, x2, x3⟩
  refine ⟨fun k hk => ?_, fun q hq => ?_, fun k hk h6 => ?_, fun q r hq hr z => ?_, fun q k hq hk z _ => ?_, fun q k hq hk z _ => ?_, fun q r k m hq hr hk hm z z' _ _ => ?_, fun k m hk hm h6 hkm => ?_, ⟨t12, hD⟩⟩
  · by_cases ek : k = l
    · rw [ek]; exact Or.inr ⟨D + 1, by omega, by omega, t6l⟩
    · rw [t6n k ek]
      rcases a k hk with z | ⟨x, x1, x2, x3⟩
      · exact Or.inl z
      · exact Or.inr ⟨x, x1, by omega, x3⟩
  · obtain ⟨k, k1, k2, k3⟩ := b q hq
    refine ⟨k, k1, by rw [q0 q hq]; exact k2, ?_⟩
    by_cases ek : k = l
    · rw [ek, t6l]; exact nI_ne0 (by omega) (by omega)
    · rw [t6n k ek]; exact k3
  · by_cases ek : k = l
    · exact ⟨p, hp, by rw [q0 p hp, ek]; exact hpl⟩
    · rw [t6n k ek] at h6
      obtain ⟨q, q1, q2⟩ := c k hk h6
      exact ⟨q, q1, by rw [q0 q q1]; exact q2⟩
  · rw [q0 q hq, q0 r hr] at z
    exact d q r hq hr z
  · rw [q0 q hq] at z
    by_cases ek : k = l
    · have := (ln q k hq hk z).mpr ek
      rw [this, ek]
      exact ⟨s1, s2⟩
    · have hqp : q ≠ p := fun y => ek ((ln q k hq hk z).mp y)
      rw [qn q 1 hq hqp (by omega), qn q 2 hq hqp (by omega)]
      have e1 : ownN τ' k = ownN τ k := pF_congr fun x _ hx => by rw [t2 k hk ek x (by omega)]
      have e2 : shF (kdF τ' k) 6 = shF (kdF τ k) 6 := pG_congr fun x _ hx y => by
        show (if τ' 2 (x * 32 + k) = nI 1 then _ else _) = (if τ 2 (x * 32 + k) = nI 1 then _ else _)
        rw [t2 k hk ek x (by omega)]
      rw [e1, e2]
      exact e q k hq hk z ek
  · rw [q0 q hq] at z
    by_cases ek : k = l
    · have := (ln q k hq hk z).mpr ek
      rw [this]
      exact ⟨U + 1, Nat.le_refl _, s3⟩
    · have hqp : q ≠ p := fun y => ek ((ln q k hq hk z).mp y)
      rw [qn q 3 hq hqp (by omega)]
      obtain ⟨x, x1, x2⟩ := f q k hq hk z ek
      exact ⟨x, by omega, x2⟩
  · rw [q0 q hq] at z
    rw [q0 r hr] at z'
    by_cases ek : k = l
    · have hq2 := (ln q k hq hk z).mpr ek
      by_cases em : m = l
      · have hr2 := (ln r m hr hm z').mpr em
        rw [hq2, hr2, ek, em]
        exact ⟨fun _ => Int32.le_refl _, fun _ => Int32.le_refl _⟩
      · have hrp : r ≠ p := fun y => em ((ln r m hr hm z').mp y)
        obtain ⟨x, x1, x2⟩ := f r m hr hm z' em
        obtain ⟨y, y1, y2⟩ := bnd m hm
        rw [hq2, ek, s3, qn r 3 hr hrp (by omega), x2, t6l, t6n m em, y2, nI_leI (by omega) (by omega), nI_leI (by omega) (by omega)]
        omega
    · have hqp : q ≠ p := fun y => ek ((ln q k hq hk z).mp y)
      by_cases em : m = l
      · have hr2 := (ln r m hr hm z').mpr em
        obtain ⟨x, x1, x2⟩ := f q k hq hk z ek
        obtain ⟨y, y1, y2⟩ := bnd k hk
        rw [hr2, em, s3, qn q 3 hq hqp (by omega), x2, t6l, t6n k ek, y2, nI_leI (by omega) (by omega), nI_leI (by omega) (by omega)]
        omega
      · have hrp : r ≠ p := fun y => em ((ln r m hr hm z').mp y)
        rw [qn q 3 hq hqp (by omega), qn r 3 hr hrp (by omega), t6n k ek, t6n m em]
        exact g q r k m hq hr hk hm z z' ek em
  · by_cases ek : k = l
    · by_cases em : m = l
      · omega
      · obtain ⟨y, y1, y2⟩ := bnd m hm
        rw [ek, t6l, t6n m em, y2] at hkm
        have := (nI_eq (by omega) (by omega)).mp hkm
        omega
    · by_cases em : m = l
      · obtain ⟨y, y1, y2⟩ := bnd k hk
        rw [em, t6l, t6n k ek, y2] at hkm
        have := (nI_eq (by omega) (by omega)).mp hkm
        omega
      · rw [t6n k ek] at h6 hkm
        rw [t6n m em] at hkm
        exact i k m hk hm h6 hkm
/-- the free slot, or the copy that goes: both find the same -/
theorem rl_ltd {n S R P U D c : Nat} {E : Nat → Prop} {σ τ : zSt} (h : mInv n S R P U D E noX σ τ) (hc : c < n) :
    (∃ s, s < S ∧ rcp σ S c (-1) = some (sA c s) ∧ σ 0 (sA c s) = -1 ∧ fX0_freeSlot (nI c) (nI S) τ = some (nI s) ∧ fX4_lineToDrop (nI c) τ = some (-1)) ∨
    (rcp σ S c (-1) = none ∧ (∀ f, f < S → ¬ isFr τ c f) ∧ ∃ b d, b < S ∧ d < 32 ∧ fX9_oldestCopy (nI c) σ = some (nI (sA c b)) ∧ σ 0 (sA c b) = nI d ∧ τ 2 (c * 32 + d) ≠ 0 ∧ τ 4 (c * 32 + d) = nI b ∧ fX4_lineToDrop (nI c) τ = some (nI d) ∧ ∀ k, k < 32 → τ 2 (c * 32 + k) ≠ 0 → τ 5 (c * 32 + d) ≤ τ 5 (c * 32 + k)) := by
  obtain ⟨⟨⟨a1, a2, a3, a4, a5, a6, a7⟩, b1, c1, -⟩, -, -, -, -, -, hCo, -, -⟩ := h
  obtain ⟨hA, hB, hC, hD⟩ := id hCo
  have hs8 : ∀ l, l < 32 → τ 2 (c * 32 + l) ≠ 0 → ∃ s, s < 8 ∧ τ 4 (c * 32 + l) = nI s := fun l hl hz => by
    obtain ⟨-, s, g2, g3, -⟩ := hA c l (by omega) hl hz
    exact ⟨s, by omega, g3⟩
  have fr : ∀ f, f < S → (isFr τ c f ↔ σ 0 (sA c f) = -1) := by
    intro f hf
    refine ⟨fun g => ?_, fun g l hl hz e => ?_⟩
    · rcases hB c f hc hf with z | ⟨l, l1, l2, l3, l4⟩
      · exact z
      · exact absurd l4 (g l l1 l3)
    · obtain ⟨-, s, g2, g3, g4, -⟩ := hA c l (by omega) hl hz
      rw [e] at g3
      have := (nI_eq (by omega) (by omega)).mp g3
      rw [← this, g] at g4
      exact absurd g4 (p_nneg' (by omega))
  obtain ⟨r, r1, r2, r3⟩ := qx_freeSlot (τ := τ) (c := c) (S := S) (by omega) a4 hs8
  cases r with
  | some f =>
    obtain ⟨f1, f2, f3⟩ := r3 f rfl
    refine Or.inl ⟨f, f1, rcp_at f1 ((fr f f1).mp f2) (fun t ht z => f3 t ht ((fr t (by omega)).mpr z)), (fr f f1).mp f2, r1, ?_⟩
    unfold fX4_lineToDrop
    rw [c1.2, r1, Option.bind_some, oI_some, if_neg (p_nneg (by omega))]
  | none =>
    have hnf := r2 rfl
    have occ : ∀ f, f < S → ∃ l, l < 32 ∧ σ 0 (sA c f) = nI l ∧ τ 2 (c * 32 + l) ≠ 0 ∧ τ 4 (c * 32 + l) = nI f := fun f hf => by
      rcases hB c f hc hf with z | z
      · exact absurd ((fr f hf).mpr z) (hnf f hf)
      · exact z
    have stamp : ∀ f l, f < S → l < 32 → σ 0 (sA c f) = nI l → τ 2 (c * 32 + l) ≠ 0 → τ 4 (c * 32 + l) = nI f → σ 0 (sA c f + 3) = τ 5 (c * 32 + l) := fun f l hf hl _ hz h4 => by
      obtain ⟨-, s, g2, g3, -, g5⟩ := hA c l (by omega) hl hz
      rw [h4] at g3
      obtain rfl := (nI_eq (by omega) (by omega)).mp g3
      exact (g5 id).2.2.1
    obtain ⟨b, o1, o2, o3⟩ := qr_oldestCopy (σ := σ) (c := c) (S := S) (by omega) a4 a3 c1.1
    obtain ⟨d, d1, d2, d3, d4⟩ := occ b o2
    obtain ⟨o, u1, u2, u3⟩ := qx_leastUsed (τ := τ) (c := c) (by omega)
    have mind : ∀ k, k < 32 → τ 2 (c * 32 + k) ≠ 0 → τ 5 (c * 32 + d) ≤ τ 5 (c * 32 + k) := fun k hk hz => by
      obtain ⟨-, s, g2, g3, g4, g5⟩ := hA c k (by omega) hk hz
      have := o3 s g2
      rw [stamp b d o2 d1 d2 d3 d4, (g5 id).2.2.1] at this
      exact this
    refine Or.inr ⟨?_, hnf, b, d, o2, d1, o1, d2, d3, d4, ?_, mind⟩
    · cases hr : rcp σ S c (-1) with
      | none => rfl
      | some a =>
        obtain ⟨s, s1, -, s3⟩ := rcp_some hr
        exact absurd ((fr s s1).mpr s3) (hnf s s1)
    · unfold fX4_lineToDrop
      rw [c1.2, r1, Option.bind_some, oI_none, if_pos rfl, u1, Option.bind_some]
      cases o with
      | none => exact absurd (u2 rfl d d1) d3
      | some m =>
        obtain ⟨w1, w2, w3⟩ := u3 m rfl
        have := hC c m d (by omega) w1 d1 w2 d3 id id (Int32.le_antisymm (w3 d d1 d3) (mind m w1 w2))
        rw [oI_some, this]
/-- what happens elsewhere doesn't change which copy would go -/
theorem ltd_eq {n S R P U D n' R' P' U' D' c : Nat} {E E' : Nat → Prop} {σ τ σ' τ' : zSt} (h : mInv n S R P U D E noX σ τ) (h' : mInv n' S R' P' U' D' E' noX σ' τ') (hc : c < n) (hc' : c < n') (e2 : ∀ k, k < 32 → τ' 2 (c * 32 + k) = τ 2 (c * 32 + k)) (e4 : ∀ k, k < 32 → τ' 4 (c * 32 + k) = τ 4 (c * 32 + k)) (e5 : ∀ k, k < 32 → τ' 5 (c * 32 + k) = τ 5 (c * 32 + k)) : fX4_lineToDrop (nI c) τ' = fX4_lineToDrop (nI c) τ := by
  have hS : S ≤ 8 := h.1.1.2.2.2.1
  have fr : ∀ f, isFr τ' c f ↔ isFr τ c f := fun f => by
    refine ⟨fun g l hl hz => ?_, fun g l hl hz => ?_⟩
    · rw [← e4 l hl]; exact g l hl (by rw [e2 l hl]; exact hz)
    · rw [e4 l hl]; exact g l hl (by rw [← e2 l hl]; exact hz)
  have free_of : ∀ {σ τ : zSt} {n R P U D : Nat} {E : Nat → Prop} {s : Nat}, mInv n S R P U D E noX σ τ → c < n → s < S → σ 0 (sA c s) = -1 → isFr τ c s := by
    intro σ τ n R P U D E s hm hcn hs hz l hl hk e
    obtain ⟨-, t, g2, g3, g4, -⟩ := hm.2.2.2.2.2.2.1.1 c l (by have := hm.1.1.2.1; omega) hl hk
    rw [e] at g3
    have := (nI_eq (by omega) (by omega)).mp g3
    rw [← this, hz] at g4
    exact p_nneg' (by omega) g4
  rcases rl_ltd h hc with ⟨s, s1, s2, s3, s4, s5⟩ | ⟨s1, s2, b, d, b1, d1, b2, b3, d2, d3, b4, b5⟩
  · rcases rl_ltd h' hc' with ⟨t, t1, t2, t3, t4, t5⟩ | ⟨t1, t2, -⟩
    · rw [s5, t5]
    · exact absurd ((fr s).mpr (free_of h hc s1 s3)) (t2 s s1)
  · rcases rl_ltd h' hc' with ⟨t, t1, t2, t3, t4, t5⟩ | ⟨t1, t2, b', d', b1', d1', b2', b3', d2', d3', b4', b5'⟩
    · exact absurd ((fr t).mp (free_of h' hc' t1 t3)) (s2 t t1)
    · rw [b4, b4']
      have g1 := b5 d' d1' (by rw [← e2 d' d1']; exact d2')
      have g2 := b5' d d1 (by rw [e2 d d1]; exact d2)
      rw [e5 d d1, e5 d' d1'] at g2
      have := h.2.2.2.2.2.2.1.2.2.1 c d d' (by have := h.1.1.2.1; omega) d1 d1' d2 (by rw [← e2 d' d1']; exact d2') id id (Int32.le_antisymm g1 g2)
      rw [this]
