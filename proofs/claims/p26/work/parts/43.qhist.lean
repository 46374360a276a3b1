/-! takeOver between two machines of the object; the history (by wip/tools/qhist.py) -/
theorem u_243t : Cond.instanceMethod yX4_takeOver ∈ WA := z_in0 _ (List.mem_of_getElem? (i := 243) (by decide +kernel))
theorem u_244t : Cond.selects RX4 yX4_takeOver yX4_takeOver ∈ WA := z_in0 _ (List.mem_of_getElem? (i := 244) (by decide +kernel))
theorem u_11t : Cond.initialized RX4 ∈ WA := z_in0 _ (List.mem_of_getElem? (i := 11) (by decide +kernel))
theorem u_245t : Cond.code yX4_takeOver cX4_takeOver 2 none ∈ WA := z_in0 _ (List.mem_of_getElem? (i := 245) (by decide +kernel))
theorem wTT_app (g k2 : Nat → Nat) (τ : zSt) (cI : ClassId) (σ : zSt) : wTT g k2 τ cI σ = wG g cI σ ++ wG k2 cI τ := rfl
theorem ttD_of {g k2 : Nat → Nat} {τ : zSt} {cI : ClassId} {σ : zSt} (h1 : ∀ i j, i < 16 → j < 16 → g i = g j → i = j) (h2 : ∀ i j, i < 16 → j < 16 → k2 i = k2 j → i = j) (h3 : ∀ i j, i < 16 → j < 16 → g i ≠ k2 j) : va_D (ttA g k2 τ) (wTT g k2 τ cI σ) := by
  rw [wTT_app]
  refine va_D.app ((gD_of h1).weaken fun _ _ _ h => Or.inl h) ((gD_of h2).weaken fun _ _ _ h => Or.inr h) (fun i j p q hi hj => ?_)
  obtain ⟨i1, i2⟩ := z_fst (wG_fst g cI σ) hi
  obtain ⟨j1, j2⟩ := z_fst (wG_fst k2 cI τ) hj
  rw [i2, j2]
  exact h3 i j i1 j1
theorem qD_nd {A : Nat → Prop} {a : Nat → Nat → Nat} {G : Nat → Nat → Nat} (h : qD A a G) {l1 l2 : Nat} (h1 : l1 + 16 ≤ 104) (h2 : l2 + 16 ≤ 104) (hd : l1 + 16 ≤ l2 ∨ l2 + 16 ≤ l1) {f g : Nat → Nat} (hf : ∀ k, k < 16 → f k = qAd a G (l1 + k)) (hg : ∀ k, k < 16 → g k = qAd a G (l2 + k)) : ∀ i j, i < 16 → j < 16 → f i ≠ g j := fun i j hi hj e => by
  have := h.2 (l1 + i) (l2 + j) (by omega) (by omega) (by rw [← hf i hi, ← hg j hj]; exact e)
  omega
theorem qLo_2 (a : Nat → Nat → Nat) (G : Nat → Nat → Nat) : ∀ k, k < 16 → (a 1) k = qAd a G (8 + k) := fun k hk => (qAd_0 a G hk).symm
theorem qInj_2 {A : Nat → Prop} {a : Nat → Nat → Nat} {G : Nat → Nat → Nat} (h : qD A a G) : ∀ i j, i < 16 → j < 16 → a 1 i = a 1 j → i = j := qD_0 h
theorem qLo_3 (a : Nat → Nat → Nat) (G : Nat → Nat → Nat) : ∀ k, k < 16 → (a 2) k = qAd a G (24 + k) := fun k hk => (qAd_1 a G hk).symm
theorem qInj_3 {A : Nat → Prop} {a : Nat → Nat → Nat} {G : Nat → Nat → Nat} (h : qD A a G) : ∀ i j, i < 16 → j < 16 → a 2 i = a 2 j → i = j := qD_1 h
theorem qLo_4 (a : Nat → Nat → Nat) (G : Nat → Nat → Nat) : ∀ k, k < 16 → (G 0) k = qAd a G (40 + k) := fun k hk => ((congrArg (qAd a G) (by omega)).trans (qAd_s (j := 0) a G hk)).symm
theorem qInj_4 {A : Nat → Prop} {a : Nat → Nat → Nat} {G : Nat → Nat → Nat} (h : qD A a G) : ∀ i j, i < 16 → j < 16 → G 0 i = G 0 j → i = j := fun i j hi hj e => (qD_s h (by omega) (by omega) i j hi hj e).2
theorem qLo_5 (a : Nat → Nat → Nat) (G : Nat → Nat → Nat) : ∀ k, k < 16 → (G 1) k = qAd a G (56 + k) := fun k hk => ((congrArg (qAd a G) (by omega)).trans (qAd_s (j := 1) a G hk)).symm
theorem qInj_5 {A : Nat → Prop} {a : Nat → Nat → Nat} {G : Nat → Nat → Nat} (h : qD A a G) : ∀ i j, i < 16 → j < 16 → G 1 i = G 1 j → i = j := fun i j hi hj e => (qD_s h (by omega) (by omega) i j hi hj e).2
theorem qLo_6 (a : Nat → Nat → Nat) (G : Nat → Nat → Nat) : ∀ k, k < 16 → (G 2) k = qAd a G (72 + k) := fun k hk => ((congrArg (qAd a G) (by omega)).trans (qAd_s (j := 2) a G hk)).symm
theorem qInj_6 {A : Nat → Prop} {a : Nat → Nat → Nat} {G : Nat → Nat → Nat} (h : qD A a G) : ∀ i j, i < 16 → j < 16 → G 2 i = G 2 j → i = j := fun i j hi hj e => (qD_s h (by omega) (by omega) i j hi hj e).2
theorem qLo_7 (a : Nat → Nat → Nat) (G : Nat → Nat → Nat) : ∀ k, k < 16 → (G 3) k = qAd a G (88 + k) := fun k hk => ((congrArg (qAd a G) (by omega)).trans (qAd_s (j := 3) a G hk)).symm
theorem qInj_7 {A : Nat → Prop} {a : Nat → Nat → Nat} {G : Nat → Nat → Nat} (h : qD A a G) : ∀ i j, i < 16 → j < 16 → G 3 i = G 3 j → i = j := fun i j hi hj e => (qD_s h (by omega) (by omega) i j hi hj e).2
theorem qAf_3_2 {D : va_G} {cI cB cM : ClassId} {ad6 : Nat → Nat} {a : Nat → Nat → Nat} {A : Nat → Prop} {G : Nat → Nat → Nat} {χ : cSt} {H H1 : Heap} (hP : va_P D vwCl (wQ cI cB cM ad6 a G χ) H) (hD : qD A a G) {τ0 : zSt} (hk : ∀ q : Nat, q < H.size → ¬ ttA (a 2) (a 1) τ0 q → H1[q]? = H[q]?) {τ : zSt} (h1 : va_P D vwCl (wG (a 2) cI τ) H1) (h2 : va_P D vwCl (wG (a 1) cI (χ 0)) H1) : va_P D vwCl (wQ cI cB cM ad6 a G (c_up χ 1 τ)) H1 := by
  obtain ⟨p0, p1, -, -, p4, p5, p6, p7⟩ := qParts.mp hP
  have no : ∀ {x l n}, qBk a G l n x → l + n ≤ 104 → (l + n ≤ 24 ∨ 40 ≤ l) ∧ (l + n ≤ 8 ∨ 24 ≤ l) → ¬ ttA (a 2) (a 1) τ0 x := fun hx h2 h3 hg => hg.elim (fun hg => qBk_no hD h2 (by omega) h3.1 hx (gA_1 hg)) (fun hg => qBk_no hD h2 (by omega) h3.2 hx (gA_0 hg))
  exact qParts.mpr ⟨z_keepP p0 hk fun k q h => no (qBk_h h) (by omega) (by omega), z_keepP p1 hk fun k q h => no (qBk_o h) (by omega) (by omega), h2, h1, z_keepP p4 hk fun k q h => no (qBk_s 0 h) (by omega) (by omega), z_keepP p5 hk fun k q h => no (qBk_s 1 h) (by omega) (by omega), z_keepP p6 hk fun k q h => no (qBk_s 2 h) (by omega) (by omega), z_keepP p7 hk fun k q h => no (qBk_s 3 h) (by omega) (by omega)⟩
theorem qAf_4_2 {D : va_G} {cI cB cM : ClassId} {ad6 : Nat → Nat} {a : Nat → Nat → Nat} {A : Nat → Prop} {G : Nat → Nat → Nat} {χ : cSt} {H H1 : Heap} (hP : va_P D vwCl (wQ cI cB cM ad6 a G χ) H) (hD : qD A a G) {τ0 : zSt} (hk : ∀ q : Nat, q < H.size → ¬ ttA (G 0) (a 1) τ0 q → H1[q]? = H[q]?) {τ : zSt} (h1 : va_P D vwCl (wG (G 0) cI τ) H1) (h2 : va_P D vwCl (wG (a 1) cI (χ 0)) H1) : va_P D vwCl (wQ cI cB cM ad6 a G (c_up χ 2 τ)) H1 := by
  obtain ⟨p0, p1, -, p3, -, p5, p6, p7⟩ := qParts.mp hP
  have no : ∀ {x l n}, qBk a G l n x → l + n ≤ 104 → (l + n ≤ 40 ∨ 56 ≤ l) ∧ (l + n ≤ 8 ∨ 24 ≤ l) → ¬ ttA (G 0) (a 1) τ0 x := fun hx h2 h3 hg => hg.elim (fun hg => qBk_no hD h2 (by omega) h3.1 hx (gA_s 0 hg)) (fun hg => qBk_no hD h2 (by omega) h3.2 hx (gA_0 hg))
  exact qParts.mpr ⟨z_keepP p0 hk fun k q h => no (qBk_h h) (by omega) (by omega), z_keepP p1 hk fun k q h => no (qBk_o h) (by omega) (by omega), h2, z_keepP p3 hk fun k q h => no (qBk_1 h) (by omega) (by omega), h1, z_keepP p5 hk fun k q h => no (qBk_s 1 h) (by omega) (by omega), z_keepP p6 hk fun k q h => no (qBk_s 2 h) (by omega) (by omega), z_keepP p7 hk fun k q h => no (qBk_s 3 h) (by omega) (by omega)⟩
theorem qAf_5_2 {D : va_G} {cI cB cM : ClassId} {ad6 : Nat → Nat} {a : Nat → Nat → Nat} {A : Nat → Prop} {G : Nat → Nat → Nat} {χ : cSt} {H H1 : Heap} (hP : va_P D vwCl (wQ cI cB cM ad6 a G χ) H) (hD : qD A a G) {τ0 : zSt} (hk : ∀ q : Nat, q < H.size → ¬ ttA (G 1) (a 1) τ0 q → H1[q]? = H[q]?) {τ : zSt} (h1 : va_P D vwCl (wG (G 1) cI τ) H1) (h2 : va_P D vwCl (wG (a 1) cI (χ 0)) H1) : va_P D vwCl (wQ cI cB cM ad6 a G (c_up χ 3 τ)) H1 := by
  obtain ⟨p0, p1, -, p3, p4, -, p6, p7⟩ := qParts.mp hP
  have no : ∀ {x l n}, qBk a G l n x → l + n ≤ 104 → (l + n ≤ 56 ∨ 72 ≤ l) ∧ (l + n ≤ 8 ∨ 24 ≤ l) → ¬ ttA (G 1) (a 1) τ0 x := fun hx h2 h3 hg => hg.elim (fun hg => qBk_no hD h2 (by omega) h3.1 hx (gA_s 1 hg)) (fun hg => qBk_no hD h2 (by omega) h3.2 hx (gA_0 hg))
  exact qParts.mpr ⟨z_keepP p0 hk fun k q h => no (qBk_h h) (by omega) (by omega), z_keepP p1 hk fun k q h => no (qBk_o h) (by omega) (by omega), h2, z_keepP p3 hk fun k q h => no (qBk_1 h) (by omega) (by omega), z_keepP p4 hk fun k q h => no (qBk_s 0 h) (by omega) (by omega), h1, z_keepP p6 hk fun k q h => no (qBk_s 2 h) (by omega) (by omega), z_keepP p7 hk fun k q h => no (qBk_s 3 h) (by omega) (by omega)⟩
theorem qAf_6_2 {D : va_G} {cI cB cM : ClassId} {ad6 : Nat → Nat} {a : Nat → Nat → Nat} {A : Nat → Prop} {G : Nat → Nat → Nat} {χ : cSt} {H H1 : Heap} (hP : va_P D vwCl (wQ cI cB cM ad6 a G χ) H) (hD : qD A a G) {τ0 : zSt} (hk : ∀ q : Nat, q < H.size → ¬ ttA (G 2) (a 1) τ0 q → H1[q]? = H[q]?) {τ : zSt} (h1 : va_P D vwCl (wG (G 2) cI τ) H1) (h2 : va_P D vwCl (wG (a 1) cI (χ 0)) H1) : va_P D vwCl (wQ cI cB cM ad6 a G (c_up χ 4 τ)) H1 := by
  obtain ⟨p0, p1, -, p3, p4, p5, -, p7⟩ := qParts.mp hP
  have no : ∀ {x l n}, qBk a G l n x → l + n ≤ 104 → (l + n ≤ 72 ∨ 88 ≤ l) ∧ (l + n ≤ 8 ∨ 24 ≤ l) → ¬ ttA (G 2) (a 1) τ0 x := fun hx h2 h3 hg => hg.elim (fun hg => qBk_no hD h2 (by omega) h3.1 hx (gA_s 2 hg)) (fun hg => qBk_no hD h2 (by omega) h3.2 hx (gA_0 hg))
  exact qParts.mpr ⟨z_keepP p0 hk fun k q h => no (qBk_h h) (by omega) (by omega), z_keepP p1 hk fun k q h => no (qBk_o h) (by omega) (by omega), h2, z_keepP p3 hk fun k q h => no (qBk_1 h) (by omega) (by omega), z_keepP p4 hk fun k q h => no (qBk_s 0 h) (by omega) (by omega), z_keepP p5 hk fun k q h => no (qBk_s 1 h) (by omega) (by omega), h1, z_keepP p7 hk fun k q h => no (qBk_s 3 h) (by omega) (by omega)⟩
theorem qAf_7_2 {D : va_G} {cI cB cM : ClassId} {ad6 : Nat → Nat} {a : Nat → Nat → Nat} {A : Nat → Prop} {G : Nat → Nat → Nat} {χ : cSt} {H H1 : Heap} (hP : va_P D vwCl (wQ cI cB cM ad6 a G χ) H) (hD : qD A a G) {τ0 : zSt} (hk : ∀ q : Nat, q < H.size → ¬ ttA (G 3) (a 1) τ0 q → H1[q]? = H[q]?) {τ : zSt} (h1 : va_P D vwCl (wG (G 3) cI τ) H1) (h2 : va_P D vwCl (wG (a 1) cI (χ 0)) H1) : va_P D vwCl (wQ cI cB cM ad6 a G (c_up χ 5 τ)) H1 := by
  obtain ⟨p0, p1, -, p3, p4, p5, p6, -⟩ := qParts.mp hP
  have no : ∀ {x l n}, qBk a G l n x → l + n ≤ 104 → (l + n ≤ 88 ∨ 104 ≤ l) ∧ (l + n ≤ 8 ∨ 24 ≤ l) → ¬ ttA (G 3) (a 1) τ0 x := fun hx h2 h3 hg => hg.elim (fun hg => qBk_no hD h2 (by omega) h3.1 hx (gA_s 3 hg)) (fun hg => qBk_no hD h2 (by omega) h3.2 hx (gA_0 hg))
  exact qParts.mpr ⟨z_keepP p0 hk fun k q h => no (qBk_h h) (by omega) (by omega), z_keepP p1 hk fun k q h => no (qBk_o h) (by omega) (by omega), h2, z_keepP p3 hk fun k q h => no (qBk_1 h) (by omega) (by omega), z_keepP p4 hk fun k q h => no (qBk_s 0 h) (by omega) (by omega), z_keepP p5 hk fun k q h => no (qBk_s 1 h) (by omega) (by omega), z_keepP p6 hk fun k q h => no (qBk_s 2 h) (by omega) (by omega), h1⟩
theorem qAf_2_4 {D : va_G} {cI cB cM : ClassId} {ad6 : Nat → Nat} {a : Nat → Nat → Nat} {A : Nat → Prop} {G : Nat → Nat → Nat} {χ : cSt} {H H1 : Heap} (hP : va_P D vwCl (wQ cI cB cM ad6 a G χ) H) (hD : qD A a G) {τ0 : zSt} (hk : ∀ q : Nat, q < H.size → ¬ ttA (a 1) (G 0) τ0 q → H1[q]? = H[q]?) {τ : zSt} (h1 : va_P D vwCl (wG (a 1) cI τ) H1) (h2 : va_P D vwCl (wG (G 0) cI (χ 2)) H1) : va_P D vwCl (wQ cI cB cM ad6 a G (c_up χ 0 τ)) H1 := by
  obtain ⟨p0, p1, -, p3, -, p5, p6, p7⟩ := qParts.mp hP
  have no : ∀ {x l n}, qBk a G l n x → l + n ≤ 104 → (l + n ≤ 8 ∨ 24 ≤ l) ∧ (l + n ≤ 40 ∨ 56 ≤ l) → ¬ ttA (a 1) (G 0) τ0 x := fun hx h2 h3 hg => hg.elim (fun hg => qBk_no hD h2 (by omega) h3.1 hx (gA_0 hg)) (fun hg => qBk_no hD h2 (by omega) h3.2 hx (gA_s 0 hg))
  exact qParts.mpr ⟨z_keepP p0 hk fun k q h => no (qBk_h h) (by omega) (by omega), z_keepP p1 hk fun k q h => no (qBk_o h) (by omega) (by omega), h1, z_keepP p3 hk fun k q h => no (qBk_1 h) (by omega) (by omega), h2, z_keepP p5 hk fun k q h => no (qBk_s 1 h) (by omega) (by omega), z_keepP p6 hk fun k q h => no (qBk_s 2 h) (by omega) (by omega), z_keepP p7 hk fun k q h => no (qBk_s 3 h) (by omega) (by omega)⟩
theorem qAf_2_5 {D : va_G} {cI cB cM : ClassId} {ad6 : Nat → Nat} {a : Nat → Nat → Nat} {A : Nat → Prop} {G : Nat → Nat → Nat} {χ : cSt} {H H1 : Heap} (hP : va_P D vwCl (wQ cI cB cM ad6 a G χ) H) (hD : qD A a G) {τ0 : zSt} (hk : ∀ q : Nat, q < H.size → ¬ ttA (a 1) (G 1) τ0 q → H1[q]? = H[q]?) {τ : zSt} (h1 : va_P D vwCl (wG (a 1) cI τ) H1) (h2 : va_P D vwCl (wG (G 1) cI (χ 3)) H1) : va_P D vwCl (wQ cI cB cM ad6 a G (c_up χ 0 τ)) H1 := by
  obtain ⟨p0, p1, -, p3, p4, -, p6, p7⟩ := qParts.mp hP
  have no : ∀ {x l n}, qBk a G l n x → l + n ≤ 104 → (l + n ≤ 8 ∨ 24 ≤ l) ∧ (l + n ≤ 56 ∨ 72 ≤ l) → ¬ ttA (a 1) (G 1) τ0 x := fun hx h2 h3 hg => hg.elim (fun hg => qBk_no hD h2 (by omega) h3.1 hx (gA_0 hg)) (fun hg => qBk_no hD h2 (by omega) h3.2 hx (gA_s 1 hg))
  exact qParts.mpr ⟨z_keepP p0 hk fun k q h => no (qBk_h h) (by omega) (by omega), z_keepP p1 hk fun k q h => no (qBk_o h) (by omega) (by omega), h1, z_keepP p3 hk fun k q h => no (qBk_1 h) (by omega) (by omega), z_keepP p4 hk fun k q h => no (qBk_s 0 h) (by omega) (by omega), h2, z_keepP p6 hk fun k q h => no (qBk_s 2 h) (by omega) (by omega), z_keepP p7 hk fun k q h => no (qBk_s 3 h) (by omega) (by omega)⟩
theorem qAf_2_6 {D : va_G} {cI cB cM : ClassId} {ad6 : Nat → Nat} {a : Nat → Nat → Nat} {A : Nat → Prop} {G : Nat → Nat → Nat} {χ : cSt} {H H1 : Heap} (hP : va_P D vwCl (wQ cI cB cM ad6 a G χ) H) (hD : qD A a G) {τ0 : zSt} (hk : ∀ q : Nat, q < H.size → ¬ ttA (a 1) (G 2) τ0 q → H1[q]? = H[q]?) {τ : zSt} (h1 : va_P D vwCl (wG (a 1) cI τ) H1) (h2 : va_P D vwCl (wG (G 2) cI (χ 4)) H1) : va_P D vwCl (wQ cI cB cM ad6 a G (c_up χ 0 τ)) H1 := by
  obtain ⟨p0, p1, -, p3, p4, p5, -, p7⟩ := qParts.mp hP
  have no : ∀ {x l n}, qBk a G l n x → l + n ≤ 104 → (l + n ≤ 8 ∨ 24 ≤ l) ∧ (l + n ≤ 72 ∨ 88 ≤ l) → ¬ ttA (a 1) (G 2) τ0 x := fun hx h2 h3 hg => hg.elim (fun hg => qBk_no hD h2 (by omega) h3.1 hx (gA_0 hg)) (fun hg => qBk_no hD h2 (by omega) h3.2 hx (gA_s 2 hg))
  exact qParts.mpr ⟨z_keepP p0 hk fun k q h => no (qBk_h h) (by omega) (by omega), z_keepP p1 hk fun k q h => no (qBk_o h) (by omega) (by omega), h1, z_keepP p3 hk fun k q h => no (qBk_1 h) (by omega) (by omega), z_keepP p4 hk fun k q h => no (qBk_s 0 h) (by omega) (by omega), z_keepP p5 hk fun k q h => no (qBk_s 1 h) (by omega) (by omega), h2, z_keepP p7 hk fun k q h => no (qBk_s 3 h) (by omega) (by omega)⟩
theorem qAf_2_7 {D : va_G} {cI cB cM : ClassId} {ad6 : Nat → Nat} {a : Nat → Nat → Nat} {A : Nat → Prop} {G : Nat → Nat → Nat} {χ : cSt} {H H1 : Heap} (hP : va_P D vwCl (wQ cI cB cM ad6 a G χ) H) (hD : qD A a G) {τ0 : zSt} (hk : ∀ q : Nat, q < H.size → ¬ ttA (a 1) (G 3) τ0 q → H1[q]? = H[q]?) {τ : zSt} (h1 : va_P D vwCl (wG (a 1) cI τ) H1) (h2 : va_P D vwCl (wG (G 3) cI (χ 5)) H1) : va_P D vwCl (wQ cI cB cM ad6 a G (c_up χ 0 τ)) H1 := by
  obtain ⟨p0, p1, -, p3, p4, p5, p6, -⟩ := qParts.mp hP
  have no : ∀ {x l n}, qBk a G l n x → l + n ≤ 104 → (l + n ≤ 8 ∨ 24 ≤ l) ∧ (l + n ≤ 88 ∨ 104 ≤ l) → ¬ ttA (a 1) (G 3) τ0 x := fun hx h2 h3 hg => hg.elim (fun hg => qBk_no hD h2 (by omega) h3.1 hx (gA_0 hg)) (fun hg => qBk_no hD h2 (by omega) h3.2 hx (gA_s 3 hg))
  exact qParts.mpr ⟨z_keepP p0 hk fun k q h => no (qBk_h h) (by omega) (by omega), z_keepP p1 hk fun k q h => no (qBk_o h) (by omega) (by omega), h1, z_keepP p3 hk fun k q h => no (qBk_1 h) (by omega) (by omega), z_keepP p4 hk fun k q h => no (qBk_s 0 h) (by omega) (by omega), z_keepP p5 hk fun k q h => no (qBk_s 1 h) (by omega) (by omega), z_keepP p6 hk fun k q h => no (qBk_s 2 h) (by omega) (by omega), h2⟩
theorem qtk {p : Program} {l : Launch} {e : Env} {R : Room} {s : State} {m : MethodId} {args : Array Value} {below : List Frame} {meth : Method} {c : Code} {H : Heap} {locs : List Loc} {cells slots : Nat} {Q : State → Prop} {cc : ByteArray} {nL pc : Nat} {own : String} {ls : Array Slot} {rest : List Value} {γ : Type} {res : γ} {D : va_G} {cI : ClassId} {A : Nat → Prop} {gd gs : Nat → Nat} {σd σs : zSt} {k : zSt → Option γ}
    (S : CallFix p m c cc nL s args WA own) (K : va_K D vwCl [(cI, .int)] s) (hPd : va_P D vwCl (wG gd cI σd) H) (hPs : va_P D vwCl (wG gs cI σs) H) (h1 : ∀ i j, i < 16 → j < 16 → gd i = gd j → i = j) (h2 : ∀ i j, i < 16 → j < 16 → gs i = gs j → i = j) (h3 : ∀ i j, i < 16 → j < 16 → gd i ≠ gs j) (hAd : ∀ q, gA gd q → A q) (hAs : ∀ q, gA gs q → A q) (hS : va_S A s.heap H locs) (hl : ls.size = nL)
    (hf : (fX4_takeOver σs σd).bind k = some res) {index : Nat} (hlk : Cond.methodLink own index yX4_takeOver ∈ WA) (hdg : decode cc pc = .ok (.invokevirtual index, 3)) (hR : rmX4_takeOver.frames + 1 ≤ R.frames ∧ 8 + (2 + 11) + rmX4_takeOver.locals ≤ R.locals) (hroom : (rest.map fun v => v.category).sum ≤ 8) (hfit : cells + 0 ≤ R.cells ∧ slots + 0 ≤ R.slots)
    (kk : ∀ (τ : zSt) (H1 : Heap) (locs1 : List Loc), va_P D vwCl (wG gd cI τ) H1 → va_P D vwCl (wG gs cI σs) H1 → (∀ q : Nat, q < H.size → ¬ ttA gd gs σs q → H1[q]? = H[q]?) → va_S A s.heap H1 locs1 → k τ = some res → W p l e R s m args below meth c H1 locs1 cells slots Q (F0 m (pc + 3) ls rest)) : W p l e R s m args below meth c H locs cells slots Q (F0 m pc ls (.ref (gs 0) :: .ref (gd 0) :: rest)) := by
  obtain ⟨τ, hX, hk⟩ := Option.bind_eq_some_iff.mp hf
  have hP : va_P D vwCl (wTT gd gs σs cI σd) H := by rw [wTT_app]; exact hPd.app hPs
  have hA : ∀ q, ttA gd gs σs q → A q := fun q h => h.elim (hAd q) (hAs q)
  refine va_callv (va_runV (As := [.ref (gs 0)]) (rest := rest) S (metX4_takeOver l D cI gd gs σs σd τ hX) (cwV 1 S.2.2.2.2 (z_goodV hlk u_243t u_244t u_11t u_245t) rfl rfl rfl (by decide +kernel) hR) ⟨ttPc_blind _ _ _ _ _ _ _, va_recv K hP (ci := 4) (q0 := 0) rfl rfl, fun U hU hW => ⟨rfl, by rw [hU]; exact hP, va_K.moved hW.alike K, ttD_of h1 h2 h3⟩⟩ rfl rfl hl rfl (lv_room hroom) hdg hfit) hS (fun q _ h => hA q h) (fun q h => hA q h) (fun u t H1 locs1 ht hvm hw hB hz1 hk1 hS => ?_)
  obtain ⟨hP1, hK1, hD1⟩ := hB
  rw [ht, wTT_app] at hP1
  exact kk τ H1 locs1 (z_app.mp hP1).1 (z_app.mp hP1).2 hk1 hS hk
/-- the oldest saved machine goes behind the others; one saved state less -/
def c_rot (χ : cSt) : cSt := fun k => cond (Nat.beq k 2) (χ 3) (cond (Nat.beq k 3) (χ 4) (cond (Nat.beq k 4) (χ 5) (cond (Nat.beq k 5) (χ 2) (cond (Nat.beq k 7) (z_up (χ 7) 1 (fun _ => χ 7 1 0 - nI 1)) (χ k)))))
def fX2_dropOldest (χ : cSt) : Option cSt := some (c_rot χ)
def c_sv1 (χ : cSt) (i : Nat) : Option cSt := c_b1 χ i (fX4_takeOver (χ 0) (χ i)) fun χ2 => c_sf χ2 7 1 (χ2 7 1 0 + nI 1)
def c_sv (χ : cSt) : Option cSt := if χ 7 1 0 = nI 0 then c_sv1 χ 2 else if χ 7 1 0 = nI 1 then c_sv1 χ 3 else if χ 7 1 0 = nI 2 then c_sv1 χ 4 else if χ 7 1 0 = nI 3 then c_sv1 χ 5 else none
def fX2_save (χ : cSt) : Option cSt := if χ 7 1 0 < nI 4 then c_sv χ else (fX2_dropOldest χ).bind fun χ1 => c_sv χ1
def c_re1 (χ : cSt) (i : Nat) : Option cSt := c_b1 χ 0 (fX4_takeOver (χ i) (χ 0)) fun χ2 => some χ2
def c_re (χ : cSt) : Option cSt := if χ 7 1 0 = nI 0 then c_re1 χ 2 else if χ 7 1 0 = nI 1 then c_re1 χ 3 else if χ 7 1 0 = nI 2 then c_re1 χ 4 else if χ 7 1 0 = nI 3 then c_re1 χ 5 else none
def fX2_restore (χ : cSt) : Option cSt := (c_sf χ 7 1 (χ 7 1 0 - nI 1)).bind fun χ1 => c_re χ1
theorem u_112h : Cond.fieldLink RX2 11 "CacheDiary$History" "saved" "[LCacheDiary$Machine;" ∈ WA := z_in0 _ (List.mem_of_getElem? (i := 112) (by decide +kernel))
theorem u_237h : Cond.fieldLink RX2 18 "CacheDiary$History" "count" "I" ∈ WA := z_in0 _ (List.mem_of_getElem? (i := 237) (by decide +kernel))
theorem u_242h : Cond.methodLink RX2 25 yX4_takeOver ∈ WA := z_in0 _ (List.mem_of_getElem? (i := 242) (by decide +kernel))
theorem u_238h : Cond.methodLink RX2 22 yX2_dropOldest ∈ WA := z_in0 _ (List.mem_of_getElem? (i := 238) (by decide +kernel))
theorem u_239h : Cond.instanceMethod yX2_dropOldest ∈ WA := z_in0 _ (List.mem_of_getElem? (i := 239) (by decide +kernel))
theorem u_240h : Cond.selects RX2 yX2_dropOldest yX2_dropOldest ∈ WA := z_in0 _ (List.mem_of_getElem? (i := 240) (by decide +kernel))
theorem u_16h : Cond.initialized RX2 ∈ WA := z_in0 _ (List.mem_of_getElem? (i := 16) (by decide +kernel))
theorem u_241h : Cond.code yX2_dropOldest cX2_dropOldest 3 none ∈ WA := z_in0 _ (List.mem_of_getElem? (i := 241) (by decide +kernel))
/-- the head cells, with any contents of the row of saved machines -/
def wHf (cM : ClassId) (a : Nat → Nat → Nat) (f : Nat → Option Nat) (χ : cSt) : va_W := [(a 0 0, .inr (7, [.ref (a 1 0), .ref (a 2 0), .ref (a 0 1), .ref (a 3 4), .int (χ 7 0 0), .ref (a 3 0)])), (a 0 1, .inr (2, [.ref (a 0 2), .int (χ 7 1 0)])), (a 0 2, .inl (cM, 4, .inr (.inr (.inr (.inr f)))))]
def wQf (cI cB cM : ClassId) (ad6 : Nat → Nat) (a : Nat → Nat → Nat) (G : Nat → Nat → Nat) (f : Nat → Option Nat) (χ : cSt) : va_W := wHf cM a f χ ++ (wO cB (a 3) (a 3 4) ad6 cI (χ 6) ++ (wG (a 1) cI (χ 0) ++ (wG (a 2) cI (χ 1) ++ (wG (G 0) cI (χ 2) ++ (wG (G 1) cI (χ 3) ++ (wG (G 2) cI (χ 4) ++ wG (G 3) cI (χ 5)))))))
theorem wQf_eq (cI cB cM : ClassId) (ad6 : Nat → Nat) (a : Nat → Nat → Nat) (G : Nat → Nat → Nat) (χ : cSt) : wQf cI cB cM ad6 a G (fun j => some (G j 0)) χ = wQ cI cB cM ad6 a G χ := rfl
def g_rot (G : Nat → Nat → Nat) : Nat → Nat → Nat := fun j => cond (Nat.beq j 0) (G 1) (cond (Nat.beq j 1) (G 2) (cond (Nat.beq j 2) (G 3) (cond (Nat.beq j 3) (G 0) (G j))))
theorem g_rot_f (G : Nat → Nat → Nat) : va_up (va_up (va_up (va_up (fun j => some (G j 0)) 0 (some (G 1 0))) 1 (some (G 2 0))) 2 (some (G 3 0))) 3 (some (G 0 0)) = fun j => some (g_rot G j 0) := by
  funext j
  match j with
  | 0 => rfl
  | 1 => rfl
  | 2 => rfl
  | 3 => rfl
  | j + 4 => exact (show va_up (va_up (va_up (va_up (fun j => some (G j 0)) 0 (some (G 1 0))) 1 (some (G 2 0))) 2 (some (G 3 0))) 3 (some (G 0 0)) (j + 4) = some (G (j + 4) 0) by simp [va_up])
theorem qAd_rot (a : Nat → Nat → Nat) (G : Nat → Nat → Nat) {k : Nat} (h : k < 104) : ∃ j, j < 104 ∧ qAd a (g_rot G) k = qAd a G j ∧ (k < 40 → j = k) ∧ (40 ≤ k ∧ k < 88 → j = k + 16) ∧ (88 ≤ k → j = k - 48) := by
  by_cases h1 : k < 40
  · refine ⟨k, h, ?_, fun _ => rfl, by omega, by omega⟩
    unfold qAd
    split
    · rfl
    · split
      · rfl
      · split
        · rfl
        · first | rfl | rw [if_pos h1]
  · obtain ⟨x, y, hy, hk⟩ : ∃ x y, y < 16 ∧ k = 40 + (16 * x + y) := ⟨(k - 40) / 16, (k - 40) % 16, by omega, by omega⟩
    have hx : x < 4 := by omega
    by_cases h3 : x < 3
    · refine ⟨k + 16, by omega, ?_, by omega, fun _ => rfl, by omega⟩
      rw [hk, show 40 + (16 * x + y) + 16 = 40 + (16 * (x + 1) + y) by omega, qAd_s _ _ hy, qAd_s _ _ hy]
      match x, h3 with
      | 0, _ => rfl
      | 1, _ => rfl
      | 2, _ => rfl
    · obtain rfl : x = 3 := by omega
      refine ⟨k - 48, by omega, ?_, by omega, by omega, fun _ => rfl⟩
      rw [hk, show 40 + (16 * 3 + y) - 48 = 40 + (16 * 0 + y) by omega, qAd_s _ _ hy, qAd_s _ _ hy]
      rfl
theorem qD_rot {A : Nat → Prop} {a : Nat → Nat → Nat} {G : Nat → Nat → Nat} (h : qD A a G) : qD A a (g_rot G) := by
  refine ⟨fun k hk => ?_, fun j k hj hk e => ?_⟩
  · obtain ⟨j, hj, e, -⟩ := qAd_rot a G hk
    rw [e]
    exact h.1 j hj
  · obtain ⟨j', hj', ej, j1, j2, j3⟩ := qAd_rot a G hj
    obtain ⟨k', hk', ek, k1, k2, k3⟩ := qAd_rot a G hk
    have := h.2 j' k' hj' hk' (by rw [← ej, ← ek]; exact e)
    omega
def rmX2_dropOldest : Room := { frames := 0, cells := 0, slots := 0, locals := 0 }
set_option maxHeartbeats 4000000 in
set_option maxRecDepth 100000 in
theorem metX2_dropOldest (l : Launch) (D : va_G) (cI cB cM : ClassId) (ad6 : Nat → Nat) (a : Nat → Nat → Nat) (A : Nat → Prop) (σ σ0 : cSt) (hf : fX2_dropOldest σ = some σ0) : Met l yX2_dropOldest (Cond.code yX2_dropOldest cX2_dropOldest 3 none :: WA) rmX2_dropOldest (qPc D cI cB cM ad6 a A σ [.ref (a 0 1)]) (qQv D cI cB cM ad6 a A σ0) 0 0 A := by
  refine qMet (by decide) (Nat.le_of_ble_eq_true rfl) (fun p e s m args below meth c H locs ls S K hr hk hl hs => ?_)
  obtain ⟨G, hP, hD, hS⟩ := hs
  have hl : lv_has ls 3 [(0, .ref (a 0 1))] := hl
  have hdv := qD_va hD cI cB cM ad6 σ
  refine lv_aload_n S.1 S.2.1 dX2_dropOldest_0 rfl (lv_at hl 0 rfl) ?_
  refine va_get (v := .ref (a 0 2)) (D := D) (ci := 2) (C := RX2) (T := TX2) (N := 2) S.1 S.2.1 S.2.2.2.2 inlX2 S.2.2.2.1 K.1 hP 1 rfl rfl 0 (by decide) (S.2.2.2.2 _ u_112h) (fun _ h9 => h9) rfl dX2_dropOldest_1 ?_
  refine lv_iconst S.1 S.2.1 dX2_dropOldest_4 k_iconst_0 ?_
  refine va_aldq (C := "CacheDiary$Machine") S.1 S.2.1 K.1 hP 2 2 rfl rfl (vp_in_nI (n := 0) (by omega) (by omega)) dX2_dropOldest_5 ?_
  refine lv_astore_n (x := G 0 0) (lv' := [(1, .ref (G 0 0)), (0, .ref (a 0 1))]) S.1 S.2.1 dX2_dropOldest_6 rfl hl (by decide) rfl (fun ls hl => ?_)
  refine lv_iconst S.1 S.2.1 dX2_dropOldest_7 k_iconst_1 ?_
  refine lv_istore_n (lv' := [(2, .int (nI 1)), (1, .ref (G 0 0)), (0, .ref (a 0 1))]) S.1 S.2.1 dX2_dropOldest_8 rfl hl (by decide) rfl (fun ls hl => ?_)
  refine lv_iload_n S.1 S.2.1 dX2_dropOldest_9 rfl (lv_at hl 0 rfl) ?_
  refine lv_iconst S.1 S.2.1 dX2_dropOldest_10 k_iconst_4 ?_
  refine lv_icmp_ge (tgt := 34) S.1 S.2.1 dX2_dropOldest_11 (by decide) (fun h => absurd h (by decide)) (fun _ => ?_)
  refine lv_aload_n S.1 S.2.1 dX2_dropOldest_14 rfl (lv_at hl 2 rfl) ?_
  refine va_get (v := .ref (a 0 2)) (D := D) (ci := 2) (C := RX2) (T := TX2) (N := 2) S.1 S.2.1 S.2.2.2.2 inlX2 S.2.2.2.1 K.1 hP 1 rfl rfl 0 (by decide) (S.2.2.2.2 _ u_112h) (fun _ h9 => h9) rfl dX2_dropOldest_15 ?_
  refine lv_iload_n S.1 S.2.1 dX2_dropOldest_18 rfl (lv_at hl 0 rfl) ?_
  refine lv_iconst S.1 S.2.1 dX2_dropOldest_19 k_iconst_1 ?_
  refine lv_isub S.1 S.2.1 dX2_dropOldest_20 ?_
  refine lv_aload_n S.1 S.2.1 dX2_dropOldest_21 rfl (lv_at hl 2 rfl) ?_
  refine va_get (v := .ref (a 0 2)) (D := D) (ci := 2) (C := RX2) (T := TX2) (N := 2) S.1 S.2.1 S.2.2.2.2 inlX2 S.2.2.2.1 K.1 hP 1 rfl rfl 0 (by decide) (S.2.2.2.2 _ u_112h) (fun _ h9 => h9) rfl dX2_dropOldest_22 ?_
  refine lv_iload_n S.1 S.2.1 dX2_dropOldest_25 rfl (lv_at hl 0 rfl) ?_
  refine va_aldq (C := "CacheDiary$Machine") S.1 S.2.1 K.1 hP 2 2 rfl rfl (vp_in_nI (n := 1) (by omega) (by omega)) dX2_dropOldest_26 ?_
  refine va_astq (v := G 1 0) S.1 S.2.1 K.1 hP hdv hS 2 2 56 4 rfl rfl rfl rfl (by rw [show nI 1 - nI 1 = nI 0 from pk_sub (by omega)]; exact vp_in_nI (n := 0) (by omega) (by omega)) dX2_dropOldest_27 (fun H locs hP hdv hS => ?_)
  rw [show nI 1 - nI 1 = nI 0 from pk_sub (by omega), show (nI 0).toNatClampNeg = 0 from nI_clamp (by omega)] at hP hdv
  have hP : va_P D vwCl (wQf cI cB cM ad6 a G (va_up (fun j => some (G j 0)) 0 (some (G 1 0))) σ) H := hP
  have hdv : va_D A (wQf cI cB cM ad6 a G (va_up (fun j => some (G j 0)) 0 (some (G 1 0))) σ) := hdv
  refine lv_iinc (v := nI 2) (lv' := [(2, .int (nI 2)), (1, .ref (G 0 0)), (0, .ref (a 0 1))]) S.1 S.2.1 dX2_dropOldest_28 hl (k := 0) rfl (by rw [k_iconst_1]; exact nI_add 1 1) (by decide) rfl (fun ls hl => ?_)
  refine lv_goto (tgt := 9) S.1 S.2.1 dX2_dropOldest_31 (by decide) ?_
  refine lv_iload_n S.1 S.2.1 dX2_dropOldest_9 rfl (lv_at hl 0 rfl) ?_
  refine lv_iconst S.1 S.2.1 dX2_dropOldest_10 k_iconst_4 ?_
  refine lv_icmp_ge (tgt := 34) S.1 S.2.1 dX2_dropOldest_11 (by decide) (fun h => absurd h (by decide)) (fun _ => ?_)
  refine lv_aload_n S.1 S.2.1 dX2_dropOldest_14 rfl (lv_at hl 2 rfl) ?_
  refine va_get (v := .ref (a 0 2)) (D := D) (ci := 2) (C := RX2) (T := TX2) (N := 2) S.1 S.2.1 S.2.2.2.2 inlX2 S.2.2.2.1 K.1 hP 1 rfl rfl 0 (by decide) (S.2.2.2.2 _ u_112h) (fun _ h9 => h9) rfl dX2_dropOldest_15 ?_
  refine lv_iload_n S.1 S.2.1 dX2_dropOldest_18 rfl (lv_at hl 0 rfl) ?_
  refine lv_iconst S.1 S.2.1 dX2_dropOldest_19 k_iconst_1 ?_
  refine lv_isub S.1 S.2.1 dX2_dropOldest_20 ?_
  refine lv_aload_n S.1 S.2.1 dX2_dropOldest_21 rfl (lv_at hl 2 rfl) ?_
  refine va_get (v := .ref (a 0 2)) (D := D) (ci := 2) (C := RX2) (T := TX2) (N := 2) S.1 S.2.1 S.2.2.2.2 inlX2 S.2.2.2.1 K.1 hP 1 rfl rfl 0 (by decide) (S.2.2.2.2 _ u_112h) (fun _ h9 => h9) rfl dX2_dropOldest_22 ?_
  refine lv_iload_n S.1 S.2.1 dX2_dropOldest_25 rfl (lv_at hl 0 rfl) ?_
  refine va_aldq (C := "CacheDiary$Machine") S.1 S.2.1 K.1 hP 2 2 rfl rfl (vp_in_nI (n := 2) (by omega) (by omega)) dX2_dropOldest_26 ?_
  refine va_astq (v := G 2 0) S.1 S.2.1 K.1 hP hdv hS 2 2 72 4 rfl rfl rfl rfl (by rw [show nI 2 - nI 1 = nI 1 from pk_sub (by omega)]; exact vp_in_nI (n := 1) (by omega) (by omega)) dX2_dropOldest_27 (fun H locs hP hdv hS => ?_)
  rw [show nI 2 - nI 1 = nI 1 from pk_sub (by omega), show (nI 1).toNatClampNeg = 1 from nI_clamp (by omega)] at hP hdv
  have hP : va_P D vwCl (wQf cI cB cM ad6 a G (va_up (va_up (fun j => some (G j 0)) 0 (some (G 1 0))) 1 (some (G 2 0))) σ) H := hP
  have hdv : va_D A (wQf cI cB cM ad6 a G (va_up (va_up (fun j => some (G j 0)) 0 (some (G 1 0))) 1 (some (G 2 0))) σ) := hdv
  refine lv_iinc (v := nI 3) (lv' := [(2, .int (nI 3)), (1, .ref (G 0 0)), (0, .ref (a 0 1))]) S.1 S.2.1 dX2_dropOldest_28 hl (k := 0) rfl (by rw [k_iconst_1]; exact nI_add 2 1) (by decide) rfl (fun ls hl => ?_)
  refine lv_goto (tgt := 9) S.1 S.2.1 dX2_dropOldest_31 (by decide) ?_
  refine lv_iload_n S.1 S.2.1 dX2_dropOldest_9 rfl (lv_at hl 0 rfl) ?_
  refine lv_iconst S.1 S.2.1 dX2_dropOldest_10 k_iconst_4 ?_
  refine lv_icmp_ge (tgt := 34) S.1 S.2.1 dX2_dropOldest_11 (by decide) (fun h => absurd h (by decide)) (fun _ => ?_)
  refine lv_aload_n S.1 S.2.1 dX2_dropOldest_14 rfl (lv_at hl 2 rfl) ?_
  refine va_get (v := .ref (a 0 2)) (D := D) (ci := 2) (C := RX2) (T := TX2) (N := 2) S.1 S.2.1 S.2.2.2.2 inlX2 S.2.2.2.1 K.1 hP 1 rfl rfl 0 (by decide) (S.2.2.2.2 _ u_112h) (fun _ h9 => h9) rfl dX2_dropOldest_15 ?_
  refine lv_iload_n S.1 S.2.1 dX2_dropOldest_18 rfl (lv_at hl 0 rfl) ?_
  refine lv_iconst S.1 S.2.1 dX2_dropOldest_19 k_iconst_1 ?_
  refine lv_isub S.1 S.2.1 dX2_dropOldest_20 ?_
  refine lv_aload_n S.1 S.2.1 dX2_dropOldest_21 rfl (lv_at hl 2 rfl) ?_
  refine va_get (v := .ref (a 0 2)) (D := D) (ci := 2) (C := RX2) (T := TX2) (N := 2) S.1 S.2.1 S.2.2.2.2 inlX2 S.2.2.2.1 K.1 hP 1 rfl rfl 0 (by decide) (S.2.2.2.2 _ u_112h) (fun _ h9 => h9) rfl dX2_dropOldest_22 ?_
  refine lv_iload_n S.1 S.2.1 dX2_dropOldest_25 rfl (lv_at hl 0 rfl) ?_
  refine va_aldq (C := "CacheDiary$Machine") S.1 S.2.1 K.1 hP 2 2 rfl rfl (vp_in_nI (n := 3) (by omega) (by omega)) dX2_dropOldest_26 ?_
  refine va_astq (v := G 3 0) S.1 S.2.1 K.1 hP hdv hS 2 2 88 4 rfl rfl rfl rfl (by rw [show nI 3 - nI 1 = nI 2 from pk_sub (by omega)]; exact vp_in_nI (n := 2) (by omega) (by omega)) dX2_dropOldest_27 (fun H locs hP hdv hS => ?_)
  rw [show nI 3 - nI 1 = nI 2 from pk_sub (by omega), show (nI 2).toNatClampNeg = 2 from nI_clamp (by omega)] at hP hdv
  have hP : va_P D vwCl (wQf cI cB cM ad6 a G (va_up (va_up (va_up (fun j => some (G j 0)) 0 (some (G 1 0))) 1 (some (G 2 0))) 2 (some (G 3 0))) σ) H := hP
  have hdv : va_D A (wQf cI cB cM ad6 a G (va_up (va_up (va_up (fun j => some (G j 0)) 0 (some (G 1 0))) 1 (some (G 2 0))) 2 (some (G 3 0))) σ) := hdv
  refine lv_iinc (v := nI 4) (lv' := [(2, .int (nI 4)), (1, .ref (G 0 0)), (0, .ref (a 0 1))]) S.1 S.2.1 dX2_dropOldest_28 hl (k := 0) rfl (by rw [k_iconst_1]; exact nI_add 3 1) (by decide) rfl (fun ls hl => ?_)
  refine lv_goto (tgt := 9) S.1 S.2.1 dX2_dropOldest_31 (by decide) ?_
  refine lv_iload_n S.1 S.2.1 dX2_dropOldest_9 rfl (lv_at hl 0 rfl) ?_
  refine lv_iconst S.1 S.2.1 dX2_dropOldest_10 k_iconst_4 ?_
  refine lv_icmp_ge (tgt := 34) S.1 S.2.1 dX2_dropOldest_11 (by decide) (fun _ => ?_) (fun h => absurd (by decide) h)
  refine lv_aload_n S.1 S.2.1 dX2_dropOldest_34 rfl (lv_at hl 2 rfl) ?_
  refine va_get (v := .ref (a 0 2)) (D := D) (ci := 2) (C := RX2) (T := TX2) (N := 2) S.1 S.2.1 S.2.2.2.2 inlX2 S.2.2.2.1 K.1 hP 1 rfl rfl 0 (by decide) (S.2.2.2.2 _ u_112h) (fun _ h9 => h9) rfl dX2_dropOldest_35 ?_
  refine lv_iconst S.1 S.2.1 dX2_dropOldest_38 k_iconst_3 ?_
  refine lv_aload_n S.1 S.2.1 dX2_dropOldest_39 rfl (lv_at hl 1 rfl) ?_
  refine va_astq (v := G 0 0) S.1 S.2.1 K.1 hP hdv hS 2 2 40 4 rfl rfl rfl rfl (vp_in_nI (n := 3) (by omega) (by omega)) dX2_dropOldest_40 (fun H locs hP hdv hS => ?_)
  rw [show (nI 3).toNatClampNeg = 3 from nI_clamp (by omega)] at hP hdv
  have hP : va_P D vwCl (wQf cI cB cM ad6 a G (va_up (va_up (va_up (va_up (fun j => some (G j 0)) 0 (some (G 1 0))) 1 (some (G 2 0))) 2 (some (G 3 0))) 3 (some (G 0 0))) σ) H := hP
  have hdv : va_D A (wQf cI cB cM ad6 a G (va_up (va_up (va_up (va_up (fun j => some (G j 0)) 0 (some (G 1 0))) 1 (some (G 2 0))) 2 (some (G 3 0))) 3 (some (G 0 0))) σ) := hdv
  refine lv_aload_n S.1 S.2.1 dX2_dropOldest_41 rfl (lv_at hl 2 rfl) ?_
  refine lv_dup S.1 S.2.1 dX2_dropOldest_42 rfl ?_
  refine va_get (v := .int (σ 7 1 0)) (D := D) (ci := 2) (C := RX2) (T := TX2) (N := 2) S.1 S.2.1 S.2.2.2.2 inlX2 S.2.2.2.1 K.1 hP 1 rfl rfl 1 (by decide) (S.2.2.2.2 _ u_237h) (fun _ h9 => h9) rfl dX2_dropOldest_43 ?_
  refine lv_iconst S.1 S.2.1 dX2_dropOldest_46 k_iconst_1 ?_
  refine lv_isub S.1 S.2.1 dX2_dropOldest_47 ?_
  refine va_put (D := D) (ci := 2) (v := .int (σ 7 1 0 - nI 1)) (ty := .int) (C := RX2) (T := TX2) (N := 2) S.1 S.2.1 S.2.2.2.2 inlX2 tyX2 tyX2_ok nmX2 S.2.2.2.1 K.1 hP hdv hS 1 rfl rfl 1 (by decide) (S.2.2.2.2 _ u_237h) (fun _ h9 => h9) rfl (by decide +kernel) rfl rfl (Nat.le_of_ble_eq_true rfl) dX2_dropOldest_48 (fun H locs hP hdv hS => ?_)
  have hP : va_P D vwCl (wQf cI cB cM ad6 a G (va_up (va_up (va_up (va_up (fun j => some (G j 0)) 0 (some (G 1 0))) 1 (some (G 2 0))) 2 (some (G 3 0))) 3 (some (G 0 0))) (c_up σ 7 (z_up (σ 7) 1 (fun _ => σ 7 1 0 - nI 1)))) H := hP
  rw [g_rot_f] at hP
  have hP : va_P D vwCl (wHf cM a (fun j => some (g_rot G j 0)) (c_rot σ) ++ (wO cB (a 3) (a 3 4) ad6 cI (σ 6) ++ (wG (a 1) cI (σ 0) ++ (wG (a 2) cI (σ 1) ++ (wG (G 0) cI (σ 2) ++ (wG (G 1) cI (σ 3) ++ (wG (G 2) cI (σ 4) ++ wG (G 3) cI (σ 5)))))))) H := hP
  rw [z_app, z_app, z_app, z_app, z_app, z_app, z_app] at hP
  obtain ⟨p0, p1, p2, p3, p4, p5, p6, p7⟩ := hP
  have hq : va_P D vwCl (wQ cI cB cM ad6 a (g_rot G) (c_rot σ)) H := qParts.mpr ⟨p0, p1, p2, p3, p5, p6, p7, p4⟩
  exact qrV S K hr hk ⟨g_rot G, hq, qD_rot hD, hS⟩ hf dX2_dropOldest_51
def rmX2_save : Room := { frames := 5, cells := 0, slots := 0, locals := 150 }
def rmX2_restore : Room := { frames := 5, cells := 0, slots := 0, locals := 150 }
set_option maxHeartbeats 4000000 in
set_option maxRecDepth 100000 in
theorem sv_0 {p : Program} {l : Launch} {e : Env} {s : State} {m : MethodId} {args : Array Value} {below : List Frame} {meth : Method} {c : Code} {H : Heap} {locs : List Loc} {ls : Array Slot} {D : va_G} {cI cB cM : ClassId} {ad6 : Nat → Nat} {a : Nat → Nat → Nat} {A : Nat → Prop} (S : CallFix p m c cX2_save 2 s args WA RX2) (K : qK D cI cB cM ad6 A s) (hr : meth.sig.returnType = none) (hk : meth.locks = false) (σ σ0 : cSt) (hc : σ 7 1 0 = nI 0) (hf : c_sv1 σ 2 = some σ0) (hl : lv_has ls 2 [(0, .ref (a 0 1)), (1, .ref (a 1 0))]) (hs : qS D cI cB cM ad6 a A s σ H locs) : W p l e rmX2_save s m args below meth c H locs 0 0 (MQ below (qQv D cI cB cM ad6 a A σ0) args s 0 0 A) (F0 m 12 ls []) := by
  obtain ⟨G, hP, hD, hS⟩ := hs
  unfold c_sv1 c_b1 at hf
  refine lv_aload_n S.1 S.2.1 dX2_save_12 rfl (lv_at hl 0 rfl) ?_
  refine va_get (v := .ref (a 0 2)) (D := D) (ci := 2) (C := RX2) (T := TX2) (N := 2) S.1 S.2.1 S.2.2.2.2 inlX2 S.2.2.2.1 K.1 hP 1 rfl rfl 0 (by decide) (S.2.2.2.2 _ u_112h) (fun _ h9 => h9) rfl dX2_save_13 ?_
  refine lv_aload_n S.1 S.2.1 dX2_save_16 rfl (lv_at hl 0 rfl) ?_
  refine va_get (v := .int (σ 7 1 0)) (D := D) (ci := 2) (C := RX2) (T := TX2) (N := 2) S.1 S.2.1 S.2.2.2.2 inlX2 S.2.2.2.1 K.1 hP 1 rfl rfl 1 (by decide) (S.2.2.2.2 _ u_237h) (fun _ h9 => h9) rfl dX2_save_17 ?_
  rw [hc]
  refine va_aldq (C := "CacheDiary$Machine") S.1 S.2.1 K.1 hP 2 2 rfl rfl (vp_in_nI (n := 0) (by omega) (by omega)) dX2_save_20 ?_
  rw [show (nI 0).toNatClampNeg = 0 from nI_clamp (by omega)]
  refine lv_aload_n S.1 S.2.1 dX2_save_21 rfl (lv_at hl 1 rfl) ?_
  obtain ⟨-, -, hPs, -, hPd, -, -, -⟩ := qParts.mp hP
  refine qtk (gd := G 0) (gs := a 1) S (K.1.sub [0] rfl) hPd hPs (qInj_4 hD) (qInj_2 hD) (qD_nd hD (l1 := 40) (l2 := 8) (by omega) (by omega) (by omega) (qLo_4 a G) (qLo_2 a G)) (fun q h => qBk_A hD (l1 := 40) (by omega) (gA_s 0 h)) (fun q h => qBk_A hD (l1 := 8) (by omega) (gA_0 h)) hS hl.1 hf u_242h dX2_save_22 ⟨Nat.le_of_ble_eq_true rfl, Nat.le_of_ble_eq_true rfl⟩ (Nat.le_of_ble_eq_true rfl) ⟨Nat.le_refl _, Nat.le_refl _⟩ (fun τ H locs h1 h2 hkp hS hf => ?_)
  have hP := qAf_4_2 hP hD hkp h1 h2
  refine lv_aload_n S.1 S.2.1 dX2_save_25 rfl (lv_at hl 0 rfl) ?_
  refine lv_dup S.1 S.2.1 dX2_save_26 rfl ?_
  refine va_get (v := .int (c_up σ 2 τ 7 1 0)) (D := D) (ci := 2) (C := RX2) (T := TX2) (N := 2) S.1 S.2.1 S.2.2.2.2 inlX2 S.2.2.2.1 K.1 hP 1 rfl rfl 1 (by decide) (S.2.2.2.2 _ u_237h) (fun _ h9 => h9) rfl dX2_save_27 ?_
  refine lv_iconst S.1 S.2.1 dX2_save_30 k_iconst_1 ?_
  refine lv_iadd S.1 S.2.1 dX2_save_31 ?_
  refine va_put (v := .int (c_up σ 2 τ 7 1 0 + nI 1)) (D := D) (ci := 2) (ty := .int) (C := RX2) (T := TX2) (N := 2) S.1 S.2.1 S.2.2.2.2 inlX2 tyX2 tyX2_ok nmX2 S.2.2.2.1 K.1 hP (qD_va hD cI cB cM ad6 _) hS 1 rfl rfl 1 (by decide) (S.2.2.2.2 _ u_237h) (fun _ h9 => h9) rfl (by decide +kernel) rfl rfl (Nat.le_of_ble_eq_true rfl) dX2_save_32 (fun H locs hP _ hS => ?_)
  exact qrV S K hr hk (σ := c_up (c_up σ 2 τ) 7 (z_up (c_up σ 2 τ 7) 1 (fun _ => c_up σ 2 τ 7 1 0 + nI 1))) ⟨G, hP, hD, hS⟩ hf dX2_save_35
set_option maxHeartbeats 4000000 in
set_option maxRecDepth 100000 in
theorem sv_1 {p : Program} {l : Launch} {e : Env} {s : State} {m : MethodId} {args : Array Value} {below : List Frame} {meth : Method} {c : Code} {H : Heap} {locs : List Loc} {ls : Array Slot} {D : va_G} {cI cB cM : ClassId} {ad6 : Nat → Nat} {a : Nat → Nat → Nat} {A : Nat → Prop} (S : CallFix p m c cX2_save 2 s args WA RX2) (K : qK D cI cB cM ad6 A s) (hr : meth.sig.returnType = none) (hk : meth.locks = false) (σ σ0 : cSt) (hc : σ 7 1 0 = nI 1) (hf : c_sv1 σ 3 = some σ0) (hl : lv_has ls 2 [(0, .ref (a 0 1)), (1, .ref (a 1 0))]) (hs : qS D cI cB cM ad6 a A s σ H locs) : W p l e rmX2_save s m args below meth c H locs 0 0 (MQ below (qQv D cI cB cM ad6 a A σ0) args s 0 0 A) (F0 m 12 ls []) := by
  obtain ⟨G, hP, hD, hS⟩ := hs
  unfold c_sv1 c_b1 at hf
  refine lv_aload_n S.1 S.2.1 dX2_save_12 rfl (lv_at hl 0 rfl) ?_
  refine va_get (v := .ref (a 0 2)) (D := D) (ci := 2) (C := RX2) (T := TX2) (N := 2) S.1 S.2.1 S.2.2.2.2 inlX2 S.2.2.2.1 K.1 hP 1 rfl rfl 0 (by decide) (S.2.2.2.2 _ u_112h) (fun _ h9 => h9) rfl dX2_save_13 ?_
  refine lv_aload_n S.1 S.2.1 dX2_save_16 rfl (lv_at hl 0 rfl) ?_
  refine va_get (v := .int (σ 7 1 0)) (D := D) (ci := 2) (C := RX2) (T := TX2) (N := 2) S.1 S.2.1 S.2.2.2.2 inlX2 S.2.2.2.1 K.1 hP 1 rfl rfl 1 (by decide) (S.2.2.2.2 _ u_237h) (fun _ h9 => h9) rfl dX2_save_17 ?_
  rw [hc]
  refine va_aldq (C := "CacheDiary$Machine") S.1 S.2.1 K.1 hP 2 2 rfl rfl (vp_in_nI (n := 1) (by omega) (by omega)) dX2_save_20 ?_
  rw [show (nI 1).toNatClampNeg = 1 from nI_clamp (by omega)]
  refine lv_aload_n S.1 S.2.1 dX2_save_21 rfl (lv_at hl 1 rfl) ?_
  obtain ⟨-, -, hPs, -, -, hPd, -, -⟩ := qParts.mp hP
  refine qtk (gd := G 1) (gs := a 1) S (K.1.sub [0] rfl) hPd hPs (qInj_5 hD) (qInj_2 hD) (qD_nd hD (l1 := 56) (l2 := 8) (by omega) (by omega) (by omega) (qLo_5 a G) (qLo_2 a G)) (fun q h => qBk_A hD (l1 := 56) (by omega) (gA_s 1 h)) (fun q h => qBk_A hD (l1 := 8) (by omega) (gA_0 h)) hS hl.1 hf u_242h dX2_save_22 ⟨Nat.le_of_ble_eq_true rfl, Nat.le_of_ble_eq_true rfl⟩ (Nat.le_of_ble_eq_true rfl) ⟨Nat.le_refl _, Nat.le_refl _⟩ (fun τ H locs h1 h2 hkp hS hf => ?_)
  have hP := qAf_5_2 hP hD hkp h1 h2
  refine lv_aload_n S.1 S.2.1 dX2_save_25 rfl (lv_at hl 0 rfl) ?_
  refine lv_dup S.1 S.2.1 dX2_save_26 rfl ?_
  refine va_get (v := .int (c_up σ 3 τ 7 1 0)) (D := D) (ci := 2) (C := RX2) (T := TX2) (N := 2) S.1 S.2.1 S.2.2.2.2 inlX2 S.2.2.2.1 K.1 hP 1 rfl rfl 1 (by decide) (S.2.2.2.2 _ u_237h) (fun _ h9 => h9) rfl dX2_save_27 ?_
  refine lv_iconst S.1 S.2.1 dX2_save_30 k_iconst_1 ?_
  refine lv_iadd S.1 S.2.1 dX2_save_31 ?_
  refine va_put (v := .int (c_up σ 3 τ 7 1 0 + nI 1)) (D := D) (ci := 2) (ty := .int) (C := RX2) (T := TX2) (N := 2) S.1 S.2.1 S.2.2.2.2 inlX2 tyX2 tyX2_ok nmX2 S.2.2.2.1 K.1 hP (qD_va hD cI cB cM ad6 _) hS 1 rfl rfl 1 (by decide) (S.2.2.2.2 _ u_237h) (fun _ h9 => h9) rfl (by decide +kernel) rfl rfl (Nat.le_of_ble_eq_true rfl) dX2_save_32 (fun H locs hP _ hS => ?_)
  exact qrV S K hr hk (σ := c_up (c_up σ 3 τ) 7 (z_up (c_up σ 3 τ 7) 1 (fun _ => c_up σ 3 τ 7 1 0 + nI 1))) ⟨G, hP, hD, hS⟩ hf dX2_save_35
set_option maxHeartbeats 4000000 in
set_option maxRecDepth 100000 in
theorem sv_2 {p : Program} {l : Launch} {e : Env} {s : State} {m : MethodId} {args : Array Value} {below : List Frame} {meth : Method} {c : Code} {H : Heap} {locs : List Loc} {ls : Array Slot} {D : va_G} {cI cB cM : ClassId} {ad6 : Nat → Nat} {a : Nat → Nat → Nat} {A : Nat → Prop} (S : CallFix p m c cX2_save 2 s args WA RX2) (K : qK D cI cB cM ad6 A s) (hr : meth.sig.returnType = none) (hk : meth.locks = false) (σ σ0 : cSt) (hc : σ 7 1 0 = nI 2) (hf : c_sv1 σ 4 = some σ0) (hl : lv_has ls 2 [(0, .ref (a 0 1)), (1, .ref (a 1 0))]) (hs : qS D cI cB cM ad6 a A s σ H locs) : W p l e rmX2_save s m args below meth c H locs 0 0 (MQ below (qQv D cI cB cM ad6 a A σ0) args s 0 0 A) (F0 m 12 ls []) := by
  obtain ⟨G, hP, hD, hS⟩ := hs
  unfold c_sv1 c_b1 at hf
  refine lv_aload_n S.1 S.2.1 dX2_save_12 rfl (lv_at hl 0 rfl) ?_
  refine va_get (v := .ref (a 0 2)) (D := D) (ci := 2) (C := RX2) (T := TX2) (N := 2) S.1 S.2.1 S.2.2.2.2 inlX2 S.2.2.2.1 K.1 hP 1 rfl rfl 0 (by decide) (S.2.2.2.2 _ u_112h) (fun _ h9 => h9) rfl dX2_save_13 ?_
  refine lv_aload_n S.1 S.2.1 dX2_save_16 rfl (lv_at hl 0 rfl) ?_
  refine va_get (v := .int (σ 7 1 0)) (D := D) (ci := 2) (C := RX2) (T := TX2) (N := 2) S.1 S.2.1 S.2.2.2.2 inlX2 S.2.2.2.1 K.1 hP 1 rfl rfl 1 (by decide) (S.2.2.2.2 _ u_237h) (fun _ h9 => h9) rfl dX2_save_17 ?_
  rw [hc]
  refine va_aldq (C := "CacheDiary$Machine") S.1 S.2.1 K.1 hP 2 2 rfl rfl (vp_in_nI (n := 2) (by omega) (by omega)) dX2_save_20 ?_
  rw [show (nI 2).toNatClampNeg = 2 from nI_clamp (by omega)]
  refine lv_aload_n S.1 S.2.1 dX2_save_21 rfl (lv_at hl 1 rfl) ?_
  obtain ⟨-, -, hPs, -, -, -, hPd, -⟩ := qParts.mp hP
  refine qtk (gd := G 2) (gs := a 1) S (K.1.sub [0] rfl) hPd hPs (qInj_6 hD) (qInj_2 hD) (qD_nd hD (l1 := 72) (l2 := 8) (by omega) (by omega) (by omega) (qLo_6 a G) (qLo_2 a G)) (fun q h => qBk_A hD (l1 := 72) (by omega) (gA_s 2 h)) (fun q h => qBk_A hD (l1 := 8) (by omega) (gA_0 h)) hS hl.1 hf u_242h dX2_save_22 ⟨Nat.le_of_ble_eq_true rfl, Nat.le_of_ble_eq_true rfl⟩ (Nat.le_of_ble_eq_true rfl) ⟨Nat.le_refl _, Nat.le_refl _⟩ (fun τ H locs h1 h2 hkp hS hf => ?_)
  have hP := qAf_6_2 hP hD hkp h1 h2
  refine lv_aload_n S.1 S.2.1 dX2_save_25 rfl (lv_at hl 0 rfl) ?_
  refine lv_dup S.1 S.2.1 dX2_save_26 rfl ?_
  refine va_get (v := .int (c_up σ 4 τ 7 1 0)) (D := D) (ci := 2) (C := RX2) (T := TX2) (N := 2) S.1 S.2.1 S.2.2.2.2 inlX2 S.2.2.2.1 K.1 hP 1 rfl rfl 1 (by decide) (S.2.2.2.2 _ u_237h) (fun _ h9 => h9) rfl dX2_save_27 ?_
  refine lv_iconst S.1 S.2.1 dX2_save_30 k_iconst_1 ?_
  refine lv_iadd S.1 S.2.1 dX2_save_31 ?_
  refine va_put (v := .int (c_up σ 4 τ 7 1 0 + nI 1)) (D := D) (ci := 2) (ty := .int) (C := RX2) (T := TX2) (N := 2) S.1 S.2.1 S.2.2.2.2 inlX2 tyX2 tyX2_ok nmX2 S.2.2.2.1 K.1 hP (qD_va hD cI cB cM ad6 _) hS 1 rfl rfl 1 (by decide) (S.2.2.2.2 _ u_237h) (fun _ h9 => h9) rfl (by decide +kernel) rfl rfl (Nat.le_of_ble_eq_true rfl) dX2_save_32 (fun H locs hP _ hS => ?_)
  exact qrV S K hr hk (σ := c_up (c_up σ 4 τ) 7 (z_up (c_up σ 4 τ 7) 1 (fun _ => c_up σ 4 τ 7 1 0 + nI 1))) ⟨G, hP, hD, hS⟩ hf dX2_save_35
set_option maxHeartbeats 4000000 in
set_option maxRecDepth 100000 in
theorem sv_3 {p : Program} {l : Launch} {e : Env} {s : State} {m : MethodId} {args : Array Value} {below : List Frame} {meth : Method} {c : Code} {H : Heap} {locs : List Loc} {ls : Array Slot} {D : va_G} {cI cB cM : ClassId} {ad6 : Nat → Nat} {a : Nat → Nat → Nat} {A : Nat → Prop} (S : CallFix p m c cX2_save 2 s args WA RX2) (K : qK D cI cB cM ad6 A s) (hr : meth.sig.returnType = none) (hk : meth.locks = false) (σ σ0 : cSt) (hc : σ 7 1 0 = nI 3) (hf : c_sv1 σ 5 = some σ0) (hl : lv_has ls 2 [(0, .ref (a 0 1)), (1, .ref (a 1 0))]) (hs : qS D cI cB cM ad6 a A s σ H locs) : W p l e rmX2_save s m args below meth c H locs 0 0 (MQ below (qQv D cI cB cM ad6 a A σ0) args s 0 0 A) (F0 m 12 ls []) := by
  obtain ⟨G, hP, hD, hS⟩ := hs
  unfold c_sv1 c_b1 at hf
  refine lv_aload_n S.1 S.2.1 dX2_save_12 rfl (lv_at hl 0 rfl) ?_
  refine va_get (v := .ref (a 0 2)) (D := D) (ci := 2) (C := RX2) (T := TX2) (N := 2) S.1 S.2.1 S.2.2.2.2 inlX2 S.2.2.2.1 K.1 hP 1 rfl rfl 0 (by decide) (S.2.2.2.2 _ u_112h) (fun _ h9 => h9) rfl dX2_save_13 ?_
  refine lv_aload_n S.1 S.2.1 dX2_save_16 rfl (lv_at hl 0 rfl) ?_
  refine va_get (v := .int (σ 7 1 0)) (D := D) (ci := 2) (C := RX2) (T := TX2) (N := 2) S.1 S.2.1 S.2.2.2.2 inlX2 S.2.2.2.1 K.1 hP 1 rfl rfl 1 (by decide) (S.2.2.2.2 _ u_237h) (fun _ h9 => h9) rfl dX2_save_17 ?_
  rw [hc]
  refine va_aldq (C := "CacheDiary$Machine") S.1 S.2.1 K.1 hP 2 2 rfl rfl (vp_in_nI (n := 3) (by omega) (by omega)) dX2_save_20 ?_
  rw [show (nI 3).toNatClampNeg = 3 from nI_clamp (by omega)]
  refine lv_aload_n S.1 S.2.1 dX2_save_21 rfl (lv_at hl 1 rfl) ?_
  obtain ⟨-, -, hPs, -, -, -, -, hPd⟩ := qParts.mp hP
  refine qtk (gd := G 3) (gs := a 1) S (K.1.sub [0] rfl) hPd hPs (qInj_7 hD) (qInj_2 hD) (qD_nd hD (l1 := 88) (l2 := 8) (by omega) (by omega) (by omega) (qLo_7 a G) (qLo_2 a G)) (fun q h => qBk_A hD (l1 := 88) (by omega) (gA_s 3 h)) (fun q h => qBk_A hD (l1 := 8) (by omega) (gA_0 h)) hS hl.1 hf u_242h dX2_save_22 ⟨Nat.le_of_ble_eq_true rfl, Nat.le_of_ble_eq_true rfl⟩ (Nat.le_of_ble_eq_true rfl) ⟨Nat.le_refl _, Nat.le_refl _⟩ (fun τ H locs h1 h2 hkp hS hf => ?_)
  have hP := qAf_7_2 hP hD hkp h1 h2
  refine lv_aload_n S.1 S.2.1 dX2_save_25 rfl (lv_at hl 0 rfl) ?_
  refine lv_dup S.1 S.2.1 dX2_save_26 rfl ?_
  refine va_get (v := .int (c_up σ 5 τ 7 1 0)) (D := D) (ci := 2) (C := RX2) (T := TX2) (N := 2) S.1 S.2.1 S.2.2.2.2 inlX2 S.2.2.2.1 K.1 hP 1 rfl rfl 1 (by decide) (S.2.2.2.2 _ u_237h) (fun _ h9 => h9) rfl dX2_save_27 ?_
  refine lv_iconst S.1 S.2.1 dX2_save_30 k_iconst_1 ?_
  refine lv_iadd S.1 S.2.1 dX2_save_31 ?_
  refine va_put (v := .int (c_up σ 5 τ 7 1 0 + nI 1)) (D := D) (ci := 2) (ty := .int) (C := RX2) (T := TX2) (N := 2) S.1 S.2.1 S.2.2.2.2 inlX2 tyX2 tyX2_ok nmX2 S.2.2.2.1 K.1 hP (qD_va hD cI cB cM ad6 _) hS 1 rfl rfl 1 (by decide) (S.2.2.2.2 _ u_237h) (fun _ h9 => h9) rfl (by decide +kernel) rfl rfl (Nat.le_of_ble_eq_true rfl) dX2_save_32 (fun H locs hP _ hS => ?_)
  exact qrV S K hr hk (σ := c_up (c_up σ 5 τ) 7 (z_up (c_up σ 5 τ 7) 1 (fun _ => c_up σ 5 τ 7 1 0 + nI 1))) ⟨G, hP, hD, hS⟩ hf dX2_save_35
theorem sv_at {p : Program} {l : Launch} {e : Env} {s : State} {m : MethodId} {args : Array Value} {below : List Frame} {meth : Method} {c : Code} {H : Heap} {locs : List Loc} {ls : Array Slot} {D : va_G} {cI cB cM : ClassId} {ad6 : Nat → Nat} {a : Nat → Nat → Nat} {A : Nat → Prop} (S : CallFix p m c cX2_save 2 s args WA RX2) (K : qK D cI cB cM ad6 A s) (hr : meth.sig.returnType = none) (hk : meth.locks = false) (σ σ0 : cSt) (hf : c_sv σ = some σ0) (hl : lv_has ls 2 [(0, .ref (a 0 1)), (1, .ref (a 1 0))]) (hs : qS D cI cB cM ad6 a A s σ H locs) : W p l e rmX2_save s m args below meth c H locs 0 0 (MQ below (qQv D cI cB cM ad6 a A σ0) args s 0 0 A) (F0 m 12 ls []) := by
  unfold c_sv at hf
  refine z_case (v := 0) hf (fun hn hf => sv_0 S K hr hk σ σ0 hn hf hl hs) (fun hn hf => ?_)
  refine z_case (v := 1) hf (fun hn hf => sv_1 S K hr hk σ σ0 hn hf hl hs) (fun hn hf => ?_)
  refine z_case (v := 2) hf (fun hn hf => sv_2 S K hr hk σ σ0 hn hf hl hs) (fun hn hf => ?_)
  refine z_case (v := 3) hf (fun hn hf => sv_3 S K hr hk σ σ0 hn hf hl hs) (fun hn hf => ?_)
  cases hf
theorem metX2_save (l : Launch) (D : va_G) (cI cB cM : ClassId) (ad6 : Nat → Nat) (a : Nat → Nat → Nat) (A : Nat → Prop) (σ σ0 : cSt) (hf : fX2_save σ = some σ0) : Met l yX2_save (Cond.code yX2_save cX2_save 2 none :: WA) rmX2_save (qPc D cI cB cM ad6 a A σ [.ref (a 0 1), .ref (a 1 0)]) (qQv D cI cB cM ad6 a A σ0) 0 0 A := by
  refine qMet (by decide) (Nat.le_of_ble_eq_true rfl) (fun p e s m args below meth c H locs ls S K hr hk hl hs => ?_)
  have hl : lv_has ls 2 [(0, .ref (a 0 1)), (1, .ref (a 1 0))] := hl
  unfold fX2_save at hf
  have hs' := hs
  obtain ⟨G, hP, hD, hS⟩ := hs'
  refine lv_aload_n S.1 S.2.1 dX2_save_0 rfl (lv_at hl 0 rfl) ?_
  refine va_get (v := .int (σ 7 1 0)) (D := D) (ci := 2) (C := RX2) (T := TX2) (N := 2) S.1 S.2.1 S.2.2.2.2 inlX2 S.2.2.2.1 K.1 hP 1 rfl rfl 1 (by decide) (S.2.2.2.2 _ u_237h) (fun _ h9 => h9) rfl dX2_save_1 ?_
  refine lv_iconst S.1 S.2.1 dX2_save_4 k_iconst_4 ?_
  refine z_icmp_lt (tgt := 12) S hf dX2_save_5 (by decide) (fun hf => ?_) (fun hf => ?_)
  · exact sv_at S K hr hk σ σ0 hf hl hs
  · refine lv_aload_n S.1 S.2.1 dX2_save_8 rfl (lv_at hl 0 rfl) ?_
    refine qcU (C := RX2) (b := a 0 1) (As := []) (va_recv K.1 hP (ci := 2) (q0 := 1) rfl rfl) S K hs hl.1 hf (fun σ' hX => metX2_dropOldest l D cI cB cM ad6 a A σ σ' hX) (cwV 0 S.2.2.2.2 (z_goodV u_238h u_239h u_240h u_16h u_241h) rfl rfl rfl (by decide +kernel) ⟨Nat.le_of_ble_eq_true rfl, Nat.le_of_ble_eq_true rfl⟩) rfl dX2_save_9 rfl (Nat.le_of_ble_eq_true rfl) ⟨Nat.le_refl _, Nat.le_refl _⟩ (fun σ1 H locs hs hf => ?_)
    exact sv_at S K hr hk σ1 σ0 hf hl hs
set_option maxHeartbeats 4000000 in
set_option maxRecDepth 100000 in
theorem re_0 {p : Program} {l : Launch} {e : Env} {s : State} {m : MethodId} {args : Array Value} {below : List Frame} {meth : Method} {c : Code} {H : Heap} {locs : List Loc} {ls : Array Slot} {D : va_G} {cI cB cM : ClassId} {ad6 : Nat → Nat} {a : Nat → Nat → Nat} {A : Nat → Prop} (S : CallFix p m c cX2_restore 2 s args WA RX2) (K : qK D cI cB cM ad6 A s) (hr : meth.sig.returnType = none) (hk : meth.locks = false) (σ σ0 : cSt) (hc : σ 7 1 0 = nI 0) (hf : c_re1 σ 2 = some σ0) (hl : lv_has ls 2 [(0, .ref (a 0 1)), (1, .ref (a 1 0))]) (hs : qS D cI cB cM ad6 a A s σ H locs) : W p l e rmX2_restore s m args below meth c H locs 0 0 (MQ below (qQv D cI cB cM ad6 a A σ0) args s 0 0 A) (F0 m 10 ls []) := by
  obtain ⟨G, hP, hD, hS⟩ := hs
  unfold c_re1 c_b1 at hf
  refine lv_aload_n S.1 S.2.1 dX2_restore_10 rfl (lv_at hl 1 rfl) ?_
  refine lv_aload_n S.1 S.2.1 dX2_restore_11 rfl (lv_at hl 0 rfl) ?_
  refine va_get (v := .ref (a 0 2)) (D := D) (ci := 2) (C := RX2) (T := TX2) (N := 2) S.1 S.2.1 S.2.2.2.2 inlX2 S.2.2.2.1 K.1 hP 1 rfl rfl 0 (by decide) (S.2.2.2.2 _ u_112h) (fun _ h9 => h9) rfl dX2_restore_12 ?_
  refine lv_aload_n S.1 S.2.1 dX2_restore_15 rfl (lv_at hl 0 rfl) ?_
  refine va_get (v := .int (σ 7 1 0)) (D := D) (ci := 2) (C := RX2) (T := TX2) (N := 2) S.1 S.2.1 S.2.2.2.2 inlX2 S.2.2.2.1 K.1 hP 1 rfl rfl 1 (by decide) (S.2.2.2.2 _ u_237h) (fun _ h9 => h9) rfl dX2_restore_16 ?_
  rw [hc]
  refine va_aldq (C := "CacheDiary$Machine") S.1 S.2.1 K.1 hP 2 2 rfl rfl (vp_in_nI (n := 0) (by omega) (by omega)) dX2_restore_19 ?_
  rw [show (nI 0).toNatClampNeg = 0 from nI_clamp (by omega)]
  obtain ⟨-, -, hPd, -, hPs, -, -, -⟩ := qParts.mp hP
  refine qtk (gd := a 1) (gs := G 0) S (K.1.sub [0] rfl) hPd hPs (qInj_2 hD) (qInj_4 hD) (qD_nd hD (l1 := 8) (l2 := 40) (by omega) (by omega) (by omega) (qLo_2 a G) (qLo_4 a G)) (fun q h => qBk_A hD (l1 := 8) (by omega) (gA_0 h)) (fun q h => qBk_A hD (l1 := 40) (by omega) (gA_s 0 h)) hS hl.1 hf u_242h dX2_restore_20 ⟨Nat.le_of_ble_eq_true rfl, Nat.le_of_ble_eq_true rfl⟩ (Nat.le_of_ble_eq_true rfl) ⟨Nat.le_refl _, Nat.le_refl _⟩ (fun τ H locs h1 h2 hkp hS hf => ?_)
  have hP := qAf_2_4 hP hD hkp h1 h2
  exact qrV S K hr hk (σ := c_up σ 0 τ) ⟨G, hP, hD, hS⟩ hf dX2_restore_23
set_option maxHeartbeats 4000000 in
set_option maxRecDepth 100000 in
theorem re_1 {p : Program} {l : Launch} {e : Env} {s : State} {m : MethodId} {args : Array Value} {below : List Frame} {meth : Method} {c : Code} {H : Heap} {locs : List Loc} {ls : Array Slot} {D : va_G} {cI cB cM : ClassId} {ad6 : Nat → Nat} {a : Nat → Nat → Nat} {A : Nat → Prop} (S : CallFix p m c cX2_restore 2 s args WA RX2) (K : qK D cI cB cM ad6 A s) (hr : meth.sig.returnType = none) (hk : meth.locks = false) (σ σ0 : cSt) (hc : σ 7 1 0 = nI 1) (hf : c_re1 σ 3 = some σ0) (hl : lv_has ls 2 [(0, .ref (a 0 1)), (1, .ref (a 1 0))]) (hs : qS D cI cB cM ad6 a A s σ H locs) : W p l e rmX2_restore s m args below meth c H locs 0 0 (MQ below (qQv D cI cB cM ad6 a A σ0) args s 0 0 A) (F0 m 10 ls []) := by
  obtain ⟨G, hP, hD, hS⟩ := hs
  unfold c_re1 c_b1 at hf
  refine lv_aload_n S.1 S.2.1 dX2_restore_10 rfl (lv_at hl 1 rfl) ?_
  refine lv_aload_n S.1 S.2.1 dX2_restore_11 rfl (lv_at hl 0 rfl) ?_
  refine va_get (v := .ref (a 0 2)) (D := D) (ci := 2) (C := RX2) (T := TX2) (N := 2) S.1 S.2.1 S.2.2.2.2 inlX2 S.2.2.2.1 K.1 hP 1 rfl rfl 0 (by decide) (S.2.2.2.2 _ u_112h) (fun _ h9 => h9) rfl dX2_restore_12 ?_
  refine lv_aload_n S.1 S.2.1 dX2_restore_15 rfl (lv_at hl 0 rfl) ?_
  refine va_get (v := .int (σ 7 1 0)) (D := D) (ci := 2) (C := RX2) (T := TX2) (N := 2) S.1 S.2.1 S.2.2.2.2 inlX2 S.2.2.2.1 K.1 hP 1 rfl rfl 1 (by decide) (S.2.2.2.2 _ u_237h) (fun _ h9 => h9) rfl dX2_restore_16 ?_
  rw [hc]
  refine va_aldq (C := "CacheDiary$Machine") S.1 S.2.1 K.1 hP 2 2 rfl rfl (vp_in_nI (n := 1) (by omega) (by omega)) dX2_restore_19 ?_
  rw [show (nI 1).toNatClampNeg = 1 from nI_clamp (by omega)]
  obtain ⟨-, -, hPd, -, -, hPs, -, -⟩ := qParts.mp hP
  refine qtk (gd := a 1) (gs := G 1) S (K.1.sub [0] rfl) hPd hPs (qInj_2 hD) (qInj_5 hD) (qD_nd hD (l1 := 8) (l2 := 56) (by omega) (by omega) (by omega) (qLo_2 a G) (qLo_5 a G)) (fun q h => qBk_A hD (l1 := 8) (by omega) (gA_0 h)) (fun q h => qBk_A hD (l1 := 56) (by omega) (gA_s 1 h)) hS hl.1 hf u_242h dX2_restore_20 ⟨Nat.le_of_ble_eq_true rfl, Nat.le_of_ble_eq_true rfl⟩ (Nat.le_of_ble_eq_true rfl) ⟨Nat.le_refl _, Nat.le_refl _⟩ (fun τ H locs h1 h2 hkp hS hf => ?_)
  have hP := qAf_2_5 hP hD hkp h1 h2
  exact qrV S K hr hk (σ := c_up σ 0 τ) ⟨G, hP, hD, hS⟩ hf dX2_restore_23
set_option maxHeartbeats 4000000 in
set_option maxRecDepth 100000 in
theorem re_2 {p : Program} {l : Launch} {e : Env} {s : State} {m : MethodId} {args : Array Value} {below : List Frame} {meth : Method} {c : Code} {H : Heap} {locs : List Loc} {ls : Array Slot} {D : va_G} {cI cB cM : ClassId} {ad6 : Nat → Nat} {a : Nat → Nat → Nat} {A : Nat → Prop} (S : CallFix p m c cX2_restore 2 s args WA RX2) (K : qK D cI cB cM ad6 A s) (hr : meth.sig.returnType = none) (hk : meth.locks = false) (σ σ0 : cSt) (hc : σ 7 1 0 = nI 2) (hf : c_re1 σ 4 = some σ0) (hl : lv_has ls 2 [(0, .ref (a 0 1)), (1, .ref (a 1 0))]) (hs : qS D cI cB cM ad6 a A s σ H locs) : W p l e rmX2_restore s m args below meth c H locs 0 0 (MQ below (qQv D cI cB cM ad6 a A σ0) args s 0 0 A) (F0 m 10 ls []) := by
  obtain ⟨G, hP, hD, hS⟩ := hs
  unfold c_re1 c_b1 at hf
  refine lv_aload_n S.1 S.2.1 dX2_restore_10 rfl (lv_at hl 1 rfl) ?_
  refine lv_aload_n S.1 S.2.1 dX2_restore_11 rfl (lv_at hl 0 rfl) ?_
  refine va_get (v := .ref (a 0 2)) (D := D) (ci := 2) (C := RX2) (T := TX2) (N := 2) S.1 S.2.1 S.2.2.2.2 inlX2 S.2.2.2.1 K.1 hP 1 rfl rfl 0 (by decide) (S.2.2.2.2 _ u_112h) (fun _ h9 => h9) rfl dX2_restore_12 ?_
  refine lv_aload_n S.1 S.2.1 dX2_restore_15 rfl (lv_at hl 0 rfl) ?_
  refine va_get (v := .int (σ 7 1 0)) (D := D) (ci := 2) (C := RX2) (T := TX2) (N := 2) S.1 S.2.1 S.2.2.2.2 inlX2 S.2.2.2.1 K.1 hP 1 rfl rfl 1 (by decide) (S.2.2.2.2 _ u_237h) (fun _ h9 => h9) rfl dX2_restore_16 ?_
  rw [hc]
  refine va_aldq (C := "CacheDiary$Machine") S.1 S.2.1 K.1 hP 2 2 rfl rfl (vp_in_nI (n := 2) (by omega) (by omega)) dX2_restore_19 ?_
  rw [show (nI 2).toNatClampNeg = 2 from nI_clamp (by omega)]
  obtain ⟨-, -, hPd, -, -, -, hPs, -⟩ := qParts.mp hP
  refine qtk (gd := a 1) (gs := G 2) S (K.1.sub [0] rfl) hPd hPs (qInj_2 hD) (qInj_6 hD) (qD_nd hD (l1 := 8) (l2 := 72) (by omega) (by omega) (by omega) (qLo_2 a G) (qLo_6 a G)) (fun q h => qBk_A hD (l1 := 8) (by omega) (gA_0 h)) (fun q h => qBk_A hD (l1 := 72) (by omega) (gA_s 2 h)) hS hl.1 hf u_242h dX2_restore_20 ⟨Nat.le_of_ble_eq_true rfl, Nat.le_of_ble_eq_true rfl⟩ (Nat.le_of_ble_eq_true rfl) ⟨Nat.le_refl _, Nat.le_refl _⟩ (fun τ H locs h1 h2 hkp hS hf => ?_)
  have hP := qAf_2_6 hP hD hkp h1 h2
  exact qrV S K hr hk (σ := c_up σ 0 τ) ⟨G, hP, hD, hS⟩ hf dX2_restore_23
set_option maxHeartbeats 4000000 in
set_option maxRecDepth 100000 in
theorem re_3 {p : Program} {l : Launch} {e : Env} {s : State} {m : MethodId} {args : Array Value} {below : List Frame} {meth : Method} {c : Code} {H : Heap} {locs : List Loc} {ls : Array Slot} {D : va_G} {cI cB cM : ClassId} {ad6 : Nat → Nat} {a : Nat → Nat → Nat} {A : Nat → Prop} (S : CallFix p m c cX2_restore 2 s args WA RX2) (K : qK D cI cB cM ad6 A s) (hr : meth.sig.returnType = none) (hk : meth.locks = false) (σ σ0 : cSt) (hc : σ 7 1 0 = nI 3) (hf : c_re1 σ 5 = some σ0) (hl : lv_has ls 2 [(0, .ref (a 0 1)), (1, .ref (a 1 0))]) (hs : qS D cI cB cM ad6 a A s σ H locs) : W p l e rmX2_restore s m args below meth c H locs 0 0 (MQ below (qQv D cI cB cM ad6 a A σ0) args s 0 0 A) (F0 m 10 ls []) := by
  obtain ⟨G, hP, hD, hS⟩ := hs
  unfold c_re1 c_b1 at hf
  refine lv_aload_n S.1 S.2.1 dX2_restore_10 rfl (lv_at hl 1 rfl) ?_
  refine lv_aload_n S.1 S.2.1 dX2_restore_11 rfl (lv_at hl 0 rfl) ?_
  refine va_get (v := .ref (a 0 2)) (D := D) (ci := 2) (C := RX2) (T := TX2) (N := 2) S.1 S.2.1 S.2.2.2.2 inlX2 S.2.2.2.1 K.1 hP 1 rfl rfl 0 (by decide) (S.2.2.2.2 _ u_112h) (fun _ h9 => h9) rfl dX2_restore_12 ?_
  refine lv_aload_n S.1 S.2.1 dX2_restore_15 rfl (lv_at hl 0 rfl) ?_
  refine va_get (v := .int (σ 7 1 0)) (D := D) (ci := 2) (C := RX2) (T := TX2) (N := 2) S.1 S.2.1 S.2.2.2.2 inlX2 S.2.2.2.1 K.1 hP 1 rfl rfl 1 (by decide) (S.2.2.2.2 _ u_237h) (fun _ h9 => h9) rfl dX2_restore_16 ?_
  rw [hc]
  refine va_aldq (C := "CacheDiary$Machine") S.1 S.2.1 K.1 hP 2 2 rfl rfl (vp_in_nI (n := 3) (by omega) (by omega)) dX2_restore_19 ?_
  rw [show (nI 3).toNatClampNeg = 3 from nI_clamp (by omega)]
  obtain ⟨-, -, hPd, -, -, -, -, hPs⟩ := qParts.mp hP
  refine qtk (gd := a 1) (gs := G 3) S (K.1.sub [0] rfl) hPd hPs (qInj_2 hD) (qInj_7 hD) (qD_nd hD (l1 := 8) (l2 := 88) (by omega) (by omega) (by omega) (qLo_2 a G) (qLo_7 a G)) (fun q h => qBk_A hD (l1 := 8) (by omega) (gA_0 h)) (fun q h => qBk_A hD (l1 := 88) (by omega) (gA_s 3 h)) hS hl.1 hf u_242h dX2_restore_20 ⟨Nat.le_of_ble_eq_true rfl, Nat.le_of_ble_eq_true rfl⟩ (Nat.le_of_ble_eq_true rfl) ⟨Nat.le_refl _, Nat.le_refl _⟩ (fun τ H locs h1 h2 hkp hS hf => ?_)
  have hP := qAf_2_7 hP hD hkp h1 h2
  exact qrV S K hr hk (σ := c_up σ 0 τ) ⟨G, hP, hD, hS⟩ hf dX2_restore_23
theorem metX2_restore (l : Launch) (D : va_G) (cI cB cM : ClassId) (ad6 : Nat → Nat) (a : Nat → Nat → Nat) (A : Nat → Prop) (σ σ0 : cSt) (hf : fX2_restore σ = some σ0) : Met l yX2_restore (Cond.code yX2_restore cX2_restore 2 none :: WA) rmX2_restore (qPc D cI cB cM ad6 a A σ [.ref (a 0 1), .ref (a 1 0)]) (qQv D cI cB cM ad6 a A σ0) 0 0 A := by
  refine qMet (by decide) (Nat.le_of_ble_eq_true rfl) (fun p e s m args below meth c H locs ls S K hr hk hl hs => ?_)
  have hl : lv_has ls 2 [(0, .ref (a 0 1)), (1, .ref (a 1 0))] := hl
  unfold fX2_restore at hf
  obtain ⟨G, hP, hD, hS⟩ := hs
  refine lv_aload_n S.1 S.2.1 dX2_restore_0 rfl (lv_at hl 0 rfl) ?_
  refine lv_dup S.1 S.2.1 dX2_restore_1 rfl ?_
  refine va_get (v := .int (σ 7 1 0)) (D := D) (ci := 2) (C := RX2) (T := TX2) (N := 2) S.1 S.2.1 S.2.2.2.2 inlX2 S.2.2.2.1 K.1 hP 1 rfl rfl 1 (by decide) (S.2.2.2.2 _ u_237h) (fun _ h9 => h9) rfl dX2_restore_2 ?_
  refine lv_iconst S.1 S.2.1 dX2_restore_5 k_iconst_1 ?_
  refine lv_isub S.1 S.2.1 dX2_restore_6 ?_
  refine va_put (v := .int (σ 7 1 0 - nI 1)) (D := D) (ci := 2) (ty := .int) (C := RX2) (T := TX2) (N := 2) S.1 S.2.1 S.2.2.2.2 inlX2 tyX2 tyX2_ok nmX2 S.2.2.2.1 K.1 hP (qD_va hD cI cB cM ad6 _) hS 1 rfl rfl 1 (by decide) (S.2.2.2.2 _ u_237h) (fun _ h9 => h9) rfl (by decide +kernel) rfl rfl (Nat.le_of_ble_eq_true rfl) dX2_restore_7 (fun H locs hP _ hS => ?_)
  have hs : qS D cI cB cM ad6 a A s (c_up σ 7 (z_up (σ 7) 1 (fun _ => σ 7 1 0 - nI 1))) H locs := ⟨G, hP, hD, hS⟩
  have hf : c_re (c_up σ 7 (z_up (σ 7) 1 (fun _ => σ 7 1 0 - nI 1))) = some σ0 := hf
  unfold c_re at hf
  refine z_case (v := 0) hf (fun hn hf => re_0 S K hr hk _ σ0 hn hf hl hs) (fun hn hf => ?_)
  refine z_case (v := 1) hf (fun hn hf => re_1 S K hr hk _ σ0 hn hf hl hs) (fun hn hf => ?_)
  refine z_case (v := 2) hf (fun hn hf => re_2 S K hr hk _ σ0 hn hf hl hs) (fun hn hf => ?_)
  refine z_case (v := 3) hf (fun hn hf => re_3 S K hr hk _ σ0 hn hf hl hs) (fun hn hf => ?_)
  cases hf
