/-! the whole object: head cells, order reader and text, six machines (machine, trial, four saved); by wip/tools/qbase.py -/
abbrev cSt : Type := Nat → zSt
def c_up (χ : cSt) (i : Nat) (σ : zSt) : cSt := fun k => cond (Nat.beq k i) σ (χ k)
def c_sf (χ : cSt) (i f : Nat) (x : Int32) : Option cSt := some (c_up χ i (z_up (χ i) f (fun _ => x)))
def c_b1 {γ : Type} (χ : cSt) (i : Nat) (o : Option zSt) (k : cSt → Option γ) : Option γ := o.bind fun σ => k (c_up χ i σ)
def c_b2 {γ : Type} (χ : cSt) (i : Nat) (o : Option (Int32 × zSt)) (k : Int32 → cSt → Option γ) : Option γ := o.bind fun q => k q.1 (c_up χ i q.2)
abbrev tysQ (cI cB cM : ClassId) : List (ClassId × FieldType) := [(cI, .int), (cB, .byte), (cM, .object "CacheDiary$Machine")]
def wH (cM : ClassId) (a : Nat → Nat → Nat) (G : Nat → Nat → Nat) (χ : cSt) : va_W := [(a 0 0, .inr (7, [.ref (a 1 0), .ref (a 2 0), .ref (a 0 1), .ref (a 3 4), .int (χ 7 0 0), .ref (a 3 0)])), (a 0 1, .inr (2, [.ref (a 0 2), .int (χ 7 1 0)])), (a 0 2, .inl (cM, 4, .inr (.inr (.inr (.inr (fun j => some (G j 0)))))))]
def wQ (cI cB cM : ClassId) (ad6 : Nat → Nat) (a : Nat → Nat → Nat) (G : Nat → Nat → Nat) (χ : cSt) : va_W := wH cM a G χ ++ (wO cB (a 3) (a 3 4) ad6 cI (χ 6) ++ (wG (a 1) cI (χ 0) ++ (wG (a 2) cI (χ 1) ++ (wG (G 0) cI (χ 2) ++ (wG (G 1) cI (χ 3) ++ (wG (G 2) cI (χ 4) ++ wG (G 3) cI (χ 5)))))))
def qAd (a : Nat → Nat → Nat) (G : Nat → Nat → Nat) (k : Nat) : Nat := if k < 3 then a 0 k else if k < 8 then a 3 (k - 3) else if k < 24 then a 1 (k - 8) else if k < 40 then a 2 (k - 24) else G ((k - 40) / 16) ((k - 40) % 16)
def qD (A : Nat → Prop) (a : Nat → Nat → Nat) (G : Nat → Nat → Nat) : Prop := (∀ k, k < 104 → A (qAd a G k)) ∧ ∀ j k, j < 104 → k < 104 → qAd a G j = qAd a G k → j = k
theorem z_fst {w : va_W} {f : Nat → Nat} {n : Nat} (h : w.map (fun q => q.1) = (List.range n).map f) {k : Nat} {q : Nat × va_E} (hk : w[k]? = some q) : k < n ∧ q.1 = f k := by
  have h1 : (w.map (fun q => q.1))[k]? = some q.1 := by rw [List.getElem?_map, hk]; rfl
  rw [h, List.getElem?_map] at h1
  by_cases hn : k < n
  · rw [List.getElem?_range hn] at h1
    exact ⟨hn, (Option.some.inj h1).symm⟩
  · rw [List.getElem?_eq_none (by simp; omega)] at h1
    cases h1
theorem wH_fst (cM : ClassId) (a : Nat → Nat → Nat) (G : Nat → Nat → Nat) (χ : cSt) : (wH cM a G χ).map (fun q => q.1) = (List.range 3).map (a 0) := rfl
theorem wO_fst (cB : ClassId) (o : Nat → Nat) (ad6 : Nat → Nat) (cI : ClassId) (σ : zSt) : (wO cB o (o 4) ad6 cI σ).map (fun q => q.1) = (List.range 5).map o := rfl
theorem wG_fst (g : Nat → Nat) (cI : ClassId) (σ : zSt) : (wG g cI σ).map (fun q => q.1) = (List.range 16).map g := rfl
theorem z_app {D : va_G} {cl : List vw_C} {w1 w2 : va_W} {H : Heap} : va_P D cl (w1 ++ w2) H ↔ va_P D cl w1 H ∧ va_P D cl w2 H := by
  refine ⟨fun h => ⟨fun k q hk => ?_, fun k q hk => ?_⟩, fun h => h.1.app h.2⟩
  · exact h k q (by rw [List.getElem?_append_left (List.getElem?_eq_some_iff.mp hk).1]; exact hk)
  · exact h (w1.length + k) q (by rw [List.getElem?_append_right (Nat.le_add_right _ _), Nat.add_sub_cancel_left]; exact hk)
set_option maxRecDepth 100000 in
theorem wQ_fst (cI cB cM : ClassId) (ad6 : Nat → Nat) (a : Nat → Nat → Nat) (G : Nat → Nat → Nat) (χ : cSt) : (wQ cI cB cM ad6 a G χ).map (fun q => q.1) = (List.range 104).map (qAd a G) := rfl
theorem qD_va {A : Nat → Prop} {a : Nat → Nat → Nat} {G : Nat → Nat → Nat} (h : qD A a G) (cI cB cM : ClassId) (ad6 : Nat → Nat) (χ : cSt) : va_D A (wQ cI cB cM ad6 a G χ) := by
  refine ⟨fun i j p q hi hj e => ?_, fun k q hk => ?_⟩
  · obtain ⟨i1, i2⟩ := z_fst (wQ_fst cI cB cM ad6 a G χ) hi
    obtain ⟨j1, j2⟩ := z_fst (wQ_fst cI cB cM ad6 a G χ) hj
    exact h.2 i j i1 j1 (by rw [← i2, ← j2]; exact e)
  · obtain ⟨k1, k2⟩ := z_fst (wQ_fst cI cB cM ad6 a G χ) hk
    rw [k2]
    exact h.1 k k1
theorem qAd_h (a : Nat → Nat → Nat) (G : Nat → Nat → Nat) {k : Nat} (h : k < 3) : qAd a G k = a 0 k := by unfold qAd; rw [if_pos h]
theorem qAd_o (a : Nat → Nat → Nat) (G : Nat → Nat → Nat) {k : Nat} (h : k < 5) : qAd a G (3 + k) = a 3 k := by unfold qAd; rw [if_neg (by omega), if_pos (by omega), Nat.add_sub_cancel_left]
theorem qAd_0 (a : Nat → Nat → Nat) (G : Nat → Nat → Nat) {k : Nat} (h : k < 16) : qAd a G (8 + k) = a 1 k := by unfold qAd; rw [if_neg (by omega), if_neg (by omega), if_pos (by omega), Nat.add_sub_cancel_left]
theorem qAd_1 (a : Nat → Nat → Nat) (G : Nat → Nat → Nat) {k : Nat} (h : k < 16) : qAd a G (24 + k) = a 2 k := by unfold qAd; rw [if_neg (by omega), if_neg (by omega), if_neg (by omega), if_pos (by omega), Nat.add_sub_cancel_left]
theorem qAd_s (a : Nat → Nat → Nat) (G : Nat → Nat → Nat) {j k : Nat} (h : k < 16) : qAd a G (40 + (16 * j + k)) = G j k := by
  unfold qAd
  rw [if_neg (by omega), if_neg (by omega), if_neg (by omega), if_neg (by omega), Nat.add_sub_cancel_left, show (16 * j + k) / 16 = j by omega, show (16 * j + k) % 16 = k by omega]
/-- the exceptions, by number -/
def c_ex : Nat → String
  | 0 => "java/lang/IndexOutOfBoundsException"
  | 1 => "java/lang/IllegalArgumentException"
  | _ => "java/lang/IllegalStateException"
/-- the words of the three throws that are no good ones: each is kept, for another reason -/
def qFw : List Cond := (vx_atS RX8 210 "java/lang/IndexOutOfBoundsException" ["java/lang/RuntimeException", "java/lang/Exception"]).filter (fun w => !goodWord w) ++ ((vx_atS RX8 217 "java/lang/IllegalArgumentException" ["java/lang/RuntimeException", "java/lang/Exception"]).filter (fun w => !goodWord w) ++ (vx_atS RX8 222 "java/lang/IllegalStateException" ["java/lang/RuntimeException", "java/lang/Exception"]).filter (fun w => !goodWord w))
theorem qFw_f : ∀ w ∈ qFw, w.faceAtom = true ∧ w.onTables = true := by decide +kernel
def qCst (U : State) : Prop := ∀ w ∈ qFw, w.before #[] U = true
theorem qCst.same {u U : State} (hv : U.vm = u.vm) (h : qCst u) : qCst U := fun w hw => va_tabs (qFw_f w hw).2 hv.symm (h w hw)
theorem qCst.warm {s U : State} (hW : s.WarmedH U.vm) (h : qCst s) : qCst U := fun w hw => by
  have h1 : w.before #[] (s.setVm U.vm) = true := Cond.faceAtom_setVm hW.alike w (qFw_f w hw).1 (h w hw)
  rw [Cond.onTables_vm (A' := #[]) (U' := U) U.vm w (qFw_f w hw).2, State.setVm_self] at h1
  exact h1
/-- what stands beside the object: the constants of Place, what exceptions need -/
def qF (ad6 : Nat → Nat) (A : Nat → Prop) (U : State) (H : Heap) : Prop := oE ad6 A U H ∧ vx_Zq Bundle.tN "UNASSIGNED_STACK" Bundle.steD A U H ∧ vx_Zq Bundle.tN "SUPPRESSED_SENTINEL" Bundle.listD A U H ∧ (∃ sa, vk_R RX8 208 "there is no such cache, line or entry" sa U) ∧ (∃ sa, vk_R RX8 215 "an argument is out of range" sa U) ∧ (∃ sa, vk_R RX8 220 "this cannot be done now" sa U) ∧ qCst U
theorem qF.kept {ad6 : Nat → Nat} {A : Nat → Prop} {U : State} {H H1 : Heap} (h : qF ad6 A U H) (hq : ∀ a : Nat, a < H.size → ¬ A a → H1[a]? = H[a]?) : qF ad6 A U H1 := ⟨va_En.kept h.1 hq, vx_Zq.kept h.2.1 hq, vx_Zq.kept h.2.2.1 hq, h.2.2.2⟩
theorem qF.warm {ad6 : Nat → Nat} {A : Nat → Prop} {s U : State} {H : Heap} (hW : s.WarmedH U.vm) (h : qF ad6 A s H) : qF ad6 A U H := ⟨va_En.moved hW.alike h.1, vx_Zq.moved hW.alike h.2.1, vx_Zq.moved hW.alike h.2.2.1, h.2.2.2.1.imp fun _ z => vk_R.warm hW z, h.2.2.2.2.1.imp fun _ z => vk_R.warm hW z, h.2.2.2.2.2.1.imp fun _ z => vk_R.warm hW z, h.2.2.2.2.2.2.warm hW⟩
theorem qF.same {ad6 : Nat → Nat} {A : Nat → Prop} {u U : State} {H : Heap} (hv : U.vm = u.vm) (h : qF ad6 A u H) : qF ad6 A U H := by
  have ha : u.vm.Alike U.vm := by rw [hv]; exact Vm.Alike.refl u.vm
  exact ⟨va_En.moved ha h.1, vx_Zq.moved ha h.2.1, vx_Zq.moved ha h.2.2.1, h.2.2.2.1.imp fun _ z => vk_R.same hv z, h.2.2.2.2.1.imp fun _ z => vk_R.same hv z, h.2.2.2.2.2.1.imp fun _ z => vk_R.same hv z, h.2.2.2.2.2.2.same hv⟩
def qK (D : va_G) (cI cB cM : ClassId) (ad6 : Nat → Nat) (A : Nat → Prop) (s : State) : Prop := va_K D vwCl (tysQ cI cB cM) s ∧ qF ad6 A s s.heap
def qB (D : va_G) (cI cB cM : ClassId) (ad6 : Nat → Nat) (a : Nat → Nat → Nat) (A : Nat → Prop) (χ : cSt) (U : State) : Prop := ∃ G : Nat → Nat → Nat, va_P D vwCl (wQ cI cB cM ad6 a G χ) U.heap ∧ qD A a G ∧ va_K D vwCl (tysQ cI cB cM) U
def qS (D : va_G) (cI cB cM : ClassId) (ad6 : Nat → Nat) (a : Nat → Nat → Nat) (A : Nat → Prop) (s : State) (χ : cSt) (H : Heap) (locs : List Loc) : Prop := ∃ G : Nat → Nat → Nat, va_P D vwCl (wQ cI cB cM ad6 a G χ) H ∧ qD A a G ∧ va_S A s.heap H locs
def qPc (D : va_G) (cI cB cM : ClassId) (ad6 : Nat → Nat) (a : Nat → Nat → Nat) (A : Nat → Prop) (χ : cSt) (av : List Value) : Array Value → State → Prop := va_Pc av (fun U => qB D cI cB cM ad6 a A χ U ∧ qF ad6 A U U.heap)
theorem qPc_blind (D : va_G) (cI cB cM : ClassId) (ad6 : Nat → Nat) (a : Nat → Nat → Nat) (A : Nat → Prop) (χ : cSt) (av : List Value) : FrameBlind (qPc D cI cB cM ad6 a A χ av) := fun b U g mk q => by
  obtain ⟨q0, ⟨G, qP, qd, qK⟩, qE⟩ := q
  exact ⟨q0, ⟨G, qP, qd, va_K.moved (u := U) (U := U.calling g mk b) (Vm.Alike.refl U.vm) qK⟩, qF.same (u := U) (U := U.calling g mk b) rfl qE⟩
/-- a part of the world that a call doesn't touch -/
theorem z_keepP {D : va_G} {cl : List vw_C} {w : va_W} {H H1 : Heap} {B : Nat → Prop} (h : va_P D cl w H) (hk : ∀ q : Nat, q < H.size → ¬ B q → H1[q]? = H[q]?) (hd : ∀ (k : Nat) (q : Nat × va_E), w[k]? = some q → ¬ B q.1) : va_P D cl w H1 := h.kept fun k q hq => hk q.1 (h k q hq).lt (hd k q hq)
/-- the eight parts of the object's world -/
theorem qParts {D : va_G} {cI cB cM : ClassId} {ad6 : Nat → Nat} {a : Nat → Nat → Nat} {G : Nat → Nat → Nat} {χ : cSt} {H : Heap} : va_P D vwCl (wQ cI cB cM ad6 a G χ) H ↔ va_P D vwCl (wH cM a G χ) H ∧ va_P D vwCl (wO cB (a 3) (a 3 4) ad6 cI (χ 6)) H ∧ va_P D vwCl (wG (a 1) cI (χ 0)) H ∧ va_P D vwCl (wG (a 2) cI (χ 1)) H ∧ va_P D vwCl (wG (G 0) cI (χ 2)) H ∧ va_P D vwCl (wG (G 1) cI (χ 3)) H ∧ va_P D vwCl (wG (G 2) cI (χ 4)) H ∧ va_P D vwCl (wG (G 3) cI (χ 5)) H := by
  unfold wQ
  rw [z_app, z_app, z_app, z_app, z_app, z_app, z_app]
/-- the places from lo on, n of them -/
def qBk (a : Nat → Nat → Nat) (G : Nat → Nat → Nat) (lo n : Nat) : Nat → Prop := fun x => ∃ k, k < n ∧ x = qAd a G (lo + k)
theorem qBk_h {a : Nat → Nat → Nat} {G : Nat → Nat → Nat} {cM : ClassId} {χ : cSt} {k : Nat} {q : Nat × va_E} (h : (wH cM a G χ)[k]? = some q) : qBk a G 0 3 q.1 := by
  obtain ⟨h1, h2⟩ := z_fst (wH_fst cM a G χ) h
  exact ⟨k, h1, by rw [h2, Nat.zero_add, qAd_h a G h1]⟩
theorem qBk_o {a : Nat → Nat → Nat} {G : Nat → Nat → Nat} {cI cB : ClassId} {ad6 : Nat → Nat} {σ : zSt} {k : Nat} {q : Nat × va_E} (h : (wO cB (a 3) (a 3 4) ad6 cI σ)[k]? = some q) : qBk a G 3 5 q.1 := by
  obtain ⟨h1, h2⟩ := z_fst (wO_fst cB (a 3) ad6 cI σ) h
  exact ⟨k, h1, by rw [h2, qAd_o a G h1]⟩
theorem qBk_0 {a : Nat → Nat → Nat} {G : Nat → Nat → Nat} {cI : ClassId} {σ : zSt} {k : Nat} {q : Nat × va_E} (h : (wG (a 1) cI σ)[k]? = some q) : qBk a G 8 16 q.1 := by
  obtain ⟨h1, h2⟩ := z_fst (wG_fst (a 1) cI σ) h
  exact ⟨k, h1, by rw [h2, qAd_0 a G h1]⟩
theorem qBk_1 {a : Nat → Nat → Nat} {G : Nat → Nat → Nat} {cI : ClassId} {σ : zSt} {k : Nat} {q : Nat × va_E} (h : (wG (a 2) cI σ)[k]? = some q) : qBk a G 24 16 q.1 := by
  obtain ⟨h1, h2⟩ := z_fst (wG_fst (a 2) cI σ) h
  exact ⟨k, h1, by rw [h2, qAd_1 a G h1]⟩
theorem qBk_s {a : Nat → Nat → Nat} {G : Nat → Nat → Nat} {cI : ClassId} {σ : zSt} (j : Nat) {k : Nat} {q : Nat × va_E} (h : (wG (G j) cI σ)[k]? = some q) : qBk a G (40 + 16 * j) 16 q.1 := by
  obtain ⟨h1, h2⟩ := z_fst (wG_fst (G j) cI σ) h
  exact ⟨k, h1, by rw [h2, Nat.add_assoc, qAd_s a G h1]⟩
theorem qBk_no {A : Nat → Prop} {a : Nat → Nat → Nat} {G : Nat → Nat → Nat} (h : qD A a G) {l1 n1 l2 n2 x : Nat} (h1 : l1 + n1 ≤ 104) (h2 : l2 + n2 ≤ 104) (hd : l1 + n1 ≤ l2 ∨ l2 + n2 ≤ l1) (hx : qBk a G l1 n1 x) : ¬ qBk a G l2 n2 x := by
  rintro ⟨j, hj, e2⟩
  obtain ⟨i, hi, e1⟩ := hx
  have := h.2 (l1 + i) (l2 + j) (by omega) (by omega) (by rw [← e1, ← e2])
  omega
theorem qBk_A {A : Nat → Prop} {a : Nat → Nat → Nat} {G : Nat → Nat → Nat} (h : qD A a G) {l1 n1 x : Nat} (h1 : l1 + n1 ≤ 104) (hx : qBk a G l1 n1 x) : A x := by
  obtain ⟨i, hi, e1⟩ := hx
  rw [e1]
  exact h.1 _ (by omega)
theorem gA_0 {a : Nat → Nat → Nat} {G : Nat → Nat → Nat} {x : Nat} (h : gA (a 1) x) : qBk a G 8 16 x := by
  obtain ⟨k, hk, e⟩ := h
  exact ⟨k, hk, by rw [e, qAd_0 a G hk]⟩
theorem gA_1 {a : Nat → Nat → Nat} {G : Nat → Nat → Nat} {x : Nat} (h : gA (a 2) x) : qBk a G 24 16 x := by
  obtain ⟨k, hk, e⟩ := h
  exact ⟨k, hk, by rw [e, qAd_1 a G hk]⟩
theorem gA_s {a : Nat → Nat → Nat} {G : Nat → Nat → Nat} (j : Nat) {x : Nat} (h : gA (G j) x) : qBk a G (40 + 16 * j) 16 x := by
  obtain ⟨k, hk, e⟩ := h
  exact ⟨k, hk, by rw [e, Nat.add_assoc, qAd_s a G hk]⟩
theorem oA_o {a : Nat → Nat → Nat} {G : Nat → Nat → Nat} {cB : ClassId} {ad6 : Nat → Nat} {x : Nat} (h : oA cB (a 3) (a 3 4) ad6 x) : qBk a G 3 5 x := by
  rcases h with ⟨k, hk, e⟩ | e
  · exact ⟨k, by omega, by rw [e, qAd_o a G (by omega)]⟩
  · exact ⟨4, by omega, by rw [e, qAd_o a G (by omega)]⟩
/-- a machine's own world is apart, out of the whole's -/
theorem gD_of {g : Nat → Nat} {cI : ClassId} {σ : zSt} (h : ∀ i j, i < 16 → j < 16 → g i = g j → i = j) : va_D (gA g) (wG g cI σ) := by
  refine ⟨fun i j p q hi hj e => ?_, fun k q hk => ?_⟩
  · obtain ⟨i1, i2⟩ := z_fst (wG_fst g cI σ) hi
    obtain ⟨j1, j2⟩ := z_fst (wG_fst g cI σ) hj
    exact h i j i1 j1 (by rw [← i2, ← j2]; exact e)
  · obtain ⟨k1, k2⟩ := z_fst (wG_fst g cI σ) hk
    exact ⟨k, k1, k2⟩
theorem qD_0 {A : Nat → Prop} {a : Nat → Nat → Nat} {G : Nat → Nat → Nat} (h : qD A a G) : ∀ i j, i < 16 → j < 16 → a 1 i = a 1 j → i = j := fun i j hi hj e => by
  have := h.2 (8 + i) (8 + j) (by omega) (by omega) (by rw [qAd_0 a G hi, qAd_0 a G hj]; exact e)
  omega
theorem qD_1 {A : Nat → Prop} {a : Nat → Nat → Nat} {G : Nat → Nat → Nat} (h : qD A a G) : ∀ i j, i < 16 → j < 16 → a 2 i = a 2 j → i = j := fun i j hi hj e => by
  have := h.2 (24 + i) (24 + j) (by omega) (by omega) (by rw [qAd_1 a G hi, qAd_1 a G hj]; exact e)
  omega
theorem qD_s {A : Nat → Prop} {a : Nat → Nat → Nat} {G : Nat → Nat → Nat} (h : qD A a G) {x y : Nat} (hx : x < 4) (hy : y < 4) : ∀ i j, i < 16 → j < 16 → G x i = G y j → x = y ∧ i = j := fun i j hi hj e => by
  have := h.2 (40 + (16 * x + i)) (40 + (16 * y + j)) (by omega) (by omega) (by rw [qAd_s a G hi, qAd_s a G hj]; exact e)
  omega
theorem oD_of {cB cI : ClassId} {o : Nat → Nat} {ad6 : Nat → Nat} {σ : zSt} (h : ∀ i j, i < 5 → j < 5 → o i = o j → i = j) : va_D (oA cB o (o 4) ad6) (wO cB o (o 4) ad6 cI σ) := by
  refine ⟨fun i j p q hi hj e => ?_, fun k q hk => ?_⟩
  · obtain ⟨i1, i2⟩ := z_fst (wO_fst cB o ad6 cI σ) hi
    obtain ⟨j1, j2⟩ := z_fst (wO_fst cB o ad6 cI σ) hj
    exact h i j i1 j1 (by rw [← i2, ← j2]; exact e)
  · obtain ⟨k1, k2⟩ := z_fst (wO_fst cB o ad6 cI σ) hk
    by_cases h4 : k < 4
    · exact Or.inl ⟨k, h4, k2⟩
    · obtain rfl : k = 4 := by omega
      exact Or.inr k2
theorem qD_o {A : Nat → Prop} {a : Nat → Nat → Nat} {G : Nat → Nat → Nat} (h : qD A a G) : ∀ i j, i < 5 → j < 5 → a 3 i = a 3 j → i = j := fun i j hi hj e => by
  have := h.2 (3 + i) (3 + j) (by omega) (by omega) (by rw [qAd_o a G hi, qAd_o a G hj]; exact e)
  omega
/-- behind a call on one part: the whole again -/
theorem qAfter0 {D : va_G} {cI cB cM : ClassId} {ad6 : Nat → Nat} {a : Nat → Nat → Nat} {A : Nat → Prop} {G : Nat → Nat → Nat} {χ : cSt} {H H1 : Heap} (hP : va_P D vwCl (wQ cI cB cM ad6 a G χ) H) (hD : qD A a G) (hk : ∀ q : Nat, q < H.size → ¬ gA (a 1) q → H1[q]? = H[q]?) {σ : zSt} (h1 : va_P D vwCl (wG (a 1) cI σ) H1) : va_P D vwCl (wQ cI cB cM ad6 a G (c_up χ 0 σ)) H1 := by
  obtain ⟨p0, p1, -, p3, p4, p5, p6, p7⟩ := qParts.mp hP
  have no : ∀ {x l n}, qBk a G l n x → l + n ≤ 104 → (l + n ≤ 8 ∨ 24 ≤ l) → ¬ gA (a 1) x := fun hx h2 h3 hg => qBk_no hD h2 (by omega) h3 hx (gA_0 hg)
  exact qParts.mpr ⟨z_keepP p0 hk fun k q h => no (qBk_h h) (by omega) (by omega), z_keepP p1 hk fun k q h => no (qBk_o h) (by omega) (by omega), h1, z_keepP p3 hk fun k q h => no (qBk_1 h) (by omega) (by omega), z_keepP p4 hk fun k q h => no (qBk_s 0 h) (by omega) (by omega), z_keepP p5 hk fun k q h => no (qBk_s 1 h) (by omega) (by omega), z_keepP p6 hk fun k q h => no (qBk_s 2 h) (by omega) (by omega), z_keepP p7 hk fun k q h => no (qBk_s 3 h) (by omega) (by omega)⟩
theorem qAfter1 {D : va_G} {cI cB cM : ClassId} {ad6 : Nat → Nat} {a : Nat → Nat → Nat} {A : Nat → Prop} {G : Nat → Nat → Nat} {χ : cSt} {H H1 : Heap} (hP : va_P D vwCl (wQ cI cB cM ad6 a G χ) H) (hD : qD A a G) (hk : ∀ q : Nat, q < H.size → ¬ gA (a 2) q → H1[q]? = H[q]?) {σ : zSt} (h1 : va_P D vwCl (wG (a 2) cI σ) H1) : va_P D vwCl (wQ cI cB cM ad6 a G (c_up χ 1 σ)) H1 := by
  obtain ⟨p0, p1, p2, -, p4, p5, p6, p7⟩ := qParts.mp hP
  have no : ∀ {x l n}, qBk a G l n x → l + n ≤ 104 → (l + n ≤ 24 ∨ 40 ≤ l) → ¬ gA (a 2) x := fun hx h2 h3 hg => qBk_no hD h2 (by omega) h3 hx (gA_1 hg)
  exact qParts.mpr ⟨z_keepP p0 hk fun k q h => no (qBk_h h) (by omega) (by omega), z_keepP p1 hk fun k q h => no (qBk_o h) (by omega) (by omega), z_keepP p2 hk fun k q h => no (qBk_0 h) (by omega) (by omega), h1, z_keepP p4 hk fun k q h => no (qBk_s 0 h) (by omega) (by omega), z_keepP p5 hk fun k q h => no (qBk_s 1 h) (by omega) (by omega), z_keepP p6 hk fun k q h => no (qBk_s 2 h) (by omega) (by omega), z_keepP p7 hk fun k q h => no (qBk_s 3 h) (by omega) (by omega)⟩
theorem qAfterO {D : va_G} {cI cB cM : ClassId} {ad6 : Nat → Nat} {a : Nat → Nat → Nat} {A : Nat → Prop} {G : Nat → Nat → Nat} {χ : cSt} {H H1 : Heap} (hP : va_P D vwCl (wQ cI cB cM ad6 a G χ) H) (hD : qD A a G) (hk : ∀ q : Nat, q < H.size → ¬ oA cB (a 3) (a 3 4) ad6 q → H1[q]? = H[q]?) {σ : zSt} (h1 : va_P D vwCl (wO cB (a 3) (a 3 4) ad6 cI σ) H1) : va_P D vwCl (wQ cI cB cM ad6 a G (c_up χ 6 σ)) H1 := by
  obtain ⟨p0, -, p2, p3, p4, p5, p6, p7⟩ := qParts.mp hP
  have no : ∀ {x l n}, qBk a G l n x → l + n ≤ 104 → (l + n ≤ 3 ∨ 8 ≤ l) → ¬ oA cB (a 3) (a 3 4) ad6 x := fun hx h2 h3 hg => qBk_no hD h2 (by omega) h3 hx (oA_o hg)
  exact qParts.mpr ⟨z_keepP p0 hk fun k q h => no (qBk_h h) (by omega) (by omega), h1, z_keepP p2 hk fun k q h => no (qBk_0 h) (by omega) (by omega), z_keepP p3 hk fun k q h => no (qBk_1 h) (by omega) (by omega), z_keepP p4 hk fun k q h => no (qBk_s 0 h) (by omega) (by omega), z_keepP p5 hk fun k q h => no (qBk_s 1 h) (by omega) (by omega), z_keepP p6 hk fun k q h => no (qBk_s 2 h) (by omega) (by omega), z_keepP p7 hk fun k q h => no (qBk_s 3 h) (by omega) (by omega)⟩
