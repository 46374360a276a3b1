/-! the start (by wip/tools/lstart26.py) -/
theorem l_arr {args : Array Value} {s : State} {ty : FieldType} (hp : ty = .int ∨ ty = .byte ∨ ty = .long) (h : (Cond.arrayClass ty).before args s = true) : ∃ cA, ArrOfT s cA ty ∧ va_RA s cA ty := by
  obtain ⟨c, k, comp, h1, h2, h3⟩ := Cond.arrayClass_spec h
  refine ⟨c, fun n z => ⟨(fun k h => by cases h), k, h2, comp, h3⟩, ?_⟩
  rcases hp with rfl | rfl | rfl <;> exact h1
theorem l_arrq {s : State} {C : String} (h : va_AO C s) : ∃ cA, ArrOfT s cA (.object C) ∧ va_RA s cA (.object C) := by
  obtain ⟨comp, c, k, h1, h2, h3, h4, h5⟩ := Cond.arrayOver_spec h
  exact ⟨c, fun n z => ⟨(fun k h => by cases h), k, h3, comp, h4⟩, k, comp, h3, h4, h1, h5⟩
theorem l_str {args : Array Value} {s : State} {own tx : String} {k : Nat} (h : (Cond.stringRef own k tx).before args s = true) : ∃ sa, vk_R own k tx sa s := by
  have hcur : ∃ cur, s.vm.findClass own = some cur := by
    have h1 := h
    simp only [Cond.before, Cond.holds, Cond.value] at h1
    cases hc : s.vm.findClass own with
    | none => simp [hc] at h1
    | some cur => exact ⟨cur, rfl⟩
  obtain ⟨cur, hcur⟩ := hcur
  obtain ⟨k, cf, i, a, hk, hcf, hcp, -, hr, hev⟩ := Cond.stringRef_spec hcur h
  exact ⟨a, vk_R.of h hev⟩
theorem us_32 : Cond.instantiable RX0 5 ∈ WA := z_in0 _ (List.mem_of_getElem? (i := 32) (by decide +kernel))
theorem us_36 : Cond.instantiable RX1 7 ∈ WA := z_in0 _ (List.mem_of_getElem? (i := 36) (by decide +kernel))
theorem us_15 : Cond.instantiable RX2 2 ∈ WA := z_in0 _ (List.mem_of_getElem? (i := 15) (by decide +kernel))
theorem us_44 : Cond.instantiable RX3 2 ∈ WA := z_in0 _ (List.mem_of_getElem? (i := 44) (by decide +kernel))
theorem us_10 : Cond.instantiable RX4 14 ∈ WA := z_in0 _ (List.mem_of_getElem? (i := 10) (by decide +kernel))
theorem us_22 : Cond.instantiable RX5 11 ∈ WA := z_in0 _ (List.mem_of_getElem? (i := 22) (by decide +kernel))
theorem us_40 : Cond.instantiable RX7 3 ∈ WA := z_in0 _ (List.mem_of_getElem? (i := 40) (by decide +kernel))
theorem us_1 : Cond.instantiable RX8 6 ∈ WA := z_in0 _ (List.mem_of_getElem? (i := 1) (by decide +kernel))
theorem us_28 : Cond.arrayClass .int ∈ WA := z_in0 _ (List.mem_of_getElem? (i := 28) (by decide +kernel))
theorem us_18 : Cond.arrayClass .byte ∈ WA := z_in0 _ (List.mem_of_getElem? (i := 18) (by decide +kernel))
theorem us_0 : Cond.classLink RL 10 RX8 ∈ WA := z_in0 _ (List.mem_of_getElem? (i := 0) (by decide +kernel))
theorem us_2 : Cond.initialized RX8 ∈ WA := z_in0 _ (List.mem_of_getElem? (i := 2) (by decide +kernel))
theorem us_5 : Cond.code yX8_init cX8_init 1 none ∈ WA := z_in0 _ (List.mem_of_getElem? (i := 5) (by decide +kernel))
theorem us_3 : Cond.methodLink RL 72 yX8_init ∈ WA := z_in0 _ (List.mem_of_getElem? (i := 3) (by decide +kernel))
theorem us_4 : Cond.instanceMethod yX8_init ∈ WA := z_in0 _ (List.mem_of_getElem? (i := 4) (by decide +kernel))
theorem qFw_in : ∀ w ∈ qFw, w ∈ lw_tbl := by decide +kernel
set_option maxHeartbeats 8000000 in
set_option maxRecDepth 100000 in
theorem whole_start0 {p : Program} {e : Env} {s : State} {m : MethodId} {below : List Frame} {meth : Method} {c : Code} (l : Launch) {b L : Nat} {xs : Nat → Int32} (C0 : lw_At p s m meth c b L xs) (τ1 : zSt) (ht1 : fX4_startAnew (nI 3) (nI 4) (nI 4) z0 = some τ1) (hlaw : fL_law xs L (cFresh τ1) = some 1) : W p l e room_1 s m #[Value.ref b] below meth c s.heap [] 0 0 (lw_Z below #[Value.ref b] s) (entryFrame m ([Value.ref b] : List Value).toArray 8) := by
  obtain ⟨hx, hb, hr, hml, hown, hts0, hX, hbl, hlocks, hgv⟩ := id C0
  have hts : ∀ w ∈ WA, w.before #[Value.ref b] s = true := fun w h => hts0 w (wsL_law_in w h)
  have hgs := flat_of_before _ hgv
  have hA : ∀ q : Nat, s.heap.size ≤ q → (fun q : Nat => s.heap.size ≤ q) q := fun _ h => h
  have hnA : ∀ q : Nat, q < s.heap.size → ¬ (fun q : Nat => s.heap.size ≤ q) q := fun _ h => Nat.not_le.mpr h
  obtain ⟨cc0, ii0, kk0⟩ := u_known (C := RX0) (T := TX0) (N := 5) (n := 5) hts inlX0 (hts _ us_32)
  obtain ⟨cc1, ii1, kk1⟩ := u_known (C := RX1) (T := TX1) (N := 7) (n := 7) hts inlX1 (hts _ us_36)
  obtain ⟨cc2, ii2, kk2⟩ := u_known (C := RX2) (T := TX2) (N := 2) (n := 2) hts inlX2 (hts _ us_15)
  obtain ⟨cc3, ii3, kk3⟩ := u_known (C := RX3) (T := TX3) (N := 2) (n := 2) hts inlX3 (hts _ us_44)
  obtain ⟨cc4, ii4, kk4⟩ := u_known (C := RX4) (T := TX4) (N := 14) (n := 14) hts inlX4 (hts _ us_10)
  obtain ⟨cc5, ii5, kk5⟩ := u_known (C := RX5) (T := TX5) (N := 11) (n := 11) hts inlX5 (hts _ us_22)
  obtain ⟨cc6, ii6, kk6⟩ := u_known (C := RX7) (T := TX7) (N := 3) (n := 3) hts inlX7 (hts _ us_40)
  obtain ⟨cc7, ii7, kk7⟩ := u_known (C := RX8) (T := TX8) (N := 6) (n := 6) hts inlX8 (hts _ us_1)
  let D : va_G := (fun c => [cc0, cc1, cc2, cc3, cc4, cc5, cc6, cc7].getD c 0, fun c => [ii0, ii1, ii2, ii3, ii4, ii5, ii6, ii7].getD c (fun _ => 0))
  have hK0 : ∀ (c : Nat) (q : vw_C), vwCl[c]? = some q → u_Kn s q.1 q.2.1 q.2.2 (D.1 c) (D.2 c) := by
    intro c q hq
    match c, hq with
    | 0, hq => cases hq; exact kk0
    | 1, hq => cases hq; exact kk1
    | 2, hq => cases hq; exact kk2
    | 3, hq => cases hq; exact kk3
    | 4, hq => cases hq; exact kk4
    | 5, hq => cases hq; exact kk5
    | 6, hq => cases hq; exact kk6
    | 7, hq => cases hq; exact kk7
    | c + 8, hq => exact absurd hq (by simp [vwCl])
  have hN : xN s := ⟨va_AO.of (hts0 (.arrayOver (.object "CacheDiary$Machine")) (by decide +kernel)), va_Nw.of rfl (hts0 (.methodLinkNest RX8 11 yX4_init "CacheDiary") (by decide +kernel)), va_Nw.of rfl (hts0 (.methodLinkNest RX8 40 yX5_init "CacheDiary") (by decide +kernel)), va_Nw.of rfl (hts0 (.methodLinkNest RX2 17 yX4_init "CacheDiary") (by decide +kernel)), va_Nw.of rfl (hts0 (.methodLinkNest RX4 20 yX0_init "CacheDiary") (by decide +kernel)), va_Nw.of rfl (hts0 (.methodLinkNest RX4 27 yX1_init "CacheDiary") (by decide +kernel)), va_Nw.of rfl (hts0 (.methodLinkNest RX4 34 yX7_init "CacheDiary") (by decide +kernel)), va_Nw.of rfl (hts0 (.methodLinkNest RX4 41 yX3_init "CacheDiary") (by decide +kernel))⟩
  obtain ⟨cI, hI1, hI2⟩ := l_arr (Or.inl rfl) (hts _ us_28)
  obtain ⟨cB, hB1, hB2⟩ := l_arr (Or.inr (Or.inl rfl)) (hts _ us_18)
  obtain ⟨cM, hM1, hM2⟩ := l_arrq hN.1
  have hK : va_K D vwCl (tysQ cI cB cM) s := ⟨hK0, fun k q hk => by
    match k, hk with
    | 0, hk => cases hk; exact ⟨hI1, hI2⟩
    | 1, hk => cases hk; exact ⟨hB1, hB2⟩
    | 2, hk => cases hk; exact ⟨hM1, hM2⟩
    | k + 3, hk => exact absurd hk (by simp [tysQ])⟩
  obtain ⟨ad6, hE⟩ : ∃ ad6, oE ad6 (fun q => s.heap.size ≤ q) s s.heap := by
    refine va_Enof (args := #[Value.ref b]) ?_ (hts0 (.initialized "CacheDiary$Place") (by decide +kernel)) ?_ ?_ ?_ hnA
    · intro i hi
      rcases (show i = 0 ∨ i = 1 ∨ i = 2 ∨ i = 3 ∨ i = 4 ∨ i = 5 by have : pl_nm.length = 6 := rfl; omega) with rfl | rfl | rfl | rfl | rfl | rfl <;> exact hts0 _ (by decide +kernel)
    · intro i hi
      rcases (show i = 0 ∨ i = 1 ∨ i = 2 ∨ i = 3 ∨ i = 4 ∨ i = 5 by have : pl_nm.length = 6 := rfl; omega) with rfl | rfl | rfl | rfl | rfl | rfl <;> exact hgs _ (by decide +kernel)
    · intro q hq i hi
      simp only [pl_F, List.mem_cons, List.not_mem_nil, or_false] at hq
      rcases hq with rfl | rfl | rfl <;> rcases (show i = 0 ∨ i = 1 ∨ i = 2 ∨ i = 3 ∨ i = 4 ∨ i = 5 by have : pl_nm.length = 6 := rfl; omega) with rfl | rfl | rfl | rfl | rfl | rfl <;> exact hgs _ (by decide +kernel)
    · intro i j hi hj hij
      rcases (show i = 0 ∨ i = 1 ∨ i = 2 ∨ i = 3 ∨ i = 4 ∨ i = 5 by have : pl_nm.length = 6 := rfl; omega) with rfl | rfl | rfl | rfl | rfl | rfl <;> rcases (show j = 0 ∨ j = 1 ∨ j = 2 ∨ j = 3 ∨ j = 4 ∨ j = 5 by have : pl_nm.length = 6 := rfl; omega) with rfl | rfl | rfl | rfl | rfl | rfl <;> first | exact absurd rfl hij | exact Or.inl (hgs _ (by decide +kernel)) | exact Or.inr (hgs _ (by decide +kernel))
  have hF : qF ad6 (fun q => s.heap.size ≤ q) s s.heap := ⟨hE, vx_Zqof (hts0 _ (by decide +kernel)) (hts0 _ (by decide +kernel)) (hgs _ (by decide +kernel)) hnA, vx_Zqof (hts0 _ (by decide +kernel)) (hts0 _ (by decide +kernel)) (hgs _ (by decide +kernel)) hnA, l_str (hts0 _ (by decide +kernel)), l_str (hts0 _ (by decide +kernel)), l_str (hts0 _ (by decide +kernel)), fun w hw => va_tabs (qFw_f w hw).2 rfl (hts0 w (qFw_in w hw))⟩

  have S : CallFix p m c code 8 s #[Value.ref b] WA RL := ⟨hx, hb, hml, hown, hts⟩
  have hl := lv_entry ([.ref b]) (n := 8) (Nat.le_of_ble_eq_true rfl)
  rw [lg_entry_eq]
  generalize (lg_sl ([.ref b]) ++ List.replicate (8 - (lg_sl ([.ref b])).length) Slot.unset).toArray = ls at hl ⊢
  have hl : lv_has ls 8 [(0, .ref b)] := hl
  have hS : va_S (fun q : Nat => s.heap.size ≤ q) s.heap s.heap [] := va_S.rf
  have hP : va_P D vwCl [] s.heap := fun k q hk => by cases hk
  have hD : va_D (fun q : Nat => s.heap.size ≤ q) [] := ⟨(fun i j p q hi => by cases hi), (fun k q hk => by cases hk)⟩
  refine va_new (ci := 7) (fs := [.null, .null, .null, .null, .int 0, .null]) (C := RX8) (T := TX8) (N := 6) S.1 S.2.1 S.2.2.2.2 inlX8 tyX8 tyX8_ok S.2.2.2.1 (S.2.2.2.2 _ us_0) (S.2.2.2.2 _ us_1) (S.2.2.2.2 _ us_2) hK hP hD hS hA rfl (fun j hj => by rcases (show j = 0 ∨ j = 1 ∨ j = 2 ∨ j = 3 ∨ j = 4 ∨ j = 5 by omega) with rfl | rfl | rfl | rfl | rfl | rfl <;> rfl) (Nat.le_of_ble_eq_true rfl) (Nat.le_of_ble_eq_true rfl) dL_law_0 (fun x8 H1 hP hD hS => ?_)
  refine lv_dup S.1 S.2.1 dL_law_3 rfl ?_
  have hP : va_P D vwCl [(x8, .inr (7, [.null, .null, .null, .null, .int 0, .null]))] H1 := hP
  have hD : va_D (fun q : Nat => s.heap.size ≤ q) [(x8, .inr (7, [.null, .null, .null, .null, .int 0, .null]))] := hD
  have hx8 : s.heap.size ≤ x8 := hD.2 0 _ rfl
  have hFc := va_free (wc := [(x8, .inr (7, [.null, .null, .null, .null, .int 0, .null]))]) hD hS hA [0] rfl
  refine va_callv (va_runI (As := []) (rest := [.ref x8]) S (metX8_init l D cI cB cM ad6 x8 H1.size τ1 ht1) (cwI 0 S.2.2.2.2 (z_goodc us_5) rfl rfl rfl (S.2.2.2.2 _ us_2) (S.2.2.2.2 _ us_3) (S.2.2.2.2 _ us_4) rfl (by decide +kernel) ⟨Nat.le_of_ble_eq_true rfl, Nat.le_of_ble_eq_true rfl⟩) ⟨blind_X8_init _ _ _ _ _ _ _, fun U hU hW => ⟨rfl, by rw [hU], by rw [hU]; exact hP, va_K.moved hW.alike hK, xN.warm hW hN, hD.weaken (fun _ _ _ _ => trivial), by rw [hU]; exact va_En.moved hW.alike (va_En.narrow (va_En.kept hF.1 hS.2.1) hFc)⟩⟩ rfl rfl hl.1 rfl (lv_room (Nat.le_of_ble_eq_true rfl)) dL_law_4 ⟨Nat.le_of_ble_eq_true rfl, Nat.le_of_ble_eq_true rfl⟩) hS (fun q _ h => hFc q h) hFc (fun a t H2 locs ht hvm hw hB hz1 hk1 hS => ?_)
  obtain ⟨G, hPn, hDG, -⟩ := hB
  rw [ht] at hPn
  subst hw
  refine lv_astore_n (lv' := [(1, .ref (a 0 0)), (0, .ref b)]) S.1 S.2.1 dL_law_7 rfl hl (by decide) rfl (fun ls hl => ?_)
  refine W.widen (k := 600130) (n := 7301079) (by omega) (by omega) ?_
  exact bdL_law8 S ⟨hK, hF⟩ ⟨hX, hbl, Nat.not_le.mpr hbl, fun _ h => h⟩ hr hlocks (cFresh τ1) hlaw hl ⟨G, hPn, ⟨fun k hk => hFc _ (hDG.1 k hk), hDG.2⟩, hS⟩
