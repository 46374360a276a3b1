/-! the start (by wip/tools/lstart.py) -/
set_option maxHeartbeats 8000000 in
set_option maxRecDepth 100000 in
theorem whole_start0 {p : Program} {e : Env} {s : State} {m : MethodId} {below : List Frame} {meth : Method} {c : Code} (l : Launch) (hflags : l.flags = flags0) {b L : Nat} {xs : Nat → Int32} (hL : L ≤ 2048) (C0 : lw_At p s m meth c b L xs) {Rel : zSt → cSt → Prop} (hops : lOps Rel) (τ1 σ1 : zSt) (ht1 : fX4_startAnew (nI 3) (nI 4) (nI 4) z0 = some τ1) (hs1 : fX9_anew (nI 3) (nI 4) (nI 4) z0 = some σ1) (hR1 : Rel σ1 (cFresh τ1)) : W p l e room_1 s m #[Value.ref b] below meth c s.heap [] 0 0 (lw_Z below #[Value.ref b] s) (entryFrame m ([Value.ref b] : List Value).toArray 9) := by
  obtain ⟨hx, hb, hr, hml, hown, hts0, hX, hbl, hlocks, hgv⟩ := id C0
  have hfl : l.stackTraces = false := by unfold Launch.stackTraces; rw [hflags]; decide
  have hts : ∀ w ∈ WA, w.before #[Value.ref b] s = true := fun w h => hts0 w (wsL_law_in w h)
  have hgs := flat_of_before _ hgv
  have hA : ∀ q : Nat, s.heap.size ≤ q → (fun q : Nat => s.heap.size ≤ q) q := fun _ h => h
  have hnA : ∀ q : Nat, q < s.heap.size → ¬ (fun q : Nat => s.heap.size ≤ q) q := fun _ h => Nat.not_le.mpr h
  obtain ⟨cc0, ii0, kk0⟩ := u_known (C := RX0) (T := TX0) (N := 5) (n := 5) hts inlX0 (hts _ us_36)
  obtain ⟨cc1, ii1, kk1⟩ := u_known (C := RX1) (T := TX1) (N := 7) (n := 7) hts inlX1 (hts _ us_40)
  obtain ⟨cc2, ii2, kk2⟩ := u_known (C := RX2) (T := TX2) (N := 2) (n := 2) hts inlX2 (hts _ us_19)
  obtain ⟨cc3, ii3, kk3⟩ := u_known (C := RX3) (T := TX3) (N := 2) (n := 2) hts inlX3 (hts _ us_48)
  obtain ⟨cc4, ii4, kk4⟩ := u_known (C := RX4) (T := TX4) (N := 14) (n := 14) hts inlX4 (hts _ us_14)
  obtain ⟨cc5, ii5, kk5⟩ := u_known (C := RX5) (T := TX5) (N := 11) (n := 11) hts inlX5 (hts _ us_26)
  obtain ⟨cc6, ii6, kk6⟩ := u_known (C := RX7) (T := TX7) (N := 3) (n := 3) hts inlX7 (hts _ us_44)
  obtain ⟨cc7, ii7, kk7⟩ := u_known (C := RX8) (T := TX8) (N := 6) (n := 6) hts inlX8 (hts _ us_1)
  obtain ⟨cc8, ii8, kk8⟩ := u_known (C := RX9) (T := TX9) (N := 9) (n := 9) hts inlX9 (hts _ us_4)
  let D : va_G := (fun c => [cc0, cc1, cc2, cc3, cc4, cc5, cc6, cc7, cc8].getD c 0, fun c => [ii0, ii1, ii2, ii3, ii4, ii5, ii6, ii7, ii8].getD c (fun _ => 0))
  have hK0 : ∀ (c : Nat) (q : vw_C), vwCl[c]? = some q → u_Kn s q.1 q.2.1 q.2.2 (D.1 c) (D.2 c) := by
    intro c q hq
    match c, hq with
    | 0, hq => cases hq; exact kk0
    | 1, hq => cases hq; exact kk1
    | 2, hq => cases hq; exact kk2
    | 3, hq => cases hq; exact kk3
    | 4, hq => cases hq; exact kk4
    | 5, hq => cases hq; exact kk5
    | 6, hq => cases hq; exact kk6
    | 7, hq => cases hq; exact kk7
    | 8, hq => cases hq; exact kk8
    | c + 9, hq => exact absurd hq (by simp [vwCl])
  have hN : xN s := ⟨va_AO.of (hts0 (.arrayOver (.object "CacheDiary$Machine")) (by decide +kernel)), va_Nw.of rfl (hts0 (.methodLinkNest RX8 11 yX4_init "CacheDiary") (by decide +kernel)), va_Nw.of rfl (hts0 (.methodLinkNest RX8 40 yX5_init "CacheDiary") (by decide +kernel)), va_Nw.of rfl (hts0 (.methodLinkNest RX2 17 yX4_init "CacheDiary") (by decide +kernel)), va_Nw.of rfl (hts0 (.methodLinkNest RX4 20 yX0_init "CacheDiary") (by decide +kernel)), va_Nw.of rfl (hts0 (.methodLinkNest RX4 27 yX1_init "CacheDiary") (by decide +kernel)), va_Nw.of rfl (hts0 (.methodLinkNest RX4 34 yX7_init "CacheDiary") (by decide +kernel)), va_Nw.of rfl (hts0 (.methodLinkNest RX4 41 yX3_init "CacheDiary") (by decide +kernel))⟩
  obtain ⟨cI, hI1, hI2⟩ := l_arr (Or.inl rfl) (hts _ us_32)
  obtain ⟨cB, hB1, hB2⟩ := l_arr (Or.inr (Or.inl rfl)) (hts _ us_22)
  obtain ⟨cM, hM1, hM2⟩ := l_arrq hN.1
  have hK : va_K D vwCl (tysQ cI cB cM) s := ⟨hK0, fun k q hk => by
    match k, hk with
    | 0, hk => cases hk; exact ⟨hI1, hI2⟩
    | 1, hk => cases hk; exact ⟨hB1, hB2⟩
    | 2, hk => cases hk; exact ⟨hM1, hM2⟩
    | k + 3, hk => exact absurd hk (by simp [tysQ])⟩
  obtain ⟨ad6, hE⟩ : ∃ ad6, oE ad6 (fun q => s.heap.size ≤ q) s s.heap := by
    refine va_Enof (args := #[Value.ref b]) ?_ (hts0 (.initialized "CacheDiary$Place") (by decide +kernel)) ?_ ?_ ?_ hnA
    · intro i hi
      rcases (show i = 0 ∨ i = 1 ∨ i = 2 ∨ i = 3 ∨ i = 4 ∨ i = 5 by have : pl_nm.length = 6 := rfl; omega) with rfl | rfl | rfl | rfl | rfl | rfl <;> exact hts0 _ (by decide +kernel)
    · intro i hi
      rcases (show i = 0 ∨ i = 1 ∨ i = 2 ∨ i = 3 ∨ i = 4 ∨ i = 5 by have : pl_nm.length = 6 := rfl; omega) with rfl | rfl | rfl | rfl | rfl | rfl <;> exact hgs _ (by decide +kernel)
    · intro q hq i hi
      simp only [pl_F, List.mem_cons, List.not_mem_nil, or_false] at hq
      rcases hq with rfl | rfl | rfl <;> rcases (show i = 0 ∨ i = 1 ∨ i = 2 ∨ i = 3 ∨ i = 4 ∨ i = 5 by have : pl_nm.length = 6 := rfl; omega) with rfl | rfl | rfl | rfl | rfl | rfl <;> exact hgs _ (by decide +kernel)
    · intro i j hi hj hij
      rcases (show i = 0 ∨ i = 1 ∨ i = 2 ∨ i = 3 ∨ i = 4 ∨ i = 5 by have : pl_nm.length = 6 := rfl; omega) with rfl | rfl | rfl | rfl | rfl | rfl <;> rcases (show j = 0 ∨ j = 1 ∨ j = 2 ∨ j = 3 ∨ j = 4 ∨ j = 5 by have : pl_nm.length = 6 := rfl; omega) with rfl | rfl | rfl | rfl | rfl | rfl <;> first | exact absurd rfl hij | exact Or.inl (hgs _ (by decide +kernel)) | exact Or.inr (hgs _ (by decide +kernel))
  have hF : qF ad6 (fun q => s.heap.size ≤ q) s s.heap := ⟨hE, vx_Zqof (hts0 _ (by decide +kernel)) (hts0 _ (by decide +kernel)) (hgs _ (by decide +kernel)) hnA, vx_Zqof (hts0 _ (by decide +kernel)) (hts0 _ (by decide +kernel)) (hgs _ (by decide +kernel)) hnA, l_str (hts0 _ (by decide +kernel)), l_str (hts0 _ (by decide +kernel)), l_str (hts0 _ (by decide +kernel)), fun w hw => va_tabs (qFw_f w hw).2 rfl (hts0 w (qFw_in w hw))⟩
  have hY : lY s := by
    refine ⟨fun k => ?_, fun j k hjk => ?_⟩
    · match k with
      | 0 => exact va_Nw.of rfl (hts0 _ (by decide +kernel))
      | 1 => exact va_Nw.of rfl (hts0 _ (by decide +kernel))
      | k + 2 => exact va_Nw.of rfl (hts0 (.castable "java/lang/IllegalStateException" "java/lang/IllegalStateException") (by decide +kernel))
    · match j, k with
      | 0, 0 => exact absurd rfl hjk
      | 0, 1 => exact va_Nc.of (hgs (.not (.castable "java/lang/IndexOutOfBoundsException" "java/lang/IllegalArgumentException")) (by decide +kernel))
      | 0, k + 2 => exact va_Nc.of (hgs (.not (.castable "java/lang/IndexOutOfBoundsException" "java/lang/IllegalStateException")) (by decide +kernel))
      | 1, 0 => exact va_Nc.of (hgs (.not (.castable "java/lang/IllegalArgumentException" "java/lang/IndexOutOfBoundsException")) (by decide +kernel))
      | 1, 1 => exact absurd rfl hjk
      | 1, k + 2 => exact va_Nc.of (hgs (.not (.castable "java/lang/IllegalArgumentException" "java/lang/IllegalStateException")) (by decide +kernel))
      | j + 2, 0 => exact va_Nc.of (hgs (.not (.castable "java/lang/IllegalStateException" "java/lang/IndexOutOfBoundsException")) (by decide +kernel))
      | j + 2, 1 => exact va_Nc.of (hgs (.not (.castable "java/lang/IllegalStateException" "java/lang/IllegalArgumentException")) (by decide +kernel))
      | j + 2, k + 2 => exact absurd rfl hjk
  have hd0 := Drawn.sameBut.refl s.drawn lw_cs
  refine W.base ?_
  have S0 : CallFix p m c code 9 s #[Value.ref b] WA RL := ⟨hx, hb, hml, hown, hts⟩
  have S := S_drawn S0 s.drawn
  have hK : va_K D vwCl (tysQ cI cB cM) (s.setDrawn s.drawn) := hK
  have hN : xN (s.setDrawn s.drawn) := xN.same (u := s) rfl hN
  have hF0 := hF
  have hF : qF ad6 (fun q => s.heap.size ≤ q) (s.setDrawn s.drawn) s.heap := qF.same (u := s) rfl hF
  have hl := lv_entry ([.ref b]) (n := 9) (Nat.le_of_ble_eq_true rfl)
  rw [lg_entry_eq]
  generalize (lg_sl ([.ref b]) ++ List.replicate (9 - (lg_sl ([.ref b])).length) Slot.unset).toArray = ls at hl ⊢
  have hl : lv_has ls 9 [(0, .ref b)] := hl
  have hS : va_S (fun q : Nat => s.heap.size ≤ q) (s.setDrawn s.drawn).heap s.heap [] := va_S.rf
  have hP : va_P D vwCl [] s.heap := fun k q hk => by cases hk
  have hD : va_D (fun q : Nat => s.heap.size ≤ q) [] := ⟨(fun i j p q hi => by cases hi), (fun k q hk => by cases hk)⟩
  refine va_new (ci := 7) (fs := [.null, .null, .null, .null, .int 0, .null]) (C := RX8) (T := TX8) (N := 6) S.1 S.2.1 S.2.2.2.2 inlX8 tyX8 tyX8_ok S.2.2.2.1 (S.2.2.2.2 _ us_0) (S.2.2.2.2 _ us_1) (S.2.2.2.2 _ us_2) hK hP hD hS hA rfl (fun j hj => by rcases (show j = 0 ∨ j = 1 ∨ j = 2 ∨ j = 3 ∨ j = 4 ∨ j = 5 by omega) with rfl | rfl | rfl | rfl | rfl | rfl <;> rfl) (Nat.le_of_ble_eq_true rfl) (Nat.le_of_ble_eq_true rfl) dL_law_0 (fun x8 H1 hP hD hS => ?_)
  refine lv_dup S.1 S.2.1 dL_law_3 rfl ?_
  have hP : va_P D vwCl [(x8, .inr (7, [.null, .null, .null, .null, .int 0, .null]))] H1 := hP
  have hD : va_D (fun q : Nat => s.heap.size ≤ q) [(x8, .inr (7, [.null, .null, .null, .null, .int 0, .null]))] := hD
  have hx8 : s.heap.size ≤ x8 := hD.2 0 _ rfl
  have hFc := va_free (wc := [(x8, .inr (7, [.null, .null, .null, .null, .int 0, .null]))]) hD hS hA [0] rfl
  refine va_callv (va_runI (As := []) (rest := [.ref x8]) S (metX8_init l D cI cB cM ad6 x8 H1.size τ1 ht1) (cwI 0 S.2.2.2.2 (z_goodc us_9) rfl rfl rfl (S.2.2.2.2 _ us_2) (S.2.2.2.2 _ us_7) (S.2.2.2.2 _ us_8) rfl (by decide +kernel) ⟨Nat.le_of_ble_eq_true rfl, Nat.le_of_ble_eq_true rfl⟩) ⟨blind_X8_init _ _ _ _ _ _ _, fun U hU hW => ⟨rfl, by rw [hU], by rw [hU]; exact hP, va_K.moved hW.alike hK, xN.warm hW hN, hD.weaken (fun _ _ _ _ => trivial), by rw [hU]; exact va_En.moved hW.alike (va_En.narrow (va_En.kept hF.1 hS.2.1) hFc)⟩⟩ rfl rfl hl.1 rfl (lv_room (Nat.le_of_ble_eq_true rfl)) dL_law_4 ⟨Nat.le_of_ble_eq_true rfl, Nat.le_of_ble_eq_true rfl⟩) hS (fun q _ h => hFc q h) hFc (fun a t H2 locs ht hvm hw hB hz1 hk1 hS => ?_)
  obtain ⟨G, hPn, hDG, -⟩ := hB
  rw [ht] at hPn
  have hSn := hS
  subst hw
  have hP := hPn
  have hS := hSn
  have hD : va_D (fun q : Nat => s.heap.size ≤ q) (wQ cI cB cM ad6 a G (cFresh τ1)) := (qD_va hDG cI cB cM ad6 (cFresh τ1)).weaken fun k q hk hq => hFc _ hq
  refine lv_astore_n (lv' := [(1, .ref (a 0 0)), (0, .ref b)]) S.1 S.2.1 dL_law_7 rfl hl (by decide) rfl (fun ls hl => ?_)
  refine va_new (ci := 8) (fs := [.null, .null, .null, .int 0, .null, .int 0, .int 0, .int 0, .null]) (C := RX9) (T := TX9) (N := 9) S.1 S.2.1 S.2.2.2.2 inlX9 tyX9 tyX9_ok S.2.2.2.1 (S.2.2.2.2 _ us_3) (S.2.2.2.2 _ us_4) (S.2.2.2.2 _ us_5) hK hP hD hS hA rfl (fun j hj => by rcases (show j = 0 ∨ j = 1 ∨ j = 2 ∨ j = 3 ∨ j = 4 ∨ j = 5 ∨ j = 6 ∨ j = 7 ∨ j = 8 by omega) with rfl | rfl | rfl | rfl | rfl | rfl | rfl | rfl | rfl <;> rfl) (Nat.le_of_ble_eq_true rfl) (Nat.le_of_ble_eq_true rfl) dL_law_8 (fun h H3 hP hD hS => ?_)
  refine lv_dup S.1 S.2.1 dL_law_11 rfl ?_
  have hPc : va_P D vwCl [(h, .inr (8, [.null, .null, .null, .int 0, .null, .int 0, .int 0, .int 0, .null]))] H3 := (z_app.mp hP).2
  have hDc : va_D (fun q : Nat => s.heap.size ≤ q) [(h, .inr (8, [.null, .null, .null, .int 0, .null, .int 0, .int 0, .int 0, .null]))] := hD.sub (ws' := [(h, .inr (8, [.null, .null, .null, .int 0, .null, .int 0, .int 0, .int 0, .null]))]) [104] (by decide) rfl
  have hFc := va_free (wc := [(h, .inr (8, [.null, .null, .null, .int 0, .null, .int 0, .int 0, .int 0, .null]))]) hD hS hA [104] rfl
  refine va_callv (va_runI (As := []) (rest := [.ref h]) S (metX9_init l D cI cB cM h H3.size σ1 hs1) (cwI 0 S.2.2.2.2 (z_goodc us_127) rfl rfl rfl (S.2.2.2.2 _ us_5) (S.2.2.2.2 _ us_125) (S.2.2.2.2 _ us_126) rfl (by decide +kernel) ⟨Nat.le_of_ble_eq_true rfl, Nat.le_of_ble_eq_true rfl⟩) ⟨blind_X9_init _ _ _ _ _ _, fun U hU hW => ⟨rfl, by rw [hU], by rw [hU]; exact hPc, va_K.moved hW.alike hK, xN.warm hW hN, hDc.weaken (fun _ _ _ _ => trivial)⟩⟩ rfl rfl hl.1 rfl (lv_room (Nat.le_of_ble_eq_true rfl)) dL_law_12 ⟨Nat.le_of_ble_eq_true rfl, Nat.le_of_ble_eq_true rfl⟩) hS (fun q _ h => hFc q h) hFc (fun ad t H4 locs4 ht hvm hw hB hz1 hk1 hS => ?_)
  obtain ⟨hP1, -, hD1⟩ := hB
  rw [ht] at hP1
  obtain ⟨hP, hD⟩ := va_join (wr := wQ cI cB cM ad6 a G (cFresh τ1)) (w1 := wM h ad cI σ1) hP hD [104] [0, 1, 2, 3, 4, 5, 6, 7, 8, 9, 10, 11, 12, 13, 14, 15, 16, 17, 18, 19, 20, 21, 22, 23, 24, 25, 26, 27, 28, 29, 30, 31, 32, 33, 34, 35, 36, 37, 38, 39, 40, 41, 42, 43, 44, 45, 46, 47, 48, 49, 50, 51, 52, 53, 54, 55, 56, 57, 58, 59, 60, 61, 62, 63, 64, 65, 66, 67, 68, 69, 70, 71, 72, 73, 74, 75, 76, 77, 78, 79, 80, 81, 82, 83, 84, 85, 86, 87, 88, 89, 90, 91, 92, 93, 94, 95, 96, 97, 98, 99, 100, 101, 102, 103] rfl rfl (by decide) (by decide) hk1 hFc hP1 hD1
  refine lv_astore_n (lv' := [(2, .ref h), (1, .ref (a 0 0)), (0, .ref b)]) S.1 S.2.1 dL_law_15 rfl hl (by decide) rfl (fun ls hl => ?_)
  refine lv_iconst (v := nI 1) S.1 S.2.1 dL_law_16 (by decide) ?_
  refine va_newa (atype := .long) S.1 S.2.1 (S.2.2.2.2 _ us_6) rfl hK hP hD hS hA (a0 := (1, .inr (.inl (fun _ => 0)))) (fun _ => rfl) (nI_pos (n := 1) (by omega)) (nI_clamp (n := 1) (by omega)) (by decide) (Nat.le_of_ble_eq_true rfl) (Nat.le_of_ble_eq_true rfl) dL_law_17 (fun ao cL H5 K2 hP hD hS => ?_)
  refine lv_astore_n (lv' := [(3, .ref ao), (2, .ref h), (1, .ref (a 0 0)), (0, .ref b)]) S.1 S.2.1 dL_law_19 rfl hl (by decide) rfl (fun ls hl => ?_)
  refine lv_iconst (v := nI 0) S.1 S.2.1 dL_law_20 (by decide) ?_
  refine lv_istore (lv' := [(4, .int (nI 0)), (3, .ref ao), (2, .ref h), (1, .ref (a 0 0)), (0, .ref b)]) S.1 S.2.1 dL_law_21 hl (by decide) rfl (fun ls hl => ?_)
  have hQ : ∀ k, k < 104 → ∃ e, (wQ cI cB cM ad6 a G (cFresh τ1) ++ wM h ad cI σ1 ++ [(ao, .inl (cL, 1, .inr (.inl (fun _ => 0))))])[k]? = some (qAd a G k, e) := fun k hk => by
    obtain ⟨e, he⟩ := z_fst_at (wQ_fst cI cB cM ad6 a G (cFresh τ1)) hk
    exact ⟨e, by rw [List.append_assoc, List.getElem?_append_left (List.getElem?_eq_some_iff.mp he).1]; exact he⟩
  have hM : ∀ k, k < 6 → ∃ e, (wQ cI cB cM ad6 a G (cFresh τ1) ++ wM h ad cI σ1 ++ [(ao, .inl (cL, 1, .inr (.inl (fun _ => 0))))])[104 + k]? = some (mAd h ad k, e) := fun k hk => by
    obtain ⟨e, he⟩ := z_fst_at (wM_fst h ad cI σ1) hk
    refine ⟨e, ?_⟩
    have hlen : (wQ cI cB cM ad6 a G (cFresh τ1)).length = 104 := rfl
    rw [List.append_assoc, List.getElem?_append_right (by omega), hlen, Nat.add_sub_cancel_left, List.getElem?_append_left (List.getElem?_eq_some_iff.mp he).1]
    exact he
  have hO : (wQ cI cB cM ad6 a G (cFresh τ1) ++ wM h ad cI σ1 ++ [(ao, .inl (cL, 1, .inr (.inl (fun _ => 0))))])[110]? = some (ao, .inl (cL, 1, .inr (.inl (fun _ => 0)))) := rfl
  have hmA : ∀ q, mA h ad q → ∃ k, k < 6 ∧ q = mAd h ad k := fun q hq => mA_ad.mp hq
  have hMge : ∀ q, mA h ad q → s.heap.size ≤ q := fun q hq => by
    obtain ⟨k, hk, e⟩ := hmA q hq
    obtain ⟨e1, h1⟩ := hM k hk
    rw [e]
    exact hD.2 _ _ h1
  have hMo : ¬ mA h ad ao := fun hq => by
    obtain ⟨k, hk, e⟩ := hmA ao hq
    obtain ⟨e1, h1⟩ := hM k hk
    have := hD.1 _ _ _ _ h1 hO e.symm
    omega
  let A : Nat → Prop := fun q => s.heap.size ≤ q ∧ q ≠ ao ∧ ¬ mA h ad q
  have hDA : qD A a G := by
    refine ⟨fun k hk => ?_, fun j k hj hk e => ?_⟩
    · obtain ⟨e1, h1⟩ := hQ k hk
      refine ⟨hD.2 _ _ h1, fun e => ?_, fun hq => ?_⟩
      · have := hD.1 _ _ _ _ h1 hO e
        omega
      · obtain ⟨i, hi, e⟩ := hmA _ hq
        obtain ⟨e2, h2⟩ := hM i hi
        have := hD.1 _ _ _ _ h1 h2 e
        omega
    · exact hDG.2 j k hj hk e
  have hPo : va_P D vwCl [(ao, .inl (cL, 1, .inr (.inl (fun _ => 0))))] H5 := (z_app.mp hP).2
  have hPq : va_P D vwCl (wQ cI cB cM ad6 a G (cFresh τ1)) H5 := (z_app.mp (z_app.mp hP).1).1
  have hPm : va_P D vwCl (wM h ad cI σ1) H5 := (z_app.mp (z_app.mp hP).1).2
  have hFx : lFx D cI cB cM cL ad6 a A h ad ao cI b L xs s := ⟨K2, hF0, hY, ⟨hX, hbl⟩, fun q hq => hq.1, hMge, hD.2 _ _ hO, fun hq => hq.2.1 rfl, fun q hq hq2 => hq2.2.2 hq, hMo, fun i j hi hj e => by
    obtain ⟨e1, h1⟩ := hM i hi
    obtain ⟨e2, h2⟩ := hM j hj
    have := hD.1 _ _ _ _ h1 h2 e
    omega, rfl⟩
  have hlS : lS D cI cB cM cL ad6 a A h ad ao (s.setDrawn s.drawn) (cFresh τ1) σ1 (fun _ => 0) H5 locs4 := ⟨G, lw_P.mpr ⟨hPq, hPo⟩, hDA, hPm, hS⟩
  exact law_loop hops hfl S0 hFx hL hr hlocks (L + 1) 0 (by omega) (by omega) s.drawn hd0 (cFresh τ1) σ1 (fun _ => 0) H5 locs4 ls hR1 (lv_sub hl [4, 3, 2, 1, 0] rfl) hlS
