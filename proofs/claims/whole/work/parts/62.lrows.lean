/-! rows of the law's world: both objects and the row of the answer (by wip/tools/law.py) -/
def lS (D : va_G) (cI cB cM cL : ClassId) (ad6 : Nat → Nat) (a : Nat → Nat → Nat) (A : Nat → Prop) (h : Nat) (ad : Nat → Nat) (ao : Nat) (s : State) (χ : cSt) (σ : zSt) (f : Nat → Int64) (H : Heap) (locs : List Loc) : Prop := ∃ G : Nat → Nat → Nat, va_P D vwCl (wL cI cB cM cL ad6 a G ao χ f) H ∧ qD A a G ∧ va_P D vwCl (wM h ad cI σ) H ∧ va_S (fun q => s.heap.size ≤ q) s.heap H locs
def lFx (D : va_G) (cI cB cM cL : ClassId) (ad6 : Nat → Nat) (a : Nat → Nat → Nat) (A : Nat → Prop) (h : Nat) (ad : Nat → Nat) (ao : Nat) (cI2 : ClassId) (b L : Nat) (xs : Nat → Int32) (s : State) : Prop := va_K D vwCl (tysQ cI cB cM ++ [(cL, .long)]) s ∧ qF ad6 (fun q => s.heap.size ≤ q) s s.heap ∧ lY s ∧ (va_X b L xs s s.heap ∧ b < s.heap.size) ∧ (∀ q, A q → s.heap.size ≤ q) ∧ (∀ q, mA h ad q → s.heap.size ≤ q) ∧ s.heap.size ≤ ao ∧ ¬ A ao ∧ (∀ q, mA h ad q → ¬ A q) ∧ ¬ mA h ad ao ∧ (∀ i j, i < 6 → j < 6 → mAd h ad i = mAd h ad j → i = j) ∧ cI2 = cI
theorem lFx.drawn {D : va_G} {cI cB cM cL : ClassId} {ad6 : Nat → Nat} {a : Nat → Nat → Nat} {A : Nat → Prop} {h : Nat} {ad : Nat → Nat} {ao : Nat} {cI2 : ClassId} {b L : Nat} {xs : Nat → Int32} {s : State} (F : lFx D cI cB cM cL ad6 a A h ad ao cI2 b L xs s) (d : Drawn) : lFx D cI cB cM cL ad6 a A h ad ao cI2 b L xs (s.setDrawn d) := by
  obtain ⟨h1, h2, h3, h4, h5⟩ := F
  exact ⟨h1, qF.same (u := s) rfl h2, lY.same (u := s) rfl h3, h4, h5⟩
theorem mD_of {h : Nat} {ad : Nat → Nat} {cI : ClassId} {σ : zSt} (hd : ∀ i j, i < 6 → j < 6 → mAd h ad i = mAd h ad j → i = j) : va_D (mA h ad) (wM h ad cI σ) := by
  refine ⟨fun i j p q hi hj e => ?_, fun k q hk => ?_⟩
  · obtain ⟨i1, i2⟩ := z_fst (wM_fst h ad cI σ) hi
    obtain ⟨j1, j2⟩ := z_fst (wM_fst h ad cI σ) hj
    exact hd i j i1 j1 (by rw [← i2, ← j2]; exact e)
  · obtain ⟨k1, k2⟩ := z_fst (wM_fst h ad cI σ) hk
    exact mA_ad.mpr ⟨k, k1, k2⟩
theorem l_keepM {D : va_G} {h : Nat} {ad : Nat → Nat} {cI : ClassId} {σ : zSt} {H H1 : Heap} {B : Nat → Prop} (hP : va_P D vwCl (wM h ad cI σ) H) (hk : ∀ q : Nat, q < H.size → ¬ B q → H1[q]? = H[q]?) (hB : ∀ q, mA h ad q → ¬ B q) : va_P D vwCl (wM h ad cI σ) H1 := z_keepP hP hk fun k q hq => hB _ (mA_ad.mpr (by
  obtain ⟨k1, k2⟩ := z_fst (wM_fst h ad cI σ) hq
  exact ⟨k, k1, k2⟩))
theorem l_keepL {D : va_G} {cI cB cM cL : ClassId} {ad6 : Nat → Nat} {a G : Nat → Nat → Nat} {ao : Nat} {χ : cSt} {f : Nat → Int64} {A : Nat → Prop} {H H1 : Heap} {B : Nat → Prop} (hP : va_P D vwCl (wL cI cB cM cL ad6 a G ao χ f) H) (hD : qD A a G) (hk : ∀ q : Nat, q < H.size → ¬ B q → H1[q]? = H[q]?) (hB : ∀ q, A q → ¬ B q) (ho : ¬ B ao) : va_P D vwCl (wL cI cB cM cL ad6 a G ao χ f) H1 :=
  lw_P.mpr ⟨z_keepP (lw_P.mp hP).1 hk fun k q hq => hB _ ((qD_va hD cI cB cM ad6 χ).2 k q hq), l_out (lw_P.mp hP).2 hk ho⟩
section LR
variable {p : Program} {l : Launch} {e : Env} {R : Room} {s : State} {m : MethodId} {args : Array Value} {below : List Frame} {meth : Method} {c : Code} {H : Heap} {locs : List Loc} {cells slots : Nat} {Q : State → Prop}
variable {cc : ByteArray} {nL pc : Nat} {own : String} {ls : Array Slot} {rest st0 : List Value} {D : va_G} {cI cB cM cL : ClassId} {ad6 : Nat → Nat} {a : Nat → Nat → Nat} {A : Nat → Prop} {h : Nat} {ad : Nat → Nat} {ao : Nat} {cI2 : ClassId} {b L : Nat} {xs : Nat → Int32} {χ : cSt} {σ : zSt} {f : Nat → Int64}
theorem l_c9 {index n maxL : Nat} {y : MethodName} {bytes : ByteArray} {rm : Room} {As : List Value} {r0 : Int32} {σ0 : zSt} (S : CallFix p m c cc nL s args WA own) (F : lFx D cI cB cM cL ad6 a A h ad ao cI2 b L xs s) (hs : lS D cI cB cM cL ad6 a A h ad ao s χ σ f H locs) (hl : ls.size = nL) (hM : Met l y (Cond.code y bytes maxL (some .int) :: WA) rm (mPc D cI h ad σ (.ref h :: As)) (mQi D cI h ad r0 σ0) 0 0 (mA h ad)) (cw : CallW R s args own RX9 index y bytes maxL (some .int) (Cond.code y bytes maxL (some .int) :: WA) rm 0 0 n) (hn : As.length = n) (hdg : decode cc pc = .ok (.invokevirtual index, 3)) (hst : st0 = As.reverse ++ .ref h :: rest) (hroom : (rest.map fun v => v.category).sum ≤ 8) (hfit : cells + 0 ≤ R.cells ∧ slots + 0 ≤ R.slots)
    (kk : ∀ (H1 : Heap) (locs1 : List Loc), lS D cI cB cM cL ad6 a A h ad ao s χ σ0 f H1 locs1 → W p l e R s m args below meth c H1 locs1 cells slots Q (F0 m (pc + 3) ls (.int r0 :: rest))) : W p l e R s m args below meth c H locs cells slots Q (F0 m pc ls st0) := by
  obtain ⟨hK, hF, hY, hX, hA, hMA, hao, hAo, hMn, hMo, hmd, -⟩ := F
  obtain ⟨G, hP, hD, hPm, hS⟩ := hs
  refine va_calli (va_runV (As := As) (rest := rest) S hM cw ⟨mPc_blind _ _ _ _ _ _, va_recv hK hPm (ci := 8) (q0 := 0) rfl rfl, fun U hU hW => ⟨rfl, by rw [hU]; exact hPm, (va_K.moved hW.alike hK).sub [0] rfl, mD_of hmd⟩⟩ rfl hn hl hst (lv_room hroom) hdg hfit) hS (fun q _ h => hMA q h) (fun q h => hMA q h) (fun r1 u t H1 locs1 ht hvm hw hB hz1 hk1 hS => ?_)
  obtain ⟨hP1, -, -⟩ := hB
  rw [ht] at hP1
  subst hw
  exact kk H1 locs1 ⟨G, l_keepL hP hD hk1 (fun q hq hm => hMn q hm hq) hMo, hD, hP1, hS⟩
theorem l_c9l {index n maxL : Nat} {y : MethodName} {bytes : ByteArray} {rm : Room} {As : List Value} {r0 : Int64} {σ0 : zSt} (S : CallFix p m c cc nL s args WA own) (F : lFx D cI cB cM cL ad6 a A h ad ao cI2 b L xs s) (hs : lS D cI cB cM cL ad6 a A h ad ao s χ σ f H locs) (hl : ls.size = nL) (hM : Met l y (Cond.code y bytes maxL (some .long) :: WA) rm (mPc D cI h ad σ (.ref h :: As)) (mQl D cI h ad r0 σ0) 0 0 (mA h ad)) (cw : CallW R s args own RX9 index y bytes maxL (some .long) (Cond.code y bytes maxL (some .long) :: WA) rm 0 0 n) (hn : As.length = n) (hdg : decode cc pc = .ok (.invokevirtual index, 3)) (hst : st0 = As.reverse ++ .ref h :: rest) (hroom : (rest.map fun v => v.category).sum ≤ 8) (hfit : cells + 0 ≤ R.cells ∧ slots + 0 ≤ R.slots)
    (kk : ∀ (H1 : Heap) (locs1 : List Loc), lS D cI cB cM cL ad6 a A h ad ao s χ σ0 f H1 locs1 → W p l e R s m args below meth c H1 locs1 cells slots Q (F0 m (pc + 3) ls (.long r0 :: rest))) : W p l e R s m args below meth c H locs cells slots Q (F0 m pc ls st0) := by
  obtain ⟨hK, hF, hY, hX, hA, hMA, hao, hAo, hMn, hMo, hmd, -⟩ := F
  obtain ⟨G, hP, hD, hPm, hS⟩ := hs
  refine va_calll (va_runV (As := As) (rest := rest) S hM cw ⟨mPc_blind _ _ _ _ _ _, va_recv hK hPm (ci := 8) (q0 := 0) rfl rfl, fun U hU hW => ⟨rfl, by rw [hU]; exact hPm, (va_K.moved hW.alike hK).sub [0] rfl, mD_of hmd⟩⟩ rfl hn hl hst (lv_room hroom) hdg hfit) hS (fun q _ h => hMA q h) (fun q h => hMA q h) (fun r1 u t H1 locs1 ht hvm hw hB hz1 hk1 hS => ?_)
  obtain ⟨hP1, -, -⟩ := hB
  rw [ht] at hP1
  subst hw
  exact kk H1 locs1 ⟨G, l_keepL hP hD hk1 (fun q hq hm => hMn q hm hq) hMo, hD, hP1, hS⟩
theorem qF_in {ad6 : Nat → Nat} {A A' : Nat → Prop} {U : State} {H : Heap} (h : qF ad6 A U H) (hAB : ∀ q, A' q → A q) : qF ad6 A' U H := ⟨va_En.narrow h.1 hAB, vx_Zq.narrow h.2.1 hAB, vx_Zq.narrow h.2.2.1 hAB, h.2.2.2⟩
theorem l_F (F : lFx D cI cB cM cL ad6 a A h ad ao cI2 b L xs s) (hs : lS D cI cB cM cL ad6 a A h ad ao s χ σ f H locs) : ∀ U : State, U.heap = H → s.WarmedH U.vm → qF ad6 A U U.heap ∧ lY U := fun U hU hW => by
  obtain ⟨G, hP, hD, hPm, hS⟩ := hs
  refine ⟨?_, F.2.2.1.warm hW⟩
  rw [hU]
  exact qF.warm hW (qF_in (qF.kept F.2.1 hS.2.1) F.2.2.2.2.1)
/-- the object's receiver -/
theorem l_rec (F : lFx D cI cB cM cL ad6 a A h ad ao cI2 b L xs s) (hs : lS D cI cB cM cL ad6 a A h ad ao s χ σ f H locs) : ∃ cellB : Cell, H[a 0 0]? = some cellB ∧ cellB.vm.isStatics = false ∧ s.vm.findClass RX8 = some cellB.cls := by
  obtain ⟨G, hP, hD, hPm, hS⟩ := hs
  exact va_recv F.1 (lw_P.mp hP).1 (ci := 7) (q0 := 0) rfl rfl
theorem l_c8 {index n maxL : Nat} {y : MethodName} {bytes : ByteArray} {rm : Room} {As : List Value} {r0 : Int32} {χ0 : cSt} (S : CallFix p m c cc nL s args WA own) (F : lFx D cI cB cM cL ad6 a A h ad ao cI2 b L xs s) (hs : lS D cI cB cM cL ad6 a A h ad ao s χ σ f H locs) (hl : ls.size = nL) (hM : Met l y (Cond.code y bytes maxL (some .int) :: WA) rm (qPc D cI cB cM ad6 a A χ (.ref (a 0 0) :: As)) (qQi D cI cB cM ad6 a A r0 χ0) 0 0 A) (cw : CallW R s args own RX8 index y bytes maxL (some .int) (Cond.code y bytes maxL (some .int) :: WA) rm 0 0 n) (hn : As.length = n) (hdg : decode cc pc = .ok (.invokevirtual index, 3)) (hst : st0 = As.reverse ++ .ref (a 0 0) :: rest) (hroom : (rest.map fun v => v.category).sum ≤ 8) (hfit : cells + 0 ≤ R.cells ∧ slots + 0 ≤ R.slots)
    (kk : ∀ (H1 : Heap) (locs1 : List Loc), lS D cI cB cM cL ad6 a A h ad ao s χ0 σ f H1 locs1 → W p l e R s m args below meth c H1 locs1 cells slots Q (F0 m (pc + 3) ls (.int r0 :: rest))) : W p l e R s m args below meth c H locs cells slots Q (F0 m pc ls st0) := by
  have hU := l_F F hs
  have hrec := l_rec F hs
  obtain ⟨hK, hF, hY, hX, hA, hMA, hao, hAo, hMn, hMo, hmd, -⟩ := F
  obtain ⟨G, hP, hD, hPm, hS⟩ := hs
  refine va_calli (va_runV (As := As) (rest := rest) S hM cw ⟨qPc_blind _ _ _ _ _ _ _ _ _, hrec, fun U hH hW => ⟨rfl, ⟨G, by rw [hH]; exact (lw_P.mp hP).1, hD, (va_K.moved hW.alike hK).sub [0, 1, 2] rfl⟩, (hU U hH hW).1⟩⟩ rfl hn hl hst (lv_room hroom) hdg hfit) hS (fun q _ h => hA q h) (fun q h => hA q h) (fun r1 u t H1 locs1 ht hvm hw hB hz1 hk1 hS => ?_)
  obtain ⟨G1, hP1, hD1, -⟩ := hB
  rw [ht] at hP1
  subst hw
  exact kk H1 locs1 ⟨G1, lw_P.mpr ⟨hP1, l_out (lw_P.mp hP).2 hk1 hAo⟩, hD1, l_keepM hPm hk1 hMn, hS⟩
theorem l_c8l {index n maxL : Nat} {y : MethodName} {bytes : ByteArray} {rm : Room} {As : List Value} {r0 : Int64} {χ0 : cSt} (S : CallFix p m c cc nL s args WA own) (F : lFx D cI cB cM cL ad6 a A h ad ao cI2 b L xs s) (hs : lS D cI cB cM cL ad6 a A h ad ao s χ σ f H locs) (hl : ls.size = nL) (hM : Met l y (Cond.code y bytes maxL (some .long) :: WA) rm (qPc D cI cB cM ad6 a A χ (.ref (a 0 0) :: As)) (qQl D cI cB cM ad6 a A r0 χ0) 0 0 A) (cw : CallW R s args own RX8 index y bytes maxL (some .long) (Cond.code y bytes maxL (some .long) :: WA) rm 0 0 n) (hn : As.length = n) (hdg : decode cc pc = .ok (.invokevirtual index, 3)) (hst : st0 = As.reverse ++ .ref (a 0 0) :: rest) (hroom : (rest.map fun v => v.category).sum ≤ 8) (hfit : cells + 0 ≤ R.cells ∧ slots + 0 ≤ R.slots)
    (kk : ∀ (H1 : Heap) (locs1 : List Loc), lS D cI cB cM cL ad6 a A h ad ao s χ0 σ f H1 locs1 → W p l e R s m args below meth c H1 locs1 cells slots Q (F0 m (pc + 3) ls (.long r0 :: rest))) : W p l e R s m args below meth c H locs cells slots Q (F0 m pc ls st0) := by
  have hU := l_F F hs
  have hrec := l_rec F hs
  obtain ⟨hK, hF, hY, hX, hA, hMA, hao, hAo, hMn, hMo, hmd, -⟩ := F
  obtain ⟨G, hP, hD, hPm, hS⟩ := hs
  refine va_calll (va_runV (As := As) (rest := rest) S hM cw ⟨qPc_blind _ _ _ _ _ _ _ _ _, hrec, fun U hH hW => ⟨rfl, ⟨G, by rw [hH]; exact (lw_P.mp hP).1, hD, (va_K.moved hW.alike hK).sub [0, 1, 2] rfl⟩, (hU U hH hW).1⟩⟩ rfl hn hl hst (lv_room hroom) hdg hfit) hS (fun q _ h => hA q h) (fun q h => hA q h) (fun r1 u t H1 locs1 ht hvm hw hB hz1 hk1 hS => ?_)
  obtain ⟨G1, hP1, hD1, -⟩ := hB
  rw [ht] at hP1
  subst hw
  exact kk H1 locs1 ⟨G1, lw_P.mpr ⟨hP1, l_out (lw_P.mp hP).2 hk1 hAo⟩, hD1, l_keepM hPm hk1 hMn, hS⟩
/-- a wrapper's call -/
theorem l_cw {index n maxL : Nat} {y : MethodName} {bytes : ByteArray} {hh : List (Nat × Nat × Nat × Nat)} {As : List Value} {wc : Nat → Int32} {res : cRes} (S : CallFix p m c cc nL s args WA own) (F : lFx D cI cB cM cL ad6 a A h ad ao cI2 b L xs s) (hs : lS D cI cB cM cL ad6 a A h ad ao s χ σ f H locs) (hl : ls.size = nL) (hM : Met l y (Cond.codeWith y bytes maxL (some .int) hh :: WA) rmL (lPc D cI cB cM cL ad6 a A ao χ f As) (lQ D cI cB cM cL ad6 a A ao wc χ res) 8 48 (lAw A ao)) (cw : vx_CSW R s args own index y bytes maxL (some .int) hh (Cond.codeWith y bytes maxL (some .int) hh :: WA) rmL 8 48 n) (hn : As.length = n) (hdg : decode cc pc = .ok (.invokestatic index, 3)) (hst : st0 = As.reverse ++ rest) (hroom : (rest.map fun v => v.category).sum ≤ 8) (hfit : cells + 8 ≤ R.cells ∧ slots + 48 ≤ R.slots)
    (kk : ∀ (H1 : Heap) (locs1 : List Loc) (r : Int32) (χ1 : cSt) (f1 : Nat → Int64), lOut wc χ res r (χ1, f1) → lS D cI cB cM cL ad6 a A h ad ao s χ1 σ f1 H1 locs1 → W p l e R s m args below meth c H1 locs1 (cells + 8) (slots + 48) Q (F0 m (pc + 3) ls (.int r :: rest))) : W p l e R s m args below meth c H locs cells slots Q (F0 m pc ls st0) := by
  have hU := l_F F hs
  obtain ⟨hK, hF, hY, hX, hA, hMA, hao, hAo, hMn, hMo, hmd, -⟩ := F
  obtain ⟨G, hP, hD, hPm, hS⟩ := hs
  have hAw : ∀ q, lAw A ao q → s.heap.size ≤ q := fun q hq => hq.elim (hA q) (fun e => by rw [e]; exact hao)
  refine va_calli (vx_runSW (As := As) (rest := rest) S hM cw ⟨lPc_blind _ _ _ _ _ _ _ _ _ _ _ _, fun U hH hW => ⟨rfl, ⟨G, by rw [hH]; exact hP, hD, va_K.moved hW.alike hK⟩, hU U hH hW⟩⟩ rfl hn hl hst (lv_room hroom) hdg hfit) hS (fun q _ h => hAw q h) (fun q h => hAw q h) (fun r1 u t H1 locs1 ht hvm hw hB hz1 hk1 hS => ?_)
  obtain ⟨G1, hP1, hD1, -⟩ := hB
  rw [ht] at hP1
  exact kk H1 locs1 r1 u.1 u.2 hw ⟨G1, hP1, hD1, l_keepM hPm hk1 (fun q hq hx => hx.elim (hMn q hq) (fun e => hMo (by rw [← e]; exact hq))), hS⟩
theorem l_ld (S : CallFix p m c cc nL s args WA own) (F : lFx D cI cB cM cL ad6 a A h ad ao cI2 b L xs s) (hs : lS D cI cB cM cL ad6 a A h ad ao s χ σ f H locs) {k j : Nat} (hj : 4 * k + j < L) (hL : L ≤ 2048) (hj4 : j < 4) (hdg : decode cc pc = .ok (.iaload, 1)) (kk : W p l e R s m args below meth c H locs cells slots Q (F0 m (pc + 1) ls (.int (xs (4 * k + j)) :: rest))) : W p l e R s m args below meth c H locs cells slots Q (F0 m pc ls (.int (nI (4 * k) + nI j) :: .ref b :: rest)) := by
  rw [nI_add]
  obtain ⟨G, hP, hD, hPm, hS⟩ := hs
  refine va_sld S.1 S.2.1 F.2.2.2.1.1 F.2.2.2.1.2 (Nat.not_le.mpr F.2.2.2.1.2) hS (vp_in_nI (by omega) (by omega)) hdg ?_
  rw [nI_clamp (by omega)]
  exact kk
theorem l_ld0 (S : CallFix p m c cc nL s args WA own) (F : lFx D cI cB cM cL ad6 a A h ad ao cI2 b L xs s) (hs : lS D cI cB cM cL ad6 a A h ad ao s χ σ f H locs) {k : Nat} (hj : 4 * k < L) (hL : L ≤ 2048) (hdg : decode cc pc = .ok (.iaload, 1)) (kk : W p l e R s m args below meth c H locs cells slots Q (F0 m (pc + 1) ls (.int (xs (4 * k)) :: rest))) : W p l e R s m args below meth c H locs cells slots Q (F0 m pc ls (.int (nI (4 * k)) :: .ref b :: rest)) := by
  obtain ⟨G, hP, hD, hPm, hS⟩ := hs
  refine va_sld S.1 S.2.1 F.2.2.2.1.1 F.2.2.2.1.2 (Nat.not_le.mpr F.2.2.2.1.2) hS (vp_in_nI (by omega) (by omega)) hdg ?_
  rw [nI_clamp (by omega)]
  exact kk
theorem l_lald (S : CallFix p m c cc nL s args WA own) (F : lFx D cI cB cM cL ad6 a A h ad ao cI2 b L xs s) (hs : lS D cI cB cM cL ad6 a A h ad ao s χ σ f H locs) (hdg : decode cc pc = .ok (.laload, 1)) (kk : W p l e R s m args below meth c H locs cells slots Q (F0 m (pc + 1) ls (.long (f 0) :: rest))) : W p l e R s m args below meth c H locs cells slots Q (F0 m pc ls (.int (nI 0) :: .ref ao :: rest)) := by
  obtain ⟨G, hP, hD, hPm, hS⟩ := hs
  refine va_lald S.1 S.2.1 F.1 hP 104 3 lw_at rfl (vp_in_nI (n := 0) (by omega) (by omega)) hdg ?_
  rw [show (nI 0).toNatClampNeg = 0 by decide]
  exact kk
theorem l_cmp0 (x : Int64) : lg_cmp x x = 0 := by simp [lg_cmp]
end LR

