/-! the whole object: ends and calls (by wip/tools/qrows.py) -/
def qQi (D : va_G) (cI cB cM : ClassId) (ad6 : Nat → Nat) (a : Nat → Nat → Nat) (A : Nat → Prop) (r : Int32) (χ : cSt) : Array Value → State → Outcome → State → Prop := va_Qi (fun (r' : Int32) (_ : Unit) => r' = r) (fun _ t => qB D cI cB cM ad6 a A χ t) A
def qQl (D : va_G) (cI cB cM : ClassId) (ad6 : Nat → Nat) (a : Nat → Nat → Nat) (A : Nat → Prop) (r : Int64) (χ : cSt) : Array Value → State → Outcome → State → Prop := va_Ql (fun (r' : Int64) (_ : Unit) => r' = r) (fun _ t => qB D cI cB cM ad6 a A χ t) A
def qQv (D : va_G) (cI cB cM : ClassId) (ad6 : Nat → Nat) (a : Nat → Nat → Nat) (A : Nat → Prop) (χ : cSt) : Array Value → State → Outcome → State → Prop := va_Qv (fun (_ : Unit) => True) (fun _ t => qB D cI cB cM ad6 a A χ t) A
abbrev cRes : Type := Sum Nat (Int32 × cSt)
def qXi (D : va_G) (cI cB cM : ClassId) (ad6 : Nat → Nat) (a : Nat → Nat → Nat) (A : Nat → Prop) (res : cRes) : Array Value → State → Outcome → State → Prop := va_Qi (fun (r : Int32) (χ : cSt) => res = .inr (r, χ)) (fun χ t => qB D cI cB cM ad6 a A χ t) A
def qXX (D : va_G) (cI cB cM : ClassId) (ad6 : Nat → Nat) (a : Nat → Nat → Nat) (A : Nat → Prop) (χ : cSt) (res : cRes) : String → State → State → Prop := vx_X (fun k : Nat => res = .inl k) (fun E k t => E = c_ex k ∧ qB D cI cB cM ad6 a A χ t) A
section QR
variable {p : Program} {l : Launch} {e : Env} {R : Room} {s : State} {m : MethodId} {args : Array Value} {below : List Frame} {meth : Method} {c : Code} {H : Heap} {locs : List Loc} {cells slots : Nat} {Q : State → Prop}
variable {cc : ByteArray} {nL pc : Nat} {own : String} {ls : Array Slot} {rest st0 : List Value} {γ : Type} {res : γ} {D : va_G} {cI cB cM : ClassId} {ad6 : Nat → Nat} {a : Nat → Nat → Nat} {A : Nat → Prop} {σ : cSt}
theorem qPre (K : qK D cI cB cM ad6 A s) (hs : qS D cI cB cM ad6 a A s σ H locs) (av : List Value) : ∀ U : State, U.heap = H → s.WarmedH U.vm → qPc D cI cB cM ad6 a A σ av av.toArray U := fun U hU hW => by
  obtain ⟨G, hP, hD, hS⟩ := hs
  exact ⟨rfl, ⟨G, by rw [hU]; exact hP, hD, va_K.moved hW.alike K.1⟩, by rw [hU]; exact qF.warm hW (qF.kept K.2 hS.2.1)⟩
theorem qrI (S : CallFix p m c cc nL s args WA own) (K : qK D cI cB cM ad6 A s) (hr : meth.sig.returnType = some .int) (hk : meth.locks = false) (hs : qS D cI cB cM ad6 a A s σ H locs) {r r0 : Int32} {σ0 : cSt} (hf : some (r, σ) = some (r0, σ0)) (hdg : decode cc pc = .ok (.ireturn, 1)) : W p l e R s m args below meth c H locs 0 0 (MQ below (qQi D cI cB cM ad6 a A r0 σ0) args s 0 0 A) (F0 m pc ls [.int r]) := by
  cases hf
  obtain ⟨G, hP, hD, hS⟩ := hs
  exact W.iret S.1 S.2.1 hr (fun t ht hW => ⟨⟨r, (), rfl, rfl, G, by rw [ht]; exact hP, hD, va_K.moved hW.alike K.1⟩, hS.F ht⟩) hS.2.2 hdg (hlocks := hk)
theorem qrP (S : CallFix p m c cc nL s args WA own) (K : qK D cI cB cM ad6 A s) (hr : meth.sig.returnType = some .int) (hk : meth.locks = false) (hs : qS D cI cB cM ad6 a A s σ H locs) {r r0 : Int32} (hf : some r = some r0) (hdg : decode cc pc = .ok (.ireturn, 1)) : W p l e R s m args below meth c H locs 0 0 (MQ below (qQi D cI cB cM ad6 a A r0 σ) args s 0 0 A) (F0 m pc ls [.int r]) := by
  cases hf
  exact qrI S K hr hk hs rfl hdg
theorem qrB (S : CallFix p m c cc nL s args WA own) (K : qK D cI cB cM ad6 A s) (hr : meth.sig.returnType = some .boolean) (hk : meth.locks = false) (hs : qS D cI cB cM ad6 a A s σ H locs) {r r0 : Int32} (hf : z_bz r = some r0) (hdg : decode cc pc = .ok (.ireturn, 1)) : W p l e R s m args below meth c H locs 0 0 (MQ below (qQi D cI cB cM ad6 a A r0 σ) args s 0 0 A) (F0 m pc ls [.int r]) := by
  unfold z_bz at hf
  split at hf
  · rename_i hz
    cases hf
    obtain ⟨G, hP, hD, hS⟩ := hs
    exact W.zret S.1 S.2.1 hr (z_nar hz) (fun t ht hW => ⟨⟨r, (), rfl, rfl, G, by rw [ht]; exact hP, hD, va_K.moved hW.alike K.1⟩, hS.F ht⟩) hS.2.2 hdg (hlocks := hk)
  · simp at hf
theorem qrLP (S : CallFix p m c cc nL s args WA own) (K : qK D cI cB cM ad6 A s) (hr : meth.sig.returnType = some .long) (hk : meth.locks = false) (hs : qS D cI cB cM ad6 a A s σ H locs) {r r0 : Int64} (hf : some r = some r0) (hdg : decode cc pc = .ok (.lreturn, 1)) : W p l e R s m args below meth c H locs 0 0 (MQ below (qQl D cI cB cM ad6 a A r0 σ) args s 0 0 A) (F0 m pc ls [.long r]) := by
  cases hf
  obtain ⟨G, hP, hD, hS⟩ := hs
  exact W.lret S.1 S.2.1 hr (fun t ht hW => ⟨⟨r, (), rfl, rfl, G, by rw [ht]; exact hP, hD, va_K.moved hW.alike K.1⟩, hS.F ht⟩) hS.2.2 hdg (hlocks := hk)
theorem qrV (S : CallFix p m c cc nL s args WA own) (K : qK D cI cB cM ad6 A s) (hr : meth.sig.returnType = none) (hk : meth.locks = false) (hs : qS D cI cB cM ad6 a A s σ H locs) {σ0 : cSt} (hf : some σ = some σ0) (hdg : decode cc pc = .ok (.return_, 1)) : W p l e R s m args below meth c H locs 0 0 (MQ below (qQv D cI cB cM ad6 a A σ0) args s 0 0 A) (F0 m pc ls []) := by
  cases hf
  obtain ⟨G, hP, hD, hS⟩ := hs
  exact W.vret S.1 S.2.1 hr (fun t ht hW => ⟨⟨(), rfl, trivial, G, by rw [ht]; exact hP, hD, va_K.moved hW.alike K.1⟩, hS.F ht⟩) hS.2.2 hdg (hlocks := hk)
/-- the end of a method that may throw -/
theorem qxI (S : CallFix p m c cc nL s args WA own) (K : qK D cI cB cM ad6 A s) (hr : meth.sig.returnType = some .int) (hk : meth.locks = false) (hs : qS D cI cB cM ad6 a A s σ H locs) {r : Int32} {σi : cSt} {res : cRes} (hf : some (Sum.inr (r, σ)) = some res) (hdg : decode cc pc = .ok (.ireturn, 1)) (h8 : cells ≤ 8 ∧ slots ≤ 48) : W p l e R s m args below meth c H locs cells slots (vx_MQ below (qXi D cI cB cM ad6 a A res) (qXX D cI cB cM ad6 a A σi res) args s 8 48 A) (F0 m pc ls [.int r]) := by
  refine W.widen (k := 8) (n := 48) h8.1 h8.2 ?_
  obtain ⟨G, hP, hD, hS⟩ := hs
  exact vx_ret (W.iret S.1 S.2.1 hr (fun t ht hW => ⟨⟨r, σ, rfl, (Option.some.inj hf).symm, G, by rw [ht]; exact hP, hD, va_K.moved hW.alike K.1⟩, hS.F ht⟩) hS.2.2 hdg (hlocks := hk))

theorem qcP {C : String} {b : Nat} (hrec : ∃ cellB : Cell, H[b]? = some cellB ∧ cellB.vm.isStatics = false ∧ s.vm.findClass C = some cellB.cls) {y : MethodName} {bytes : ByteArray} {maxL n index : Nat} {ret : Option FieldType} {rm : Room} {As : List Value} {X : Option Int32} {k : Int32 → Option γ} (S : CallFix p m c cc nL s args WA own) (K : qK D cI cB cM ad6 A s) (hs : qS D cI cB cM ad6 a A s σ H locs) (hl : ls.size = nL) (hf : X.bind k = some res)
    (hM : ∀ r, X = some r → Met l y (Cond.code y bytes maxL ret :: WA) rm (qPc D cI cB cM ad6 a A σ (.ref b :: As)) (qQi D cI cB cM ad6 a A r σ) 0 0 A)
    (cw : CallW R s args own C index y bytes maxL ret (Cond.code y bytes maxL ret :: WA) rm 0 0 n) (hn : As.length = n) (hdg : decode cc pc = .ok (.invokevirtual index, 3)) (hst : st0 = As.reverse ++ .ref b :: rest) (hroom : (rest.map fun v => v.category).sum ≤ 8) (hfit : cells + 0 ≤ R.cells ∧ slots + 0 ≤ R.slots)
    (kk : ∀ (r : Int32) (H1 : Heap) (locs1 : List Loc), qS D cI cB cM ad6 a A s σ H1 locs1 → k r = some res → W p l e R s m args below meth c H1 locs1 cells slots Q (F0 m (pc + 3) ls (.int r :: rest))) : W p l e R s m args below meth c H locs cells slots Q (F0 m pc ls st0) := by
  obtain ⟨r, hX, hk⟩ := Option.bind_eq_some_iff.mp hf
  have hA : ∀ q, A q → A q := fun _ h => h
  have hpre := qPre K hs (.ref b :: As)
  obtain ⟨G, hP, hD, hS⟩ := hs
  refine va_calli (va_runV (As := As) (rest := rest) S (hM r hX) cw ⟨qPc_blind _ _ _ _ _ _ _ _ _, hrec, hpre⟩ rfl hn hl hst (lv_room hroom) hdg hfit) hS (fun q _ h => h) (fun q h => h) (fun r1 u t H1 locs1 ht hvm hw hB hz1 hk1 hS => ?_)
  obtain ⟨G1, hP1, hD1, hK1⟩ := hB
  rw [ht] at hP1
  subst hw
  exact kk _ H1 locs1 ⟨G1, hP1, hD1, hS⟩ hk

theorem qcL {C : String} {b : Nat} (hrec : ∃ cellB : Cell, H[b]? = some cellB ∧ cellB.vm.isStatics = false ∧ s.vm.findClass C = some cellB.cls) {y : MethodName} {bytes : ByteArray} {maxL n index : Nat} {ret : Option FieldType} {rm : Room} {As : List Value} {X : Option Int64} {k : Int64 → Option γ} (S : CallFix p m c cc nL s args WA own) (K : qK D cI cB cM ad6 A s) (hs : qS D cI cB cM ad6 a A s σ H locs) (hl : ls.size = nL) (hf : X.bind k = some res)
    (hM : ∀ r, X = some r → Met l y (Cond.code y bytes maxL ret :: WA) rm (qPc D cI cB cM ad6 a A σ (.ref b :: As)) (qQl D cI cB cM ad6 a A r σ) 0 0 A)
    (cw : CallW R s args own C index y bytes maxL ret (Cond.code y bytes maxL ret :: WA) rm 0 0 n) (hn : As.length = n) (hdg : decode cc pc = .ok (.invokevirtual index, 3)) (hst : st0 = As.reverse ++ .ref b :: rest) (hroom : (rest.map fun v => v.category).sum ≤ 8) (hfit : cells + 0 ≤ R.cells ∧ slots + 0 ≤ R.slots)
    (kk : ∀ (r : Int64) (H1 : Heap) (locs1 : List Loc), qS D cI cB cM ad6 a A s σ H1 locs1 → k r = some res → W p l e R s m args below meth c H1 locs1 cells slots Q (F0 m (pc + 3) ls (.long r :: rest))) : W p l e R s m args below meth c H locs cells slots Q (F0 m pc ls st0) := by
  obtain ⟨r, hX, hk⟩ := Option.bind_eq_some_iff.mp hf
  have hA : ∀ q, A q → A q := fun _ h => h
  have hpre := qPre K hs (.ref b :: As)
  obtain ⟨G, hP, hD, hS⟩ := hs
  refine va_calll (va_runV (As := As) (rest := rest) S (hM r hX) cw ⟨qPc_blind _ _ _ _ _ _ _ _ _, hrec, hpre⟩ rfl hn hl hst (lv_room hroom) hdg hfit) hS (fun q _ h => h) (fun q h => h) (fun r1 u t H1 locs1 ht hvm hw hB hz1 hk1 hS => ?_)
  obtain ⟨G1, hP1, hD1, hK1⟩ := hB
  rw [ht] at hP1
  subst hw
  exact kk _ H1 locs1 ⟨G1, hP1, hD1, hS⟩ hk

theorem qcU {C : String} {b : Nat} (hrec : ∃ cellB : Cell, H[b]? = some cellB ∧ cellB.vm.isStatics = false ∧ s.vm.findClass C = some cellB.cls) {y : MethodName} {bytes : ByteArray} {maxL n index : Nat} {ret : Option FieldType} {rm : Room} {As : List Value} {X : Option cSt} {k : cSt → Option γ} (S : CallFix p m c cc nL s args WA own) (K : qK D cI cB cM ad6 A s) (hs : qS D cI cB cM ad6 a A s σ H locs) (hl : ls.size = nL) (hf : X.bind k = some res)
    (hM : ∀ σ', X = some σ' → Met l y (Cond.code y bytes maxL ret :: WA) rm (qPc D cI cB cM ad6 a A σ (.ref b :: As)) (qQv D cI cB cM ad6 a A σ') 0 0 A)
    (cw : CallW R s args own C index y bytes maxL ret (Cond.code y bytes maxL ret :: WA) rm 0 0 n) (hn : As.length = n) (hdg : decode cc pc = .ok (.invokevirtual index, 3)) (hst : st0 = As.reverse ++ .ref b :: rest) (hroom : (rest.map fun v => v.category).sum ≤ 8) (hfit : cells + 0 ≤ R.cells ∧ slots + 0 ≤ R.slots)
    (kk : ∀ (σ' : cSt) (H1 : Heap) (locs1 : List Loc), qS D cI cB cM ad6 a A s σ' H1 locs1 → k σ' = some res → W p l e R s m args below meth c H1 locs1 cells slots Q (F0 m (pc + 3) ls rest)) : W p l e R s m args below meth c H locs cells slots Q (F0 m pc ls st0) := by
  obtain ⟨σ', hX, hk⟩ := Option.bind_eq_some_iff.mp hf
  have hA : ∀ q, A q → A q := fun _ h => h
  have hpre := qPre K hs (.ref b :: As)
  obtain ⟨G, hP, hD, hS⟩ := hs
  refine va_callv (va_runV (As := As) (rest := rest) S (hM σ' hX) cw ⟨qPc_blind _ _ _ _ _ _ _ _ _, hrec, hpre⟩ rfl hn hl hst (lv_room hroom) hdg hfit) hS (fun q _ h => h) (fun q h => h) (fun u t H1 locs1 ht hvm hw hB hz1 hk1 hS => ?_)
  obtain ⟨G1, hP1, hD1, hK1⟩ := hB
  rw [ht] at hP1
  exact kk σ' H1 locs1 ⟨G1, hP1, hD1, hS⟩ hk

theorem qgP0 {C : String} {b : Nat} (hrec : ∃ cellB : Cell, H[b]? = some cellB ∧ cellB.vm.isStatics = false ∧ s.vm.findClass C = some cellB.cls) {y : MethodName} {bytes : ByteArray} {maxL n index : Nat} {ret : Option FieldType} {rm : Room} {As : List Value} {X : Option Int32} {k : Int32 → Option γ} (S : CallFix p m c cc nL s args WA own) (K : qK D cI cB cM ad6 A s) (hs : qS D cI cB cM ad6 a A s σ H locs) (hl : ls.size = nL) (hf : X.bind k = some res)
    (hM : ∀ r, X = some r → Met l y (Cond.code y bytes maxL ret :: WA) rm (gPc D cI (a 1) (σ 0) (.ref b :: As)) (gQi D cI (a 1) r (σ 0)) 0 0 (gA (a 1)))
    (cw : CallW R s args own C index y bytes maxL ret (Cond.code y bytes maxL ret :: WA) rm 0 0 n) (hn : As.length = n) (hdg : decode cc pc = .ok (.invokevirtual index, 3)) (hst : st0 = As.reverse ++ .ref b :: rest) (hroom : (rest.map fun v => v.category).sum ≤ 8) (hfit : cells + 0 ≤ R.cells ∧ slots + 0 ≤ R.slots)
    (kk : ∀ (r : Int32) (H1 : Heap) (locs1 : List Loc), qS D cI cB cM ad6 a A s σ H1 locs1 → k r = some res → W p l e R s m args below meth c H1 locs1 cells slots Q (F0 m (pc + 3) ls (.int r :: rest))) : W p l e R s m args below meth c H locs cells slots Q (F0 m pc ls st0) := by
  have K0 : va_K D vwCl [(cI, .int)] s := K.1.sub [0] rfl
  obtain ⟨G, hP, hD, hS⟩ := hs
  have hPi : va_P D vwCl (wG (a 1) cI (σ 0)) H := by
    obtain ⟨-, -, hPi, -, -, -, -, -⟩ := qParts.mp hP
    exact hPi
  have hDi : va_D (gA (a 1)) (wG (a 1) cI (σ 0)) := gD_of (qD_0 hD)
  have hAi : ∀ q, gA (a 1) q → A q := fun q h => qBk_A hD (by omega) (gA_0 (G := G) h)
  obtain ⟨r, hX, hk⟩ := Option.bind_eq_some_iff.mp hf
  refine va_calli (va_runV (As := As) (rest := rest) S (hM r hX) cw ⟨gPc_blind _ _ _ _ _, hrec, fun U hU hW => ⟨rfl, by rw [hU]; exact hPi, va_K.moved hW.alike K0, hDi⟩⟩ rfl hn hl hst (lv_room hroom) hdg hfit) hS (fun q _ h => hAi q h) (fun q h => hAi q h) (fun r1 u t H1 locs1 ht hvm hw hB hz1 hk1 hS => ?_)
  obtain ⟨hP1, hK1, hD1⟩ := hB
  rw [ht] at hP1
  subst hw
  have e1 : va_P D vwCl (wQ cI cB cM ad6 a G σ) H1 := qAfter0 hP hD hk1 hP1
  exact kk _ H1 locs1 ⟨G, e1, hD, hS⟩ hk

theorem qgV0 {C : String} {b : Nat} (hrec : ∃ cellB : Cell, H[b]? = some cellB ∧ cellB.vm.isStatics = false ∧ s.vm.findClass C = some cellB.cls) {y : MethodName} {bytes : ByteArray} {maxL n index : Nat} {ret : Option FieldType} {rm : Room} {As : List Value} {X : Option (Int32 × zSt)} {k : Int32 → cSt → Option γ} (S : CallFix p m c cc nL s args WA own) (K : qK D cI cB cM ad6 A s) (hs : qS D cI cB cM ad6 a A s σ H locs) (hl : ls.size = nL) (hf : c_b2 σ 0 X k = some res)
    (hM : ∀ r τ, X = some (r, τ) → Met l y (Cond.code y bytes maxL ret :: WA) rm (gPc D cI (a 1) (σ 0) (.ref b :: As)) (gQi D cI (a 1) r τ) 0 0 (gA (a 1)))
    (cw : CallW R s args own C index y bytes maxL ret (Cond.code y bytes maxL ret :: WA) rm 0 0 n) (hn : As.length = n) (hdg : decode cc pc = .ok (.invokevirtual index, 3)) (hst : st0 = As.reverse ++ .ref b :: rest) (hroom : (rest.map fun v => v.category).sum ≤ 8) (hfit : cells + 0 ≤ R.cells ∧ slots + 0 ≤ R.slots)
    (kk : ∀ (r : Int32) (σ' : cSt) (H1 : Heap) (locs1 : List Loc), qS D cI cB cM ad6 a A s σ' H1 locs1 → k r σ' = some res → W p l e R s m args below meth c H1 locs1 cells slots Q (F0 m (pc + 3) ls (.int r :: rest))) : W p l e R s m args below meth c H locs cells slots Q (F0 m pc ls st0) := by
  have K0 : va_K D vwCl [(cI, .int)] s := K.1.sub [0] rfl
  obtain ⟨G, hP, hD, hS⟩ := hs
  have hPi : va_P D vwCl (wG (a 1) cI (σ 0)) H := by
    obtain ⟨-, -, hPi, -, -, -, -, -⟩ := qParts.mp hP
    exact hPi
  have hDi : va_D (gA (a 1)) (wG (a 1) cI (σ 0)) := gD_of (qD_0 hD)
  have hAi : ∀ q, gA (a 1) q → A q := fun q h => qBk_A hD (by omega) (gA_0 (G := G) h)
  obtain ⟨⟨r, τ⟩, hX, hk⟩ := Option.bind_eq_some_iff.mp hf
  refine va_calli (va_runV (As := As) (rest := rest) S (hM r τ hX) cw ⟨gPc_blind _ _ _ _ _, hrec, fun U hU hW => ⟨rfl, by rw [hU]; exact hPi, va_K.moved hW.alike K0, hDi⟩⟩ rfl hn hl hst (lv_room hroom) hdg hfit) hS (fun q _ h => hAi q h) (fun q h => hAi q h) (fun r1 u t H1 locs1 ht hvm hw hB hz1 hk1 hS => ?_)
  obtain ⟨hP1, hK1, hD1⟩ := hB
  rw [ht] at hP1
  subst hw
  exact kk _ _ H1 locs1 ⟨G, qAfter0 hP hD hk1 hP1, hD, hS⟩ hk

theorem qgU0 {C : String} {b : Nat} (hrec : ∃ cellB : Cell, H[b]? = some cellB ∧ cellB.vm.isStatics = false ∧ s.vm.findClass C = some cellB.cls) {y : MethodName} {bytes : ByteArray} {maxL n index : Nat} {ret : Option FieldType} {rm : Room} {As : List Value} {X : Option zSt} {k : cSt → Option γ} (S : CallFix p m c cc nL s args WA own) (K : qK D cI cB cM ad6 A s) (hs : qS D cI cB cM ad6 a A s σ H locs) (hl : ls.size = nL) (hf : c_b1 σ 0 X k = some res)
    (hM : ∀ τ, X = some τ → Met l y (Cond.code y bytes maxL ret :: WA) rm (gPc D cI (a 1) (σ 0) (.ref b :: As)) (gQv D cI (a 1) τ) 0 0 (gA (a 1)))
    (cw : CallW R s args own C index y bytes maxL ret (Cond.code y bytes maxL ret :: WA) rm 0 0 n) (hn : As.length = n) (hdg : decode cc pc = .ok (.invokevirtual index, 3)) (hst : st0 = As.reverse ++ .ref b :: rest) (hroom : (rest.map fun v => v.category).sum ≤ 8) (hfit : cells + 0 ≤ R.cells ∧ slots + 0 ≤ R.slots)
    (kk : ∀ (σ' : cSt) (H1 : Heap) (locs1 : List Loc), qS D cI cB cM ad6 a A s σ' H1 locs1 → k σ' = some res → W p l e R s m args below meth c H1 locs1 cells slots Q (F0 m (pc + 3) ls rest)) : W p l e R s m args below meth c H locs cells slots Q (F0 m pc ls st0) := by
  have K0 : va_K D vwCl [(cI, .int)] s := K.1.sub [0] rfl
  obtain ⟨G, hP, hD, hS⟩ := hs
  have hPi : va_P D vwCl (wG (a 1) cI (σ 0)) H := by
    obtain ⟨-, -, hPi, -, -, -, -, -⟩ := qParts.mp hP
    exact hPi
  have hDi : va_D (gA (a 1)) (wG (a 1) cI (σ 0)) := gD_of (qD_0 hD)
  have hAi : ∀ q, gA (a 1) q → A q := fun q h => qBk_A hD (by omega) (gA_0 (G := G) h)
  obtain ⟨τ, hX, hk⟩ := Option.bind_eq_some_iff.mp hf
  refine va_callv (va_runV (As := As) (rest := rest) S (hM τ hX) cw ⟨gPc_blind _ _ _ _ _, hrec, fun U hU hW => ⟨rfl, by rw [hU]; exact hPi, va_K.moved hW.alike K0, hDi⟩⟩ rfl hn hl hst (lv_room hroom) hdg hfit) hS (fun q _ h => hAi q h) (fun q h => hAi q h) (fun u t H1 locs1 ht hvm hw hB hz1 hk1 hS => ?_)
  obtain ⟨hP1, hK1, hD1⟩ := hB
  rw [ht] at hP1
  exact kk _ H1 locs1 ⟨G, qAfter0 hP hD hk1 hP1, hD, hS⟩ hk

theorem qgP1 {C : String} {b : Nat} (hrec : ∃ cellB : Cell, H[b]? = some cellB ∧ cellB.vm.isStatics = false ∧ s.vm.findClass C = some cellB.cls) {y : MethodName} {bytes : ByteArray} {maxL n index : Nat} {ret : Option FieldType} {rm : Room} {As : List Value} {X : Option Int32} {k : Int32 → Option γ} (S : CallFix p m c cc nL s args WA own) (K : qK D cI cB cM ad6 A s) (hs : qS D cI cB cM ad6 a A s σ H locs) (hl : ls.size = nL) (hf : X.bind k = some res)
    (hM : ∀ r, X = some r → Met l y (Cond.code y bytes maxL ret :: WA) rm (gPc D cI (a 2) (σ 1) (.ref b :: As)) (gQi D cI (a 2) r (σ 1)) 0 0 (gA (a 2)))
    (cw : CallW R s args own C index y bytes maxL ret (Cond.code y bytes maxL ret :: WA) rm 0 0 n) (hn : As.length = n) (hdg : decode cc pc = .ok (.invokevirtual index, 3)) (hst : st0 = As.reverse ++ .ref b :: rest) (hroom : (rest.map fun v => v.category).sum ≤ 8) (hfit : cells + 0 ≤ R.cells ∧ slots + 0 ≤ R.slots)
    (kk : ∀ (r : Int32) (H1 : Heap) (locs1 : List Loc), qS D cI cB cM ad6 a A s σ H1 locs1 → k r = some res → W p l e R s m args below meth c H1 locs1 cells slots Q (F0 m (pc + 3) ls (.int r :: rest))) : W p l e R s m args below meth c H locs cells slots Q (F0 m pc ls st0) := by
  have K0 : va_K D vwCl [(cI, .int)] s := K.1.sub [0] rfl
  obtain ⟨G, hP, hD, hS⟩ := hs
  have hPi : va_P D vwCl (wG (a 2) cI (σ 1)) H := by
    obtain ⟨-, -, -, hPi, -, -, -, -⟩ := qParts.mp hP
    exact hPi
  have hDi : va_D (gA (a 2)) (wG (a 2) cI (σ 1)) := gD_of (qD_1 hD)
  have hAi : ∀ q, gA (a 2) q → A q := fun q h => qBk_A hD (by omega) (gA_1 (G := G) h)
  obtain ⟨r, hX, hk⟩ := Option.bind_eq_some_iff.mp hf
  refine va_calli (va_runV (As := As) (rest := rest) S (hM r hX) cw ⟨gPc_blind _ _ _ _ _, hrec, fun U hU hW => ⟨rfl, by rw [hU]; exact hPi, va_K.moved hW.alike K0, hDi⟩⟩ rfl hn hl hst (lv_room hroom) hdg hfit) hS (fun q _ h => hAi q h) (fun q h => hAi q h) (fun r1 u t H1 locs1 ht hvm hw hB hz1 hk1 hS => ?_)
  obtain ⟨hP1, hK1, hD1⟩ := hB
  rw [ht] at hP1
  subst hw
  have e1 : va_P D vwCl (wQ cI cB cM ad6 a G σ) H1 := qAfter1 hP hD hk1 hP1
  exact kk _ H1 locs1 ⟨G, e1, hD, hS⟩ hk

theorem qgV1 {C : String} {b : Nat} (hrec : ∃ cellB : Cell, H[b]? = some cellB ∧ cellB.vm.isStatics = false ∧ s.vm.findClass C = some cellB.cls) {y : MethodName} {bytes : ByteArray} {maxL n index : Nat} {ret : Option FieldType} {rm : Room} {As : List Value} {X : Option (Int32 × zSt)} {k : Int32 → cSt → Option γ} (S : CallFix p m c cc nL s args WA own) (K : qK D cI cB cM ad6 A s) (hs : qS D cI cB cM ad6 a A s σ H locs) (hl : ls.size = nL) (hf : c_b2 σ 1 X k = some res)
    (hM : ∀ r τ, X = some (r, τ) → Met l y (Cond.code y bytes maxL ret :: WA) rm (gPc D cI (a 2) (σ 1) (.ref b :: As)) (gQi D cI (a 2) r τ) 0 0 (gA (a 2)))
    (cw : CallW R s args own C index y bytes maxL ret (Cond.code y bytes maxL ret :: WA) rm 0 0 n) (hn : As.length = n) (hdg : decode cc pc = .ok (.invokevirtual index, 3)) (hst : st0 = As.reverse ++ .ref b :: rest) (hroom : (rest.map fun v => v.category).sum ≤ 8) (hfit : cells + 0 ≤ R.cells ∧ slots + 0 ≤ R.slots)
    (kk : ∀ (r : Int32) (σ' : cSt) (H1 : Heap) (locs1 : List Loc), qS D cI cB cM ad6 a A s σ' H1 locs1 → k r σ' = some res → W p l e R s m args below meth c H1 locs1 cells slots Q (F0 m (pc + 3) ls (.int r :: rest))) : W p l e R s m args below meth c H locs cells slots Q (F0 m pc ls st0) := by
  have K0 : va_K D vwCl [(cI, .int)] s := K.1.sub [0] rfl
  obtain ⟨G, hP, hD, hS⟩ := hs
  have hPi : va_P D vwCl (wG (a 2) cI (σ 1)) H := by
    obtain ⟨-, -, -, hPi, -, -, -, -⟩ := qParts.mp hP
    exact hPi
  have hDi : va_D (gA (a 2)) (wG (a 2) cI (σ 1)) := gD_of (qD_1 hD)
  have hAi : ∀ q, gA (a 2) q → A q := fun q h => qBk_A hD (by omega) (gA_1 (G := G) h)
  obtain ⟨⟨r, τ⟩, hX, hk⟩ := Option.bind_eq_some_iff.mp hf
  refine va_calli (va_runV (As := As) (rest := rest) S (hM r τ hX) cw ⟨gPc_blind _ _ _ _ _, hrec, fun U hU hW => ⟨rfl, by rw [hU]; exact hPi, va_K.moved hW.alike K0, hDi⟩⟩ rfl hn hl hst (lv_room hroom) hdg hfit) hS (fun q _ h => hAi q h) (fun q h => hAi q h) (fun r1 u t H1 locs1 ht hvm hw hB hz1 hk1 hS => ?_)
  obtain ⟨hP1, hK1, hD1⟩ := hB
  rw [ht] at hP1
  subst hw
  exact kk _ _ H1 locs1 ⟨G, qAfter1 hP hD hk1 hP1, hD, hS⟩ hk

theorem qgU1 {C : String} {b : Nat} (hrec : ∃ cellB : Cell, H[b]? = some cellB ∧ cellB.vm.isStatics = false ∧ s.vm.findClass C = some cellB.cls) {y : MethodName} {bytes : ByteArray} {maxL n index : Nat} {ret : Option FieldType} {rm : Room} {As : List Value} {X : Option zSt} {k : cSt → Option γ} (S : CallFix p m c cc nL s args WA own) (K : qK D cI cB cM ad6 A s) (hs : qS D cI cB cM ad6 a A s σ H locs) (hl : ls.size = nL) (hf : c_b1 σ 1 X k = some res)
    (hM : ∀ τ, X = some τ → Met l y (Cond.code y bytes maxL ret :: WA) rm (gPc D cI (a 2) (σ 1) (.ref b :: As)) (gQv D cI (a 2) τ) 0 0 (gA (a 2)))
    (cw : CallW R s args own C index y bytes maxL ret (Cond.code y bytes maxL ret :: WA) rm 0 0 n) (hn : As.length = n) (hdg : decode cc pc = .ok (.invokevirtual index, 3)) (hst : st0 = As.reverse ++ .ref b :: rest) (hroom : (rest.map fun v => v.category).sum ≤ 8) (hfit : cells + 0 ≤ R.cells ∧ slots + 0 ≤ R.slots)
    (kk : ∀ (σ' : cSt) (H1 : Heap) (locs1 : List Loc), qS D cI cB cM ad6 a A s σ' H1 locs1 → k σ' = some res → W p l e R s m args below meth c H1 locs1 cells slots Q (F0 m (pc + 3) ls rest)) : W p l e R s m args below meth c H locs cells slots Q (F0 m pc ls st0) := by
  have K0 : va_K D vwCl [(cI, .int)] s := K.1.sub [0] rfl
  obtain ⟨G, hP, hD, hS⟩ := hs
  have hPi : va_P D vwCl (wG (a 2) cI (σ 1)) H := by
    obtain ⟨-, -, -, hPi, -, -, -, -⟩ := qParts.mp hP
    exact hPi
  have hDi : va_D (gA (a 2)) (wG (a 2) cI (σ 1)) := gD_of (qD_1 hD)
  have hAi : ∀ q, gA (a 2) q → A q := fun q h => qBk_A hD (by omega) (gA_1 (G := G) h)
  obtain ⟨τ, hX, hk⟩ := Option.bind_eq_some_iff.mp hf
  refine va_callv (va_runV (As := As) (rest := rest) S (hM τ hX) cw ⟨gPc_blind _ _ _ _ _, hrec, fun U hU hW => ⟨rfl, by rw [hU]; exact hPi, va_K.moved hW.alike K0, hDi⟩⟩ rfl hn hl hst (lv_room hroom) hdg hfit) hS (fun q _ h => hAi q h) (fun q h => hAi q h) (fun u t H1 locs1 ht hvm hw hB hz1 hk1 hS => ?_)
  obtain ⟨hP1, hK1, hD1⟩ := hB
  rw [ht] at hP1
  exact kk _ H1 locs1 ⟨G, qAfter1 hP hD hk1 hP1, hD, hS⟩ hk

theorem qoP {C : String} {b : Nat} (hrec : ∃ cellB : Cell, H[b]? = some cellB ∧ cellB.vm.isStatics = false ∧ s.vm.findClass C = some cellB.cls) {y : MethodName} {bytes : ByteArray} {maxL n index : Nat} {ret : Option FieldType} {rm : Room} {As : List Value} {X : Option Int32} {k : Int32 → Option γ} (S : CallFix p m c cc nL s args WA own) (K : qK D cI cB cM ad6 A s) (hs : qS D cI cB cM ad6 a A s σ H locs) (hl : ls.size = nL) (hf : X.bind k = some res)
    (hM : ∀ r, X = some r → Met l y (Cond.code y bytes maxL ret :: WA) rm (oPc D cI cB (a 3) (a 3 4) ad6 (σ 6) (.ref b :: As)) (oQi D cI cB (a 3) (a 3 4) ad6 r (σ 6)) 0 0 (oA cB (a 3) (a 3 4) ad6))
    (cw : CallW R s args own C index y bytes maxL ret (Cond.code y bytes maxL ret :: WA) rm 0 0 n) (hn : As.length = n) (hdg : decode cc pc = .ok (.invokevirtual index, 3)) (hst : st0 = As.reverse ++ .ref b :: rest) (hroom : (rest.map fun v => v.category).sum ≤ 8) (hfit : cells + 0 ≤ R.cells ∧ slots + 0 ≤ R.slots)
    (kk : ∀ (r : Int32) (H1 : Heap) (locs1 : List Loc), qS D cI cB cM ad6 a A s σ H1 locs1 → k r = some res → W p l e R s m args below meth c H1 locs1 cells slots Q (F0 m (pc + 3) ls (.int r :: rest))) : W p l e R s m args below meth c H locs cells slots Q (F0 m pc ls st0) := by
  have K0 : va_K D vwCl [(cI, .int), (cB, .byte)] s := K.1.sub [0, 1] rfl
  obtain ⟨G, hP, hD, hS⟩ := hs
  have hPi : va_P D vwCl (wO cB (a 3) (a 3 4) ad6 cI (σ 6)) H := (qParts.mp hP).2.1
  have hDi : va_D (oA cB (a 3) (a 3 4) ad6) (wO cB (a 3) (a 3 4) ad6 cI (σ 6)) := oD_of (qD_o hD)
  have hAi : ∀ q, oA cB (a 3) (a 3 4) ad6 q → A q := fun q h => qBk_A hD (by omega) (oA_o (G := G) h)
  obtain ⟨r, hX, hk⟩ := Option.bind_eq_some_iff.mp hf
  refine va_calli (va_runV (As := As) (rest := rest) S (hM r hX) cw ⟨oPc_blind _ _ _ _ _ _ _ _, hrec, fun U hU hW => ⟨rfl, ⟨by rw [hU]; exact hPi, va_K.moved hW.alike K0, hDi⟩, by rw [hU]; exact va_En.moved hW.alike (va_En.narrow (va_En.kept K.2.1 hS.2.1) hAi)⟩⟩ rfl hn hl hst (lv_room hroom) hdg hfit) hS (fun q _ h => hAi q h) (fun q h => hAi q h) (fun r1 u t H1 locs1 ht hvm hw hB hz1 hk1 hS => ?_)
  obtain ⟨hP1, hK1, hD1⟩ := hB
  rw [ht] at hP1
  subst hw
  have e1 : va_P D vwCl (wQ cI cB cM ad6 a G σ) H1 := qAfterO hP hD hk1 hP1
  exact kk _ H1 locs1 ⟨G, e1, hD, hS⟩ hk

theorem qoV {C : String} {b : Nat} (hrec : ∃ cellB : Cell, H[b]? = some cellB ∧ cellB.vm.isStatics = false ∧ s.vm.findClass C = some cellB.cls) {y : MethodName} {bytes : ByteArray} {maxL n index : Nat} {ret : Option FieldType} {rm : Room} {As : List Value} {X : Option (Int32 × zSt)} {k : Int32 → cSt → Option γ} (S : CallFix p m c cc nL s args WA own) (K : qK D cI cB cM ad6 A s) (hs : qS D cI cB cM ad6 a A s σ H locs) (hl : ls.size = nL) (hf : c_b2 σ 6 X k = some res)
    (hM : ∀ r τ, X = some (r, τ) → Met l y (Cond.code y bytes maxL ret :: WA) rm (oPc D cI cB (a 3) (a 3 4) ad6 (σ 6) (.ref b :: As)) (oQi D cI cB (a 3) (a 3 4) ad6 r τ) 0 0 (oA cB (a 3) (a 3 4) ad6))
    (cw : CallW R s args own C index y bytes maxL ret (Cond.code y bytes maxL ret :: WA) rm 0 0 n) (hn : As.length = n) (hdg : decode cc pc = .ok (.invokevirtual index, 3)) (hst : st0 = As.reverse ++ .ref b :: rest) (hroom : (rest.map fun v => v.category).sum ≤ 8) (hfit : cells + 0 ≤ R.cells ∧ slots + 0 ≤ R.slots)
    (kk : ∀ (r : Int32) (σ' : cSt) (H1 : Heap) (locs1 : List Loc), qS D cI cB cM ad6 a A s σ' H1 locs1 → k r σ' = some res → W p l e R s m args below meth c H1 locs1 cells slots Q (F0 m (pc + 3) ls (.int r :: rest))) : W p l e R s m args below meth c H locs cells slots Q (F0 m pc ls st0) := by
  have K0 : va_K D vwCl [(cI, .int), (cB, .byte)] s := K.1.sub [0, 1] rfl
  obtain ⟨G, hP, hD, hS⟩ := hs
  have hPi : va_P D vwCl (wO cB (a 3) (a 3 4) ad6 cI (σ 6)) H := (qParts.mp hP).2.1
  have hDi : va_D (oA cB (a 3) (a 3 4) ad6) (wO cB (a 3) (a 3 4) ad6 cI (σ 6)) := oD_of (qD_o hD)
  have hAi : ∀ q, oA cB (a 3) (a 3 4) ad6 q → A q := fun q h => qBk_A hD (by omega) (oA_o (G := G) h)
  obtain ⟨⟨r, τ⟩, hX, hk⟩ := Option.bind_eq_some_iff.mp hf
  refine va_calli (va_runV (As := As) (rest := rest) S (hM r τ hX) cw ⟨oPc_blind _ _ _ _ _ _ _ _, hrec, fun U hU hW => ⟨rfl, ⟨by rw [hU]; exact hPi, va_K.moved hW.alike K0, hDi⟩, by rw [hU]; exact va_En.moved hW.alike (va_En.narrow (va_En.kept K.2.1 hS.2.1) hAi)⟩⟩ rfl hn hl hst (lv_room hroom) hdg hfit) hS (fun q _ h => hAi q h) (fun q h => hAi q h) (fun r1 u t H1 locs1 ht hvm hw hB hz1 hk1 hS => ?_)
  obtain ⟨hP1, hK1, hD1⟩ := hB
  rw [ht] at hP1
  subst hw
  exact kk _ _ H1 locs1 ⟨G, qAfterO hP hD hk1 hP1, hD, hS⟩ hk

end QR
theorem qMet {l : Launch} {y : MethodName} {bytes : ByteArray} {maxL : Nat} {ret : Option FieldType} {rm : Room} {D : va_G} {cI cB cM : ClassId} {ad6 : Nat → Nat} {a : Nat → Nat → Nat} {A : Nat → Prop} {σ : cSt} {av : List Value} {Qc : Array Value → State → Outcome → State → Prop} (hy : plainName y.cls = true) (hav : (lg_sl av).length ≤ maxL)
    (body : ∀ (p : Program) (e : Env) (s : State) (m : MethodId) (args : Array Value) (below : List Frame) (meth : Method) (c : Code) (H : Heap) (locs : List Loc) (ls : Array Slot), CallFix p m c bytes maxL s args WA y.cls → qK D cI cB cM ad6 A s → meth.sig.returnType = ret → meth.locks = false → lv_has ls maxL (lv_args 0 av) → qS D cI cB cM ad6 a A s σ H locs →
      W p l e rm s m args below meth c H locs 0 0 (MQ below Qc args s 0 0 A) (F0 m 0 ls [])) : Met l y (Cond.code y bytes maxL ret :: WA) rm (qPc D cI cB cM ad6 a A σ av) Qc 0 0 A := by
  refine Met.ofW (cc := bytes) (maxL := maxL) (ret := ret) hy rfl ?_
  intro p e s m args below meth c s₁ B hml hv
  obtain ⟨rfl, ⟨G, hP, hD, hK⟩, hF⟩ := hv
  have hts := atoms_spec (ws := Cond.code y bytes maxL ret :: WA) B.pre
  have hl := lv_entry av (n := maxL) hav
  rw [lg_entry_eq]
  generalize (lg_sl av ++ List.replicate (maxL - (lg_sl av).length) Slot.unset).toArray = ls at hl ⊢
  exact body p e s m _ below meth c s.heap [] ls ⟨B.exec, B.bytes, hml, findClass_of_methodNamed B.named, fun w h => hts w (List.mem_cons_of_mem _ h)⟩ ⟨hK, hF⟩ B.returns B.notSynchronized hl ⟨G, hP, hD, va_S.rf⟩
theorem qxMet {l : Launch} {y : MethodName} {bytes : ByteArray} {maxL : Nat} {ret : Option FieldType} {rm : Room} {D : va_G} {cI cB cM : ClassId} {ad6 : Nat → Nat} {a : Nat → Nat → Nat} {A : Nat → Prop} {σ : cSt} {av : List Value} {Qc : Array Value → State → Outcome → State → Prop} {XC : String → State → State → Prop} (hy : plainName y.cls = true) (hav : (lg_sl av).length ≤ maxL)
    (body : ∀ (p : Program) (e : Env) (s : State) (m : MethodId) (args : Array Value) (below : List Frame) (meth : Method) (c : Code) (H : Heap) (locs : List Loc) (ls : Array Slot), CallFix p m c bytes maxL s args WA y.cls → qK D cI cB cM ad6 A s → meth.sig.returnType = ret → meth.locks = false → (∀ x ∈ c.exceptionTable.toList, False) → lv_has ls maxL (lv_args 0 av) → qS D cI cB cM ad6 a A s σ H locs →
      W p l e rm s m args below meth c H locs 0 0 (vx_MQ below Qc XC args s 8 48 A) (F0 m 0 ls [])) : vx_Met l y (Cond.code y bytes maxL ret :: WA) rm (qPc D cI cB cM ad6 a A σ av) Qc XC 8 48 A := by
  refine vx_ofW (cc := bytes) (maxL := maxL) (ret := ret) hy rfl ?_
  intro p e s m args below meth c s₁ B hml hex hv
  obtain ⟨rfl, ⟨G, hP, hD, hK⟩, hF⟩ := hv
  have hts := atoms_spec (ws := Cond.code y bytes maxL ret :: WA) B.pre
  have hl := lv_entry av (n := maxL) hav
  rw [lg_entry_eq]
  generalize (lg_sl av ++ List.replicate (maxL - (lg_sl av).length) Slot.unset).toArray = ls at hl ⊢
  exact body p e s m _ below meth c s.heap [] ls ⟨B.exec, B.bytes, hml, findClass_of_methodNamed B.named, fun w h => hts w (List.mem_cons_of_mem _ h)⟩ ⟨hK, hF⟩ B.returns B.notSynchronized hex hl ⟨G, hP, hD, va_S.rf⟩
abbrev qGo (p : Program) (l : Launch) (e : Env) (R : Room) (s : State) (m : MethodId) (args : Array Value) (below : List Frame) (meth : Method) (c : Code) (Q : State → Prop) (D : va_G) (cI cB cM : ClassId) (ad6 : Nat → Nat) (a : Nat → Nat → Nat) (A : Nat → Prop) (cells slots : Nat) (nL : Nat) (σ : cSt) (lv : List (Nat × Value)) (pc : Nat) (st : List Value) : Prop :=
  ∀ (H : Heap) (locs : List Loc) (ls : Array Slot), lv_has ls nL lv → qS D cI cB cM ad6 a A s σ H locs → W p l e R s m args below meth c H locs cells slots Q (F0 m pc ls st)
