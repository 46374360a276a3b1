/-! a machine of the class: its world and rows (by wip/tools/gworld.py) -/
def pl_nm : List String := ["KIND", "CACHE", "COLON", "LINE", "VALUE", "TICKS"]
def pl_F : List (String × String × String × List Int32) := [("CacheDiary$Place", "maxDigits", "I", [0, 0, 0, 2, 3, 2]), ("CacheDiary$Place", "lowest", "I", [0, 0, 0, 0, 0, 1]), ("CacheDiary$Place", "highest", "I", [0, 0, 0, 31, 999, 50])]
/-- the constants of Place are where they are, and no cell of A is one -/
def oE (ad6 : Nat → Nat) (A : Nat → Prop) (U : State) (H : Heap) : Prop := va_En "CacheDiary$Place" "LCacheDiary$Place;" pl_nm pl_F ad6 A U H
def z_tab (l : List Int32) (x : Int32) : Option Int32 := if x.toNatClampNeg < 6 then some (l.getD x.toNatClampNeg 0) else none
def z_pq (x y : Int32) : Option Bool := if x.toNatClampNeg < 6 ∧ y.toNatClampNeg < 6 then some (decide (x.toNatClampNeg = y.toNatClampNeg)) else none
def z_sz (σ : zSt) (f : Nat) (x : Int32) : Option zSt := (z_bz x).bind fun x => z_sf σ f x
def wO (cB : ClassId) (o : Nat → Nat) (tx : Nat) (ad6 : Nat → Nat) (cI : ClassId) (σ : zSt) : va_W := [(o 0, .inr (5, [.ref (o 1), .ref (o 2), .ref (o 3), .int (σ 3 0), .ref (ad6 (σ 4 0).toNatClampNeg), .int (σ 5 0), .int (σ 6 0), .int (σ 7 0), .int (σ 8 0), .int (σ 9 0), .int (σ 10 0)])), (o 1, .inl (cI, 34, .inl (σ 0))), (o 2, .inl (cI, 34, .inl (σ 1))), (o 3, .inl (cI, 34, .inl (σ 2))), (tx, .inl (cB, 100, .inl (σ 11)))]
def oA (cB : ClassId) (o : Nat → Nat) (tx : Nat) (ad6 : Nat → Nat) : Nat → Prop := fun q => (∃ k, k < 4 ∧ q = o k) ∨ q = tx
def pl_maxDigits : List Int32 := [0, 0, 0, 2, 3, 2]
def pl_lowest : List Int32 := [0, 0, 0, 0, 0, 1]
def pl_highest : List Int32 := [0, 0, 0, 31, 999, 50]
def oK (D : va_G) (cI cB : ClassId) (ad6 : Nat → Nat) (A : Nat → Prop) (s : State) : Prop := va_K D vwCl [(cI, .int), (cB, .byte)] s ∧ oE ad6 A s s.heap
theorem u_117 : Cond.fieldLink RX5 15 "CacheDiary$OrderReader" "line" "[I" ∈ WA := z_in0 _ (List.mem_of_getElem? (i := 117) (by decide +kernel))
theorem u_118 : Cond.fieldLink RX5 18 "CacheDiary$OrderReader" "number" "[I" ∈ WA := z_in0 _ (List.mem_of_getElem? (i := 118) (by decide +kernel))
theorem u_120 : Cond.fieldLink RX5 27 "CacheDiary$OrderReader" "place" "LCacheDiary$Place;" ∈ WA := z_in0 _ (List.mem_of_getElem? (i := 120) (by decide +kernel))
theorem u_479 : Cond.fieldLink RX5 30 "CacheDiary$OrderReader" "count" "I" ∈ WA := z_in0 _ (List.mem_of_getElem? (i := 479) (by decide +kernel))
theorem u_490 : Cond.fieldLink RX5 57 "CacheDiary$OrderReader" "readCache" "I" ∈ WA := z_in0 _ (List.mem_of_getElem? (i := 490) (by decide +kernel))
theorem u_492 : Cond.fieldLink RX5 67 "CacheDiary$OrderReader" "write" "Z" ∈ WA := z_in0 _ (List.mem_of_getElem? (i := 492) (by decide +kernel))
theorem u_497 : Cond.fieldLink RX5 74 "CacheDiary$OrderReader" "readNumber" "I" ∈ WA := z_in0 _ (List.mem_of_getElem? (i := 497) (by decide +kernel))
theorem u_498 : Cond.fieldLink RX5 77 "CacheDiary$OrderReader" "digits" "I" ∈ WA := z_in0 _ (List.mem_of_getElem? (i := 498) (by decide +kernel))
theorem u_514 : Cond.fieldLink RX5 89 "CacheDiary$OrderReader" "firstDigit" "I" ∈ WA := z_in0 _ (List.mem_of_getElem? (i := 514) (by decide +kernel))
theorem u_116 : Cond.fieldLink RX5 9 "CacheDiary$OrderReader" "cache" "[I" ∈ WA := z_in0 _ (List.mem_of_getElem? (i := 116) (by decide +kernel))
theorem u_515 : Cond.fieldLink RX5 92 "CacheDiary$OrderReader" "readLine" "I" ∈ WA := z_in0 _ (List.mem_of_getElem? (i := 515) (by decide +kernel))
theorem u_512 : Cond.fieldLink RX5 83 "CacheDiary$Place" "lowest" "I" ∈ WA := z_in0 _ (List.mem_of_getElem? (i := 512) (by decide +kernel))
theorem u_513 : Cond.fieldLink RX5 86 "CacheDiary$Place" "highest" "I" ∈ WA := z_in0 _ (List.mem_of_getElem? (i := 513) (by decide +kernel))
theorem u_521 : Cond.fieldLink RX5 101 "CacheDiary$Place" "maxDigits" "I" ∈ WA := z_in0 _ (List.mem_of_getElem? (i := 521) (by decide +kernel))
theorem u_119 : Cond.fieldLink RX5 21 "CacheDiary$Place" "KIND" "LCacheDiary$Place;" ∈ WA := z_in0 _ (List.mem_of_getElem? (i := 119) (by decide +kernel))
theorem u_484 : Cond.fieldLink RX5 42 "CacheDiary$Place" "CACHE" "LCacheDiary$Place;" ∈ WA := z_in0 _ (List.mem_of_getElem? (i := 484) (by decide +kernel))
theorem u_485 : Cond.fieldLink RX5 48 "CacheDiary$Place" "COLON" "LCacheDiary$Place;" ∈ WA := z_in0 _ (List.mem_of_getElem? (i := 485) (by decide +kernel))
theorem u_491 : Cond.fieldLink RX5 60 "CacheDiary$Place" "TICKS" "LCacheDiary$Place;" ∈ WA := z_in0 _ (List.mem_of_getElem? (i := 491) (by decide +kernel))
theorem u_507 : Cond.fieldLink RX5 71 "CacheDiary$Place" "LINE" "LCacheDiary$Place;" ∈ WA := z_in0 _ (List.mem_of_getElem? (i := 507) (by decide +kernel))
theorem u_516 : Cond.fieldLink RX5 95 "CacheDiary$Place" "VALUE" "LCacheDiary$Place;" ∈ WA := z_in0 _ (List.mem_of_getElem? (i := 516) (by decide +kernel))
def oB (D : va_G) (cI : ClassId) (cB : ClassId) (o : Nat → Nat) (tx : Nat) (ad6 : Nat → Nat) (σ : zSt) (U : State) : Prop := va_P D vwCl (wO cB o tx ad6 cI σ) U.heap ∧ va_K D vwCl [(cI, .int), (cB, .byte)] U ∧ va_D (oA cB o tx ad6) (wO cB o tx ad6 cI σ)
def oS (D : va_G) (cI : ClassId) (cB : ClassId) (o : Nat → Nat) (tx : Nat) (ad6 : Nat → Nat) (s : State) (σ : zSt) (H : Heap) (locs : List Loc) : Prop := va_P D vwCl (wO cB o tx ad6 cI σ) H ∧ va_D (oA cB o tx ad6) (wO cB o tx ad6 cI σ) ∧ va_S (oA cB o tx ad6) s.heap H locs
def oPc (D : va_G) (cI : ClassId) (cB : ClassId) (o : Nat → Nat) (tx : Nat) (ad6 : Nat → Nat) (σ : zSt) (av : List Value) : Array Value → State → Prop := va_Pc av (fun U => oB D cI cB o tx ad6 σ U ∧ oE ad6 (oA cB o tx ad6) U U.heap)
def oQi (D : va_G) (cI : ClassId) (cB : ClassId) (o : Nat → Nat) (tx : Nat) (ad6 : Nat → Nat) (r : Int32) (σ : zSt) : Array Value → State → Outcome → State → Prop := va_Qi (fun (r' : Int32) (_ : Unit) => r' = r) (fun _ t => oB D cI cB o tx ad6 σ t) (oA cB o tx ad6)
def oQl (D : va_G) (cI : ClassId) (cB : ClassId) (o : Nat → Nat) (tx : Nat) (ad6 : Nat → Nat) (r : Int64) (σ : zSt) : Array Value → State → Outcome → State → Prop := va_Ql (fun (r' : Int64) (_ : Unit) => r' = r) (fun _ t => oB D cI cB o tx ad6 σ t) (oA cB o tx ad6)
def oQv (D : va_G) (cI : ClassId) (cB : ClassId) (o : Nat → Nat) (tx : Nat) (ad6 : Nat → Nat) (σ : zSt) : Array Value → State → Outcome → State → Prop := va_Qv (fun (_ : Unit) => True) (fun _ t => oB D cI cB o tx ad6 σ t) (oA cB o tx ad6)
theorem oPc_blind (D : va_G) (cI : ClassId) (cB : ClassId) (o : Nat → Nat) (tx : Nat) (ad6 : Nat → Nat) (σ : zSt) (av : List Value) : FrameBlind (oPc D cI cB o tx ad6 σ av) := fun a U g mk q => by
  obtain ⟨q0, ⟨qP, qK, qD⟩, qE⟩ := q
  exact ⟨q0, ⟨qP, va_K.moved (u := U) (U := U.calling g mk a) (Vm.Alike.refl U.vm) qK, qD⟩, va_En.moved (u := U) (U := U.calling g mk a) (Vm.Alike.refl U.vm) qE⟩
section OR
variable {p : Program} {l : Launch} {e : Env} {R : Room} {s : State} {m : MethodId} {args : Array Value} {below : List Frame} {meth : Method} {c : Code} {H : Heap} {locs : List Loc} {cells slots : Nat} {Q : State → Prop}
variable {cc : ByteArray} {nL pc : Nat} {own : String} {ls : Array Slot} {rest st0 : List Value} {γ : Type} {res : γ} {D : va_G} {cI : ClassId} {cB : ClassId} {o : Nat → Nat} {tx : Nat} {ad6 : Nat → Nat} {σ : zSt}
theorem oPre (K : oK D cI cB ad6 (oA cB o tx ad6) s) (hs : oS D cI cB o tx ad6 s σ H locs) (av : List Value) : ∀ U : State, U.heap = H → s.WarmedH U.vm → oPc D cI cB o tx ad6 σ av av.toArray U := fun U hU hW => ⟨rfl, ⟨by rw [hU]; exact hs.1, va_K.moved hW.alike K.1, hs.2.1⟩, by rw [hU]; exact va_En.moved hW.alike (va_En.kept K.2 hs.2.2.2.1)⟩
theorem orI (S : CallFix p m c cc nL s args WA own) (K : oK D cI cB ad6 (oA cB o tx ad6) s) (hr : meth.sig.returnType = some .int) (hk : meth.locks = false) (hs : oS D cI cB o tx ad6 s σ H locs) {r r0 : Int32} {σ0 : zSt} (hf : some (r, σ) = some (r0, σ0)) (hdg : decode cc pc = .ok (.ireturn, 1)) : W p l e R s m args below meth c H locs 0 0 (MQ below (oQi D cI cB o tx ad6 r0 σ0) args s 0 0 (oA cB o tx ad6)) (F0 m pc ls [.int r]) := by
  cases hf
  exact W.iret S.1 S.2.1 hr (fun t ht hW => ⟨⟨r, (), rfl, rfl, by rw [ht]; exact hs.1, va_K.moved hW.alike K.1, hs.2.1⟩, hs.2.2.F ht⟩) hs.2.2.2.2 hdg (hlocks := hk)
theorem orP (S : CallFix p m c cc nL s args WA own) (K : oK D cI cB ad6 (oA cB o tx ad6) s) (hr : meth.sig.returnType = some .int) (hk : meth.locks = false) (hs : oS D cI cB o tx ad6 s σ H locs) {r r0 : Int32} (hf : some r = some r0) (hdg : decode cc pc = .ok (.ireturn, 1)) : W p l e R s m args below meth c H locs 0 0 (MQ below (oQi D cI cB o tx ad6 r0 σ) args s 0 0 (oA cB o tx ad6)) (F0 m pc ls [.int r]) := by
  cases hf
  exact orI S K hr hk hs rfl hdg
theorem orZ (S : CallFix p m c cc nL s args WA own) (K : oK D cI cB ad6 (oA cB o tx ad6) s) (hr : meth.sig.returnType = some .boolean) (hk : meth.locks = false) (hs : oS D cI cB o tx ad6 s σ H locs) {r r0 : Int32} {σ0 : zSt} (hf : ((z_bz r).bind fun r => some (r, σ)) = some (r0, σ0)) (hdg : decode cc pc = .ok (.ireturn, 1)) : W p l e R s m args below meth c H locs 0 0 (MQ below (oQi D cI cB o tx ad6 r0 σ0) args s 0 0 (oA cB o tx ad6)) (F0 m pc ls [.int r]) := by
  unfold z_bz at hf
  split at hf
  · rename_i hz
    cases hf
    exact W.zret S.1 S.2.1 hr (z_nar hz) (fun t ht hW => ⟨⟨r, (), rfl, rfl, by rw [ht]; exact hs.1, va_K.moved hW.alike K.1, hs.2.1⟩, hs.2.2.F ht⟩) hs.2.2.2.2 hdg (hlocks := hk)
  · simp at hf
theorem orB (S : CallFix p m c cc nL s args WA own) (K : oK D cI cB ad6 (oA cB o tx ad6) s) (hr : meth.sig.returnType = some .boolean) (hk : meth.locks = false) (hs : oS D cI cB o tx ad6 s σ H locs) {r r0 : Int32} (hf : z_bz r = some r0) (hdg : decode cc pc = .ok (.ireturn, 1)) : W p l e R s m args below meth c H locs 0 0 (MQ below (oQi D cI cB o tx ad6 r0 σ) args s 0 0 (oA cB o tx ad6)) (F0 m pc ls [.int r]) :=
  orZ S K hr hk hs (by rw [hf]; rfl) hdg
theorem orV (S : CallFix p m c cc nL s args WA own) (K : oK D cI cB ad6 (oA cB o tx ad6) s) (hr : meth.sig.returnType = none) (hk : meth.locks = false) (hs : oS D cI cB o tx ad6 s σ H locs) {σ0 : zSt} (hf : some σ = some σ0) (hdg : decode cc pc = .ok (.return_, 1)) : W p l e R s m args below meth c H locs 0 0 (MQ below (oQv D cI cB o tx ad6 σ0) args s 0 0 (oA cB o tx ad6)) (F0 m pc ls []) := by
  cases hf
  exact W.vret S.1 S.2.1 hr (fun t ht hW => ⟨⟨(), rfl, trivial, by rw [ht]; exact hs.1, va_K.moved hW.alike K.1, hs.2.1⟩, hs.2.2.F ht⟩) hs.2.2.2.2 hdg (hlocks := hk)
theorem orL (S : CallFix p m c cc nL s args WA own) (K : oK D cI cB ad6 (oA cB o tx ad6) s) (hr : meth.sig.returnType = some .long) (hk : meth.locks = false) (hs : oS D cI cB o tx ad6 s σ H locs) {r r0 : Int64} {σ0 : zSt} (hf : some (r, σ) = some (r0, σ0)) (hdg : decode cc pc = .ok (.lreturn, 1)) : W p l e R s m args below meth c H locs 0 0 (MQ below (oQl D cI cB o tx ad6 r0 σ0) args s 0 0 (oA cB o tx ad6)) (F0 m pc ls [.long r]) := by
  cases hf
  exact W.lret S.1 S.2.1 hr (fun t ht hW => ⟨⟨r, (), rfl, rfl, by rw [ht]; exact hs.1, va_K.moved hW.alike K.1, hs.2.1⟩, hs.2.2.F ht⟩) hs.2.2.2.2 hdg (hlocks := hk)
/-- calls on the same object: with a new state; reading alone; without an answer -/
theorem ocV {C : String} {b : Nat} (hrec : ∃ cellB : Cell, H[b]? = some cellB ∧ cellB.vm.isStatics = false ∧ s.vm.findClass C = some cellB.cls) {y : MethodName} {bytes : ByteArray} {maxL n index : Nat} {ret : Option FieldType} {rm : Room} {As : List Value} {X : Option (Int32 × zSt)} {k : Int32 → zSt → Option γ} (S : CallFix p m c cc nL s args WA own) (K : oK D cI cB ad6 (oA cB o tx ad6) s) (hs : oS D cI cB o tx ad6 s σ H locs) (hl : ls.size = nL) (hf : z_b2 X k = some res)
    (hM : ∀ r σ', X = some (r, σ') → Met l y (Cond.code y bytes maxL ret :: WA) rm (oPc D cI cB o tx ad6 σ (.ref b :: As)) (oQi D cI cB o tx ad6 r σ') 0 0 (oA cB o tx ad6))
    (cw : CallW R s args own C index y bytes maxL ret (Cond.code y bytes maxL ret :: WA) rm 0 0 n) (hn : As.length = n) (hdg : decode cc pc = .ok (.invokevirtual index, 3)) (hst : st0 = As.reverse ++ .ref b :: rest) (hroom : (rest.map fun v => v.category).sum ≤ 8) (hfit : cells + 0 ≤ R.cells ∧ slots + 0 ≤ R.slots)
    (kk : ∀ (r : Int32) (σ' : zSt) (H1 : Heap) (locs1 : List Loc), oS D cI cB o tx ad6 s σ' H1 locs1 → k r σ' = some res → W p l e R s m args below meth c H1 locs1 cells slots Q (F0 m (pc + 3) ls (.int r :: rest))) : W p l e R s m args below meth c H locs cells slots Q (F0 m pc ls st0) := by
  obtain ⟨⟨r, σ'⟩, hX, hk⟩ := Option.bind_eq_some_iff.mp hf
  refine va_calli (va_runV (As := As) (rest := rest) S (hM r σ' hX) cw ⟨oPc_blind _ _ _ _ _ _ _ _, hrec, oPre K hs _⟩ rfl hn hl hst (lv_room hroom) hdg hfit) hs.2.2 (fun q _ h => h) (fun q h => h) (fun r1 u t H1 locs1 ht hvm hw hB hz1 hk1 hS => ?_)
  obtain ⟨hP1, hK1, hD1⟩ := hB
  rw [ht] at hP1
  subst hw
  exact kk _ σ' H1 locs1 ⟨hP1, hD1, hS⟩ hk
theorem ocP {C : String} {b : Nat} (hrec : ∃ cellB : Cell, H[b]? = some cellB ∧ cellB.vm.isStatics = false ∧ s.vm.findClass C = some cellB.cls) {y : MethodName} {bytes : ByteArray} {maxL n index : Nat} {ret : Option FieldType} {rm : Room} {As : List Value} {X : Option Int32} {k : Int32 → Option γ} (S : CallFix p m c cc nL s args WA own) (K : oK D cI cB ad6 (oA cB o tx ad6) s) (hs : oS D cI cB o tx ad6 s σ H locs) (hl : ls.size = nL) (hf : X.bind k = some res)
    (hM : ∀ r, X = some r → Met l y (Cond.code y bytes maxL ret :: WA) rm (oPc D cI cB o tx ad6 σ (.ref b :: As)) (oQi D cI cB o tx ad6 r σ) 0 0 (oA cB o tx ad6))
    (cw : CallW R s args own C index y bytes maxL ret (Cond.code y bytes maxL ret :: WA) rm 0 0 n) (hn : As.length = n) (hdg : decode cc pc = .ok (.invokevirtual index, 3)) (hst : st0 = As.reverse ++ .ref b :: rest) (hroom : (rest.map fun v => v.category).sum ≤ 8) (hfit : cells + 0 ≤ R.cells ∧ slots + 0 ≤ R.slots)
    (kk : ∀ (r : Int32) (H1 : Heap) (locs1 : List Loc), oS D cI cB o tx ad6 s σ H1 locs1 → k r = some res → W p l e R s m args below meth c H1 locs1 cells slots Q (F0 m (pc + 3) ls (.int r :: rest))) : W p l e R s m args below meth c H locs cells slots Q (F0 m pc ls st0) := by
  obtain ⟨r, hX, hk⟩ := Option.bind_eq_some_iff.mp hf
  refine va_calli (va_runV (As := As) (rest := rest) S (hM r hX) cw ⟨oPc_blind _ _ _ _ _ _ _ _, hrec, oPre K hs _⟩ rfl hn hl hst (lv_room hroom) hdg hfit) hs.2.2 (fun q _ h => h) (fun q h => h) (fun r1 u t H1 locs1 ht hvm hw hB hz1 hk1 hS => ?_)
  obtain ⟨hP1, hK1, hD1⟩ := hB
  rw [ht] at hP1
  subst hw
  exact kk _ H1 locs1 ⟨hP1, hD1, hS⟩ hk
theorem ocU {C : String} {b : Nat} (hrec : ∃ cellB : Cell, H[b]? = some cellB ∧ cellB.vm.isStatics = false ∧ s.vm.findClass C = some cellB.cls) {y : MethodName} {bytes : ByteArray} {maxL n index : Nat} {ret : Option FieldType} {rm : Room} {As : List Value} {X : Option zSt} {k : zSt → Option γ} (S : CallFix p m c cc nL s args WA own) (K : oK D cI cB ad6 (oA cB o tx ad6) s) (hs : oS D cI cB o tx ad6 s σ H locs) (hl : ls.size = nL) (hf : X.bind k = some res)
    (hM : ∀ σ', X = some σ' → Met l y (Cond.code y bytes maxL ret :: WA) rm (oPc D cI cB o tx ad6 σ (.ref b :: As)) (oQv D cI cB o tx ad6 σ') 0 0 (oA cB o tx ad6))
    (cw : CallW R s args own C index y bytes maxL ret (Cond.code y bytes maxL ret :: WA) rm 0 0 n) (hn : As.length = n) (hdg : decode cc pc = .ok (.invokevirtual index, 3)) (hst : st0 = As.reverse ++ .ref b :: rest) (hroom : (rest.map fun v => v.category).sum ≤ 8) (hfit : cells + 0 ≤ R.cells ∧ slots + 0 ≤ R.slots)
    (kk : ∀ (σ' : zSt) (H1 : Heap) (locs1 : List Loc), oS D cI cB o tx ad6 s σ' H1 locs1 → k σ' = some res → W p l e R s m args below meth c H1 locs1 cells slots Q (F0 m (pc + 3) ls rest)) : W p l e R s m args below meth c H locs cells slots Q (F0 m pc ls st0) := by
  obtain ⟨σ', hX, hk⟩ := Option.bind_eq_some_iff.mp hf
  refine va_callv (va_runV (As := As) (rest := rest) S (hM σ' hX) cw ⟨oPc_blind _ _ _ _ _ _ _ _, hrec, oPre K hs _⟩ rfl hn hl hst (lv_room hroom) hdg hfit) hs.2.2 (fun q _ h => h) (fun q h => h) (fun u t H1 locs1 ht hvm hw hB hz1 hk1 hS => ?_)
  obtain ⟨hP1, hK1, hD1⟩ := hB
  rw [ht] at hP1
  exact kk σ' H1 locs1 ⟨hP1, hD1, hS⟩ hk
/-- a static one, reading alone -/
theorem ocT {y : MethodName} {bytes : ByteArray} {maxL n index : Nat} {ret : Option FieldType} {rm : Room} {As : List Value} {X : Option Int32} {k : Int32 → Option γ} (S : CallFix p m c cc nL s args WA own) (K : oK D cI cB ad6 (oA cB o tx ad6) s) (hs : oS D cI cB o tx ad6 s σ H locs) (hl : ls.size = nL) (hf : X.bind k = some res)
    (hM : ∀ r, X = some r → Met l y (Cond.code y bytes maxL ret :: WA) rm (oPc D cI cB o tx ad6 σ As) (oQi D cI cB o tx ad6 r σ) 0 0 (oA cB o tx ad6))
    (cw : CallB R s args own index y bytes maxL ret (Cond.code y bytes maxL ret :: WA) rm 0 0 n ∧ (Cond.static y).before args s = true) (hn : As.length = n) (hdg : decode cc pc = .ok (.invokestatic index, 3)) (hst : st0 = As.reverse ++ rest) (hroom : (rest.map fun v => v.category).sum ≤ 8) (hfit : cells + 0 ≤ R.cells ∧ slots + 0 ≤ R.slots)
    (kk : ∀ (r : Int32) (H1 : Heap) (locs1 : List Loc), oS D cI cB o tx ad6 s σ H1 locs1 → k r = some res → W p l e R s m args below meth c H1 locs1 cells slots Q (F0 m (pc + 3) ls (.int r :: rest))) : W p l e R s m args below meth c H locs cells slots Q (F0 m pc ls st0) := by
  obtain ⟨r, hX, hk⟩ := Option.bind_eq_some_iff.mp hf
  refine va_calli (va_runS (As := As) (rest := rest) S (hM r hX) cw ⟨oPc_blind _ _ _ _ _ _ _ _, oPre K hs _⟩ rfl hn hl hst (lv_room hroom) hdg hfit) hs.2.2 (fun q _ h => h) (fun q h => h) (fun r1 u t H1 locs1 ht hvm hw hB hz1 hk1 hS => ?_)
  obtain ⟨hP1, hK1, hD1⟩ := hB
  rw [ht] at hP1
  subst hw
  exact kk _ H1 locs1 ⟨hP1, hD1, hS⟩ hk
theorem oV0 (K : oK D cI cB ad6 (oA cB o tx ad6) s) (hs : oS D cI cB o tx ad6 s σ H locs) : ∃ cellB : Cell, H[o 0]? = some cellB ∧ cellB.vm.isStatics = false ∧ s.vm.findClass RX5 = some cellB.cls := va_recv K.1 hs.1 (ci := 5) (q0 := 0) rfl rfl
theorem ogX5_15_0 (S : CallFix p m c cc nL s args WA RX5) (K : oK D cI cB ad6 (oA cB o tx ad6) s) (hs : oS D cI cB o tx ad6 s σ H locs) (hdg : decode cc pc = .ok (.getfield 15, 3)) (kk : W p l e R s m args below meth c H locs cells slots Q (F0 m (pc + 3) ls (.ref (o 2) :: rest))) : W p l e R s m args below meth c H locs cells slots Q (F0 m pc ls (.ref (o 0) :: rest)) :=
  va_get (D := D) (ci := 5) (v := .ref (o 2)) (C := RX5) (T := TX5) (N := 11) S.1 S.2.1 S.2.2.2.2 inlX5 S.2.2.2.1 K.1 hs.1 0 rfl rfl 1 (by decide) (S.2.2.2.2 _ u_117) (fun _ h9 => h9) rfl hdg kk
theorem ogX5_18_0 (S : CallFix p m c cc nL s args WA RX5) (K : oK D cI cB ad6 (oA cB o tx ad6) s) (hs : oS D cI cB o tx ad6 s σ H locs) (hdg : decode cc pc = .ok (.getfield 18, 3)) (kk : W p l e R s m args below meth c H locs cells slots Q (F0 m (pc + 3) ls (.ref (o 3) :: rest))) : W p l e R s m args below meth c H locs cells slots Q (F0 m pc ls (.ref (o 0) :: rest)) :=
  va_get (D := D) (ci := 5) (v := .ref (o 3)) (C := RX5) (T := TX5) (N := 11) S.1 S.2.1 S.2.2.2.2 inlX5 S.2.2.2.1 K.1 hs.1 0 rfl rfl 2 (by decide) (S.2.2.2.2 _ u_118) (fun _ h9 => h9) rfl hdg kk
theorem ogX5_27_0 (S : CallFix p m c cc nL s args WA RX5) (K : oK D cI cB ad6 (oA cB o tx ad6) s) (hs : oS D cI cB o tx ad6 s σ H locs) (hdg : decode cc pc = .ok (.getfield 27, 3)) (kk : W p l e R s m args below meth c H locs cells slots Q (F0 m (pc + 3) ls (.ref (ad6 (σ 4 0).toNatClampNeg) :: rest))) : W p l e R s m args below meth c H locs cells slots Q (F0 m pc ls (.ref (o 0) :: rest)) :=
  va_get (D := D) (ci := 5) (v := .ref (ad6 (σ 4 0).toNatClampNeg)) (C := RX5) (T := TX5) (N := 11) S.1 S.2.1 S.2.2.2.2 inlX5 S.2.2.2.1 K.1 hs.1 0 rfl rfl 4 (by decide) (S.2.2.2.2 _ u_120) (fun _ h9 => h9) rfl hdg kk
theorem ogX5_30_0 (S : CallFix p m c cc nL s args WA RX5) (K : oK D cI cB ad6 (oA cB o tx ad6) s) (hs : oS D cI cB o tx ad6 s σ H locs) (hdg : decode cc pc = .ok (.getfield 30, 3)) (kk : W p l e R s m args below meth c H locs cells slots Q (F0 m (pc + 3) ls (.int (σ 3 0) :: rest))) : W p l e R s m args below meth c H locs cells slots Q (F0 m pc ls (.ref (o 0) :: rest)) :=
  va_get (D := D) (ci := 5) (v := .int (σ 3 0)) (C := RX5) (T := TX5) (N := 11) S.1 S.2.1 S.2.2.2.2 inlX5 S.2.2.2.1 K.1 hs.1 0 rfl rfl 3 (by decide) (S.2.2.2.2 _ u_479) (fun _ h9 => h9) rfl hdg kk
theorem ogX5_57_0 (S : CallFix p m c cc nL s args WA RX5) (K : oK D cI cB ad6 (oA cB o tx ad6) s) (hs : oS D cI cB o tx ad6 s σ H locs) (hdg : decode cc pc = .ok (.getfield 57, 3)) (kk : W p l e R s m args below meth c H locs cells slots Q (F0 m (pc + 3) ls (.int (σ 6 0) :: rest))) : W p l e R s m args below meth c H locs cells slots Q (F0 m pc ls (.ref (o 0) :: rest)) :=
  va_get (D := D) (ci := 5) (v := .int (σ 6 0)) (C := RX5) (T := TX5) (N := 11) S.1 S.2.1 S.2.2.2.2 inlX5 S.2.2.2.1 K.1 hs.1 0 rfl rfl 6 (by decide) (S.2.2.2.2 _ u_490) (fun _ h9 => h9) rfl hdg kk
theorem ogX5_67_0 (S : CallFix p m c cc nL s args WA RX5) (K : oK D cI cB ad6 (oA cB o tx ad6) s) (hs : oS D cI cB o tx ad6 s σ H locs) (hdg : decode cc pc = .ok (.getfield 67, 3)) (kk : W p l e R s m args below meth c H locs cells slots Q (F0 m (pc + 3) ls (.int (σ 5 0) :: rest))) : W p l e R s m args below meth c H locs cells slots Q (F0 m pc ls (.ref (o 0) :: rest)) :=
  va_get (D := D) (ci := 5) (v := .int (σ 5 0)) (C := RX5) (T := TX5) (N := 11) S.1 S.2.1 S.2.2.2.2 inlX5 S.2.2.2.1 K.1 hs.1 0 rfl rfl 5 (by decide) (S.2.2.2.2 _ u_492) (fun _ h9 => h9) rfl hdg kk
theorem ogX5_74_0 (S : CallFix p m c cc nL s args WA RX5) (K : oK D cI cB ad6 (oA cB o tx ad6) s) (hs : oS D cI cB o tx ad6 s σ H locs) (hdg : decode cc pc = .ok (.getfield 74, 3)) (kk : W p l e R s m args below meth c H locs cells slots Q (F0 m (pc + 3) ls (.int (σ 8 0) :: rest))) : W p l e R s m args below meth c H locs cells slots Q (F0 m pc ls (.ref (o 0) :: rest)) :=
  va_get (D := D) (ci := 5) (v := .int (σ 8 0)) (C := RX5) (T := TX5) (N := 11) S.1 S.2.1 S.2.2.2.2 inlX5 S.2.2.2.1 K.1 hs.1 0 rfl rfl 8 (by decide) (S.2.2.2.2 _ u_497) (fun _ h9 => h9) rfl hdg kk
theorem ogX5_77_0 (S : CallFix p m c cc nL s args WA RX5) (K : oK D cI cB ad6 (oA cB o tx ad6) s) (hs : oS D cI cB o tx ad6 s σ H locs) (hdg : decode cc pc = .ok (.getfield 77, 3)) (kk : W p l e R s m args below meth c H locs cells slots Q (F0 m (pc + 3) ls (.int (σ 9 0) :: rest))) : W p l e R s m args below meth c H locs cells slots Q (F0 m pc ls (.ref (o 0) :: rest)) :=
  va_get (D := D) (ci := 5) (v := .int (σ 9 0)) (C := RX5) (T := TX5) (N := 11) S.1 S.2.1 S.2.2.2.2 inlX5 S.2.2.2.1 K.1 hs.1 0 rfl rfl 9 (by decide) (S.2.2.2.2 _ u_498) (fun _ h9 => h9) rfl hdg kk
theorem ogX5_89_0 (S : CallFix p m c cc nL s args WA RX5) (K : oK D cI cB ad6 (oA cB o tx ad6) s) (hs : oS D cI cB o tx ad6 s σ H locs) (hdg : decode cc pc = .ok (.getfield 89, 3)) (kk : W p l e R s m args below meth c H locs cells slots Q (F0 m (pc + 3) ls (.int (σ 10 0) :: rest))) : W p l e R s m args below meth c H locs cells slots Q (F0 m pc ls (.ref (o 0) :: rest)) :=
  va_get (D := D) (ci := 5) (v := .int (σ 10 0)) (C := RX5) (T := TX5) (N := 11) S.1 S.2.1 S.2.2.2.2 inlX5 S.2.2.2.1 K.1 hs.1 0 rfl rfl 10 (by decide) (S.2.2.2.2 _ u_514) (fun _ h9 => h9) rfl hdg kk
theorem ogX5_9_0 (S : CallFix p m c cc nL s args WA RX5) (K : oK D cI cB ad6 (oA cB o tx ad6) s) (hs : oS D cI cB o tx ad6 s σ H locs) (hdg : decode cc pc = .ok (.getfield 9, 3)) (kk : W p l e R s m args below meth c H locs cells slots Q (F0 m (pc + 3) ls (.ref (o 1) :: rest))) : W p l e R s m args below meth c H locs cells slots Q (F0 m pc ls (.ref (o 0) :: rest)) :=
  va_get (D := D) (ci := 5) (v := .ref (o 1)) (C := RX5) (T := TX5) (N := 11) S.1 S.2.1 S.2.2.2.2 inlX5 S.2.2.2.1 K.1 hs.1 0 rfl rfl 0 (by decide) (S.2.2.2.2 _ u_116) (fun _ h9 => h9) rfl hdg kk
theorem ogX5_92_0 (S : CallFix p m c cc nL s args WA RX5) (K : oK D cI cB ad6 (oA cB o tx ad6) s) (hs : oS D cI cB o tx ad6 s σ H locs) (hdg : decode cc pc = .ok (.getfield 92, 3)) (kk : W p l e R s m args below meth c H locs cells slots Q (F0 m (pc + 3) ls (.int (σ 7 0) :: rest))) : W p l e R s m args below meth c H locs cells slots Q (F0 m pc ls (.ref (o 0) :: rest)) :=
  va_get (D := D) (ci := 5) (v := .int (σ 7 0)) (C := RX5) (T := TX5) (N := 11) S.1 S.2.1 S.2.2.2.2 inlX5 S.2.2.2.1 K.1 hs.1 0 rfl rfl 7 (by decide) (S.2.2.2.2 _ u_515) (fun _ h9 => h9) rfl hdg kk
theorem opX5_30_0 (S : CallFix p m c cc nL s args WA RX5) (K : oK D cI cB ad6 (oA cB o tx ad6) s) (hs : oS D cI cB o tx ad6 s σ H locs) {x : Int32} {k : zSt → Option γ} (hf : (z_sf σ 3 x).bind k = some res) (hdg : decode cc pc = .ok (.putfield 30, 3)) (kk : ∀ (σ' : zSt) (H1 : Heap) (locs1 : List Loc), oS D cI cB o tx ad6 s σ' H1 locs1 → k σ' = some res → W p l e R s m args below meth c H1 locs1 cells slots Q (F0 m (pc + 3) ls rest)) : W p l e R s m args below meth c H locs cells slots Q (F0 m pc ls (.int x :: .ref (o 0) :: rest)) :=
  va_put (D := D) (ci := 5) (v := .int x) (ty := .int) (C := RX5) (T := TX5) (N := 11) S.1 S.2.1 S.2.2.2.2 inlX5 tyX5 tyX5_ok nmX5 S.2.2.2.1 K.1 hs.1 hs.2.1 hs.2.2 0 rfl rfl 3 (by decide) (S.2.2.2.2 _ u_479) (fun _ h9 => h9) rfl (by decide +kernel) rfl rfl (Nat.le_of_ble_eq_true rfl) hdg (fun H1 locs1 h1 h2 h3 => kk (z_up σ 3 (fun _ => x)) H1 locs1 ⟨h1, h2, h3⟩ hf)
theorem opX5_57_0 (S : CallFix p m c cc nL s args WA RX5) (K : oK D cI cB ad6 (oA cB o tx ad6) s) (hs : oS D cI cB o tx ad6 s σ H locs) {x : Int32} {k : zSt → Option γ} (hf : (z_sf σ 6 x).bind k = some res) (hdg : decode cc pc = .ok (.putfield 57, 3)) (kk : ∀ (σ' : zSt) (H1 : Heap) (locs1 : List Loc), oS D cI cB o tx ad6 s σ' H1 locs1 → k σ' = some res → W p l e R s m args below meth c H1 locs1 cells slots Q (F0 m (pc + 3) ls rest)) : W p l e R s m args below meth c H locs cells slots Q (F0 m pc ls (.int x :: .ref (o 0) :: rest)) :=
  va_put (D := D) (ci := 5) (v := .int x) (ty := .int) (C := RX5) (T := TX5) (N := 11) S.1 S.2.1 S.2.2.2.2 inlX5 tyX5 tyX5_ok nmX5 S.2.2.2.1 K.1 hs.1 hs.2.1 hs.2.2 0 rfl rfl 6 (by decide) (S.2.2.2.2 _ u_490) (fun _ h9 => h9) rfl (by decide +kernel) rfl rfl (Nat.le_of_ble_eq_true rfl) hdg (fun H1 locs1 h1 h2 h3 => kk (z_up σ 6 (fun _ => x)) H1 locs1 ⟨h1, h2, h3⟩ hf)
theorem opX5_74_0 (S : CallFix p m c cc nL s args WA RX5) (K : oK D cI cB ad6 (oA cB o tx ad6) s) (hs : oS D cI cB o tx ad6 s σ H locs) {x : Int32} {k : zSt → Option γ} (hf : (z_sf σ 8 x).bind k = some res) (hdg : decode cc pc = .ok (.putfield 74, 3)) (kk : ∀ (σ' : zSt) (H1 : Heap) (locs1 : List Loc), oS D cI cB o tx ad6 s σ' H1 locs1 → k σ' = some res → W p l e R s m args below meth c H1 locs1 cells slots Q (F0 m (pc + 3) ls rest)) : W p l e R s m args below meth c H locs cells slots Q (F0 m pc ls (.int x :: .ref (o 0) :: rest)) :=
  va_put (D := D) (ci := 5) (v := .int x) (ty := .int) (C := RX5) (T := TX5) (N := 11) S.1 S.2.1 S.2.2.2.2 inlX5 tyX5 tyX5_ok nmX5 S.2.2.2.1 K.1 hs.1 hs.2.1 hs.2.2 0 rfl rfl 8 (by decide) (S.2.2.2.2 _ u_497) (fun _ h9 => h9) rfl (by decide +kernel) rfl rfl (Nat.le_of_ble_eq_true rfl) hdg (fun H1 locs1 h1 h2 h3 => kk (z_up σ 8 (fun _ => x)) H1 locs1 ⟨h1, h2, h3⟩ hf)
theorem opX5_77_0 (S : CallFix p m c cc nL s args WA RX5) (K : oK D cI cB ad6 (oA cB o tx ad6) s) (hs : oS D cI cB o tx ad6 s σ H locs) {x : Int32} {k : zSt → Option γ} (hf : (z_sf σ 9 x).bind k = some res) (hdg : decode cc pc = .ok (.putfield 77, 3)) (kk : ∀ (σ' : zSt) (H1 : Heap) (locs1 : List Loc), oS D cI cB o tx ad6 s σ' H1 locs1 → k σ' = some res → W p l e R s m args below meth c H1 locs1 cells slots Q (F0 m (pc + 3) ls rest)) : W p l e R s m args below meth c H locs cells slots Q (F0 m pc ls (.int x :: .ref (o 0) :: rest)) :=
  va_put (D := D) (ci := 5) (v := .int x) (ty := .int) (C := RX5) (T := TX5) (N := 11) S.1 S.2.1 S.2.2.2.2 inlX5 tyX5 tyX5_ok nmX5 S.2.2.2.1 K.1 hs.1 hs.2.1 hs.2.2 0 rfl rfl 9 (by decide) (S.2.2.2.2 _ u_498) (fun _ h9 => h9) rfl (by decide +kernel) rfl rfl (Nat.le_of_ble_eq_true rfl) hdg (fun H1 locs1 h1 h2 h3 => kk (z_up σ 9 (fun _ => x)) H1 locs1 ⟨h1, h2, h3⟩ hf)
theorem opX5_89_0 (S : CallFix p m c cc nL s args WA RX5) (K : oK D cI cB ad6 (oA cB o tx ad6) s) (hs : oS D cI cB o tx ad6 s σ H locs) {x : Int32} {k : zSt → Option γ} (hf : (z_sf σ 10 x).bind k = some res) (hdg : decode cc pc = .ok (.putfield 89, 3)) (kk : ∀ (σ' : zSt) (H1 : Heap) (locs1 : List Loc), oS D cI cB o tx ad6 s σ' H1 locs1 → k σ' = some res → W p l e R s m args below meth c H1 locs1 cells slots Q (F0 m (pc + 3) ls rest)) : W p l e R s m args below meth c H locs cells slots Q (F0 m pc ls (.int x :: .ref (o 0) :: rest)) :=
  va_put (D := D) (ci := 5) (v := .int x) (ty := .int) (C := RX5) (T := TX5) (N := 11) S.1 S.2.1 S.2.2.2.2 inlX5 tyX5 tyX5_ok nmX5 S.2.2.2.1 K.1 hs.1 hs.2.1 hs.2.2 0 rfl rfl 10 (by decide) (S.2.2.2.2 _ u_514) (fun _ h9 => h9) rfl (by decide +kernel) rfl rfl (Nat.le_of_ble_eq_true rfl) hdg (fun H1 locs1 h1 h2 h3 => kk (z_up σ 10 (fun _ => x)) H1 locs1 ⟨h1, h2, h3⟩ hf)
theorem opX5_92_0 (S : CallFix p m c cc nL s args WA RX5) (K : oK D cI cB ad6 (oA cB o tx ad6) s) (hs : oS D cI cB o tx ad6 s σ H locs) {x : Int32} {k : zSt → Option γ} (hf : (z_sf σ 7 x).bind k = some res) (hdg : decode cc pc = .ok (.putfield 92, 3)) (kk : ∀ (σ' : zSt) (H1 : Heap) (locs1 : List Loc), oS D cI cB o tx ad6 s σ' H1 locs1 → k σ' = some res → W p l e R s m args below meth c H1 locs1 cells slots Q (F0 m (pc + 3) ls rest)) : W p l e R s m args below meth c H locs cells slots Q (F0 m pc ls (.int x :: .ref (o 0) :: rest)) :=
  va_put (D := D) (ci := 5) (v := .int x) (ty := .int) (C := RX5) (T := TX5) (N := 11) S.1 S.2.1 S.2.2.2.2 inlX5 tyX5 tyX5_ok nmX5 S.2.2.2.1 K.1 hs.1 hs.2.1 hs.2.2 0 rfl rfl 7 (by decide) (S.2.2.2.2 _ u_515) (fun _ h9 => h9) rfl (by decide +kernel) rfl rfl (Nat.le_of_ble_eq_true rfl) hdg (fun H1 locs1 h1 h2 h3 => kk (z_up σ 7 (fun _ => x)) H1 locs1 ⟨h1, h2, h3⟩ hf)
theorem old1 (S : CallFix p m c cc nL s args WA own) (K : oK D cI cB ad6 (oA cB o tx ad6) s) (hs : oS D cI cB o tx ad6 s σ H locs) {i : Int32} {k : Int32 → Option γ} (hf : (z_ag (σ 0) 34 i).bind k = some res) (hdg : decode cc pc = .ok (.iaload, 1)) (kk : ∀ x : Int32, k x = some res → W p l e R s m args below meth c H locs cells slots Q (F0 m (pc + 1) ls (.int x :: rest))) : W p l e R s m args below meth c H locs cells slots Q (F0 m pc ls (.int i :: .ref (o 1) :: rest)) := z_ald S K.1 hs.1 1 0 rfl rfl hf hdg kk
theorem old4 (S : CallFix p m c cc nL s args WA own) (K : oK D cI cB ad6 (oA cB o tx ad6) s) (hs : oS D cI cB o tx ad6 s σ H locs) {i : Int32} {k : Int32 → Option γ} (hf : (z_ag (σ 11) 100 i).bind k = some res) (hdg : decode cc pc = .ok (.baload, 1)) (kk : ∀ x : Int32, k x = some res → W p l e R s m args below meth c H locs cells slots Q (F0 m (pc + 1) ls (.int x :: rest))) : W p l e R s m args below meth c H locs cells slots Q (F0 m pc ls (.int i :: .ref (tx) :: rest)) := z_bald S K.1 hs.1 4 1 rfl rfl hf hdg kk
theorem oal4 (S : CallFix p m c cc nL s args WA own) (K : oK D cI cB ad6 (oA cB o tx ad6) s) (hs : oS D cI cB o tx ad6 s σ H locs) (hdg : decode cc pc = .ok (.arraylength, 1)) (kk : W p l e R s m args below meth c H locs cells slots Q (F0 m (pc + 1) ls (.int (nI 100) :: rest))) : W p l e R s m args below meth c H locs cells slots Q (F0 m pc ls (.ref (tx) :: rest)) := va_alen S.1 S.2.1 K.1 hs.1 4 1 rfl rfl rfl hdg kk
theorem ost1 (S : CallFix p m c cc nL s args WA own) (K : oK D cI cB ad6 (oA cB o tx ad6) s) (hs : oS D cI cB o tx ad6 s σ H locs) {i x : Int32} {k : zSt → Option γ} (hf : (z_sg σ 0 34 i x).bind k = some res) (hdg : decode cc pc = .ok (.iastore, 1)) (kk : ∀ (σ' : zSt) (H1 : Heap) (locs1 : List Loc), oS D cI cB o tx ad6 s σ' H1 locs1 → k σ' = some res → W p l e R s m args below meth c H1 locs1 cells slots Q (F0 m (pc + 1) ls rest)) : W p l e R s m args below meth c H locs cells slots Q (F0 m pc ls (.int x :: .int i :: .ref (o 1) :: rest)) :=
  z_ast S K.1 hs.1 hs.2.1 hs.2.2 1 0 rfl rfl hf hdg (fun σ' H1 locs1 e h1 h2 h3 h4 => kk σ' H1 locs1 (by subst e; exact ⟨h1, h2, h3⟩) h4)
theorem ost2 (S : CallFix p m c cc nL s args WA own) (K : oK D cI cB ad6 (oA cB o tx ad6) s) (hs : oS D cI cB o tx ad6 s σ H locs) {i x : Int32} {k : zSt → Option γ} (hf : (z_sg σ 1 34 i x).bind k = some res) (hdg : decode cc pc = .ok (.iastore, 1)) (kk : ∀ (σ' : zSt) (H1 : Heap) (locs1 : List Loc), oS D cI cB o tx ad6 s σ' H1 locs1 → k σ' = some res → W p l e R s m args below meth c H1 locs1 cells slots Q (F0 m (pc + 1) ls rest)) : W p l e R s m args below meth c H locs cells slots Q (F0 m pc ls (.int x :: .int i :: .ref (o 2) :: rest)) :=
  z_ast S K.1 hs.1 hs.2.1 hs.2.2 2 0 rfl rfl hf hdg (fun σ' H1 locs1 e h1 h2 h3 h4 => kk σ' H1 locs1 (by subst e; exact ⟨h1, h2, h3⟩) h4)
theorem ost3 (S : CallFix p m c cc nL s args WA own) (K : oK D cI cB ad6 (oA cB o tx ad6) s) (hs : oS D cI cB o tx ad6 s σ H locs) {i x : Int32} {k : zSt → Option γ} (hf : (z_sg σ 2 34 i x).bind k = some res) (hdg : decode cc pc = .ok (.iastore, 1)) (kk : ∀ (σ' : zSt) (H1 : Heap) (locs1 : List Loc), oS D cI cB o tx ad6 s σ' H1 locs1 → k σ' = some res → W p l e R s m args below meth c H1 locs1 cells slots Q (F0 m (pc + 1) ls rest)) : W p l e R s m args below meth c H locs cells slots Q (F0 m pc ls (.int x :: .int i :: .ref (o 3) :: rest)) :=
  z_ast S K.1 hs.1 hs.2.1 hs.2.2 3 0 rfl rfl hf hdg (fun σ' H1 locs1 e h1 h2 h3 h4 => kk σ' H1 locs1 (by subst e; exact ⟨h1, h2, h3⟩) h4)
theorem ogeX5_83 (S : CallFix p m c cc nL s args WA RX5) (K : oK D cI cB ad6 (oA cB o tx ad6) s) (hs : oS D cI cB o tx ad6 s σ H locs) {x : Int32} {k : Int32 → Option γ} (hf : (z_tab [0, 0, 0, 0, 0, 1] x).bind k = some res) (hdg : decode cc pc = .ok (.getfield 83, 3)) (kk : ∀ y : Int32, k y = some res → W p l e R s m args below meth c H locs cells slots Q (F0 m (pc + 3) ls (.int y :: rest))) : W p l e R s m args below meth c H locs cells slots Q (F0 m pc ls (.ref (ad6 x.toNatClampNeg) :: rest)) := by
  unfold z_tab at hf
  split at hf
  · rename_i hi
    exact va_getE (q := ("CacheDiary$Place", "lowest", "I", [0, 0, 0, 0, 0, 1])) S.1 S.2.1 K.2 hi hs.2.2 S.2.2.2.1 (by simp [pl_F]) (S.2.2.2.2 _ u_512) (fun _ h => h) hdg (kk _ hf)
  · simp at hf
theorem ogeX5_86 (S : CallFix p m c cc nL s args WA RX5) (K : oK D cI cB ad6 (oA cB o tx ad6) s) (hs : oS D cI cB o tx ad6 s σ H locs) {x : Int32} {k : Int32 → Option γ} (hf : (z_tab [0, 0, 0, 31, 999, 50] x).bind k = some res) (hdg : decode cc pc = .ok (.getfield 86, 3)) (kk : ∀ y : Int32, k y = some res → W p l e R s m args below meth c H locs cells slots Q (F0 m (pc + 3) ls (.int y :: rest))) : W p l e R s m args below meth c H locs cells slots Q (F0 m pc ls (.ref (ad6 x.toNatClampNeg) :: rest)) := by
  unfold z_tab at hf
  split at hf
  · rename_i hi
    exact va_getE (q := ("CacheDiary$Place", "highest", "I", [0, 0, 0, 31, 999, 50])) S.1 S.2.1 K.2 hi hs.2.2 S.2.2.2.1 (by simp [pl_F]) (S.2.2.2.2 _ u_513) (fun _ h => h) hdg (kk _ hf)
  · simp at hf
theorem ogeX5_101 (S : CallFix p m c cc nL s args WA RX5) (K : oK D cI cB ad6 (oA cB o tx ad6) s) (hs : oS D cI cB o tx ad6 s σ H locs) {x : Int32} {k : Int32 → Option γ} (hf : (z_tab [0, 0, 0, 2, 3, 2] x).bind k = some res) (hdg : decode cc pc = .ok (.getfield 101, 3)) (kk : ∀ y : Int32, k y = some res → W p l e R s m args below meth c H locs cells slots Q (F0 m (pc + 3) ls (.int y :: rest))) : W p l e R s m args below meth c H locs cells slots Q (F0 m pc ls (.ref (ad6 x.toNatClampNeg) :: rest)) := by
  unfold z_tab at hf
  split at hf
  · rename_i hi
    exact va_getE (q := ("CacheDiary$Place", "maxDigits", "I", [0, 0, 0, 2, 3, 2])) S.1 S.2.1 K.2 hi hs.2.2 S.2.2.2.1 (by simp [pl_F]) (S.2.2.2.2 _ u_521) (fun _ h => h) hdg (kk _ hf)
  · simp at hf
theorem ogsX5_21 (S : CallFix p m c cc nL s args WA RX5) (K : oK D cI cB ad6 (oA cB o tx ad6) s) (hs : oS D cI cB o tx ad6 s σ H locs) (hdg : decode cc pc = .ok (.getstatic 21, 3)) (kk : W p l e R s m args below meth c H locs cells slots Q (F0 m (pc + 3) ls (.ref (ad6 (nI 0).toNatClampNeg) :: rest))) : W p l e R s m args below meth c H locs cells slots Q (F0 m pc ls rest) :=
  va_gets (C := "CacheDiary$Place") (n := "KIND") (d := "LCacheDiary$Place;") (v := .ref (ad6 (nI 0).toNatClampNeg)) S.1 S.2.1 (by rw [nI_clamp (by omega)]; exact (K.2.1 0 (by decide)).1) hs.2.2 S.2.2.2.1 (S.2.2.2.2 _ u_119) (fun _ h => h) hdg kk
theorem ogsX5_42 (S : CallFix p m c cc nL s args WA RX5) (K : oK D cI cB ad6 (oA cB o tx ad6) s) (hs : oS D cI cB o tx ad6 s σ H locs) (hdg : decode cc pc = .ok (.getstatic 42, 3)) (kk : W p l e R s m args below meth c H locs cells slots Q (F0 m (pc + 3) ls (.ref (ad6 (nI 1).toNatClampNeg) :: rest))) : W p l e R s m args below meth c H locs cells slots Q (F0 m pc ls rest) :=
  va_gets (C := "CacheDiary$Place") (n := "CACHE") (d := "LCacheDiary$Place;") (v := .ref (ad6 (nI 1).toNatClampNeg)) S.1 S.2.1 (by rw [nI_clamp (by omega)]; exact (K.2.1 1 (by decide)).1) hs.2.2 S.2.2.2.1 (S.2.2.2.2 _ u_484) (fun _ h => h) hdg kk
theorem ogsX5_48 (S : CallFix p m c cc nL s args WA RX5) (K : oK D cI cB ad6 (oA cB o tx ad6) s) (hs : oS D cI cB o tx ad6 s σ H locs) (hdg : decode cc pc = .ok (.getstatic 48, 3)) (kk : W p l e R s m args below meth c H locs cells slots Q (F0 m (pc + 3) ls (.ref (ad6 (nI 2).toNatClampNeg) :: rest))) : W p l e R s m args below meth c H locs cells slots Q (F0 m pc ls rest) :=
  va_gets (C := "CacheDiary$Place") (n := "COLON") (d := "LCacheDiary$Place;") (v := .ref (ad6 (nI 2).toNatClampNeg)) S.1 S.2.1 (by rw [nI_clamp (by omega)]; exact (K.2.1 2 (by decide)).1) hs.2.2 S.2.2.2.1 (S.2.2.2.2 _ u_485) (fun _ h => h) hdg kk
theorem ogsX5_60 (S : CallFix p m c cc nL s args WA RX5) (K : oK D cI cB ad6 (oA cB o tx ad6) s) (hs : oS D cI cB o tx ad6 s σ H locs) (hdg : decode cc pc = .ok (.getstatic 60, 3)) (kk : W p l e R s m args below meth c H locs cells slots Q (F0 m (pc + 3) ls (.ref (ad6 (nI 5).toNatClampNeg) :: rest))) : W p l e R s m args below meth c H locs cells slots Q (F0 m pc ls rest) :=
  va_gets (C := "CacheDiary$Place") (n := "TICKS") (d := "LCacheDiary$Place;") (v := .ref (ad6 (nI 5).toNatClampNeg)) S.1 S.2.1 (by rw [nI_clamp (by omega)]; exact (K.2.1 5 (by decide)).1) hs.2.2 S.2.2.2.1 (S.2.2.2.2 _ u_491) (fun _ h => h) hdg kk
theorem ogsX5_71 (S : CallFix p m c cc nL s args WA RX5) (K : oK D cI cB ad6 (oA cB o tx ad6) s) (hs : oS D cI cB o tx ad6 s σ H locs) (hdg : decode cc pc = .ok (.getstatic 71, 3)) (kk : W p l e R s m args below meth c H locs cells slots Q (F0 m (pc + 3) ls (.ref (ad6 (nI 3).toNatClampNeg) :: rest))) : W p l e R s m args below meth c H locs cells slots Q (F0 m pc ls rest) :=
  va_gets (C := "CacheDiary$Place") (n := "LINE") (d := "LCacheDiary$Place;") (v := .ref (ad6 (nI 3).toNatClampNeg)) S.1 S.2.1 (by rw [nI_clamp (by omega)]; exact (K.2.1 3 (by decide)).1) hs.2.2 S.2.2.2.1 (S.2.2.2.2 _ u_507) (fun _ h => h) hdg kk
theorem ogsX5_95 (S : CallFix p m c cc nL s args WA RX5) (K : oK D cI cB ad6 (oA cB o tx ad6) s) (hs : oS D cI cB o tx ad6 s σ H locs) (hdg : decode cc pc = .ok (.getstatic 95, 3)) (kk : W p l e R s m args below meth c H locs cells slots Q (F0 m (pc + 3) ls (.ref (ad6 (nI 4).toNatClampNeg) :: rest))) : W p l e R s m args below meth c H locs cells slots Q (F0 m pc ls rest) :=
  va_gets (C := "CacheDiary$Place") (n := "VALUE") (d := "LCacheDiary$Place;") (v := .ref (ad6 (nI 4).toNatClampNeg)) S.1 S.2.1 (by rw [nI_clamp (by omega)]; exact (K.2.1 4 (by decide)).1) hs.2.2 S.2.2.2.1 (S.2.2.2.2 _ u_516) (fun _ h => h) hdg kk
theorem opX5_27_0 (S : CallFix p m c cc nL s args WA RX5) (K : oK D cI cB ad6 (oA cB o tx ad6) s) (hs : oS D cI cB o tx ad6 s σ H locs) {x : Int32} {k : zSt → Option γ} (hf : (z_sf σ 4 x).bind k = some res) (hdg : decode cc pc = .ok (.putfield 27, 3)) (kk : ∀ (σ' : zSt) (H1 : Heap) (locs1 : List Loc), oS D cI cB o tx ad6 s σ' H1 locs1 → k σ' = some res → W p l e R s m args below meth c H1 locs1 cells slots Q (F0 m (pc + 3) ls rest)) : W p l e R s m args below meth c H locs cells slots Q (F0 m pc ls (.ref (ad6 x.toNatClampNeg) :: .ref (o 0) :: rest)) :=
  va_put (D := D) (ci := 5) (v := .ref (ad6 x.toNatClampNeg)) (ty := .object "CacheDiary$Place") (C := RX5) (T := TX5) (N := 11) S.1 S.2.1 S.2.2.2.2 inlX5 tyX5 tyX5_ok nmX5 S.2.2.2.1 K.1 hs.1 hs.2.1 hs.2.2 0 rfl rfl 4 (by decide) (S.2.2.2.2 _ u_120) (fun _ h9 => h9) rfl (by decide +kernel) rfl rfl (Nat.le_of_ble_eq_true rfl) hdg (fun H1 locs1 h1 h2 h3 => kk (z_up σ 4 (fun _ => x)) H1 locs1 ⟨h1, h2, h3⟩ hf)
theorem opX5_67_0 (S : CallFix p m c cc nL s args WA RX5) (K : oK D cI cB ad6 (oA cB o tx ad6) s) (hs : oS D cI cB o tx ad6 s σ H locs) {x : Int32} {k : zSt → Option γ} (hf : (z_sz σ 5 x).bind k = some res) (hdg : decode cc pc = .ok (.putfield 67, 3)) (kk : ∀ (σ' : zSt) (H1 : Heap) (locs1 : List Loc), oS D cI cB o tx ad6 s σ' H1 locs1 → k σ' = some res → W p l e R s m args below meth c H1 locs1 cells slots Q (F0 m (pc + 3) ls rest)) : W p l e R s m args below meth c H locs cells slots Q (F0 m pc ls (.int x :: .ref (o 0) :: rest)) := by
  unfold z_sz z_bz at hf
  split at hf
  · rename_i hz
    exact va_put (D := D) (ci := 5) (v := .int x) (ty := .boolean) (C := RX5) (T := TX5) (N := 11) S.1 S.2.1 S.2.2.2.2 inlX5 tyX5 tyX5_ok nmX5 S.2.2.2.1 K.1 hs.1 hs.2.1 hs.2.2 0 rfl rfl 5 (by decide) (S.2.2.2.2 _ u_492) (fun _ h9 => h9) rfl (by decide +kernel) (z_nar hz) (by rcases hz with h | h <;> subst h <;> decide) (Nat.le_of_ble_eq_true rfl) hdg (fun H1 locs1 h1 h2 h3 => kk (z_up σ 5 (fun _ => x)) H1 locs1 ⟨h1, h2, h3⟩ hf)
  · simp at hf
theorem oac_ne (S : CallFix p m c cc nL s args WA own) (K : oK D cI cB ad6 (oA cB o tx ad6) s) (hs : oS D cI cB o tx ad6 s σ H locs) {x y : Int32} {off : Int} {tgt : Nat} {A B : Option γ} (hf : ((z_pq x y).bind fun b => (if b = true then A else B)) = some res) (hdg : decode cc pc = .ok (.if_acmp .ne off, 3)) (ht : (pc : Int) + off = (tgt : Int)) (kt : B = some res → W p l e R s m args below meth c H locs cells slots Q (F0 m tgt ls rest)) (kf : A = some res → W p l e R s m args below meth c H locs cells slots Q (F0 m (pc + 3) ls rest)) : W p l e R s m args below meth c H locs cells slots Q (F0 m pc ls (.ref (ad6 y.toNatClampNeg) :: .ref (ad6 x.toNatClampNeg) :: rest)) := by
  unfold z_pq at hf
  split at hf
  · rename_i hi
    have hq : some (ad6 x.toNatClampNeg) = some (ad6 y.toNatClampNeg) ↔ x.toNatClampNeg = y.toNatClampNeg := ⟨fun h => K.2.2 _ _ hi.1 hi.2 (Option.some.inj h), fun h => by rw [h]⟩
    have hf : (if decide (x.toNatClampNeg = y.toNatClampNeg) = true then A else B) = some res := hf
    refine lv_acmp_ne (rx := some (ad6 x.toNatClampNeg)) (ry := some (ad6 y.toNatClampNeg)) S.1 S.2.1 hdg ht (fun h => kt ?_) (fun h => kf ?_)
    · rw [if_neg (by simpa using fun e => h (hq.mpr e))] at hf
      exact hf
    · rw [if_pos (by simpa using hq.mp h)] at hf
      exact hf
  · simp at hf
theorem oac_eq (S : CallFix p m c cc nL s args WA own) (K : oK D cI cB ad6 (oA cB o tx ad6) s) (hs : oS D cI cB o tx ad6 s σ H locs) {x y : Int32} {off : Int} {tgt : Nat} {A B : Option γ} (hf : ((z_pq x y).bind fun b => (if b = true then A else B)) = some res) (hdg : decode cc pc = .ok (.if_acmp .eq off, 3)) (ht : (pc : Int) + off = (tgt : Int)) (kt : A = some res → W p l e R s m args below meth c H locs cells slots Q (F0 m tgt ls rest)) (kf : B = some res → W p l e R s m args below meth c H locs cells slots Q (F0 m (pc + 3) ls rest)) : W p l e R s m args below meth c H locs cells slots Q (F0 m pc ls (.ref (ad6 y.toNatClampNeg) :: .ref (ad6 x.toNatClampNeg) :: rest)) := by
  unfold z_pq at hf
  split at hf
  · rename_i hi
    have hq : some (ad6 x.toNatClampNeg) = some (ad6 y.toNatClampNeg) ↔ x.toNatClampNeg = y.toNatClampNeg := ⟨fun h => K.2.2 _ _ hi.1 hi.2 (Option.some.inj h), fun h => by rw [h]⟩
    have hf : (if decide (x.toNatClampNeg = y.toNatClampNeg) = true then A else B) = some res := hf
    refine lv_acmp_eq (rx := some (ad6 x.toNatClampNeg)) (ry := some (ad6 y.toNatClampNeg)) S.1 S.2.1 hdg ht (fun h => kt ?_) (fun h => kf ?_)
    · rw [if_pos (by simpa using hq.mp h)] at hf
      exact hf
    · rw [if_neg (by simpa using fun e => h (hq.mpr e))] at hf
      exact hf
  · simp at hf
end OR
theorem oMet {l : Launch} {y : MethodName} {bytes : ByteArray} {maxL : Nat} {ret : Option FieldType} {rm : Room} {D : va_G} {cI : ClassId} {cB : ClassId} {o : Nat → Nat} {tx : Nat} {ad6 : Nat → Nat} {σ : zSt} {av : List Value} {Qc : Array Value → State → Outcome → State → Prop} (hy : plainName y.cls = true) (hav : (lg_sl av).length ≤ maxL)
    (body : ∀ (p : Program) (e : Env) (s : State) (m : MethodId) (args : Array Value) (below : List Frame) (meth : Method) (c : Code) (H : Heap) (locs : List Loc) (ls : Array Slot), CallFix p m c bytes maxL s args WA y.cls → oK D cI cB ad6 (oA cB o tx ad6) s → meth.sig.returnType = ret → meth.locks = false → lv_has ls maxL (lv_args 0 av) → oS D cI cB o tx ad6 s σ H locs →
      W p l e rm s m args below meth c H locs 0 0 (MQ below Qc args s 0 0 (oA cB o tx ad6)) (F0 m 0 ls [])) : Met l y (Cond.code y bytes maxL ret :: WA) rm (oPc D cI cB o tx ad6 σ av) Qc 0 0 (oA cB o tx ad6) := by
  refine Met.ofW (cc := bytes) (maxL := maxL) (ret := ret) hy rfl ?_
  intro p e s m args below meth c s₁ B hml hv
  obtain ⟨rfl, ⟨hP, hK, hD⟩, hE⟩ := hv
  have hts := atoms_spec (ws := Cond.code y bytes maxL ret :: WA) B.pre
  have hl := lv_entry av (n := maxL) hav
  rw [lg_entry_eq]
  generalize (lg_sl av ++ List.replicate (maxL - (lg_sl av).length) Slot.unset).toArray = ls at hl ⊢
  exact body p e s m _ below meth c s.heap [] ls ⟨B.exec, B.bytes, hml, findClass_of_methodNamed B.named, fun w h => hts w (List.mem_cons_of_mem _ h)⟩ ⟨hK, hE⟩ B.returns B.notSynchronized hl ⟨hP, hD, va_S.rf⟩
/-- at a place of the code, in a state, with these locals and this stack, the way to the end stands -/
abbrev oGo (p : Program) (l : Launch) (e : Env) (R : Room) (s : State) (m : MethodId) (args : Array Value) (below : List Frame) (meth : Method) (c : Code) (Q : State → Prop) (D : va_G) (cI : ClassId) (cB : ClassId) (o : Nat → Nat) (tx : Nat) (ad6 : Nat → Nat) (nL : Nat) (σ : zSt) (lv : List (Nat × Value)) (pc : Nat) (st : List Value) : Prop :=
  ∀ (H : Heap) (locs : List Loc) (ls : Array Slot), lv_has ls nL lv → oS D cI cB o tx ad6 s σ H locs → W p l e R s m args below meth c H locs 0 0 Q (F0 m pc ls st)
