/-! the guards needIndex, needRange, needState: they return, or throw (by wip/tools/qneed.py) -/
theorem ex_0a : Cond.classLink RX8 206 "java/lang/IndexOutOfBoundsException" ∈ WA := z_in0 _ (List.mem_of_getElem? (i := 163) (by decide +kernel))
theorem ex_0i : Cond.initialized "java/lang/IndexOutOfBoundsException" ∈ WA := z_in0 _ (List.mem_of_getElem? (i := 164) (by decide +kernel))
theorem ex_0o : ∀ w ∈ Cond.classLink RX8 206 "java/lang/IndexOutOfBoundsException" :: Cond.initialized "java/lang/IndexOutOfBoundsException" :: vx_atS RX8 210 "java/lang/IndexOutOfBoundsException" ["java/lang/RuntimeException", "java/lang/Exception"], vx_ot w = true := by decide +kernel
theorem ex_0w {s : State} {args : Array Value} (hts : ∀ w ∈ WA, w.before args s = true) (hc : qCst s) : ∀ w ∈ vx_atS RX8 210 "java/lang/IndexOutOfBoundsException" ["java/lang/RuntimeException", "java/lang/Exception"], w.before args s = true :=
  vx_hat (B := (vx_atS RX8 210 "java/lang/IndexOutOfBoundsException" ["java/lang/RuntimeException", "java/lang/Exception"]).filter (fun w => !goodWord w)) (fun w h => hts w (List.mem_append_left _ (List.mem_append_right _ h))) (fun w h => h) (fun w h => va_tabs (qFw_f w (List.mem_append_left _ h)).2 rfl (hc w (List.mem_append_left _ h)))
def rmX8_needIndex : Room := { frames := 8, cells := 1, slots := 6, locals := 140 }
set_option maxHeartbeats 4000000 in
set_option maxRecDepth 100000 in
theorem metX8_needIndex (l : Launch) (hfl : l.stackTraces = false) (D : va_G) (cI cB cM : ClassId) (ad6 : Nat → Nat) (a : Nat → Nat → Nat) (A : Nat → Prop) (σ : cSt) (x y : Int32) : vx_Met l yX8_needIndex (Cond.code yX8_needIndex cX8_needIndex 2 none :: WA) rmX8_needIndex (qPc D cI cB cM ad6 a A σ [.int x, .int y]) (va_Qv (fun (_ : Unit) => ¬ (x < 0 ∨ y ≤ x)) (fun _ t => qB D cI cB cM ad6 a A σ t) A) (vx_X (fun _ : Unit => x < 0 ∨ y ≤ x) (fun E _ t => E = c_ex 0 ∧ qB D cI cB cM ad6 a A σ t) A) 1 6 A := by
  refine vx_ofW (cc := cX8_needIndex) (maxL := 2) (ret := none) (by decide) rfl ?_
  intro p e s m args below meth c s₁ B hml hex hv
  obtain ⟨rfl, ⟨G, hP, hD, hK0⟩, hF⟩ := hv
  have hts0 := atoms_spec (ws := Cond.code yX8_needIndex cX8_needIndex 2 none :: WA) B.pre
  have hts : ∀ w ∈ WA, w.before ([.int x, .int y] : List Value).toArray s = true := fun w h => hts0 w (List.mem_cons_of_mem _ h)
  have hx := B.exec
  have hb := B.bytes
  have hr := B.returns
  have hlk := B.notSynchronized
  have hown : s.vm.findClass RX8 = some m.cls := findClass_of_methodNamed B.named
  have K : qK D cI cB cM ad6 A s := ⟨hK0, hF⟩
  have hl := lv_entry ([.int x, .int y]) (n := 2) (Nat.le_of_ble_eq_true rfl)
  rw [lg_entry_eq]
  generalize (lg_sl ([.int x, .int y]) ++ List.replicate (2 - (lg_sl ([.int x, .int y])).length) Slot.unset).toArray = ls at hl ⊢
  have hl : lv_has ls 2 [(0, .int x), (1, .int y)] := hl
  have hS : va_S A s.heap s.heap [] := va_S.rf
  obtain ⟨sa, hsa⟩ := K.2.2.2.2.1
  have fin : ∀ (pc : Nat), decode cX8_needIndex pc = .ok (.return_, 1) → ¬ (x < 0 ∨ y ≤ x) → W p l e (headSpec (Cond.code yX8_needIndex cX8_needIndex 2 none :: WA) rmX8_needIndex).room s m ([.int x, .int y] : List Value).toArray below meth c s.heap [] 0 0 (vx_MQ below (va_Qv (fun (_ : Unit) => ¬ (x < 0 ∨ y ≤ x)) (fun _ t => qB D cI cB cM ad6 a A σ t) A) (vx_X (fun _ : Unit => x < 0 ∨ y ≤ x) (fun E _ t => E = c_ex 0 ∧ qB D cI cB cM ad6 a A σ t) A) ([.int x, .int y] : List Value).toArray s 1 6 A) (F0 m pc ls []) := by
    intro pc hd hn
    refine W.widen (k := 1) (n := 6) (by omega) (by omega) ?_
    exact vx_ret (W.vret hx hb hr (fun t ht hW => ⟨⟨(), rfl, hn, G, by rw [ht]; exact hP, hD, va_K.moved hW.alike K.1⟩, hS.F ht⟩) hS.2.2 hd (hlocks := hlk))
  refine lv_iload_n hx hb dX8_needIndex_0 rfl (lv_at hl 0 rfl) ?_
  refine lv_if_lt (tgt := 9) hx hb dX8_needIndex_1 (by decide) (fun h1 => ?_) (fun h1 => ?_)
  · exact vx_throwS (A := A) (own := RX8) (cls := "java/lang/IndexOutOfBoundsException") (text := "there is no such cache, line or entry") (names := ["java/lang/RuntimeException", "java/lang/Exception"]) (ik := 206) (is := 208) (ic := 210) (mc := 1) (ms := 6) (sa := sa) hx hb hfl hown (by decide) (by decide) (hts _ ex_0a) (hts _ ex_0i) hsa (ex_0w hts K.2.2.2.2.2.2.2) ex_0o K.2.2.1 K.2.2.2.1 hS (hl.1.trans hml.symm) dX8_needIndex_9 dX8_needIndex_12 dX8_needIndex_13 dX8_needIndex_15 dX8_needIndex_18 (fun x h => (hex x h).elim) (show 2 + 3 < 8 by omega) (show 0 + (13 * (2 + 1) + 43) ≤ 140 by omega) (Nat.le_refl _) (Nat.le_refl _) hlk (fun t hA hz hk => ⟨(), Or.inl h1, ⟨rfl, G, va_P.kept hP (fun k q h => hk q.1 ((hP k q h).lt)), hD, va_K.moved hA K.1⟩, hz, fun q h1 _ => hk q h1⟩) (fun z hz => nomatch hz) (Nat.le_refl _) (Nat.le_refl _)
  · refine lv_iload_n hx hb dX8_needIndex_4 rfl (lv_at hl 0 rfl) ?_
    refine lv_iload_n hx hb dX8_needIndex_5 rfl (lv_at hl 1 rfl) ?_
    refine lv_icmp_lt (tgt := 19) hx hb dX8_needIndex_6 (by decide) (fun h2 => ?_) (fun h2 => ?_)
    · exact fin 19 dX8_needIndex_19 (fun h => h.elim h1 (fun h => absurd h (Int32.not_le.mpr h2)))
    · exact vx_throwS (A := A) (own := RX8) (cls := "java/lang/IndexOutOfBoundsException") (text := "there is no such cache, line or entry") (names := ["java/lang/RuntimeException", "java/lang/Exception"]) (ik := 206) (is := 208) (ic := 210) (mc := 1) (ms := 6) (sa := sa) hx hb hfl hown (by decide) (by decide) (hts _ ex_0a) (hts _ ex_0i) hsa (ex_0w hts K.2.2.2.2.2.2.2) ex_0o K.2.2.1 K.2.2.2.1 hS (hl.1.trans hml.symm) dX8_needIndex_9 dX8_needIndex_12 dX8_needIndex_13 dX8_needIndex_15 dX8_needIndex_18 (fun x h => (hex x h).elim) (show 2 + 3 < 8 by omega) (show 0 + (13 * (2 + 1) + 43) ≤ 140 by omega) (Nat.le_refl _) (Nat.le_refl _) hlk (fun t hA hz hk => ⟨(), Or.inr (Int32.not_lt.mp h2), ⟨rfl, G, va_P.kept hP (fun k q h => hk q.1 ((hP k q h).lt)), hD, va_K.moved hA K.1⟩, hz, fun q h1 _ => hk q h1⟩) (fun z hz => nomatch hz) (Nat.le_refl _) (Nat.le_refl _)

theorem un_0l : Cond.methodLink RX8 58 yX8_needIndex ∈ WA := z_in0 _ (List.mem_of_getElem? (i := 160) (by decide +kernel))
theorem un_0s : Cond.static yX8_needIndex ∈ WA := z_in0 _ (List.mem_of_getElem? (i := 161) (by decide +kernel))
theorem un_0n : Cond.initialized RX8 ∈ WA := z_in0 _ (List.mem_of_getElem? (i := 2) (by decide +kernel))
theorem un_0c : Cond.code yX8_needIndex cX8_needIndex 2 none ∈ WA := z_in0 _ (List.mem_of_getElem? (i := 162) (by decide +kernel))
theorem qn0 {p : Program} {l : Launch} {e : Env} {R : Room} {s : State} {m : MethodId} {args : Array Value} {below : List Frame} {meth : Method} {c : Code} {H : Heap} {locs : List Loc} {cells slots : Nat} {cc : ByteArray} {nL pc : Nat} {ls : Array Slot} {rest : List Value} {D : va_G} {cI cB cM : ClassId} {ad6 : Nat → Nat} {a : Nat → Nat → Nat} {A : Nat → Prop} {σ : cSt} {res : cRes} {Qc : Array Value → State → Outcome → State → Prop}
    (hfl : l.stackTraces = false) (S : CallFix p m c cc nL s args WA RX8) (K : qK D cI cB cM ad6 A s) (hk : meth.locks = false) (hex : ∀ x ∈ c.exceptionTable.toList, False) (hs : qS D cI cB cM ad6 a A s σ H locs) (hl : ls.size = nL) {x y : Int32} {o1 : Option cRes} (hf : (if x < 0 ∨ y ≤ x then some (Sum.inl 0) else o1) = some res) (hdg : decode cc pc = .ok (.invokestatic 58, 3))
    (hR : 9 ≤ R.frames ∧ 174 ≤ R.locals) (hroom : (rest.map fun v => v.category).sum ≤ 8) (hfit : cells + 1 ≤ R.cells ∧ slots + 6 ≤ R.slots) (h8 : cells + 1 ≤ 8 ∧ slots + 6 ≤ 48)
    (kk : ∀ (H1 : Heap) (locs1 : List Loc), qS D cI cB cM ad6 a A s σ H1 locs1 → o1 = some res → W p l e R s m args below meth c H1 locs1 (cells + 1) (slots + 6) (vx_MQ below Qc (qXX D cI cB cM ad6 a A σ res) args s 8 48 A) (F0 m (pc + 3) ls rest)) : W p l e R s m args below meth c H locs cells slots (vx_MQ below Qc (qXX D cI cB cM ad6 a A σ res) args s 8 48 A) (F0 m pc ls (.int y :: .int x :: rest)) := by
  have hpre := qPre K hs [.int x, .int y]
  obtain ⟨G, hP, hD, hS⟩ := hs
  have hR' : rmX8_needIndex.frames + 1 ≤ R.frames ∧ 8 + (2 + 11) + rmX8_needIndex.locals ≤ R.locals := ⟨hR.1, by show 8 + (2 + 11) + 140 ≤ R.locals; omega⟩
  refine vx_callv (vx_runS (As := [.int x, .int y]) (rest := rest) S (metX8_needIndex l hfl D cI cB cM ad6 a A σ x y) (va_cwS 2 S.2.2.2.2 (z_goodS un_0l un_0s un_0n un_0c) rfl rfl rfl (by decide +kernel) hR') ⟨qPc_blind _ _ _ _ _ _ _ _ _, hpre⟩ rfl rfl hl rfl (lv_room hroom) hdg hfit) hS (fun q _ h => h) (fun q h => h) (fun q _ h => h) (fun E ce q9 u t H1 locs1 ht hvm hp hB hz hk1 hS1 hce hcv hcl => ?_) (fun u t H1 locs1 ht hvm hw hB hz1 hk1 hS1 => ?_)
  · obtain ⟨rfl, G1, hP1, hD1, hK1⟩ := hB
    rw [ht] at hP1
    refine vx_out (fun x h => (hex x h).elim) hk hce hcv hcl (fun t9 ht9 hA9 => ⟨0, ?_, ⟨rfl, G1, by rw [ht9]; exact hP1, hD1, va_K.moved hA9 K.1⟩, hS1.F ht9⟩) hS1.2.2 h8.1 h8.2
    rw [if_pos hp] at hf
    exact (Option.some.inj hf).symm
  · obtain ⟨G1, hP1, hD1, hK1⟩ := hB
    rw [ht] at hP1
    rw [if_neg hw] at hf
    exact kk H1 locs1 ⟨G1, hP1, hD1, hS1⟩ hf
theorem ex_1a : Cond.classLink RX8 213 "java/lang/IllegalArgumentException" ∈ WA := z_in0 _ (List.mem_of_getElem? (i := 140) (by decide +kernel))
theorem ex_1i : Cond.initialized "java/lang/IllegalArgumentException" ∈ WA := z_in0 _ (List.mem_of_getElem? (i := 141) (by decide +kernel))
theorem ex_1o : ∀ w ∈ Cond.classLink RX8 213 "java/lang/IllegalArgumentException" :: Cond.initialized "java/lang/IllegalArgumentException" :: vx_atS RX8 217 "java/lang/IllegalArgumentException" ["java/lang/RuntimeException", "java/lang/Exception"], vx_ot w = true := by decide +kernel
theorem ex_1w {s : State} {args : Array Value} (hts : ∀ w ∈ WA, w.before args s = true) (hc : qCst s) : ∀ w ∈ vx_atS RX8 217 "java/lang/IllegalArgumentException" ["java/lang/RuntimeException", "java/lang/Exception"], w.before args s = true :=
  vx_hat (B := (vx_atS RX8 217 "java/lang/IllegalArgumentException" ["java/lang/RuntimeException", "java/lang/Exception"]).filter (fun w => !goodWord w)) (fun w h => hts w (List.mem_append_left _ (List.mem_append_left _ (List.mem_append_right _ h)))) (fun w h => h) (fun w h => va_tabs (qFw_f w (List.mem_append_right _ (List.mem_append_left _ h))).2 rfl (hc w (List.mem_append_right _ (List.mem_append_left _ h))))
def rmX8_needRange : Room := { frames := 8, cells := 1, slots := 6, locals := 140 }
set_option maxHeartbeats 4000000 in
set_option maxRecDepth 100000 in
theorem metX8_needRange (l : Launch) (hfl : l.stackTraces = false) (D : va_G) (cI cB cM : ClassId) (ad6 : Nat → Nat) (a : Nat → Nat → Nat) (A : Nat → Prop) (σ : cSt) (x y z : Int32) : vx_Met l yX8_needRange (Cond.code yX8_needRange cX8_needRange 3 none :: WA) rmX8_needRange (qPc D cI cB cM ad6 a A σ [.int x, .int y, .int z]) (va_Qv (fun (_ : Unit) => ¬ (x < y ∨ z < x)) (fun _ t => qB D cI cB cM ad6 a A σ t) A) (vx_X (fun _ : Unit => x < y ∨ z < x) (fun E _ t => E = c_ex 1 ∧ qB D cI cB cM ad6 a A σ t) A) 1 6 A := by
  refine vx_ofW (cc := cX8_needRange) (maxL := 3) (ret := none) (by decide) rfl ?_
  intro p e s m args below meth c s₁ B hml hex hv
  obtain ⟨rfl, ⟨G, hP, hD, hK0⟩, hF⟩ := hv
  have hts0 := atoms_spec (ws := Cond.code yX8_needRange cX8_needRange 3 none :: WA) B.pre
  have hts : ∀ w ∈ WA, w.before ([.int x, .int y, .int z] : List Value).toArray s = true := fun w h => hts0 w (List.mem_cons_of_mem _ h)
  have hx := B.exec
  have hb := B.bytes
  have hr := B.returns
  have hlk := B.notSynchronized
  have hown : s.vm.findClass RX8 = some m.cls := findClass_of_methodNamed B.named
  have K : qK D cI cB cM ad6 A s := ⟨hK0, hF⟩
  have hl := lv_entry ([.int x, .int y, .int z]) (n := 3) (Nat.le_of_ble_eq_true rfl)
  rw [lg_entry_eq]
  generalize (lg_sl ([.int x, .int y, .int z]) ++ List.replicate (3 - (lg_sl ([.int x, .int y, .int z])).length) Slot.unset).toArray = ls at hl ⊢
  have hl : lv_has ls 3 [(0, .int x), (1, .int y), (2, .int z)] := hl
  have hS : va_S A s.heap s.heap [] := va_S.rf
  obtain ⟨sa, hsa⟩ := K.2.2.2.2.2.1
  have fin : ∀ (pc : Nat), decode cX8_needRange pc = .ok (.return_, 1) → ¬ (x < y ∨ z < x) → W p l e (headSpec (Cond.code yX8_needRange cX8_needRange 3 none :: WA) rmX8_needRange).room s m ([.int x, .int y, .int z] : List Value).toArray below meth c s.heap [] 0 0 (vx_MQ below (va_Qv (fun (_ : Unit) => ¬ (x < y ∨ z < x)) (fun _ t => qB D cI cB cM ad6 a A σ t) A) (vx_X (fun _ : Unit => x < y ∨ z < x) (fun E _ t => E = c_ex 1 ∧ qB D cI cB cM ad6 a A σ t) A) ([.int x, .int y, .int z] : List Value).toArray s 1 6 A) (F0 m pc ls []) := by
    intro pc hd hn
    refine W.widen (k := 1) (n := 6) (by omega) (by omega) ?_
    exact vx_ret (W.vret hx hb hr (fun t ht hW => ⟨⟨(), rfl, hn, G, by rw [ht]; exact hP, hD, va_K.moved hW.alike K.1⟩, hS.F ht⟩) hS.2.2 hd (hlocks := hlk))
  refine lv_iload_n hx hb dX8_needRange_0 rfl (lv_at hl 0 rfl) ?_
  refine lv_iload_n hx hb dX8_needRange_1 rfl (lv_at hl 1 rfl) ?_
  refine lv_icmp_lt (tgt := 10) hx hb dX8_needRange_2 (by decide) (fun h1 => ?_) (fun h1 => ?_)
  · exact vx_throwS (A := A) (own := RX8) (cls := "java/lang/IllegalArgumentException") (text := "an argument is out of range") (names := ["java/lang/RuntimeException", "java/lang/Exception"]) (ik := 213) (is := 215) (ic := 217) (mc := 1) (ms := 6) (sa := sa) hx hb hfl hown (by decide) (by decide) (hts _ ex_1a) (hts _ ex_1i) hsa (ex_1w hts K.2.2.2.2.2.2.2) ex_1o K.2.2.1 K.2.2.2.1 hS (hl.1.trans hml.symm) dX8_needRange_10 dX8_needRange_13 dX8_needRange_14 dX8_needRange_16 dX8_needRange_19 (fun x h => (hex x h).elim) (show 2 + 3 < 8 by omega) (show 0 + (13 * (2 + 1) + 43) ≤ 140 by omega) (Nat.le_refl _) (Nat.le_refl _) hlk (fun t hA hz hk => ⟨(), Or.inl h1, ⟨rfl, G, va_P.kept hP (fun k q h => hk q.1 ((hP k q h).lt)), hD, va_K.moved hA K.1⟩, hz, fun q h1 _ => hk q h1⟩) (fun z hz => nomatch hz) (Nat.le_refl _) (Nat.le_refl _)
  · refine lv_iload_n hx hb dX8_needRange_5 rfl (lv_at hl 0 rfl) ?_
    refine lv_iload_n hx hb dX8_needRange_6 rfl (lv_at hl 2 rfl) ?_
    refine lv_icmp_le (tgt := 20) hx hb dX8_needRange_7 (by decide) (fun h2 => ?_) (fun h2 => ?_)
    · exact fin 20 dX8_needRange_20 (fun h => h.elim h1 (fun h => absurd h2 (Int32.not_le.mpr h)))
    · exact vx_throwS (A := A) (own := RX8) (cls := "java/lang/IllegalArgumentException") (text := "an argument is out of range") (names := ["java/lang/RuntimeException", "java/lang/Exception"]) (ik := 213) (is := 215) (ic := 217) (mc := 1) (ms := 6) (sa := sa) hx hb hfl hown (by decide) (by decide) (hts _ ex_1a) (hts _ ex_1i) hsa (ex_1w hts K.2.2.2.2.2.2.2) ex_1o K.2.2.1 K.2.2.2.1 hS (hl.1.trans hml.symm) dX8_needRange_10 dX8_needRange_13 dX8_needRange_14 dX8_needRange_16 dX8_needRange_19 (fun x h => (hex x h).elim) (show 2 + 3 < 8 by omega) (show 0 + (13 * (2 + 1) + 43) ≤ 140 by omega) (Nat.le_refl _) (Nat.le_refl _) hlk (fun t hA hz hk => ⟨(), Or.inr (Int32.not_le.mp h2), ⟨rfl, G, va_P.kept hP (fun k q h => hk q.1 ((hP k q h).lt)), hD, va_K.moved hA K.1⟩, hz, fun q h1 _ => hk q h1⟩) (fun z hz => nomatch hz) (Nat.le_refl _) (Nat.le_refl _)

theorem un_1l : Cond.methodLink RX8 45 yX8_needRange ∈ WA := z_in0 _ (List.mem_of_getElem? (i := 137) (by decide +kernel))
theorem un_1s : Cond.static yX8_needRange ∈ WA := z_in0 _ (List.mem_of_getElem? (i := 138) (by decide +kernel))
theorem un_1n : Cond.initialized RX8 ∈ WA := z_in0 _ (List.mem_of_getElem? (i := 2) (by decide +kernel))
theorem un_1c : Cond.code yX8_needRange cX8_needRange 3 none ∈ WA := z_in0 _ (List.mem_of_getElem? (i := 139) (by decide +kernel))
theorem qn1 {p : Program} {l : Launch} {e : Env} {R : Room} {s : State} {m : MethodId} {args : Array Value} {below : List Frame} {meth : Method} {c : Code} {H : Heap} {locs : List Loc} {cells slots : Nat} {cc : ByteArray} {nL pc : Nat} {ls : Array Slot} {rest : List Value} {D : va_G} {cI cB cM : ClassId} {ad6 : Nat → Nat} {a : Nat → Nat → Nat} {A : Nat → Prop} {σ : cSt} {res : cRes} {Qc : Array Value → State → Outcome → State → Prop}
    (hfl : l.stackTraces = false) (S : CallFix p m c cc nL s args WA RX8) (K : qK D cI cB cM ad6 A s) (hk : meth.locks = false) (hex : ∀ x ∈ c.exceptionTable.toList, False) (hs : qS D cI cB cM ad6 a A s σ H locs) (hl : ls.size = nL) {x y z : Int32} {o1 : Option cRes} (hf : (if x < y ∨ z < x then some (Sum.inl 1) else o1) = some res) (hdg : decode cc pc = .ok (.invokestatic 45, 3))
    (hR : 9 ≤ R.frames ∧ 174 ≤ R.locals) (hroom : (rest.map fun v => v.category).sum ≤ 8) (hfit : cells + 1 ≤ R.cells ∧ slots + 6 ≤ R.slots) (h8 : cells + 1 ≤ 8 ∧ slots + 6 ≤ 48)
    (kk : ∀ (H1 : Heap) (locs1 : List Loc), qS D cI cB cM ad6 a A s σ H1 locs1 → o1 = some res → W p l e R s m args below meth c H1 locs1 (cells + 1) (slots + 6) (vx_MQ below Qc (qXX D cI cB cM ad6 a A σ res) args s 8 48 A) (F0 m (pc + 3) ls rest)) : W p l e R s m args below meth c H locs cells slots (vx_MQ below Qc (qXX D cI cB cM ad6 a A σ res) args s 8 48 A) (F0 m pc ls (.int z :: .int y :: .int x :: rest)) := by
  have hpre := qPre K hs [.int x, .int y, .int z]
  obtain ⟨G, hP, hD, hS⟩ := hs
  have hR' : rmX8_needRange.frames + 1 ≤ R.frames ∧ 8 + (3 + 11) + rmX8_needRange.locals ≤ R.locals := ⟨hR.1, by show 8 + (3 + 11) + 140 ≤ R.locals; omega⟩
  refine vx_callv (vx_runS (As := [.int x, .int y, .int z]) (rest := rest) S (metX8_needRange l hfl D cI cB cM ad6 a A σ x y z) (va_cwS 3 S.2.2.2.2 (z_goodS un_1l un_1s un_1n un_1c) rfl rfl rfl (by decide +kernel) hR') ⟨qPc_blind _ _ _ _ _ _ _ _ _, hpre⟩ rfl rfl hl rfl (lv_room hroom) hdg hfit) hS (fun q _ h => h) (fun q h => h) (fun q _ h => h) (fun E ce q9 u t H1 locs1 ht hvm hp hB hz hk1 hS1 hce hcv hcl => ?_) (fun u t H1 locs1 ht hvm hw hB hz1 hk1 hS1 => ?_)
  · obtain ⟨rfl, G1, hP1, hD1, hK1⟩ := hB
    rw [ht] at hP1
    refine vx_out (fun x h => (hex x h).elim) hk hce hcv hcl (fun t9 ht9 hA9 => ⟨1, ?_, ⟨rfl, G1, by rw [ht9]; exact hP1, hD1, va_K.moved hA9 K.1⟩, hS1.F ht9⟩) hS1.2.2 h8.1 h8.2
    rw [if_pos hp] at hf
    exact (Option.some.inj hf).symm
  · obtain ⟨G1, hP1, hD1, hK1⟩ := hB
    rw [ht] at hP1
    rw [if_neg hw] at hf
    exact kk H1 locs1 ⟨G1, hP1, hD1, hS1⟩ hf
theorem ex_2a : Cond.classLink RX8 218 "java/lang/IllegalStateException" ∈ WA := z_in0 _ (List.mem_of_getElem? (i := 294) (by decide +kernel))
theorem ex_2i : Cond.initialized "java/lang/IllegalStateException" ∈ WA := z_in0 _ (List.mem_of_getElem? (i := 295) (by decide +kernel))
theorem ex_2o : ∀ w ∈ Cond.classLink RX8 218 "java/lang/IllegalStateException" :: Cond.initialized "java/lang/IllegalStateException" :: vx_atS RX8 222 "java/lang/IllegalStateException" ["java/lang/RuntimeException", "java/lang/Exception"], vx_ot w = true := by decide +kernel
theorem ex_2w {s : State} {args : Array Value} (hts : ∀ w ∈ WA, w.before args s = true) (hc : qCst s) : ∀ w ∈ vx_atS RX8 222 "java/lang/IllegalStateException" ["java/lang/RuntimeException", "java/lang/Exception"], w.before args s = true :=
  vx_hat (B := (vx_atS RX8 222 "java/lang/IllegalStateException" ["java/lang/RuntimeException", "java/lang/Exception"]).filter (fun w => !goodWord w)) (fun w h => hts w (List.mem_append_right _ h)) (fun w h => h) (fun w h => va_tabs (qFw_f w (List.mem_append_right _ (List.mem_append_right _ h))).2 rfl (hc w (List.mem_append_right _ (List.mem_append_right _ h))))
def rmX8_needState : Room := { frames := 8, cells := 1, slots := 6, locals := 140 }
set_option maxHeartbeats 4000000 in
set_option maxRecDepth 100000 in
theorem metX8_needState (l : Launch) (hfl : l.stackTraces = false) (D : va_G) (cI cB cM : ClassId) (ad6 : Nat → Nat) (a : Nat → Nat → Nat) (A : Nat → Prop) (σ : cSt) (x : Int32) : vx_Met l yX8_needState (Cond.code yX8_needState cX8_needState 1 none :: WA) rmX8_needState (qPc D cI cB cM ad6 a A σ [.int x]) (va_Qv (fun (_ : Unit) => ¬ (x = 0)) (fun _ t => qB D cI cB cM ad6 a A σ t) A) (vx_X (fun _ : Unit => x = 0) (fun E _ t => E = c_ex 2 ∧ qB D cI cB cM ad6 a A σ t) A) 1 6 A := by
  refine vx_ofW (cc := cX8_needState) (maxL := 1) (ret := none) (by decide) rfl ?_
  intro p e s m args below meth c s₁ B hml hex hv
  obtain ⟨rfl, ⟨G, hP, hD, hK0⟩, hF⟩ := hv
  have hts0 := atoms_spec (ws := Cond.code yX8_needState cX8_needState 1 none :: WA) B.pre
  have hts : ∀ w ∈ WA, w.before ([.int x] : List Value).toArray s = true := fun w h => hts0 w (List.mem_cons_of_mem _ h)
  have hx := B.exec
  have hb := B.bytes
  have hr := B.returns
  have hlk := B.notSynchronized
  have hown : s.vm.findClass RX8 = some m.cls := findClass_of_methodNamed B.named
  have K : qK D cI cB cM ad6 A s := ⟨hK0, hF⟩
  have hl := lv_entry ([.int x]) (n := 1) (Nat.le_of_ble_eq_true rfl)
  rw [lg_entry_eq]
  generalize (lg_sl ([.int x]) ++ List.replicate (1 - (lg_sl ([.int x])).length) Slot.unset).toArray = ls at hl ⊢
  have hl : lv_has ls 1 [(0, .int x)] := hl
  have hS : va_S A s.heap s.heap [] := va_S.rf
  obtain ⟨sa, hsa⟩ := K.2.2.2.2.2.2.1
  have fin : ∀ (pc : Nat), decode cX8_needState pc = .ok (.return_, 1) → ¬ (x = 0) → W p l e (headSpec (Cond.code yX8_needState cX8_needState 1 none :: WA) rmX8_needState).room s m ([.int x] : List Value).toArray below meth c s.heap [] 0 0 (vx_MQ below (va_Qv (fun (_ : Unit) => ¬ (x = 0)) (fun _ t => qB D cI cB cM ad6 a A σ t) A) (vx_X (fun _ : Unit => x = 0) (fun E _ t => E = c_ex 2 ∧ qB D cI cB cM ad6 a A σ t) A) ([.int x] : List Value).toArray s 1 6 A) (F0 m pc ls []) := by
    intro pc hd hn
    refine W.widen (k := 1) (n := 6) (by omega) (by omega) ?_
    exact vx_ret (W.vret hx hb hr (fun t ht hW => ⟨⟨(), rfl, hn, G, by rw [ht]; exact hP, hD, va_K.moved hW.alike K.1⟩, hS.F ht⟩) hS.2.2 hd (hlocks := hlk))
  refine lv_iload_n hx hb dX8_needState_0 rfl (lv_at hl 0 rfl) ?_
  refine lv_if_ne (tgt := 14) hx hb dX8_needState_1 (by decide) (fun h1 => ?_) (fun h1 => ?_)
  · exact fin 14 dX8_needState_14 h1
  · exact vx_throwS (A := A) (own := RX8) (cls := "java/lang/IllegalStateException") (text := "this cannot be done now") (names := ["java/lang/RuntimeException", "java/lang/Exception"]) (ik := 218) (is := 220) (ic := 222) (mc := 1) (ms := 6) (sa := sa) hx hb hfl hown (by decide) (by decide) (hts _ ex_2a) (hts _ ex_2i) hsa (ex_2w hts K.2.2.2.2.2.2.2) ex_2o K.2.2.1 K.2.2.2.1 hS (hl.1.trans hml.symm) dX8_needState_4 dX8_needState_7 dX8_needState_8 dX8_needState_10 dX8_needState_13 (fun x h => (hex x h).elim) (show 2 + 3 < 8 by omega) (show 0 + (13 * (2 + 1) + 43) ≤ 140 by omega) (Nat.le_refl _) (Nat.le_refl _) hlk (fun t hA hz hk => ⟨(), h1, ⟨rfl, G, va_P.kept hP (fun k q h => hk q.1 ((hP k q h).lt)), hD, va_K.moved hA K.1⟩, hz, fun q h1 _ => hk q h1⟩) (fun z hz => nomatch hz) (Nat.le_refl _) (Nat.le_refl _)

theorem un_2l : Cond.methodLink RX8 72 yX8_needState ∈ WA := z_in0 _ (List.mem_of_getElem? (i := 291) (by decide +kernel))
theorem un_2s : Cond.static yX8_needState ∈ WA := z_in0 _ (List.mem_of_getElem? (i := 292) (by decide +kernel))
theorem un_2n : Cond.initialized RX8 ∈ WA := z_in0 _ (List.mem_of_getElem? (i := 2) (by decide +kernel))
theorem un_2c : Cond.code yX8_needState cX8_needState 1 none ∈ WA := z_in0 _ (List.mem_of_getElem? (i := 293) (by decide +kernel))
theorem qn2 {p : Program} {l : Launch} {e : Env} {R : Room} {s : State} {m : MethodId} {args : Array Value} {below : List Frame} {meth : Method} {c : Code} {H : Heap} {locs : List Loc} {cells slots : Nat} {cc : ByteArray} {nL pc : Nat} {ls : Array Slot} {rest : List Value} {D : va_G} {cI cB cM : ClassId} {ad6 : Nat → Nat} {a : Nat → Nat → Nat} {A : Nat → Prop} {σ : cSt} {res : cRes} {Qc : Array Value → State → Outcome → State → Prop}
    (hfl : l.stackTraces = false) (S : CallFix p m c cc nL s args WA RX8) (K : qK D cI cB cM ad6 A s) (hk : meth.locks = false) (hex : ∀ x ∈ c.exceptionTable.toList, False) (hs : qS D cI cB cM ad6 a A s σ H locs) (hl : ls.size = nL) {x : Int32} {o1 : Option cRes} (hf : (if x = 0 then some (Sum.inl 2) else o1) = some res) (hdg : decode cc pc = .ok (.invokestatic 72, 3))
    (hR : 9 ≤ R.frames ∧ 174 ≤ R.locals) (hroom : (rest.map fun v => v.category).sum ≤ 8) (hfit : cells + 1 ≤ R.cells ∧ slots + 6 ≤ R.slots) (h8 : cells + 1 ≤ 8 ∧ slots + 6 ≤ 48)
    (kk : ∀ (H1 : Heap) (locs1 : List Loc), qS D cI cB cM ad6 a A s σ H1 locs1 → o1 = some res → W p l e R s m args below meth c H1 locs1 (cells + 1) (slots + 6) (vx_MQ below Qc (qXX D cI cB cM ad6 a A σ res) args s 8 48 A) (F0 m (pc + 3) ls rest)) : W p l e R s m args below meth c H locs cells slots (vx_MQ below Qc (qXX D cI cB cM ad6 a A σ res) args s 8 48 A) (F0 m pc ls (.int x :: rest)) := by
  have hpre := qPre K hs [.int x]
  obtain ⟨G, hP, hD, hS⟩ := hs
  have hR' : rmX8_needState.frames + 1 ≤ R.frames ∧ 8 + (1 + 11) + rmX8_needState.locals ≤ R.locals := ⟨hR.1, by show 8 + (1 + 11) + 140 ≤ R.locals; omega⟩
  refine vx_callv (vx_runS (As := [.int x]) (rest := rest) S (metX8_needState l hfl D cI cB cM ad6 a A σ x) (va_cwS 1 S.2.2.2.2 (z_goodS un_2l un_2s un_2n un_2c) rfl rfl rfl (by decide +kernel) hR') ⟨qPc_blind _ _ _ _ _ _ _ _ _, hpre⟩ rfl rfl hl rfl (lv_room hroom) hdg hfit) hS (fun q _ h => h) (fun q h => h) (fun q _ h => h) (fun E ce q9 u t H1 locs1 ht hvm hp hB hz hk1 hS1 hce hcv hcl => ?_) (fun u t H1 locs1 ht hvm hw hB hz1 hk1 hS1 => ?_)
  · obtain ⟨rfl, G1, hP1, hD1, hK1⟩ := hB
    rw [ht] at hP1
    refine vx_out (fun x h => (hex x h).elim) hk hce hcv hcl (fun t9 ht9 hA9 => ⟨2, ?_, ⟨rfl, G1, by rw [ht9]; exact hP1, hD1, va_K.moved hA9 K.1⟩, hS1.F ht9⟩) hS1.2.2 h8.1 h8.2
    rw [if_pos hp] at hf
    exact (Option.some.inj hf).symm
  · obtain ⟨G1, hP1, hD1, hK1⟩ := hB
    rw [ht] at hP1
    rw [if_neg hw] at hf
    exact kk H1 locs1 ⟨G1, hP1, hD1, hS1⟩ hf
