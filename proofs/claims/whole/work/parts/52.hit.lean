/-! hitRate (by wip/tools/hit.py) -/
def hrOk (h m : Int32) (r : UInt64) : Prop := if h + m = 0 then r = FP.dconst0 else alike64 r (FP.ddiv (FP.i2d h) (FP.i2d (h + m))) = true
theorem hrOk_pos {h m : Int32} (hz : h + m = 0) : hrOk h m FP.dconst0 := by unfold hrOk; rw [if_pos hz]
theorem hrOk_neg {h m : Int32} {r : UInt64} (hz : ¬ h + m = 0) (hal : alike64 r (FP.ddiv (FP.i2d h) (FP.i2d (h + m))) = true) : hrOk h m r := by unfold hrOk; rw [if_neg hz]; exact hal
def rmD0 : Room := { frames := 0, cells := 0, slots := 0, locals := 0 }
theorem uh_171 : Cond.fieldLink RX8 171 "CacheDiary$Machine" "hits" "I" ∈ WA := z_in0 _ (List.mem_of_getElem? (i := 723) (by decide +kernel))
theorem uh_174 : Cond.fieldLink RX8 174 "CacheDiary$Machine" "misses" "I" ∈ WA := z_in0 _ (List.mem_of_getElem? (i := 724) (by decide +kernel))
theorem z_ag_at (f : Nat → Int32) (n k : Nat) (hk : k < n) (h : k < 2 ^ 31) : z_ag f n (nI k) = some (f k) := by
  unfold z_ag
  rw [if_neg (by rw [nI_clamp h]; rintro (h1 | h1); exact nI_pos h h1; omega), nI_clamp h]
section QH
variable {p : Program} {l : Launch} {e : Env} {R : Room} {s : State} {m : MethodId} {args : Array Value} {below : List Frame} {meth : Method} {c : Code} {H : Heap} {locs : List Loc} {cells slots : Nat} {Q : State → Prop}
variable {cc : ByteArray} {nL pc : Nat} {own : String} {ls : Array Slot} {rest st0 : List Value} {D : va_G} {cI cB cM : ClassId} {ad6 : Nat → Nat} {a : Nat → Nat → Nat} {A : Nat → Prop} {σ : cSt}
theorem qgX8_171_8 (S : CallFix p m c cc nL s args WA RX8) (K : qK D cI cB cM ad6 A s) (hs : qS D cI cB cM ad6 a A s σ H locs) (hdg : decode cc pc = .ok (.getfield 171, 3)) (kk : W p l e R s m args below meth c H locs cells slots Q (F0 m (pc + 3) ls (.int (σ 0 23 0) :: rest))) : W p l e R s m args below meth c H locs cells slots Q (F0 m pc ls (.ref (a 1 0) :: rest)) := by
  obtain ⟨G, hP, hD, hS⟩ := hs
  exact va_get (D := D) (ci := 4) (v := .int (σ 0 23 0)) (C := RX4) (T := TX4) (N := 14) S.1 S.2.1 S.2.2.2.2 inlX4 S.2.2.2.1 K.1 hP 8 rfl rfl 10 (by decide) (S.2.2.2.2 _ uh_171) (fun _ h9 => h9) rfl hdg kk
theorem qgX8_174_8 (S : CallFix p m c cc nL s args WA RX8) (K : qK D cI cB cM ad6 A s) (hs : qS D cI cB cM ad6 a A s σ H locs) (hdg : decode cc pc = .ok (.getfield 174, 3)) (kk : W p l e R s m args below meth c H locs cells slots Q (F0 m (pc + 3) ls (.int (σ 0 24 0) :: rest))) : W p l e R s m args below meth c H locs cells slots Q (F0 m pc ls (.ref (a 1 0) :: rest)) := by
  obtain ⟨G, hP, hD, hS⟩ := hs
  exact va_get (D := D) (ci := 4) (v := .int (σ 0 24 0)) (C := RX4) (T := TX4) (N := 14) S.1 S.2.1 S.2.2.2.2 inlX4 S.2.2.2.1 K.1 hP 8 rfl rfl 11 (by decide) (S.2.2.2.2 _ uh_174) (fun _ h9 => h9) rfl hdg kk
end QH
theorem S_drawn {p : Program} {s : State} {m : MethodId} {args : Array Value} {c : Code} {cc : ByteArray} {nL : Nat} {own : String} (S : CallFix p m c cc nL s args WA own) (d : Drawn) : CallFix p m c cc nL (s.setDrawn d) args WA own := ⟨S.1, S.2.1, S.2.2.1, S.2.2.2.1, dr_words S.2.2.2.2 d⟩
theorem K_drawn {D : va_G} {cI cB cM : ClassId} {ad6 : Nat → Nat} {A : Nat → Prop} {s : State} (K : qK D cI cB cM ad6 A s) (d : Drawn) : qK D cI cB cM ad6 A (s.setDrawn d) := ⟨K.1, qF.same (u := s) rfl K.2⟩
set_option maxHeartbeats 4000000 in
set_option maxRecDepth 100000 in
theorem metX8_hitRate (l : Launch) (D : va_G) (cI cB cM : ClassId) (ad6 : Nat → Nat) (a : Nat → Nat → Nat) (A : Nat → Prop) (σ : cSt) : MetD lw_cs l yX8_hitRate (Cond.code yX8_hitRate cX8_hitRate 2 (some .double) :: WA) rmD0 (qPc D cI cB cM ad6 a A σ [.ref (a 0 0)]) (va_Qd (fun (r : UInt64) (_ : Unit) => hrOk (σ 0 23 0) (σ 0 24 0) r) (fun _ t => qB D cI cB cM ad6 a A σ t) A) 0 0 A := by
  refine MetD.ofW (cc := cX8_hitRate) (maxL := 2) (ret := some .double) (by decide) rfl ?_
  intro p e s m args below meth c s₁ B hml hv hd0
  obtain ⟨rfl, ⟨G, hP, hD, hK⟩, hF⟩ := hv
  have hts := atoms_spec (ws := Cond.code yX8_hitRate cX8_hitRate 2 (some .double) :: WA) B.pre
  have hl := lv_entry [.ref (a 0 0)] (n := 2) (Nat.le_of_ble_eq_true rfl)
  rw [lg_entry_eq]
  generalize (lg_sl [.ref (a 0 0)] ++ List.replicate (2 - (lg_sl [.ref (a 0 0)]).length) Slot.unset).toArray = ls at hl ⊢
  have hl : lv_has ls 2 [(0, .ref (a 0 0))] := hl
  have S0 : CallFix p m c cX8_hitRate 2 s _ WA RX8 := ⟨B.exec, B.bytes, hml, findClass_of_methodNamed B.named, fun w h => hts w (List.mem_cons_of_mem _ h)⟩
  have K0 : qK D cI cB cM ad6 A s := ⟨hK, hF⟩
  have S := S_drawn S0 s.drawn
  have K := K_drawn K0 s.drawn
  have hr := B.returns
  have hk := B.notSynchronized
  have hs : qS D cI cB cM ad6 a A (s.setDrawn s.drawn) σ s.heap [] := ⟨G, hP, hD, va_S.rf⟩
  refine lv_aload_n S.1 S.2.1 dX8_hitRate_0 rfl (lv_at hl 0 rfl) ?_
  refine qgX8_12_0 S K hs dX8_hitRate_1 ?_
  refine qgX8_171_8 S K hs dX8_hitRate_4 ?_
  refine lv_aload_n S.1 S.2.1 dX8_hitRate_7 rfl (lv_at hl 0 rfl) ?_
  refine qgX8_12_0 S K hs dX8_hitRate_8 ?_
  refine qgX8_174_8 S K hs dX8_hitRate_11 ?_
  refine lv_iadd S.1 S.2.1 dX8_hitRate_14 ?_
  refine lv_istore_n (lv' := [(1, .int (σ 0 23 0 + σ 0 24 0)), (0, .ref (a 0 0))]) S.1 S.2.1 dX8_hitRate_15 rfl hl (by decide) rfl (fun ls hl => ?_)
  refine lv_iload_n S.1 S.2.1 dX8_hitRate_16 rfl (lv_at hl 0 rfl) ?_
  refine lv_if_ne (tgt := 22) S.1 S.2.1 dX8_hitRate_17 (by decide) (fun hz => ?_) (fun hz => ?_)
  · refine lv_aload_n S.1 S.2.1 dX8_hitRate_22 rfl (lv_at hl 1 rfl) ?_
    refine qgX8_12_0 S K hs dX8_hitRate_23 ?_
    refine qgX8_171_8 S K hs dX8_hitRate_26 ?_
    refine lv_i2d S.1 S.2.1 dX8_hitRate_29 ?_
    refine lv_iload_n S.1 S.2.1 dX8_hitRate_30 rfl (lv_at hl 0 rfl) ?_
    refine lv_i2d S.1 S.2.1 dX8_hitRate_31 ?_
    refine lv_ddiv_any hd0 lw_bits S0.1 S0.2.1 dX8_hitRate_32 (fun r d1 hal hd1 => ?_)
    refine W.endD hd1 ?_
    exact W.dret S.1 S.2.1 hr (fun t ht hW => ⟨⟨r, (), rfl, hrOk_neg hz hal, G, by rw [ht]; exact hP, hD, va_K.moved hW.alike hK⟩, (va_S.rf (A := A) (H0 := s.heap)).F ht⟩) (fun q hq => absurd hq List.not_mem_nil) dX8_hitRate_33 (hlocks := hk)
  · refine lv_dconst0 S.1 S.2.1 dX8_hitRate_20 ?_
    refine W.endD hd0 ?_
    exact W.dret S.1 S.2.1 hr (fun t ht hW => ⟨⟨_, (), rfl, hrOk_pos hz, G, by rw [ht]; exact hP, hD, va_K.moved hW.alike hK⟩, (va_S.rf (A := A) (H0 := s.heap)).F ht⟩) (fun q hq => absurd hq List.not_mem_nil) dX8_hitRate_21 (hlocks := hk)
set_option maxHeartbeats 4000000 in
set_option maxRecDepth 100000 in
theorem metX9_hitRate (l : Launch) (D : va_G) (cI : ClassId) (h : Nat) (ad : Nat → Nat) (σ : zSt) : MetD lw_cs l yX9_hitRate (Cond.code yX9_hitRate cX9_hitRate 2 (some .double) :: WA) rmD0 (mPc D cI h ad σ [.ref h]) (va_Qd (fun (r : UInt64) (_ : Unit) => hrOk (σ 0 6) (σ 0 7) r) (fun _ t => mB D cI h ad (z_up σ 7 (fun _ => nI 0)) t) (mA h ad)) 0 0 (mA h ad) := by
  refine MetD.ofW (cc := cX9_hitRate) (maxL := 2) (ret := some .double) (by decide) rfl ?_
  intro p e s m args below meth c s₁ B hml hv hd0
  obtain ⟨rfl, hP, hK, hD⟩ := hv
  have hts := atoms_spec (ws := Cond.code yX9_hitRate cX9_hitRate 2 (some .double) :: WA) B.pre
  have hl := lv_entry [.ref h] (n := 2) (Nat.le_of_ble_eq_true rfl)
  rw [lg_entry_eq]
  generalize (lg_sl [.ref h] ++ List.replicate (2 - (lg_sl [.ref h]).length) Slot.unset).toArray = ls at hl ⊢
  have hl : lv_has ls 2 [(0, .ref h)] := hl
  have S0 : CallFix p m c cX9_hitRate 2 s _ WA RX9 := ⟨B.exec, B.bytes, hml, findClass_of_methodNamed B.named, fun w h => hts w (List.mem_cons_of_mem _ h)⟩
  have S := S_drawn S0 s.drawn
  have K : va_K D vwCl [(cI, .int)] (s.setDrawn s.drawn) := hK
  have hr := B.returns
  have hk := B.notSynchronized
  have hs : mS D cI h ad (s.setDrawn s.drawn) σ s.heap [] := ⟨hP, hD, va_S.rf⟩
  refine lv_aload_n S.1 S.2.1 dX9_hitRate_0 rfl (lv_at hl 0 rfl) ?_
  refine lv_iconst S.1 S.2.1 dX9_hitRate_1 k_iconst_0 ?_
  refine mp29 S K hs (k := fun x => some x) (res := z_up σ 7 (fun _ => nI 0)) rfl dX9_hitRate_2 (fun σ1 H locs hs he => ?_)
  obtain rfl := Option.some.inj he
  have e6 : z_ag ((z_up σ 7 (fun _ => nI 0)) 0) 456 (nI 6) = some (σ 0 6) := z_ag_at (σ 0) 456 6 (by omega) (by omega)
  have e7 : z_ag ((z_up σ 7 (fun _ => nI 0)) 0) 456 (nI 7) = some (σ 0 7) := z_ag_at (σ 0) 456 7 (by omega) (by omega)
  refine lv_aload_n S.1 S.2.1 dX9_hitRate_5 rfl (lv_at hl 0 rfl) ?_
  refine mg7 S K hs dX9_hitRate_6 ?_
  refine lv_bipush S.1 S.2.1 dX9_hitRate_9 k_bipush_6 ?_
  refine mld0 S K hs (k := fun x => some x) (res := σ 0 6) (by rw [e6]; rfl) dX9_hitRate_11 (fun x1 he => ?_)
  obtain rfl := Option.some.inj he
  refine lv_aload_n S.1 S.2.1 dX9_hitRate_12 rfl (lv_at hl 0 rfl) ?_
  refine mg7 S K hs dX9_hitRate_13 ?_
  refine lv_bipush S.1 S.2.1 dX9_hitRate_16 k_bipush_7 ?_
  refine mld0 S K hs (k := fun x => some x) (res := σ 0 7) (by rw [e7]; rfl) dX9_hitRate_18 (fun x2 he => ?_)
  obtain rfl := Option.some.inj he
  refine lv_iadd S.1 S.2.1 dX9_hitRate_19 ?_
  refine lv_istore_n (lv' := [(1, .int (σ 0 6 + σ 0 7)), (0, .ref h)]) S.1 S.2.1 dX9_hitRate_20 rfl hl (by decide) rfl (fun ls hl => ?_)
  refine lv_iload_n S.1 S.2.1 dX9_hitRate_21 rfl (lv_at hl 0 rfl) ?_
  refine lv_if_ne (tgt := 29) S.1 S.2.1 dX9_hitRate_22 (by decide) (fun hz => ?_) (fun hz => ?_)
  · refine lv_aload_n S.1 S.2.1 dX9_hitRate_29 rfl (lv_at hl 1 rfl) ?_
    refine mg7 S K hs dX9_hitRate_30 ?_
    refine lv_bipush S.1 S.2.1 dX9_hitRate_33 k_bipush_6 ?_
    refine mld0 S K hs (k := fun x => some x) (res := σ 0 6) (by rw [e6]; rfl) dX9_hitRate_35 (fun x3 he => ?_)
    obtain rfl := Option.some.inj he
    refine lv_i2d S.1 S.2.1 dX9_hitRate_36 ?_
    refine lv_iload_n S.1 S.2.1 dX9_hitRate_37 rfl (lv_at hl 0 rfl) ?_
    refine lv_i2d S.1 S.2.1 dX9_hitRate_38 ?_
    refine lv_ddiv_any hd0 lw_bits S0.1 S0.2.1 dX9_hitRate_39 (fun r d1 hal hd1 => ?_)
    refine W.endD hd1 ?_
    exact W.dret S.1 S.2.1 hr (fun t ht hW => ⟨⟨r, (), rfl, hrOk_neg hz hal, by rw [ht]; exact hs.1, va_K.moved hW.alike hK, hs.2.1⟩, hs.2.2.F ht⟩) hs.2.2.2.2 dX9_hitRate_40 (hlocks := hk)
  · refine lv_dconst0 S.1 S.2.1 dX9_hitRate_25 ?_
    refine lv_goto (tgt := 40) S.1 S.2.1 dX9_hitRate_26 (by decide) ?_
    refine W.endD hd0 ?_
    exact W.dret S.1 S.2.1 hr (fun t ht hW => ⟨⟨_, (), rfl, hrOk_pos hz, by rw [ht]; exact hs.1, va_K.moved hW.alike hK, hs.2.1⟩, hs.2.2.F ht⟩) hs.2.2.2.2 dX9_hitRate_40 (hlocks := hk)
