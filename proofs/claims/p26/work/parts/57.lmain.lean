/-! the law's own body (by wip/tools/lmain.py) -/
def rmL_cell : Room := { frames := 0, cells := 0, slots := 0, locals := 0 }
def fL_cell (xs : Nat → Int32) (L : Nat) (k : Int32) : Option Int32 := if nI L ≤ k then some (((nI 15551203 * k) + nI 617) &&& nI 2147483647) else (z_ag xs L k).bind fun x => some (x &&& nI 2147483647)
def lc_B (b L : Nat) (xs : Nat → Int32) (U : State) : Prop := va_X b L xs U U.heap ∧ b < U.heap.size
theorem lc_blind (b L : Nat) (xs : Nat → Int32) (av : List Value) : FrameBlind (va_Pc av (lc_B b L xs)) := fun b1 U g mk q => by
  obtain ⟨q0, qX, qb⟩ := q
  exact ⟨q0, va_X.moved (u := U) (U := U.calling g mk b1) (Vm.Alike.refl U.vm) qX, qb⟩
set_option maxHeartbeats 4000000 in
theorem metL_cell (l : Launch) (b L : Nat) (xs : Nat → Int32) (k r0 : Int32) (hf : fL_cell xs L k = some r0) : Met l yL_cell (Cond.code yL_cell cL_cell 2 (some .int) :: WA) rmL_cell (va_Pc [.ref b, .int k] (lc_B b L xs)) (va_Qi (fun (r : Int32) (_ : Unit) => r = r0) (fun _ _ => True) (fun _ => False)) 0 0 (fun _ => False) := by
  refine Met.ofW (cc := cL_cell) (maxL := 2) (ret := some .int) (by decide) rfl ?_
  intro p e s m args below meth c s₁ B hml hv
  obtain ⟨rfl, hX, hbl⟩ := hv
  have hx := B.exec
  have hb := B.bytes
  have hr := B.returns
  have hlk := B.notSynchronized
  have hts := atoms_spec (ws := Cond.code yL_cell cL_cell 2 (some .int) :: WA) B.pre
  have hown : s.vm.findClass RL = some m.cls := findClass_of_methodNamed B.named
  have hl := lv_entry ([.ref b, .int k]) (n := 2) (Nat.le_of_ble_eq_true rfl)
  rw [lg_entry_eq]
  generalize (lg_sl ([.ref b, .int k]) ++ List.replicate (2 - (lg_sl ([.ref b, .int k])).length) Slot.unset).toArray = ls at hl ⊢
  have hl : lv_has ls 2 [(0, .ref b), (1, .int k)] := hl
  have hS : va_S (fun _ => False) s.heap s.heap [] := va_S.rf
  have tail : ∀ r : Int32, r &&& nI 2147483647 = r0 → W p l e (headSpec (Cond.code yL_cell cL_cell 2 (some .int) :: WA) rmL_cell).room s m ([.ref b, .int k] : List Value).toArray below meth c s.heap [] 0 0 (MQ below (va_Qi (fun (r : Int32) (_ : Unit) => r = r0) (fun _ _ => True) (fun _ => False)) ([.ref b, .int k] : List Value).toArray s 0 0 (fun _ => False)) (F0 m 20 ls [.int r]) := by
    intro r hr0
    refine lv_ldc (v := nI 2147483647) hx hb hown (hts _ (List.mem_cons_of_mem _ (z_in0 _ (List.mem_of_getElem? (i := 126) (by decide +kernel))))) dL_cell_20 ?_
    refine lv_iand hx hb dL_cell_22 ?_
    exact W.iret hx hb hr (fun t ht hW => ⟨⟨r0, (), by rw [hr0], rfl, trivial⟩, hS.F ht⟩) hS.2.2 dL_cell_23 (hlocks := hlk)
  refine lv_iload_n hx hb dL_cell_0 rfl (lv_at hl 1 rfl) ?_
  refine lv_aload_n hx hb dL_cell_1 rfl (lv_at hl 0 rfl) ?_
  refine va_slen hx hb hX hbl (fun h => h) hS dL_cell_2 ?_
  unfold fL_cell at hf
  refine lv_icmp_ge (tgt := 12) hx hb dL_cell_3 (by decide) (fun h => ?_) (fun h => ?_)
  · rw [if_pos (show nI L ≤ k from h)] at hf
    refine lv_ldc (v := nI 15551203) hx hb hown (hts _ (List.mem_cons_of_mem _ (z_in0 _ (List.mem_of_getElem? (i := 125) (by decide +kernel))))) dL_cell_12 ?_
    refine lv_iload_n hx hb dL_cell_14 rfl (lv_at hl 1 rfl) ?_
    refine lv_imul hx hb dL_cell_15 ?_
    refine lv_sipush (v := nI 617) hx hb dL_cell_16 (by decide) ?_
    refine lv_iadd hx hb dL_cell_19 ?_
    exact tail _ (Option.some.inj hf)
  · rw [if_neg (show ¬ nI L ≤ k from h)] at hf
    refine lv_aload_n hx hb dL_cell_6 rfl (lv_at hl 0 rfl) ?_
    refine lv_iload_n hx hb dL_cell_7 rfl (lv_at hl 1 rfl) ?_
    unfold z_ag at hf
    split at hf
    · simp at hf
    · rename_i hn
      refine va_sld hx hb hX hbl (fun h => h) hS hn dL_cell_8 ?_
      refine lv_goto (tgt := 20) hx hb dL_cell_9 (by decide) ?_
      exact tail _ (Option.some.inj hf)
/-- what the law's walk knows of its script -/
def lX (b L : Nat) (xs : Nat → Int32) (A : Nat → Prop) (s : State) : Prop := va_X b L xs s s.heap ∧ b < s.heap.size ∧ ¬ A b ∧ ∀ q, A q → s.heap.size ≤ q
theorem lcC {p : Program} {l : Launch} {e : Env} {R : Room} {s : State} {m : MethodId} {args : Array Value} {below : List Frame} {meth : Method} {c : Code} {H : Heap} {locs : List Loc} {cells slots : Nat} {Q : State → Prop} {cc : ByteArray} {nL pc : Nat} {own : String} {ls : Array Slot} {rest : List Value} {γ : Type} {res : γ} {D : va_G} {cI cB cM : ClassId} {ad6 : Nat → Nat} {a : Nat → Nat → Nat} {A : Nat → Prop} {σ : cSt} {b L : Nat} {xs : Nat → Int32} {index : Nat} {k : Int32} {kf : Int32 → Option γ} (S : CallFix p m c cc nL s args WA own) (K : qK D cI cB cM ad6 A s) (hX : lX b L xs A s) (hs : qS D cI cB cM ad6 a A s σ H locs) (hl : ls.size = nL) (hf : (fL_cell xs L k).bind kf = some res) (cw : CallB R s args own index yL_cell cL_cell 2 (some .int) (Cond.code yL_cell cL_cell 2 (some .int) :: WA) rmL_cell 0 0 2 ∧ (Cond.static yL_cell).before args s = true) (hdg : decode cc pc = .ok (.invokestatic index, 3)) (hroom : (rest.map fun v => v.category).sum ≤ 8) (hfit : cells + 0 ≤ R.cells ∧ slots + 0 ≤ R.slots)
    (kk : ∀ (r : Int32) (H1 : Heap) (locs1 : List Loc), qS D cI cB cM ad6 a A s σ H1 locs1 → kf r = some res → W p l e R s m args below meth c H1 locs1 cells slots Q (F0 m (pc + 3) ls (.int r :: rest))) : W p l e R s m args below meth c H locs cells slots Q (F0 m pc ls (.int k :: .ref b :: rest)) := by
  obtain ⟨r, hr, hk⟩ := Option.bind_eq_some_iff.mp hf
  obtain ⟨G, hP, hD, hS⟩ := hs
  have hXH : va_X b L xs s H := hX.1.kept (hS.2.1 b hX.2.1 hX.2.2.1)
  have hbH : b < H.size := Nat.lt_of_lt_of_le hX.2.1 hS.1
  refine va_calli (va_runS (As := [.ref b, .int k]) (rest := rest) S (metL_cell l b L xs k r hr) cw ⟨lc_blind _ _ _ _, fun U hU hW => ⟨rfl, by rw [hU]; exact va_X.moved hW.alike hXH, by rw [hU]; exact hbH⟩⟩ rfl rfl hl rfl (lv_room hroom) hdg hfit) hS (fun q _ h => h.elim) (fun q h => h.elim) (fun r1 u t H1 locs1 ht hvm hw hB hz1 hk1 hS1 => ?_)
  subst hw
  exact kk _ H1 locs1 ⟨G, z_keepP hP hk1 (fun _ _ _ h => h), hD, hS1⟩ hk

theorem u_121 : Cond.methodLink RL 73 yL_cell ∈ WA := z_in0 _ (List.mem_of_getElem? (i := 121) (by decide +kernel))
theorem u_122 : Cond.static yL_cell ∈ WA := z_in0 _ (List.mem_of_getElem? (i := 122) (by decide +kernel))
theorem u_124 : Cond.code yL_cell cL_cell 2 (some .int) ∈ WA := z_in0 _ (List.mem_of_getElem? (i := 124) (by decide +kernel))
theorem u_127 : Cond.methodLink RL 77 yL_sound ∈ WA := z_in0 _ (List.mem_of_getElem? (i := 127) (by decide +kernel))
theorem u_128 : Cond.static yL_sound ∈ WA := z_in0 _ (List.mem_of_getElem? (i := 128) (by decide +kernel))
theorem u_129 : Cond.code yL_sound cL_sound 4 (some .boolean) ∈ WA := z_in0 _ (List.mem_of_getElem? (i := 129) (by decide +kernel))
theorem u_228 : Cond.methodLink RL 81 yX8_begin ∈ WA := z_in0 _ (List.mem_of_getElem? (i := 228) (by decide +kernel))
theorem u_229 : Cond.instanceMethod yX8_begin ∈ WA := z_in0 _ (List.mem_of_getElem? (i := 229) (by decide +kernel))
theorem u_230 : Cond.selects RX8 yX8_begin yX8_begin ∈ WA := z_in0 _ (List.mem_of_getElem? (i := 230) (by decide +kernel))
theorem u_231 : Cond.code yX8_begin cX8_begin 5 (some .int) ∈ WA := z_in0 _ (List.mem_of_getElem? (i := 231) (by decide +kernel))
theorem u_271 : Cond.methodLink RL 84 yL_acts ∈ WA := z_in0 _ (List.mem_of_getElem? (i := 271) (by decide +kernel))
theorem u_272 : Cond.static yL_acts ∈ WA := z_in0 _ (List.mem_of_getElem? (i := 272) (by decide +kernel))
theorem u_273 : Cond.code yL_acts cL_acts 7 (some .int) ∈ WA := z_in0 _ (List.mem_of_getElem? (i := 273) (by decide +kernel))
theorem u_439 : Cond.methodLink RL 88 yL_refuses ∈ WA := z_in0 _ (List.mem_of_getElem? (i := 439) (by decide +kernel))
theorem u_440 : Cond.static yL_refuses ∈ WA := z_in0 _ (List.mem_of_getElem? (i := 440) (by decide +kernel))
theorem u_441 : Cond.code yL_refuses cL_refuses 6 (some .boolean) ∈ WA := z_in0 _ (List.mem_of_getElem? (i := 441) (by decide +kernel))
theorem u_534 : Cond.methodLink RL 91 yX8_undo ∈ WA := z_in0 _ (List.mem_of_getElem? (i := 534) (by decide +kernel))
theorem u_535 : Cond.instanceMethod yX8_undo ∈ WA := z_in0 _ (List.mem_of_getElem? (i := 535) (by decide +kernel))
theorem u_536 : Cond.selects RX8 yX8_undo yX8_undo ∈ WA := z_in0 _ (List.mem_of_getElem? (i := 536) (by decide +kernel))
theorem u_537 : Cond.code yX8_undo cX8_undo 1 (some .int) ∈ WA := z_in0 _ (List.mem_of_getElem? (i := 537) (by decide +kernel))
theorem k_bipush_40 : (Int8.ofInt 40).toInt32 = nI 40 := by decide
theorem cwL_73 {R : Room} {s : State} {args : Array Value} (hts : ∀ w ∈ WA, w.before args s = true) (hR : rmL_cell.frames + 1 ≤ R.frames ∧ 8 + (2 + 11) + rmL_cell.locals ≤ R.locals) : CallB R s args RL 73 yL_cell cL_cell 2 (some .int) (Cond.code yL_cell cL_cell 2 (some .int) :: WA) rmL_cell 0 0 2 ∧ (Cond.static yL_cell).before args s = true := va_cwS 2 hts (z_goodS u_121 u_122 u_123 u_124) rfl rfl rfl (by decide +kernel) hR
theorem cwL_77 {R : Room} {s : State} {args : Array Value} (hts : ∀ w ∈ WA, w.before args s = true) (hR : rmL_sound.frames + 1 ≤ R.frames ∧ 8 + (4 + 11) + rmL_sound.locals ≤ R.locals) : CallB R s args RL 77 yL_sound cL_sound 4 (some .boolean) (Cond.code yL_sound cL_sound 4 (some .boolean) :: WA) rmL_sound 0 0 1 ∧ (Cond.static yL_sound).before args s = true := va_cwS 1 hts (z_goodS u_127 u_128 u_123 u_129) rfl rfl rfl (by decide +kernel) hR
theorem cwL_81 {R : Room} {s : State} {args : Array Value} (hts : ∀ w ∈ WA, w.before args s = true) (hR : rmX8_begin.frames + 1 ≤ R.frames ∧ 8 + (5 + 11) + rmX8_begin.locals ≤ R.locals) : CallW R s args RL RX8 81 yX8_begin cX8_begin 5 (some .int) (Cond.code yX8_begin cX8_begin 5 (some .int) :: WA) rmX8_begin 0 0 3 := cwV 3 hts (z_goodV u_228 u_229 u_230 u_2 u_231) rfl rfl rfl (by decide +kernel) hR
theorem cwL_84 {R : Room} {s : State} {args : Array Value} (hts : ∀ w ∈ WA, w.before args s = true) (hR : rmL_acts.frames + 1 ≤ R.frames ∧ 8 + (7 + 11) + rmL_acts.locals ≤ R.locals) : CallB R s args RL 84 yL_acts cL_acts 7 (some .int) (Cond.code yL_acts cL_acts 7 (some .int) :: WA) rmL_acts 0 0 2 ∧ (Cond.static yL_acts).before args s = true := va_cwS 2 hts (z_goodS u_271 u_272 u_123 u_273) rfl rfl rfl (by decide +kernel) hR
theorem cwL_88 {R : Room} {s : State} {args : Array Value} (hts : ∀ w ∈ WA, w.before args s = true) (hR : rmL_refuses.frames + 1 ≤ R.frames ∧ 8 + (6 + 11) + rmL_refuses.locals ≤ R.locals) : CallB R s args RL 88 yL_refuses cL_refuses 6 (some .boolean) (Cond.code yL_refuses cL_refuses 6 (some .boolean) :: WA) rmL_refuses 0 0 2 ∧ (Cond.static yL_refuses).before args s = true := va_cwS 2 hts (z_goodS u_439 u_440 u_123 u_441) rfl rfl rfl (by decide +kernel) hR
theorem cwL_91 {R : Room} {s : State} {args : Array Value} (hts : ∀ w ∈ WA, w.before args s = true) (hR : rmX8_undo.frames + 1 ≤ R.frames ∧ 8 + (1 + 11) + rmX8_undo.locals ≤ R.locals) : CallW R s args RL RX8 91 yX8_undo cX8_undo 1 (some .int) (Cond.code yX8_undo cX8_undo 1 (some .int) :: WA) rmX8_undo 0 0 0 := cwV 0 hts (z_goodV u_534 u_535 u_536 u_2 u_537) rfl rfl rfl (by decide +kernel) hR
def fL_law_j178 (xs : Nat → Int32) (L : Nat)  (C62 : Int32 → Int32 → Int32 → cSt → Option (Int32)) (y4 : Int32) (y5 : Int32) (σ : cSt) : Option (Int32) :=
  C62 (nI 1) y4 (y5 + nI 1) σ
def fL_law_j154 (xs : Nat → Int32) (L : Nat)  (C62 : Int32 → Int32 → Int32 → cSt → Option (Int32)) (y4 : Int32) (y5 : Int32) (y6 : Int32) (w0 : Int32) (σ : cSt) : Option (Int32) :=
  (if w0 = 0 then
  C62 (nI 0) y4 (y5 + nI 1) σ
  else
  (z_rm y5 (nI 8)).bind fun x6 =>
  (if 0 < x6 then
  fL_law_j178 xs L C62 y4 y5 σ
  else
  z_b2 (fL_refuses (y6 >>> ((nI 3) &&& 31)) σ) fun x7 σ8 =>
  (if x7 = 0 then
  C62 (nI 0) y4 (y5 + nI 1) σ8
  else
  fL_law_j178 xs L C62 y4 y5 σ8)))
def fL_law_j153 (xs : Nat → Int32) (L : Nat)  (C62 : Int32 → Int32 → Int32 → cSt → Option (Int32)) (y4 : Int32) (y5 : Int32) (y6 : Int32) (σ : cSt) : Option (Int32) :=
  fL_law_j154 xs L C62 y4 y5 y6 (nI 0) σ
def fL_law_j146 (xs : Nat → Int32) (L : Nat)  (C62 : Int32 → Int32 → Int32 → cSt → Option (Int32)) (y4 : Int32) (y5 : Int32) (y6 : Int32) (w0 : Int32) (w1 : Int32) (σ : cSt) : Option (Int32) :=
  (if w1 = w0 then
  fL_law_j154 xs L C62 y4 y5 y6 (nI 1) σ
  else
  fL_law_j153 xs L C62 y4 y5 y6 σ)
def fL_law_l62 (xs : Nat → Int32) (L : Nat) (K62 : Int32 → cSt → Option (Int32)) : Nat → Int32 → Int32 → Int32 → cSt → Option (Int32)
  | 0, _, _, _, _ => none
  | n + 1, y3, y4, y5, σ =>
  (if (nI 40) < y5 then
  K62 y3 σ
  else
  (if y3 = 0 then
  K62 y3 σ
  else
  (fL_cell xs L y5).bind fun x3 =>
  z_b2 (fL_acts x3 σ) fun x4 σ5 =>
  (if x4 < 0 then
  fL_law_j153 xs L (fL_law_l62 xs L K62 n) (y4 + x4) y5 x3 σ5
  else
  (fL_sound  σ5).bind fun x9 =>
  (if x9 = 0 then
  fL_law_j153 xs L (fL_law_l62 xs L K62 n) (y4 + x4) y5 x3 σ5
  else
  (fX8_value (nI 6) σ5).bind fun x10 =>
  (fX8_value (nI 7) σ5).bind fun x11 =>
  (if (x10 + x11) = (y4 + x4) then
  (fX8_value (nI 13) σ5).bind fun x12 =>
  (if (nI 12) ≤ (y4 + x4) then
  fL_law_j146 xs L (fL_law_l62 xs L K62 n) (y4 + x4) y5 x3 (nI 12) x12 σ5
  else
  fL_law_j146 xs L (fL_law_l62 xs L K62 n) (y4 + x4) y5 x3 (y4 + x4) x12 σ5)
  else
  fL_law_j153 xs L (fL_law_l62 xs L K62 n) (y4 + x4) y5 x3 σ5)))))
def fL_law_j215 (xs : Nat → Int32) (L : Nat)  (w0 : Int32) (σ : cSt) : Option (Int32) :=
  (fX8_digest  σ).bind fun x15 =>
  (if w0 = 0 then
  z_bz (nI 0)
  else
  z_b2 (fX8_pass (nI 3) σ) fun x16 σ17 =>
  (if x16 < 0 then
  z_bz (nI 0)
  else
  z_b2 (fX8_begin (nI 6) (nI 8) (nI 16) σ17) fun x18 σ19 =>
  (if x18 < (nI 3) then
  z_bz (nI 0)
  else
  (fL_sound  σ19).bind fun x20 =>
  (if x20 = 0 then
  z_bz (nI 0)
  else
  z_b2 (fX8_undo  σ19) fun x21 σ22 =>
  (if x21 = (nI 3) then
  z_b2 (fX8_undo  σ22) fun x23 σ24 =>
  (if x23 = (nI 2) then
  (fX8_digest  σ24).bind fun x25 =>
  (if x25 = x15 then
  z_bz (nI 1)
  else
  z_bz (nI 0))
  else
  z_bz (nI 0))
  else
  z_bz (nI 0))))))
def fL_law_j214 (xs : Nat → Int32) (L : Nat)  (σ : cSt) : Option (Int32) :=
  fL_law_j215 xs L (nI 0) σ
def fL_law_j54 (xs : Nat → Int32) (L : Nat)  (σ : cSt) : Option (Int32) :=
  fL_law_l62 xs L (fun x13 σ14 => (if x13 = 0 then
  fL_law_j214 xs L σ14
  else
  z_b2 (fX8_undo  σ14) fun x26 σ27 =>
  (if x26 = (nI 3) then
  z_b2 (fX8_undo  σ27) fun x28 σ29 =>
  (if x28 = (nI 2) then
  fL_law_j215 xs L (nI 1) σ29
  else
  fL_law_j214 xs L σ29)
  else
  fL_law_j214 xs L σ27))) z_fu (nI 0) (nI 0) (nI 1) σ
def fL_law (xs : Nat → Int32) (L : Nat) (σ : cSt) : Option Int32 :=
  (fL_cell xs L (nI 0)).bind fun x1 =>
  (fL_sound  σ).bind fun x2 =>
  (if x2 = 0 then
  fL_law_j54 xs L σ
  else
  (z_rm x1 (nI 5)).bind fun x30 =>
  (z_rm (x1 >>> ((nI 8) &&& 31)) (nI 4)).bind fun x31 =>
  (z_rm (x1 >>> ((nI 12) &&& 31)) (nI 6)).bind fun x32 =>
  z_b2 (fX8_begin ((nI 2) + x30) ((nI 1) + x31) ((nI 1) + x32) σ) fun x33 σ34 =>
  (if x33 = 0 then
  fL_law_l62 xs L (fun x35 σ36 => (if x35 = 0 then
  fL_law_j214 xs L σ36
  else
  z_b2 (fX8_undo  σ36) fun x37 σ38 =>
  (if x37 = (nI 3) then
  z_b2 (fX8_undo  σ38) fun x39 σ40 =>
  (if x39 = (nI 2) then
  fL_law_j215 xs L (nI 1) σ40
  else
  fL_law_j214 xs L σ40)
  else
  fL_law_j214 xs L σ38))) z_fu (nI 1) (nI 0) (nI 1) σ34
  else
  fL_law_j54 xs L σ34))
