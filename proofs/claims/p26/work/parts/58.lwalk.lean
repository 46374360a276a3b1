/-! the law's walk from behind the constructor (by wip/tools/lmain.py) -/
/-! THE CLAIM OUT OF ONE WALK OF THE LAW'S BODY. Your part is whole_start (and what it stands on); all else here is the same for every law, but numbers. -/
def R_law : String := "CacheDiaryLaw"
def lw_Pr (b : Addr) (xs : List Int32) (args : Array Value) (s : State) : Prop := args = #[.ref b] ∧ s.IntsAt b xs ∧ xs.length ≤ 260 ∧ (Jvm.Cond.and given_1 narrow_1).before args s = true
def lw_Q (_ : Array Value) (s : State) (o : Outcome) (t : State) : Prop := o = .returned (some (.int 1)) ∧ Framed s o t [] 600130 7301079
def lw_Z (below : List Frame) (a : Array Value) (s : State) : State → Prop := fun t => ∃ o, t.status = .running ∧ Ended t below o ∧ lw_Q a s o t
/-- the law's own end, with 1 on the stack, nothing written that was there before, its room as the claim has it -/
theorem lw_ret {p : Program} {l : Launch} {e : Env} {s : State} {m : MethodId} {below : List Frame} {meth : Method} {c : Code} {b : Nat} (hx : p.tables.exec = Jvm.exec) (hb : c.code = code) (hr : meth.sig.returnType = ret) (hlocks : meth.locks = false) {pc : Nat} {H : Heap} {ls : Array Slot} (hdg : decode code pc = .ok (.ireturn, 1)) : W p l e room_1 s m #[Value.ref b] below meth c H [] 600130 7301079 (lw_Z below #[Value.ref b] s) (F0 m pc ls [.int 1]) := by
  intro T hT X
  obtain ⟨fs, hret, hrun, hended, hW, hframe⟩ := X.leave (v := some (.int 1)) (hlocks := hlocks) (fun h => by rw [hr] at h; cases h)
  have hmeth' : T.vm.method? m = some meth := X.method'
  refine ⟨T.setFrames fs, ?_, .returned (some (.int 1)), hrun, hended, rfl, ⟨_, rfl⟩, hW, hframe⟩
  jvm_step X.here [X.here.top, hx, hb, hdg, hmeth', hr, ret, narrow_b1]
  (try refine ⟨rfl, ?_⟩); (try refine ⟨rfl, ?_⟩)
  first | (intro acts; rw [hret _ acts rfl rfl rfl]) | rw [hret _ _ rfl rfl rfl]
  exact Steps.refl _
/-- what holds at the law's entry: the machine, the code, the tables' words (any of lw_tbl by 'hts w (by decide +kernel)'), the script of L ints xs at the cell b, what the Statement gives of the start (any of its parts by flat_of_before) -/
def lw_At (p : Program) (s : State) (m : MethodId) (meth : Method) (c : Code) (b L : Nat) (xs : Nat → Int32) : Prop :=
  p.tables.exec = Jvm.exec ∧ c.code = code ∧ meth.sig.returnType = ret ∧ c.maxLocals = 8 ∧ s.vm.findClass R_law = some m.cls ∧ (∀ w ∈ lw_tbl, w.before #[Value.ref b] s = true) ∧ va_X b L xs s s.heap ∧ b < s.heap.size ∧ meth.locks = false ∧ (Jvm.Cond.and given_1 narrow_1).before #[Value.ref b] s = true
theorem lrB {p : Program} {l : Launch} {e : Env} {s : State} {m : MethodId} {below : List Frame} {meth : Method} {c : Code} {H : Heap} {locs : List Loc} {ls : Array Slot} {pc : Nat} {D : va_G} {cI cB cM : ClassId} {ad6 : Nat → Nat} {a : Nat → Nat → Nat} {A : Nat → Prop} {σ : cSt} {b L : Nat} {xs : Nat → Int32} (S : CallFix p m c code 8 s #[Value.ref b] WA RL) (K : qK D cI cB cM ad6 A s) (hX : lX b L xs A s) (hr : meth.sig.returnType = ret) (hk : meth.locks = false) (hs : qS D cI cB cM ad6 a A s σ H locs) {r : Int32} (hf : z_bz r = some 1) (hdg : decode code pc = .ok (.ireturn, 1)) : W p l e room_1 s m #[Value.ref b] below meth c H locs 600130 7301079 (lw_Z below #[Value.ref b] s) (F0 m pc ls [.int r]) := by
  have h1 : r = 1 := by
    unfold z_bz at hf
    split at hf
    · exact Option.some.inj hf
    · simp at hf
  subst h1
  obtain ⟨G, hP, hD, hS⟩ := hs
  refine va_forget (fun q hq => hX.2.2.2 _ (hS.2.2 q hq)) ?_
  exact lw_ret S.1 S.2.1 hr hk hdg
set_option maxHeartbeats 4000000 in
set_option maxRecDepth 100000 in
theorem bdL_law8 {p : Program} {l : Launch} {e : Env} {s : State} {m : MethodId} {below : List Frame} {meth : Method} {c : Code} {H : Heap} {locs : List Loc} {ls : Array Slot} {D : va_G} {cI cB cM : ClassId} {ad6 : Nat → Nat} {a : Nat → Nat → Nat} {A : Nat → Prop} {b L : Nat} {xs : Nat → Int32} (S : CallFix p m c code 8 s #[Value.ref b] WA RL) (K : qK D cI cB cM ad6 A s) (hX : lX b L xs A s) (hr : meth.sig.returnType = ret) (hk : meth.locks = false) (σ : cSt) (hf : fL_law xs L σ = some 1) (hl : lv_has ls 8 [(1, .ref (a 0 0)), (0, .ref b)]) (hs : qS D cI cB cM ad6 a A s σ H locs) : W p l e room_1 s m #[Value.ref b] below meth c H locs 600130 7301079 (lw_Z below #[Value.ref b] s) (F0 m 8 ls []) := by
  obtain ⟨res, hres⟩ : ∃ q : Int32, q = 1 := ⟨_, rfl⟩
  rw [← hres] at hf
  have J178 : ∀ (C62 : Int32 → Int32 → Int32 → cSt → Option (Int32)) (hC62 : ∀ (y3 : Int32) (y4 : Int32) (y5 : Int32) (σ : cSt), C62 y3 y4 y5 σ = some res → qGo p l e room_1 s m #[Value.ref b] below meth c (lw_Z below #[Value.ref b] s) D cI cB cM ad6 a A 600130 7301079 8 σ [(0, .ref b), (1, .ref (a 0 0)), (3, .int y3), (4, .int y4), (5, .int y5)] 62 []) (y4 : Int32) (y5 : Int32) (σ : cSt), fL_law_j178 xs L C62 y4 y5 σ = some res → qGo p l e room_1 s m #[Value.ref b] below meth c (lw_Z below #[Value.ref b] s) D cI cB cM ad6 a A 600130 7301079 8 σ [(0, .ref b), (1, .ref (a 0 0)), (4, .int y4), (5, .int y5)] 178 [] := by
    intro C62 hC62 y4 y5 σ hf H locs ls hl hs
    unfold fL_law_j178 at hf
    refine lv_iconst S.1 S.2.1 dL_law_178 k_iconst_1 ?_
    refine lv_goto (tgt := 183) S.1 S.2.1 dL_law_179 (by decide) ?_
    refine lv_istore_n (lv' := [(3, .int (nI 1)), (0, .ref b), (1, .ref (a 0 0)), (4, .int y4), (5, .int y5)]) S.1 S.2.1 dL_law_183 rfl hl (by decide) rfl (fun ls hl => ?_)
    refine lv_iinc (v := y5 + nI 1) (lv' := [(5, .int (y5 + nI 1)), (3, .int (nI 1)), (0, .ref b), (1, .ref (a 0 0)), (4, .int y4)]) S.1 S.2.1 dL_law_184 hl (k := 4) rfl (by rw [k_iconst_1]) (by decide) rfl (fun ls hl => ?_)
    refine lv_goto (tgt := 62) S.1 S.2.1 dL_law_187 (by decide) ?_
    exact hC62 _ _ _ _ hf _ _ _ (lv_sub hl [2, 3, 1, 4, 0] rfl) hs
  have J154 : ∀ (C62 : Int32 → Int32 → Int32 → cSt → Option (Int32)) (hC62 : ∀ (y3 : Int32) (y4 : Int32) (y5 : Int32) (σ : cSt), C62 y3 y4 y5 σ = some res → qGo p l e room_1 s m #[Value.ref b] below meth c (lw_Z below #[Value.ref b] s) D cI cB cM ad6 a A 600130 7301079 8 σ [(0, .ref b), (1, .ref (a 0 0)), (3, .int y3), (4, .int y4), (5, .int y5)] 62 []) (y4 : Int32) (y5 : Int32) (y6 : Int32) (w0 : Int32) (σ : cSt), fL_law_j154 xs L C62 y4 y5 y6 w0 σ = some res → qGo p l e room_1 s m #[Value.ref b] below meth c (lw_Z below #[Value.ref b] s) D cI cB cM ad6 a A 600130 7301079 8 σ [(0, .ref b), (1, .ref (a 0 0)), (4, .int y4), (5, .int y5), (6, .int y6)] 154 [.int w0] := by
    intro C62 hC62 y4 y5 y6 w0 σ hf H locs ls hl hs
    unfold fL_law_j154 at hf
    refine lv_istore_n (lv' := [(3, .int w0), (0, .ref b), (1, .ref (a 0 0)), (4, .int y4), (5, .int y5), (6, .int y6)]) S.1 S.2.1 dL_law_154 rfl hl (by decide) rfl (fun ls hl => ?_)
    refine lv_iload_n S.1 S.2.1 dL_law_155 rfl (lv_at hl 0 rfl) ?_
    refine z_if_eq (tgt := 182) S hf dL_law_156 (by decide) (fun hf => ?_) (fun hf => ?_)
    · refine lv_iconst S.1 S.2.1 dL_law_182 k_iconst_0 ?_
      refine lv_istore_n (lv' := [(3, .int (nI 0)), (0, .ref b), (1, .ref (a 0 0)), (4, .int y4), (5, .int y5), (6, .int y6)]) S.1 S.2.1 dL_law_183 rfl hl (by decide) rfl (fun ls hl => ?_)
      refine lv_iinc (v := y5 + nI 1) (lv' := [(5, .int (y5 + nI 1)), (3, .int (nI 0)), (0, .ref b), (1, .ref (a 0 0)), (4, .int y4), (6, .int y6)]) S.1 S.2.1 dL_law_184 hl (k := 4) rfl (by rw [k_iconst_1]) (by decide) rfl (fun ls hl => ?_)
      refine lv_goto (tgt := 62) S.1 S.2.1 dL_law_187 (by decide) ?_
      exact hC62 _ _ _ _ hf _ _ _ (lv_sub hl [2, 3, 1, 4, 0] rfl) hs
    · refine lv_iload S.1 S.2.1 dL_law_159 (lv_at hl 4 rfl) ?_
      refine lv_bipush S.1 S.2.1 dL_law_161 k_bipush_8 ?_
      refine z_irem S hf dL_law_163 (fun x6 hf => ?_)
      refine z_if_gt (tgt := 178) S hf dL_law_164 (by decide) (fun hf => ?_) (fun hf => ?_)
      · exact J178 _ hC62 _ _ _ hf _ _ _ (lv_sub hl [1, 2, 3, 4] rfl) hs
      · refine lv_aload_n S.1 S.2.1 dL_law_167 rfl (lv_at hl 2 rfl) ?_
        refine lv_iload S.1 S.2.1 dL_law_168 (lv_at hl 5 rfl) ?_
        refine lv_iconst S.1 S.2.1 dL_law_170 k_iconst_3 ?_
        refine lv_ishr S.1 S.2.1 dL_law_171 ?_
        refine qcVS S K hs hl.1 hf (fun _ _ hX => metL_refuses _ _ _ _ _ _ _ _ _ _ _ _ hX) (cwL_88 S.2.2.2.2 ⟨Nat.le_of_ble_eq_true rfl, Nat.le_of_ble_eq_true rfl⟩) rfl dL_law_172 rfl (Nat.le_of_ble_eq_true rfl) ⟨Nat.le_of_ble_eq_true rfl, Nat.le_of_ble_eq_true rfl⟩ (fun x7 σ8 H locs hs hf => ?_)
        refine z_if_eq (tgt := 182) S hf dL_law_175 (by decide) (fun hf => ?_) (fun hf => ?_)
        · refine lv_iconst S.1 S.2.1 dL_law_182 k_iconst_0 ?_
          refine lv_istore_n (lv' := [(3, .int (nI 0)), (0, .ref b), (1, .ref (a 0 0)), (4, .int y4), (5, .int y5), (6, .int y6)]) S.1 S.2.1 dL_law_183 rfl hl (by decide) rfl (fun ls hl => ?_)
          refine lv_iinc (v := y5 + nI 1) (lv' := [(5, .int (y5 + nI 1)), (3, .int (nI 0)), (0, .ref b), (1, .ref (a 0 0)), (4, .int y4), (6, .int y6)]) S.1 S.2.1 dL_law_184 hl (k := 4) rfl (by rw [k_iconst_1]) (by decide) rfl (fun ls hl => ?_)
          refine lv_goto (tgt := 62) S.1 S.2.1 dL_law_187 (by decide) ?_
          exact hC62 _ _ _ _ hf _ _ _ (lv_sub hl [2, 3, 1, 4, 0] rfl) hs
        · exact J178 _ hC62 _ _ _ hf _ _ _ (lv_sub hl [1, 2, 3, 4] rfl) hs
  have J153 : ∀ (C62 : Int32 → Int32 → Int32 → cSt → Option (Int32)) (hC62 : ∀ (y3 : Int32) (y4 : Int32) (y5 : Int32) (σ : cSt), C62 y3 y4 y5 σ = some res → qGo p l e room_1 s m #[Value.ref b] below meth c (lw_Z below #[Value.ref b] s) D cI cB cM ad6 a A 600130 7301079 8 σ [(0, .ref b), (1, .ref (a 0 0)), (3, .int y3), (4, .int y4), (5, .int y5)] 62 []) (y4 : Int32) (y5 : Int32) (y6 : Int32) (σ : cSt), fL_law_j153 xs L C62 y4 y5 y6 σ = some res → qGo p l e room_1 s m #[Value.ref b] below meth c (lw_Z below #[Value.ref b] s) D cI cB cM ad6 a A 600130 7301079 8 σ [(0, .ref b), (1, .ref (a 0 0)), (4, .int y4), (5, .int y5), (6, .int y6)] 153 [] := by
    intro C62 hC62 y4 y5 y6 σ hf H locs ls hl hs
    unfold fL_law_j153 at hf
    refine lv_iconst S.1 S.2.1 dL_law_153 k_iconst_0 ?_
    exact J154 _ hC62 _ _ _ _ _ hf _ _ _ (lv_sub hl [0, 1, 2, 3, 4] rfl) hs
  have J146 : ∀ (C62 : Int32 → Int32 → Int32 → cSt → Option (Int32)) (hC62 : ∀ (y3 : Int32) (y4 : Int32) (y5 : Int32) (σ : cSt), C62 y3 y4 y5 σ = some res → qGo p l e room_1 s m #[Value.ref b] below meth c (lw_Z below #[Value.ref b] s) D cI cB cM ad6 a A 600130 7301079 8 σ [(0, .ref b), (1, .ref (a 0 0)), (3, .int y3), (4, .int y4), (5, .int y5)] 62 []) (y4 : Int32) (y5 : Int32) (y6 : Int32) (w0 : Int32) (w1 : Int32) (σ : cSt), fL_law_j146 xs L C62 y4 y5 y6 w0 w1 σ = some res → qGo p l e room_1 s m #[Value.ref b] below meth c (lw_Z below #[Value.ref b] s) D cI cB cM ad6 a A 600130 7301079 8 σ [(0, .ref b), (1, .ref (a 0 0)), (4, .int y4), (5, .int y5), (6, .int y6)] 146 [.int w0, .int w1] := by
    intro C62 hC62 y4 y5 y6 w0 w1 σ hf H locs ls hl hs
    unfold fL_law_j146 at hf
    refine z_icmp_ne (tgt := 153) S hf dL_law_146 (by decide) (fun hf => ?_) (fun hf => ?_)
    · exact J153 _ hC62 _ _ _ _ hf _ _ _ (lv_sub hl [0, 1, 2, 3, 4] rfl) hs
    · refine lv_iconst S.1 S.2.1 dL_law_149 k_iconst_1 ?_
      refine lv_goto (tgt := 154) S.1 S.2.1 dL_law_150 (by decide) ?_
      exact J154 _ hC62 _ _ _ _ _ hf _ _ _ (lv_sub hl [0, 1, 2, 3, 4] rfl) hs
  have L62 : ∀ (K62 : Int32 → cSt → Option (Int32)) (hK62 : ∀ (y3 : Int32) (σ : cSt), K62 y3 σ = some res → qGo p l e room_1 s m #[Value.ref b] below meth c (lw_Z below #[Value.ref b] s) D cI cB cM ad6 a A 600130 7301079 8 σ [(1, .ref (a 0 0)), (3, .int y3)] 190 []) (n : Nat) (y3 : Int32) (y4 : Int32) (y5 : Int32) (σ : cSt), fL_law_l62 xs L K62 n y3 y4 y5 σ = some res → qGo p l e room_1 s m #[Value.ref b] below meth c (lw_Z below #[Value.ref b] s) D cI cB cM ad6 a A 600130 7301079 8 σ [(0, .ref b), (1, .ref (a 0 0)), (3, .int y3), (4, .int y4), (5, .int y5)] 62 [] := by
    intro K62 hK62 n
    induction n with
    | zero =>
      intro y3 y4 y5 σ hf H locs ls hl hs
      rw [fL_law_l62] at hf
      cases hf
    | succ n ih =>
      intro y3 y4 y5 σ hf H locs ls hl hs
      rw [fL_law_l62] at hf
      refine lv_iload S.1 S.2.1 dL_law_62 (lv_at hl 4 rfl) ?_
      refine lv_bipush S.1 S.2.1 dL_law_64 k_bipush_40 ?_
      refine z_icmp_gt (tgt := 190) S hf dL_law_66 (by decide) (fun hf => ?_) (fun hf => ?_)
      · exact hK62 _ _ hf _ _ _ (lv_sub hl [1, 2] rfl) hs
      · refine lv_iload_n S.1 S.2.1 dL_law_69 rfl (lv_at hl 2 rfl) ?_
        refine z_if_eq (tgt := 190) S hf dL_law_70 (by decide) (fun hf => ?_) (fun hf => ?_)
        · exact hK62 _ _ hf _ _ _ (lv_sub hl [1, 2] rfl) hs
        · refine lv_aload_n S.1 S.2.1 dL_law_73 rfl (lv_at hl 0 rfl) ?_
          refine lv_iload S.1 S.2.1 dL_law_74 (lv_at hl 4 rfl) ?_
          refine lcC S K hX hs hl.1 hf (cwL_73 S.2.2.2.2 ⟨Nat.le_of_ble_eq_true rfl, Nat.le_of_ble_eq_true rfl⟩) dL_law_76 (Nat.le_of_ble_eq_true rfl) ⟨Nat.le_of_ble_eq_true rfl, Nat.le_of_ble_eq_true rfl⟩ (fun x3 H locs hs hf => ?_)
          refine lv_istore (lv' := [(6, .int x3), (0, .ref b), (1, .ref (a 0 0)), (3, .int y3), (4, .int y4), (5, .int y5)]) S.1 S.2.1 dL_law_79 hl (by decide) rfl (fun ls hl => ?_)
          refine lv_aload_n S.1 S.2.1 dL_law_81 rfl (lv_at hl 2 rfl) ?_
          refine lv_iload S.1 S.2.1 dL_law_82 (lv_at hl 0 rfl) ?_
          refine qcVS S K hs hl.1 hf (fun _ _ hX => metL_acts _ _ _ _ _ _ _ _ _ _ _ _ hX) (cwL_84 S.2.2.2.2 ⟨Nat.le_of_ble_eq_true rfl, Nat.le_of_ble_eq_true rfl⟩) rfl dL_law_84 rfl (Nat.le_of_ble_eq_true rfl) ⟨Nat.le_of_ble_eq_true rfl, Nat.le_of_ble_eq_true rfl⟩ (fun x4 σ5 H locs hs hf => ?_)
          refine lv_istore (lv' := [(7, .int x4), (6, .int x3), (0, .ref b), (1, .ref (a 0 0)), (3, .int y3), (4, .int y4), (5, .int y5)]) S.1 S.2.1 dL_law_87 hl (by decide) rfl (fun ls hl => ?_)
          refine lv_iload S.1 S.2.1 dL_law_89 (lv_at hl 5 rfl) ?_
          refine lv_iload S.1 S.2.1 dL_law_91 (lv_at hl 0 rfl) ?_
          refine lv_iadd S.1 S.2.1 dL_law_93 ?_
          refine lv_istore (lv' := [(4, .int (y4 + x4)), (7, .int x4), (6, .int x3), (0, .ref b), (1, .ref (a 0 0)), (3, .int y3), (5, .int y5)]) S.1 S.2.1 dL_law_94 hl (by decide) rfl (fun ls hl => ?_)
          refine lv_iload S.1 S.2.1 dL_law_96 (lv_at hl 1 rfl) ?_
          refine z_if_lt (tgt := 153) S hf dL_law_98 (by decide) (fun hf => ?_) (fun hf => ?_)
          · exact J153 _ ih _ _ _ _ hf _ _ _ (lv_sub hl [3, 4, 0, 6, 2] rfl) hs
          · refine lv_aload_n S.1 S.2.1 dL_law_101 rfl (lv_at hl 4 rfl) ?_
            refine qcT S K hs hl.1 hf (fun _ hX => metL_sound _ _ _ _ _ _ _ _ _ _ hX) (cwL_77 S.2.2.2.2 ⟨Nat.le_of_ble_eq_true rfl, Nat.le_of_ble_eq_true rfl⟩) rfl dL_law_102 rfl (Nat.le_of_ble_eq_true rfl) ⟨Nat.le_of_ble_eq_true rfl, Nat.le_of_ble_eq_true rfl⟩ (fun x9 H locs hs hf => ?_)
            refine z_if_eq (tgt := 153) S hf dL_law_105 (by decide) (fun hf => ?_) (fun hf => ?_)
            · exact J153 _ ih _ _ _ _ hf _ _ _ (lv_sub hl [3, 4, 0, 6, 2] rfl) hs
            · refine lv_aload_n S.1 S.2.1 dL_law_108 rfl (lv_at hl 4 rfl) ?_
              refine lv_bipush S.1 S.2.1 dL_law_109 k_bipush_6 ?_
              refine qcP (qV0 K hs) S K hs hl.1 hf (fun _ hX => metX8_value _ _ _ _ _ _ _ _ _ _ _ hX) (cwL_9 S.2.2.2.2 ⟨Nat.le_of_ble_eq_true rfl, Nat.le_of_ble_eq_true rfl⟩) rfl dL_law_111 rfl (Nat.le_of_ble_eq_true rfl) ⟨Nat.le_of_ble_eq_true rfl, Nat.le_of_ble_eq_true rfl⟩ (fun x10 H locs hs hf => ?_)
              refine lv_aload_n S.1 S.2.1 dL_law_114 rfl (lv_at hl 4 rfl) ?_
              refine lv_bipush S.1 S.2.1 dL_law_115 k_bipush_7 ?_
              refine qcP (qV0 K hs) S K hs hl.1 hf (fun _ hX => metX8_value _ _ _ _ _ _ _ _ _ _ _ hX) (cwL_9 S.2.2.2.2 ⟨Nat.le_of_ble_eq_true rfl, Nat.le_of_ble_eq_true rfl⟩) rfl dL_law_117 rfl (Nat.le_of_ble_eq_true rfl) ⟨Nat.le_of_ble_eq_true rfl, Nat.le_of_ble_eq_true rfl⟩ (fun x11 H locs hs hf => ?_)
              refine lv_iadd S.1 S.2.1 dL_law_120 ?_
              refine lv_iload S.1 S.2.1 dL_law_121 (lv_at hl 0 rfl) ?_
              refine z_icmp_ne (tgt := 153) S hf dL_law_123 (by decide) (fun hf => ?_) (fun hf => ?_)
              · exact J153 _ ih _ _ _ _ hf _ _ _ (lv_sub hl [3, 4, 0, 6, 2] rfl) hs
              · refine lv_aload_n S.1 S.2.1 dL_law_126 rfl (lv_at hl 4 rfl) ?_
                refine lv_bipush S.1 S.2.1 dL_law_127 k_bipush_13 ?_
                refine qcP (qV0 K hs) S K hs hl.1 hf (fun _ hX => metX8_value _ _ _ _ _ _ _ _ _ _ _ hX) (cwL_9 S.2.2.2.2 ⟨Nat.le_of_ble_eq_true rfl, Nat.le_of_ble_eq_true rfl⟩) rfl dL_law_129 rfl (Nat.le_of_ble_eq_true rfl) ⟨Nat.le_of_ble_eq_true rfl, Nat.le_of_ble_eq_true rfl⟩ (fun x12 H locs hs hf => ?_)
                refine lv_iload S.1 S.2.1 dL_law_132 (lv_at hl 0 rfl) ?_
                refine lv_bipush S.1 S.2.1 dL_law_134 k_bipush_12 ?_
                refine z_icmp_ge (tgt := 144) S hf dL_law_136 (by decide) (fun hf => ?_) (fun hf => ?_)
                · refine lv_bipush S.1 S.2.1 dL_law_144 k_bipush_12 ?_
                  exact J146 _ ih _ _ _ _ _ _ hf _ _ _ (lv_sub hl [3, 4, 0, 6, 2] rfl) hs
                · refine lv_iload S.1 S.2.1 dL_law_139 (lv_at hl 0 rfl) ?_
                  refine lv_goto (tgt := 146) S.1 S.2.1 dL_law_141 (by decide) ?_
                  exact J146 _ ih _ _ _ _ _ _ hf _ _ _ (lv_sub hl [3, 4, 0, 6, 2] rfl) hs
  have J215 : ∀ (w0 : Int32) (σ : cSt), fL_law_j215 xs L w0 σ = some res → qGo p l e room_1 s m #[Value.ref b] below meth c (lw_Z below #[Value.ref b] s) D cI cB cM ad6 a A 600130 7301079 8 σ [(1, .ref (a 0 0))] 215 [.int w0] := by
    intro w0 σ hf H locs ls hl hs
    unfold fL_law_j215 at hf
    refine lv_istore_n (lv' := [(3, .int w0), (1, .ref (a 0 0))]) S.1 S.2.1 dL_law_215 rfl hl (by decide) rfl (fun ls hl => ?_)
    refine lv_aload_n S.1 S.2.1 dL_law_216 rfl (lv_at hl 1 rfl) ?_
    refine qcL (qV0 K hs) S K hs hl.1 hf (fun _ hX => metX8_digest _ _ _ _ _ _ _ _ _ _ hX) (cwL_47 S.2.2.2.2 ⟨Nat.le_of_ble_eq_true rfl, Nat.le_of_ble_eq_true rfl⟩) rfl dL_law_217 rfl (Nat.le_of_ble_eq_true rfl) ⟨Nat.le_of_ble_eq_true rfl, Nat.le_of_ble_eq_true rfl⟩ (fun x15 H locs hs hf => ?_)
    refine lv_lstore (lv' := [(5, .long x15), (3, .int w0), (1, .ref (a 0 0))]) S.1 S.2.1 dL_law_220 hl (by decide) rfl (fun ls hl => ?_)
    refine lv_iload_n S.1 S.2.1 dL_law_222 rfl (lv_at hl 1 rfl) ?_
    refine z_if_eq (tgt := 285) S hf dL_law_223 (by decide) (fun hf => ?_) (fun hf => ?_)
    · refine lv_iconst S.1 S.2.1 dL_law_285 k_iconst_0 ?_
      exact lrB S K hX hr hk hs (hf.trans (congrArg some hres)) dL_law_286
    · refine lv_aload_n S.1 S.2.1 dL_law_226 rfl (lv_at hl 2 rfl) ?_
      refine lv_iconst S.1 S.2.1 dL_law_227 k_iconst_3 ?_
      refine qcV (qV0 K hs) S K hs hl.1 hf (fun _ _ hX => metX8_pass _ _ _ _ _ _ _ _ _ _ _ _ hX) (cwL_69 S.2.2.2.2 ⟨Nat.le_of_ble_eq_true rfl, Nat.le_of_ble_eq_true rfl⟩) rfl dL_law_228 rfl (Nat.le_of_ble_eq_true rfl) ⟨Nat.le_of_ble_eq_true rfl, Nat.le_of_ble_eq_true rfl⟩ (fun x16 σ17 H locs hs hf => ?_)
      refine z_if_lt (tgt := 285) S hf dL_law_231 (by decide) (fun hf => ?_) (fun hf => ?_)
      · refine lv_iconst S.1 S.2.1 dL_law_285 k_iconst_0 ?_
        exact lrB S K hX hr hk hs (hf.trans (congrArg some hres)) dL_law_286
      · refine lv_aload_n S.1 S.2.1 dL_law_234 rfl (lv_at hl 2 rfl) ?_
        refine lv_bipush S.1 S.2.1 dL_law_235 k_bipush_6 ?_
        refine lv_bipush S.1 S.2.1 dL_law_237 k_bipush_8 ?_
        refine lv_bipush S.1 S.2.1 dL_law_239 k_bipush_16 ?_
        refine qcV (qV0 K hs) S K hs hl.1 hf (fun _ _ hX => metX8_begin _ _ _ _ _ _ _ _ _ _ _ _ _ _ hX) (cwL_81 S.2.2.2.2 ⟨Nat.le_of_ble_eq_true rfl, Nat.le_of_ble_eq_true rfl⟩) rfl dL_law_241 rfl (Nat.le_of_ble_eq_true rfl) ⟨Nat.le_of_ble_eq_true rfl, Nat.le_of_ble_eq_true rfl⟩ (fun x18 σ19 H locs hs hf => ?_)
        refine lv_iconst S.1 S.2.1 dL_law_244 k_iconst_3 ?_
        refine z_icmp_lt (tgt := 285) S hf dL_law_245 (by decide) (fun hf => ?_) (fun hf => ?_)
        · refine lv_iconst S.1 S.2.1 dL_law_285 k_iconst_0 ?_
          exact lrB S K hX hr hk hs (hf.trans (congrArg some hres)) dL_law_286
        · refine lv_aload_n S.1 S.2.1 dL_law_248 rfl (lv_at hl 2 rfl) ?_
          refine qcT S K hs hl.1 hf (fun _ hX => metL_sound _ _ _ _ _ _ _ _ _ _ hX) (cwL_77 S.2.2.2.2 ⟨Nat.le_of_ble_eq_true rfl, Nat.le_of_ble_eq_true rfl⟩) rfl dL_law_249 rfl (Nat.le_of_ble_eq_true rfl) ⟨Nat.le_of_ble_eq_true rfl, Nat.le_of_ble_eq_true rfl⟩ (fun x20 H locs hs hf => ?_)
          refine z_if_eq (tgt := 285) S hf dL_law_252 (by decide) (fun hf => ?_) (fun hf => ?_)
          · refine lv_iconst S.1 S.2.1 dL_law_285 k_iconst_0 ?_
            exact lrB S K hX hr hk hs (hf.trans (congrArg some hres)) dL_law_286
          · refine lv_aload_n S.1 S.2.1 dL_law_255 rfl (lv_at hl 2 rfl) ?_
            refine qcV (qV0 K hs) S K hs hl.1 hf (fun _ _ hX => metX8_undo _ _ _ _ _ _ _ _ _ _ _ hX) (cwL_91 S.2.2.2.2 ⟨Nat.le_of_ble_eq_true rfl, Nat.le_of_ble_eq_true rfl⟩) rfl dL_law_256 rfl (Nat.le_of_ble_eq_true rfl) ⟨Nat.le_of_ble_eq_true rfl, Nat.le_of_ble_eq_true rfl⟩ (fun x21 σ22 H locs hs hf => ?_)
            refine lv_iconst S.1 S.2.1 dL_law_259 k_iconst_3 ?_
            refine z_icmp_ne (tgt := 285) S hf dL_law_260 (by decide) (fun hf => ?_) (fun hf => ?_)
            · refine lv_iconst S.1 S.2.1 dL_law_285 k_iconst_0 ?_
              exact lrB S K hX hr hk hs (hf.trans (congrArg some hres)) dL_law_286
            · refine lv_aload_n S.1 S.2.1 dL_law_263 rfl (lv_at hl 2 rfl) ?_
              refine qcV (qV0 K hs) S K hs hl.1 hf (fun _ _ hX => metX8_undo _ _ _ _ _ _ _ _ _ _ _ hX) (cwL_91 S.2.2.2.2 ⟨Nat.le_of_ble_eq_true rfl, Nat.le_of_ble_eq_true rfl⟩) rfl dL_law_264 rfl (Nat.le_of_ble_eq_true rfl) ⟨Nat.le_of_ble_eq_true rfl, Nat.le_of_ble_eq_true rfl⟩ (fun x23 σ24 H locs hs hf => ?_)
              refine lv_iconst S.1 S.2.1 dL_law_267 k_iconst_2 ?_
              refine z_icmp_ne (tgt := 285) S hf dL_law_268 (by decide) (fun hf => ?_) (fun hf => ?_)
              · refine lv_iconst S.1 S.2.1 dL_law_285 k_iconst_0 ?_
                exact lrB S K hX hr hk hs (hf.trans (congrArg some hres)) dL_law_286
              · refine lv_aload_n S.1 S.2.1 dL_law_271 rfl (lv_at hl 2 rfl) ?_
                refine qcL (qV0 K hs) S K hs hl.1 hf (fun _ hX => metX8_digest _ _ _ _ _ _ _ _ _ _ hX) (cwL_47 S.2.2.2.2 ⟨Nat.le_of_ble_eq_true rfl, Nat.le_of_ble_eq_true rfl⟩) rfl dL_law_272 rfl (Nat.le_of_ble_eq_true rfl) ⟨Nat.le_of_ble_eq_true rfl, Nat.le_of_ble_eq_true rfl⟩ (fun x25 H locs hs hf => ?_)
                refine lv_lload S.1 S.2.1 dL_law_275 (lv_at hl 0 rfl) ?_
                refine qlc_ne (tgt := 285) S hf dL_law_277 dL_law_278 (by decide) (fun hf => ?_) (fun hf => ?_)
                · refine lv_iconst S.1 S.2.1 dL_law_285 k_iconst_0 ?_
                  exact lrB S K hX hr hk hs (hf.trans (congrArg some hres)) dL_law_286
                · refine lv_iconst S.1 S.2.1 dL_law_281 k_iconst_1 ?_
                  refine lv_goto (tgt := 286) S.1 S.2.1 dL_law_282 (by decide) ?_
                  exact lrB S K hX hr hk hs (hf.trans (congrArg some hres)) dL_law_286
  have J214 : ∀ (σ : cSt), fL_law_j214 xs L σ = some res → qGo p l e room_1 s m #[Value.ref b] below meth c (lw_Z below #[Value.ref b] s) D cI cB cM ad6 a A 600130 7301079 8 σ [(1, .ref (a 0 0))] 214 [] := by
    intro σ hf H locs ls hl hs
    unfold fL_law_j214 at hf
    refine lv_iconst S.1 S.2.1 dL_law_214 k_iconst_0 ?_
    exact J215 _ _ hf _ _ _ (lv_sub hl [0] rfl) hs
  have J54 : ∀ (σ : cSt), fL_law_j54 xs L σ = some res → qGo p l e room_1 s m #[Value.ref b] below meth c (lw_Z below #[Value.ref b] s) D cI cB cM ad6 a A 600130 7301079 8 σ [(0, .ref b), (1, .ref (a 0 0))] 54 [] := by
    intro σ hf H locs ls hl hs
    unfold fL_law_j54 at hf
    refine lv_iconst S.1 S.2.1 dL_law_54 k_iconst_0 ?_
    refine lv_istore_n (lv' := [(3, .int (nI 0)), (0, .ref b), (1, .ref (a 0 0))]) S.1 S.2.1 dL_law_55 rfl hl (by decide) rfl (fun ls hl => ?_)
    refine lv_iconst S.1 S.2.1 dL_law_56 k_iconst_0 ?_
    refine lv_istore (lv' := [(4, .int (nI 0)), (3, .int (nI 0)), (0, .ref b), (1, .ref (a 0 0))]) S.1 S.2.1 dL_law_57 hl (by decide) rfl (fun ls hl => ?_)
    refine lv_iconst S.1 S.2.1 dL_law_59 k_iconst_1 ?_
    refine lv_istore (lv' := [(5, .int (nI 1)), (4, .int (nI 0)), (3, .int (nI 0)), (0, .ref b), (1, .ref (a 0 0))]) S.1 S.2.1 dL_law_60 hl (by decide) rfl (fun ls hl => ?_)
    refine L62 _ (fun x13 σ14 hf H locs ls hl hs => ?_) _ _ _ _ _ hf _ _ _ (lv_sub hl [3, 4, 2, 1, 0] rfl) hs
    refine lv_iload_n S.1 S.2.1 dL_law_190 rfl (lv_at hl 1 rfl) ?_
    refine z_if_eq (tgt := 214) S hf dL_law_191 (by decide) (fun hf => ?_) (fun hf => ?_)
    · exact J214 _ hf _ _ _ (lv_sub hl [0] rfl) hs
    · refine lv_aload_n S.1 S.2.1 dL_law_194 rfl (lv_at hl 0 rfl) ?_
      refine qcV (qV0 K hs) S K hs hl.1 hf (fun _ _ hX => metX8_undo _ _ _ _ _ _ _ _ _ _ _ hX) (cwL_91 S.2.2.2.2 ⟨Nat.le_of_ble_eq_true rfl, Nat.le_of_ble_eq_true rfl⟩) rfl dL_law_195 rfl (Nat.le_of_ble_eq_true rfl) ⟨Nat.le_of_ble_eq_true rfl, Nat.le_of_ble_eq_true rfl⟩ (fun x26 σ27 H locs hs hf => ?_)
      refine lv_iconst S.1 S.2.1 dL_law_198 k_iconst_3 ?_
      refine z_icmp_ne (tgt := 214) S hf dL_law_199 (by decide) (fun hf => ?_) (fun hf => ?_)
      · exact J214 _ hf _ _ _ (lv_sub hl [0] rfl) hs
      · refine lv_aload_n S.1 S.2.1 dL_law_202 rfl (lv_at hl 0 rfl) ?_
        refine qcV (qV0 K hs) S K hs hl.1 hf (fun _ _ hX => metX8_undo _ _ _ _ _ _ _ _ _ _ _ hX) (cwL_91 S.2.2.2.2 ⟨Nat.le_of_ble_eq_true rfl, Nat.le_of_ble_eq_true rfl⟩) rfl dL_law_203 rfl (Nat.le_of_ble_eq_true rfl) ⟨Nat.le_of_ble_eq_true rfl, Nat.le_of_ble_eq_true rfl⟩ (fun x28 σ29 H locs hs hf => ?_)
        refine lv_iconst S.1 S.2.1 dL_law_206 k_iconst_2 ?_
        refine z_icmp_ne (tgt := 214) S hf dL_law_207 (by decide) (fun hf => ?_) (fun hf => ?_)
        · exact J214 _ hf _ _ _ (lv_sub hl [0] rfl) hs
        · refine lv_iconst S.1 S.2.1 dL_law_210 k_iconst_1 ?_
          refine lv_goto (tgt := 215) S.1 S.2.1 dL_law_211 (by decide) ?_
          exact J215 _ _ hf _ _ _ (lv_sub hl [0] rfl) hs
  unfold fL_law at hf
  refine lv_aload_n S.1 S.2.1 dL_law_8 rfl (lv_at hl 1 rfl) ?_
  refine lv_iconst S.1 S.2.1 dL_law_9 k_iconst_0 ?_
  refine lcC S K hX hs hl.1 hf (cwL_73 S.2.2.2.2 ⟨Nat.le_of_ble_eq_true rfl, Nat.le_of_ble_eq_true rfl⟩) dL_law_10 (Nat.le_of_ble_eq_true rfl) ⟨Nat.le_of_ble_eq_true rfl, Nat.le_of_ble_eq_true rfl⟩ (fun x1 H locs hs hf => ?_)
  refine lv_istore_n (lv' := [(2, .int x1), (1, .ref (a 0 0)), (0, .ref b)]) S.1 S.2.1 dL_law_13 rfl hl (by decide) rfl (fun ls hl => ?_)
  refine lv_aload_n S.1 S.2.1 dL_law_14 rfl (lv_at hl 1 rfl) ?_
  refine qcT S K hs hl.1 hf (fun _ hX => metL_sound _ _ _ _ _ _ _ _ _ _ hX) (cwL_77 S.2.2.2.2 ⟨Nat.le_of_ble_eq_true rfl, Nat.le_of_ble_eq_true rfl⟩) rfl dL_law_15 rfl (Nat.le_of_ble_eq_true rfl) ⟨Nat.le_of_ble_eq_true rfl, Nat.le_of_ble_eq_true rfl⟩ (fun x2 H locs hs hf => ?_)
  refine z_if_eq (tgt := 54) S hf dL_law_18 (by decide) (fun hf => ?_) (fun hf => ?_)
  · exact J54 _ hf _ _ _ (lv_sub hl [2, 1] rfl) hs
  · refine lv_aload_n S.1 S.2.1 dL_law_21 rfl (lv_at hl 1 rfl) ?_
    refine lv_iconst S.1 S.2.1 dL_law_22 k_iconst_2 ?_
    refine lv_iload_n S.1 S.2.1 dL_law_23 rfl (lv_at hl 0 rfl) ?_
    refine lv_iconst S.1 S.2.1 dL_law_24 k_iconst_5 ?_
    refine z_irem S hf dL_law_25 (fun x30 hf => ?_)
    refine lv_iadd S.1 S.2.1 dL_law_26 ?_
    refine lv_iconst S.1 S.2.1 dL_law_27 k_iconst_1 ?_
    refine lv_iload_n S.1 S.2.1 dL_law_28 rfl (lv_at hl 0 rfl) ?_
    refine lv_bipush S.1 S.2.1 dL_law_29 k_bipush_8 ?_
    refine lv_ishr S.1 S.2.1 dL_law_31 ?_
    refine lv_iconst S.1 S.2.1 dL_law_32 k_iconst_4 ?_
    refine z_irem S hf dL_law_33 (fun x31 hf => ?_)
    refine lv_iadd S.1 S.2.1 dL_law_34 ?_
    refine lv_iconst S.1 S.2.1 dL_law_35 k_iconst_1 ?_
    refine lv_iload_n S.1 S.2.1 dL_law_36 rfl (lv_at hl 0 rfl) ?_
    refine lv_bipush S.1 S.2.1 dL_law_37 k_bipush_12 ?_
    refine lv_ishr S.1 S.2.1 dL_law_39 ?_
    refine lv_bipush S.1 S.2.1 dL_law_40 k_bipush_6 ?_
    refine z_irem S hf dL_law_42 (fun x32 hf => ?_)
    refine lv_iadd S.1 S.2.1 dL_law_43 ?_
    refine qcV (qV0 K hs) S K hs hl.1 hf (fun _ _ hX => metX8_begin _ _ _ _ _ _ _ _ _ _ _ _ _ _ hX) (cwL_81 S.2.2.2.2 ⟨Nat.le_of_ble_eq_true rfl, Nat.le_of_ble_eq_true rfl⟩) rfl dL_law_44 rfl (Nat.le_of_ble_eq_true rfl) ⟨Nat.le_of_ble_eq_true rfl, Nat.le_of_ble_eq_true rfl⟩ (fun x33 σ34 H locs hs hf => ?_)
    refine z_if_ne (tgt := 54) S hf dL_law_47 (by decide) (fun hf => ?_) (fun hf => ?_)
    · exact J54 _ hf _ _ _ (lv_sub hl [2, 1] rfl) hs
    · refine lv_iconst S.1 S.2.1 dL_law_50 k_iconst_1 ?_
      refine lv_goto (tgt := 55) S.1 S.2.1 dL_law_51 (by decide) ?_
      refine lv_istore_n (lv' := [(3, .int (nI 1)), (2, .int x1), (1, .ref (a 0 0)), (0, .ref b)]) S.1 S.2.1 dL_law_55 rfl hl (by decide) rfl (fun ls hl => ?_)
      refine lv_iconst S.1 S.2.1 dL_law_56 k_iconst_0 ?_
      refine lv_istore (lv' := [(4, .int (nI 0)), (3, .int (nI 1)), (2, .int x1), (1, .ref (a 0 0)), (0, .ref b)]) S.1 S.2.1 dL_law_57 hl (by decide) rfl (fun ls hl => ?_)
      refine lv_iconst S.1 S.2.1 dL_law_59 k_iconst_1 ?_
      refine lv_istore (lv' := [(5, .int (nI 1)), (4, .int (nI 0)), (3, .int (nI 1)), (2, .int x1), (1, .ref (a 0 0)), (0, .ref b)]) S.1 S.2.1 dL_law_60 hl (by decide) rfl (fun ls hl => ?_)
      refine L62 _ (fun x35 σ36 hf H locs ls hl hs => ?_) _ _ _ _ _ hf _ _ _ (lv_sub hl [5, 4, 2, 1, 0] rfl) hs
      refine lv_iload_n S.1 S.2.1 dL_law_190 rfl (lv_at hl 1 rfl) ?_
      refine z_if_eq (tgt := 214) S hf dL_law_191 (by decide) (fun hf => ?_) (fun hf => ?_)
      · exact J214 _ hf _ _ _ (lv_sub hl [0] rfl) hs
      · refine lv_aload_n S.1 S.2.1 dL_law_194 rfl (lv_at hl 0 rfl) ?_
        refine qcV (qV0 K hs) S K hs hl.1 hf (fun _ _ hX => metX8_undo _ _ _ _ _ _ _ _ _ _ _ hX) (cwL_91 S.2.2.2.2 ⟨Nat.le_of_ble_eq_true rfl, Nat.le_of_ble_eq_true rfl⟩) rfl dL_law_195 rfl (Nat.le_of_ble_eq_true rfl) ⟨Nat.le_of_ble_eq_true rfl, Nat.le_of_ble_eq_true rfl⟩ (fun x37 σ38 H locs hs hf => ?_)
        refine lv_iconst S.1 S.2.1 dL_law_198 k_iconst_3 ?_
        refine z_icmp_ne (tgt := 214) S hf dL_law_199 (by decide) (fun hf => ?_) (fun hf => ?_)
        · exact J214 _ hf _ _ _ (lv_sub hl [0] rfl) hs
        · refine lv_aload_n S.1 S.2.1 dL_law_202 rfl (lv_at hl 0 rfl) ?_
          refine qcV (qV0 K hs) S K hs hl.1 hf (fun _ _ hX => metX8_undo _ _ _ _ _ _ _ _ _ _ _ hX) (cwL_91 S.2.2.2.2 ⟨Nat.le_of_ble_eq_true rfl, Nat.le_of_ble_eq_true rfl⟩) rfl dL_law_203 rfl (Nat.le_of_ble_eq_true rfl) ⟨Nat.le_of_ble_eq_true rfl, Nat.le_of_ble_eq_true rfl⟩ (fun x39 σ40 H locs hs hf => ?_)
          refine lv_iconst S.1 S.2.1 dL_law_206 k_iconst_2 ?_
          refine z_icmp_ne (tgt := 214) S hf dL_law_207 (by decide) (fun hf => ?_) (fun hf => ?_)
          · exact J214 _ hf _ _ _ (lv_sub hl [0] rfl) hs
          · refine lv_iconst S.1 S.2.1 dL_law_210 k_iconst_1 ?_
            refine lv_goto (tgt := 215) S.1 S.2.1 dL_law_211 (by decide) ?_
            exact J215 _ _ hf _ _ _ (lv_sub hl [0] rfl) hs
