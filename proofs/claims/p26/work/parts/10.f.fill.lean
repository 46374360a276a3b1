/-! Arrays.fill(int[], int): the row holds the value at each place -/
def z_fl (σ : zSt) (j n : Nat) (x : Int32) : Option zSt := some (z_up σ j (fun i => if i < n then x else σ j i))
theorem u_85f : Cond.static yJ7_fill_53178 ∈ WA := z_in0 _ (List.mem_of_getElem? (i := 82) (by decide +kernel))
theorem u_87f : Cond.initialized RJ7 ∈ WA := z_in0 _ (List.mem_of_getElem? (i := 83) (by decide +kernel))
theorem u_88f : Cond.code yJ7_fill_53178 cJ7_fill_53178 4 none ∈ WA := z_in0 _ (List.mem_of_getElem? (i := 84) (by decide +kernel))
theorem z_set {D : va_G} {cl : List vw_C} {A : Nat → Prop} {p : Nat} {w : va_W} {a : Nat} {e0 e : va_E} {H H1 : Heap} (h : va_P D cl w H) (hD : va_D A w) (hp : w[p]? = some (a, e0)) (he : va_at D cl (a, e) H1) (oq : ∀ q : Nat, q < H.size → q ≠ a → H1[q]? = H[q]?) : va_P D cl (w.set p (a, e)) H1 := by
  have hl := (List.getElem?_eq_some_iff.mp hp).1
  intro k q hk
  by_cases hkp : k = p
  · subst hkp
    rw [List.getElem?_set_self hl] at hk
    cases hk
    exact he
  · rw [List.getElem?_set_ne (Ne.symm hkp)] at hk
    exact (h k q hk).kept (oq q.1 (h k q hk).lt (fun z => hkp (hD.1 k p q (a, e0) hk hp z)))
abbrev fl_w (a : Nat) (cI : ClassId) (n : Nat) (f : Nat → Int32) : va_W := [(a, .inl (cI, n, .inl f))]
def fl_B (D : va_G) (cI : ClassId) (a n : Nat) (f : Nat → Int32) (U : State) : Prop := va_P D vwCl (fl_w a cI n f) U.heap ∧ va_K D vwCl [(cI, .int)] U ∧ va_D (fun q => q = a) (fl_w a cI n f)
theorem fl_blind (D : va_G) (cI : ClassId) (a n : Nat) (f : Nat → Int32) (av : List Value) : FrameBlind (va_Pc av (fl_B D cI a n f)) := fun b U g mk q => by
  obtain ⟨q0, qP, qK, qD⟩ := q
  exact ⟨q0, qP, va_K.moved (u := U) (U := U.calling g mk b) (Vm.Alike.refl U.vm) qK, qD⟩
theorem fl_upd (f : Nat → Int32) (k : Nat) (x : Int32) : upd (fun i => if i < k then x else f i) k x = fun i => if i < k + 1 then x else f i := by
  funext i
  unfold upd
  by_cases h : i = k
  · subst h
    simp
  · rw [if_neg h]; dsimp only
    by_cases h2 : i < k
    · rw [if_pos h2, if_pos (by omega)]
    · rw [if_neg h2, if_neg (by omega)]
set_option maxHeartbeats 4000000 in
set_option maxRecDepth 100000 in
theorem metJ7_fill (l : Launch) (D : va_G) (cI : ClassId) (a n : Nat) (hn : n < 2 ^ 31) (x : Int32) (f : Nat → Int32) : Met l yJ7_fill_53178 (Cond.code yJ7_fill_53178 cJ7_fill_53178 4 none :: WA) ({ frames := 0, cells := 0, slots := 0, locals := 0 }) (va_Pc [.ref a, .int x] (fl_B D cI a n f)) (va_Qv (fun (_ : Unit) => True) (fun _ t => fl_B D cI a n (fun i => if i < n then x else f i) t) (fun q => q = a)) 0 0 (fun q => q = a) := by
  refine Met.ofW (cc := cJ7_fill_53178) (maxL := 4) (ret := none) (by decide) rfl ?_
  intro p e s m args below meth c s₁ B hml hv
  obtain ⟨rfl, hP, hK, hD⟩ := hv
  have hx := B.exec
  have hb := B.bytes
  have hr := B.returns
  have hlk := B.notSynchronized
  have hl := lv_entry ([.ref a, .int x]) (n := 4) (Nat.le_of_ble_eq_true rfl)
  rw [lg_entry_eq]
  generalize (lg_sl ([.ref a, .int x]) ++ List.replicate (4 - (lg_sl ([.ref a, .int x])).length) Slot.unset).toArray = ls at hl ⊢
  have hl : lv_has ls 4 [(0, .ref a), (1, .int x)] := hl
  have hS : va_S (fun q => q = a) s.heap s.heap [] := va_S.rf
  have L5 : ∀ (d k : Nat), k + d = n → ∀ (H : Heap) (locs : List Loc) (ls : Array Slot), lv_has ls 4 [(0, .ref a), (1, .int x), (2, .int (nI k)), (3, .int (nI n))] → va_P D vwCl (fl_w a cI n (fun i => if i < k then x else f i)) H → va_D (fun q => q = a) (fl_w a cI n (fun i => if i < k then x else f i)) → va_S (fun q => q = a) s.heap H locs →
      W p l e ({ frames := 0, cells := 0, slots := 0, locals := 0 } : Room) s m ([.ref a, .int x] : List Value).toArray below meth c H locs 0 0 (MQ below (va_Qv (fun (_ : Unit) => True) (fun _ t => fl_B D cI a n (fun i => if i < n then x else f i) t) (fun q => q = a)) ([.ref a, .int x] : List Value).toArray s 0 0 (fun q => q = a)) (F0 m 5 ls []) := by
    intro d
    induction d with
    | zero =>
      intro k hk H locs ls hl hP hD hS
      obtain rfl : k = n := by omega
      refine lv_iload_n hx hb dJ7_fill_53178_5 rfl (lv_at hl 2 rfl) ?_
      refine lv_iload_n hx hb dJ7_fill_53178_6 rfl (lv_at hl 3 rfl) ?_
      refine lv_icmp_ge (tgt := 20) hx hb dJ7_fill_53178_7 (by decide) (fun _ => ?_) (fun h => absurd (nI_le (Nat.le_refl _) hn) h)
      exact W.vret hx hb hr (fun t ht hW => ⟨⟨(), rfl, trivial, by rw [ht]; exact hP, va_K.moved hW.alike hK, hD⟩, hS.F ht⟩) hS.2.2 dJ7_fill_53178_20 (hlocks := hlk)
    | succ d ih =>
      intro k hk H locs ls hl hP hD hS
      refine lv_iload_n hx hb dJ7_fill_53178_5 rfl (lv_at hl 2 rfl) ?_
      refine lv_iload_n hx hb dJ7_fill_53178_6 rfl (lv_at hl 3 rfl) ?_
      refine lv_icmp_ge (tgt := 20) hx hb dJ7_fill_53178_7 (by decide) (fun h => absurd h (nI_ge (by omega) hn)) (fun _ => ?_)
      refine lv_aload_n hx hb dJ7_fill_53178_10 rfl (lv_at hl 0 rfl) ?_
      refine lv_iload_n hx hb dJ7_fill_53178_11 rfl (lv_at hl 2 rfl) ?_
      refine lv_iload_n hx hb dJ7_fill_53178_12 rfl (lv_at hl 1 rfl) ?_
      refine va_iast hx hb hK hP hD hS 0 0 rfl rfl (vp_in_nI (by omega) hn) dJ7_fill_53178_13 (fun H1 locs1 hP hD hS => ?_)
      rw [nI_clamp (by omega), fl_upd] at hP hD
      refine lv_iinc (v := nI (k + 1)) (lv' := [(2, .int (nI (k + 1))), (0, .ref a), (1, .int x), (3, .int (nI n))]) hx hb dJ7_fill_53178_14 hl (k := 2) rfl (nI_1 k) (by decide) rfl (fun ls hl => ?_)
      refine lv_goto (tgt := 5) hx hb dJ7_fill_53178_17 (by decide) ?_
      exact ih (k + 1) (by omega) _ _ _ (lv_sub hl [1, 2, 0, 3] rfl) hP hD hS
  refine lv_iconst (v := nI 0) hx hb dJ7_fill_53178_0 (by decide) ?_
  refine lv_istore_n (lv' := [(2, .int (nI 0)), (0, .ref a), (1, .int x)]) hx hb dJ7_fill_53178_1 rfl hl (by decide) rfl (fun ls hl => ?_)
  refine lv_aload_n hx hb dJ7_fill_53178_2 rfl (lv_at hl 1 rfl) ?_
  refine va_alen (v := nI n) hx hb hK hP 0 0 rfl rfl rfl dJ7_fill_53178_3 ?_
  refine lv_istore_n (lv' := [(3, .int (nI n)), (2, .int (nI 0)), (0, .ref a), (1, .int x)]) hx hb dJ7_fill_53178_4 rfl hl (by decide) rfl (fun ls hl => ?_)
  have e0 : (fun i => if i < 0 then x else f i) = f := by
    funext i
    simp
  exact L5 n 0 (by omega) _ _ _ (lv_sub hl [2, 3, 1, 0] rfl) (by rw [e0]; exact hP) (by rw [e0]; exact hD) hS
section ZF
variable {p : Program} {l : Launch} {e : Env} {R : Room} {s : State} {m : MethodId} {args : Array Value} {below : List Frame} {meth : Method} {c : Code} {H : Heap} {locs : List Loc} {cells slots : Nat} {Q : State → Prop}
variable {cc : ByteArray} {nL pc : Nat} {own : String} {ls : Array Slot} {rest : List Value} {γ : Type} {res : γ} {D : va_G} {A : Nat → Prop} {w : va_W} {cI : ClassId} {H0 : Heap}
theorem z_fill (S : CallFix p m c cc nL s args WA own) (K : va_K D vwCl [(cI, .int)] s) (hP : va_P D vwCl w H) (hD : va_D A w) (hS : va_S A H0 H locs) (q0 n : Nat) {a j : Nat} {σ : zSt} (ha : w[q0]? = some (a, .inl (cI, n, .inl (σ j)))) (hn : n < 2 ^ 31) (hlz : ls.size = nL) {index : Nat} (hlk : Cond.methodLink own index yJ7_fill_53178 ∈ WA) {x : Int32} {k : zSt → Option γ} (hf : (z_fl σ j n x).bind k = some res) (hdg : decode cc pc = .ok (.invokestatic index, 3))
    (hR : 1 ≤ R.frames ∧ 8 + (4 + 11) ≤ R.locals) (hroom : (rest.map fun v => v.category).sum ≤ 8) (hfit : cells + 0 ≤ R.cells ∧ slots + 0 ≤ R.slots)
    (kk : ∀ (σ' : zSt) (H1 : Heap) (locs1 : List Loc), σ' = z_up σ j (fun i => if i < n then x else σ j i) → va_P D vwCl (w.set q0 (a, .inl (cI, n, .inl (fun i => if i < n then x else σ j i)))) H1 → va_D A (w.set q0 (a, .inl (cI, n, .inl (fun i => if i < n then x else σ j i)))) → va_S A H0 H1 locs1 → k σ' = some res → W p l e R s m args below meth c H1 locs1 cells slots Q (F0 m (pc + 3) ls rest)) : W p l e R s m args below meth c H locs cells slots Q (F0 m pc ls (.int x :: .ref a :: rest)) := by
  have hPc : va_P D vwCl (fl_w a cI n (σ j)) H := hP.sub [q0] (by simp [ha])
  have hDc : va_D (fun q => q = a) (fl_w a cI n (σ j)) := ⟨fun i j x y hx hy _ => by
    have h1 := (List.getElem?_eq_some_iff.mp hx).1
    have h2 := (List.getElem?_eq_some_iff.mp hy).1
    simp only [fl_w, List.length_cons, List.length_nil] at h1 h2
    omega, fun k q hk => by
    have h1 := (List.getElem?_eq_some_iff.mp hk).1
    simp only [fl_w, List.length_cons, List.length_nil] at h1
    obtain rfl : k = 0 := by omega
    cases hk
    rfl⟩
  have hAa : ∀ q : Nat, q = a → A q := fun q hq => by rw [hq]; exact hD.2 q0 _ ha
  refine va_callv (va_runS (As := [.ref a, .int x]) (rest := rest) S (metJ7_fill l D cI a n hn x (σ j)) (va_cwS 2 S.2.2.2.2 (z_goodS hlk u_85f u_87f u_88f) rfl rfl rfl (by decide +kernel) hR) ⟨fl_blind _ _ _ _ _ _, fun U hU hW => ⟨rfl, by rw [hU]; exact hPc, va_K.moved hW.alike K, hDc⟩⟩ rfl rfl hlz rfl (lv_room hroom) hdg hfit) hS (fun q _ h => hAa q h) (fun q h => hAa q h) (fun u t H1 locs1 ht hvm hw hB hz1 hk1 hS1 => ?_)
  obtain ⟨hP1, -, -⟩ := hB
  rw [ht] at hP1
  exact kk _ H1 locs1 rfl (z_set hP hD ha (hP1 0 _ rfl) (fun q h1 h2 => hk1 q h1 h2)) (hD.set ha) hS1 hf
end ZF
