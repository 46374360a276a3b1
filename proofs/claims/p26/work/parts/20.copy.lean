/-! System.arraycopy from the first place to the first place of a row -/
def z_cp (σ : zSt) (j : Nat) (f : Nat → Int32) (n : Nat) : Option zSt := some (z_up σ j (va_cpy f (σ j) 0 0 n))
theorem u_167c : Cond.native arraycopyName ∈ WA := z_in0 _ (List.mem_of_getElem? (i := 247) (by decide +kernel))
theorem u_168c : Cond.static arraycopyName ∈ WA := z_in0 _ (List.mem_of_getElem? (i := 248) (by decide +kernel))
theorem u_169c : Cond.initialized "java/lang/System" ∈ WA := z_in0 _ (List.mem_of_getElem? (i := 249) (by decide +kernel))
section ZC
variable {p : Program} {l : Launch} {e : Env} {R : Room} {s : State} {m : MethodId} {args : Array Value} {below : List Frame} {meth : Method} {c : Code} {H : Heap} {locs : List Loc} {cells slots : Nat} {Q : State → Prop}
variable {cc : ByteArray} {nL pc : Nat} {own : String} {ls : Array Slot} {rest : List Value} {γ : Type} {res : γ} {D : va_G} {A : Nat → Prop} {w : va_W} {cI : ClassId} {H0 : Heap}
theorem z_copy (S : CallFix p m c cc nL s args WA own) (K : va_K D vwCl [(cI, .int)] s) (hP : va_P D vwCl w H) (hD : va_D A w) (hS : va_S A H0 H locs) (q0 q1 : Nat) {a0 a j n0 n1 n : Nat} {f : Nat → Int32} {σ : zSt} (ha0 : w[q0]? = some (a0, .inl (cI, n0, .inl f))) (ha1 : w[q1]? = some (a, .inl (cI, n1, .inl (σ j)))) (hlz : ls.size = nL) {index : Nat} (hlk : Cond.methodLink own index arraycopyName ∈ WA) (h0 : n ≤ n0) (h1 : n ≤ n1) (hn : n < 2 ^ 31) {k : zSt → Option γ} (hf : (z_cp σ j f n).bind k = some res) (hdg : decode cc pc = .ok (.invokestatic index, 3))
    (hR : 1 ≤ R.frames ∧ 40 ≤ R.locals) (hroom : (rest.map fun v => v.category).sum ≤ 8)
    (kk : ∀ (σ' : zSt) (H1 : Heap) (locs1 : List Loc), σ' = z_up σ j (va_cpy f (σ j) 0 0 n) → va_P D vwCl (w.set q1 (a, .inl (cI, n1, .inl (va_cpy f (σ j) 0 0 n)))) H1 → va_D A (w.set q1 (a, .inl (cI, n1, .inl (va_cpy f (σ j) 0 0 n)))) → va_S A H0 H1 locs1 → k σ' = some res → W p l e R s m args below meth c H1 locs1 cells slots Q (F0 m (pc + 3) ls rest)) : W p l e R s m args below meth c H locs cells slots Q (F0 m pc ls (.int (nI n) :: .int (nI 0) :: .ref a :: .int (nI 0) :: .ref a0 :: rest)) := by
  have e0 : (nI 0).toNatClampNeg = 0 := nI_clamp (by omega)
  have en : (nI n).toNatClampNeg = n := nI_clamp hn
  have ew : nativeFrameWords "java/lang/System" "arraycopy" 5 = 7 := by decide
  refine va_copyi S.1 S.2.1 (S.2.2.1.trans hlz.symm) S.2.2.2.1 (S.2.2.2.2 _ hlk) (S.2.2.2.2 _ u_167c) (S.2.2.2.2 _ u_168c) (S.2.2.2.2 _ u_169c) K hP hD hS q0 q1 0 0 ha0 ha1 rfl rfl rfl (nI_pos (by omega)) (nI_pos (by omega)) (nI_pos hn) (by rw [e0, en]; omega) (by rw [e0, en]; omega) (fun _ _ => rfl) hR.1 (by rw [ew]; omega) hdg (fun H1 locs1 h1 h2 h3 => ?_)
  rw [e0, en] at h1 h2
  exact kk _ H1 locs1 rfl h1 h2 h3 hf
end ZC
