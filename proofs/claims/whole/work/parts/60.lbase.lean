/-! the law: its world, its wrappers' and calls' rows (by wip/tools/law.py) -/
theorem l_ofWH {l : Launch} {y : MethodName} {ws ws' : List Cond} {rm : Room} {Pc : Array Value → State → Prop} {Qc : Array Value → State → Outcome → State → Prop} {mc ms : Nat} {free : Addr → Prop} {cc : ByteArray} {maxL : Nat} {ret : Option FieldType} {hh : List (Nat × Nat × Nat × Nat)}
    (hy : plainName y.cls = true) (hw : ws = Cond.codeWith y cc maxL ret hh :: ws')
    (body : ∀ p e s m args below meth c s₁, BodyLoose p l y (headSpec ws rm) cc maxL ret e s m args below meth c s₁ → c.maxLocals = maxL → Pc args s →
      W p l e (headSpec ws rm).room s m args below meth c s.heap [] 0 0 (MQ below Qc args s mc ms free) (entryFrame m args maxL)) : Met l y ws rm Pc Qc mc ms free := by
  refine MetFree.of_bodyS (code := cc) (maxLocals := maxL) (ret := ret) hy ?_ ?_
  · intro args s m h hn
    obtain ⟨m9, meth, c, hn9, h1, h2, h3, h4, -, h5, h6, -⟩ := Cond.codeWith_spec (atoms_spec (ws := ws) h _ (by rw [hw]; exact List.mem_cons_self))
    cases hn.symm.trans hn9
    exact ⟨meth, c, h1, h2, h3, h4, h5, h6⟩
  · intro p e s m args below meth c s₁ B hml hP _
    have hh0 : s₁.heap = s.heap := by rw [B.state]; rfl
    obtain ⟨t, a1, o, b1, b2, b3⟩ := body p e s m args below meth c s₁ B hml hP s₁ hh0 (Stand.of_body B)
    exact ⟨t, o, a1, b1, b2, b3⟩
def rmL : Room := { frames := 10, cells := 8, slots := 48, locals := 300 }
def lAw (A : Nat → Prop) (ao : Nat) : Nat → Prop := fun q => A q ∨ q = ao
/-- the object's world and the row that answers are written to -/
def wL (cI cB cM cL : ClassId) (ad6 : Nat → Nat) (a G : Nat → Nat → Nat) (ao : Nat) (χ : cSt) (f : Nat → Int64) : va_W := wQ cI cB cM ad6 a G χ ++ [(ao, .inl (cL, 1, .inr (.inl f)))]
def lB (D : va_G) (cI cB cM cL : ClassId) (ad6 : Nat → Nat) (a : Nat → Nat → Nat) (A : Nat → Prop) (ao : Nat) (χ : cSt) (f : Nat → Int64) (U : State) : Prop := ∃ G : Nat → Nat → Nat, va_P D vwCl (wL cI cB cM cL ad6 a G ao χ f) U.heap ∧ qD A a G ∧ va_K D vwCl (tysQ cI cB cM ++ [(cL, .long)]) U
def lY (U : State) : Prop := (∀ k, va_Nw (.castable (c_ex k) (c_ex k)) U) ∧ ∀ j k, c_ex j ≠ c_ex k → va_Nc (c_ex j) (c_ex k) U
theorem lY.warm {s U : State} (hW : s.WarmedH U.vm) (h : lY s) : lY U := ⟨fun k => va_Nw.warmC hW (h.1 k), fun j k hn => va_Nc.moved hW.alike (h.2 j k hn)⟩
theorem lY.same {u U : State} (hv : U.vm = u.vm) (h : lY u) : lY U := ⟨fun k => va_Nw.same rfl hv.symm (h.1 k), fun j k hn => va_Nc.moved (by rw [hv]; exact Vm.Alike.refl u.vm) (h.2 j k hn)⟩
theorem lw_at {cI cB cM cL : ClassId} {ad6 : Nat → Nat} {a G : Nat → Nat → Nat} {ao : Nat} {χ : cSt} {f : Nat → Int64} : (wL cI cB cM cL ad6 a G ao χ f)[104]? = some (ao, .inl (cL, 1, .inr (.inl f))) := rfl
theorem lw_set {cI cB cM cL : ClassId} {ad6 : Nat → Nat} {a G : Nat → Nat → Nat} {ao : Nat} {χ : cSt} {f g : Nat → Int64} : (wL cI cB cM cL ad6 a G ao χ f).set 104 (ao, .inl (cL, 1, .inr (.inl g))) = wL cI cB cM cL ad6 a G ao χ g := rfl
theorem lw_D {A : Nat → Prop} {cI cB cM cL : ClassId} {ad6 : Nat → Nat} {a G : Nat → Nat → Nat} {ao : Nat} {χ : cSt} {f : Nat → Int64} (h : qD A a G) (hao : ¬ A ao) : va_D (lAw A ao) (wL cI cB cM cL ad6 a G ao χ f) := by
  refine va_D.app ((qD_va h cI cB cM ad6 χ).weaken fun _ _ _ z => Or.inl z) ⟨fun i j p q hi hj _ => ?_, fun k q hk => ?_⟩ (fun i j p q hi hj e => ?_)
  · have h1 := (List.getElem?_eq_some_iff.mp hi).1
    have h2 := (List.getElem?_eq_some_iff.mp hj).1
    simp at h1 h2
    omega
  · have h1 := List.mem_of_getElem? hk
    rw [List.mem_singleton] at h1
    rw [h1]
    exact Or.inr rfl
  · have h1 := List.mem_of_getElem? hj
    rw [List.mem_singleton] at h1
    rw [h1] at e
    exact hao (by rw [← show p.1 = ao from e]; exact (qD_va h cI cB cM ad6 χ).2 i p hi)
theorem lw_P {D : va_G} {cI cB cM cL : ClassId} {ad6 : Nat → Nat} {a G : Nat → Nat → Nat} {ao : Nat} {χ : cSt} {f : Nat → Int64} {H : Heap} : va_P D vwCl (wL cI cB cM cL ad6 a G ao χ f) H ↔ va_P D vwCl (wQ cI cB cM ad6 a G χ) H ∧ va_P D vwCl [(ao, .inl (cL, 1, .inr (.inl f)))] H := z_app
theorem l_out {D : va_G} {cL : ClassId} {ao : Nat} {f : Nat → Int64} {H H1 : Heap} {B : Nat → Prop} (h : va_P D vwCl [(ao, .inl (cL, 1, .inr (.inl f)))] H) (hk : ∀ q : Nat, q < H.size → ¬ B q → H1[q]? = H[q]?) (hao : ¬ B ao) : va_P D vwCl [(ao, .inl (cL, 1, .inr (.inl f)))] H1 := z_keepP h hk fun k q hq => by
  have h1 := List.mem_of_getElem? hq
  rw [List.mem_singleton] at h1
  rw [h1]
  exact hao
theorem l_upd (f : Nat → Int64) (x : Int64) : vp_updL f (nI 0).toNatClampNeg x 0 = x := by
  rw [show (nI 0).toNatClampNeg = 0 by decide]
  simp [vp_updL]
def wk (c0 c1 c2 : Int32) : Nat → Int32
  | 0 => c0
  | 1 => c1
  | _ => c2
def lOut (wc : Nat → Int32) (χ : cSt) (res : cRes) (r : Int32) (u : cSt × (Nat → Int64)) : Prop := match res with
  | .inl k => r = wc k ∧ u.1 = χ
  | .inr (v, χ') => r = 0 ∧ u.1 = χ' ∧ u.2 0 = v.toInt64
def lPc (D : va_G) (cI cB cM cL : ClassId) (ad6 : Nat → Nat) (a : Nat → Nat → Nat) (A : Nat → Prop) (ao : Nat) (χ : cSt) (f : Nat → Int64) (av : List Value) : Array Value → State → Prop := va_Pc av (fun U => lB D cI cB cM cL ad6 a A ao χ f U ∧ qF ad6 A U U.heap ∧ lY U)
theorem lPc_blind (D : va_G) (cI cB cM cL : ClassId) (ad6 : Nat → Nat) (a : Nat → Nat → Nat) (A : Nat → Prop) (ao : Nat) (χ : cSt) (f : Nat → Int64) (av : List Value) : FrameBlind (lPc D cI cB cM cL ad6 a A ao χ f av) := fun b U g mk q => by
  obtain ⟨q0, ⟨G, qP, qd, qK⟩, qE, qY⟩ := q
  exact ⟨q0, ⟨G, qP, qd, va_K.moved (u := U) (U := U.calling g mk b) (Vm.Alike.refl U.vm) qK⟩, qF.same (u := U) (U := U.calling g mk b) rfl qE, lY.same (u := U) (U := U.calling g mk b) rfl qY⟩
def lQ (D : va_G) (cI cB cM cL : ClassId) (ad6 : Nat → Nat) (a : Nat → Nat → Nat) (A : Nat → Prop) (ao : Nat) (wc : Nat → Int32) (χ : cSt) (res : cRes) : Array Value → State → Outcome → State → Prop := va_Qi (fun (r : Int32) (u : cSt × (Nat → Int64)) => lOut wc χ res r u) (fun u t => lB D cI cB cM cL ad6 a A ao u.1 u.2 t) (lAw A ao)
theorem z_goodSW {own : String} {idx : Nat} {y : MethodName} {cd : Cond} (h1 : Cond.methodLink own idx y ∈ WA) (h2 : Cond.static y ∈ WA) (h4 : Cond.initialized y.cls ∈ WA) (h5 : cd ∈ WA) : GoodIn WA (va_wsS own idx y (cd :: WA)) := z_goodS h1 h2 h4 h5

