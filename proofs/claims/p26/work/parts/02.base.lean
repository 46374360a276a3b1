/-! base: a state as numbered rows of ints; partial reads and writes; the words in one list; rows that follow a partial function -/
def z_up (σ : Nat → Nat → Int32) (f : Nat) (g : Nat → Int32) : Nat → Nat → Int32 := fun i => cond (Nat.beq i f) g (σ i)
def z_ag (f : Nat → Int32) (n : Nat) (i : Int32) : Option Int32 := if i < 0 ∨ n ≤ i.toNatClampNeg then none else some (f i.toNatClampNeg)
def z_sg (σ : Nat → Nat → Int32) (f n : Nat) (i x : Int32) : Option (Nat → Nat → Int32) := if i < 0 ∨ n ≤ i.toNatClampNeg then none else some (z_up σ f (upd (σ f) i.toNatClampNeg x))
def z_sf (σ : Nat → Nat → Int32) (f : Nat) (x : Int32) : Option (Nat → Nat → Int32) := some (z_up σ f (fun _ => x))
def z_rm (x y : Int32) : Option Int32 := if y = 0 then none else some (x - x / y * y)
def z_dv (x y : Int32) : Option Int32 := if y = 0 then none else some (x / y)
def z_bz (x : Int32) : Option Int32 := if x = 0 ∨ x = 1 then some x else none
def z_b2 {α β γ : Type} (o : Option (α × β)) (k : α → β → Option γ) : Option γ := o.bind fun q => k q.1 q.2
def z_fu : Nat := 2000
abbrev zSt : Type := Nat → Nat → Int32
/-- the words of all methods -/
abbrev WA : List Cond := wsL_law
theorem WA_good : WA.all goodWord = true := by decide +kernel
theorem z_in0 : ∀ w ∈ wsL_law0, w ∈ WA := fun _ h => List.mem_append_left _ (List.mem_append_left _ (List.mem_append_left _ h))
theorem z_good {big ws : List Cond} (hm : ∀ w ∈ ws, w ∈ big) (h : ∀ w ∈ ws, goodWord w = true) : GoodIn big ws := fun w hw => ⟨hm w hw, good_of_word (h w hw)⟩
theorem z_goodc {cd : Cond} (h : cd ∈ WA) : GoodIn WA (cd :: WA) :=
  have hm : ∀ w ∈ cd :: WA, w ∈ WA := fun w hw => (List.mem_cons.mp hw).elim (fun e => e ▸ h) (fun e => e)
  z_good hm (fun w hw => List.all_eq_true.mp WA_good w (hm w hw))
theorem z_goodV {own C : String} {idx : Nat} {y : MethodName} {cd : Cond} (h1 : Cond.methodLink own idx y ∈ WA) (h2 : Cond.instanceMethod y ∈ WA) (h3 : Cond.selects C y y ∈ WA) (h4 : Cond.initialized C ∈ WA) (h5 : cd ∈ WA) : GoodIn WA (wsV own idx C y (cd :: WA)) := by
  have hm : ∀ w ∈ wsV own idx C y (cd :: WA), w ∈ WA := by
    intro w hw
    simp only [wsV, List.cons_append, List.nil_append, List.mem_cons] at hw
    rcases hw with e | e | e | e | e | e
    · rw [e]; exact h1
    · rw [e]; exact h2
    · rw [e]; exact h3
    · rw [e]; exact h4
    · rw [e]; exact h5
    · exact e
  exact z_good hm (fun w hw => List.all_eq_true.mp WA_good w (hm w hw))
theorem z_goodS {own : String} {idx : Nat} {y : MethodName} {cd : Cond} (h1 : Cond.methodLink own idx y ∈ WA) (h2 : Cond.static y ∈ WA) (h4 : Cond.initialized y.cls ∈ WA) (h5 : cd ∈ WA) : GoodIn WA (va_wsS own idx y (cd :: WA)) := by
  have hm : ∀ w ∈ va_wsS own idx y (cd :: WA), w ∈ WA := by
    intro w hw
    simp only [va_wsS, List.cons_append, List.nil_append, List.mem_cons] at hw
    rcases hw with e | e | e | e | e
    · rw [e]; exact h1
    · rw [e]; exact h2
    · rw [e]; exact h4
    · rw [e]; exact h5
    · exact e
  exact z_good hm (fun w hw => List.all_eq_true.mp WA_good w (hm w hw))
section ZR
variable {p : Program} {l : Launch} {e : Env} {R : Room} {s : State} {m : MethodId} {args : Array Value} {below : List Frame} {meth : Method} {c : Code} {H : Heap} {locs : List Loc} {cells slots : Nat} {Q : State → Prop}
variable {cc : ByteArray} {nL pc : Nat} {own : String} {ls : Array Slot} {rest : List Value} {γ : Type} {res : γ} {D : va_G} {tys : List (ClassId × FieldType)} {A : Nat → Prop} {w : va_W} {H0 : Heap} {Ts : List Cond}
theorem z_ald (S : CallFix p m c cc nL s args Ts own) (K : va_K D vwCl tys s) (hP : va_P D vwCl w H) (q0 t0 : Nat) {a : Nat} {cA : ClassId} {n : Nat} {f : Nat → Int32} (ha : w[q0]? = some (a, .inl (cA, n, .inl f))) (ht : tys[t0]? = some (cA, .int)) {i : Int32} {k : Int32 → Option γ} (hf : (z_ag f n i).bind k = some res) (hdg : decode cc pc = .ok (.iaload, 1))
    (kk : ∀ x : Int32, k x = some res → W p l e R s m args below meth c H locs cells slots Q (F0 m (pc + 1) ls (.int x :: rest))) : W p l e R s m args below meth c H locs cells slots Q (F0 m pc ls (.int i :: .ref a :: rest)) := by
  unfold z_ag at hf
  split at hf
  · simp at hf
  · rename_i hn
    exact va_iald S.1 S.2.1 K hP q0 t0 ha ht hn hdg (kk _ hf)
theorem z_ast (S : CallFix p m c cc nL s args Ts own) (K : va_K D vwCl tys s) (hP : va_P D vwCl w H) (hD : va_D A w) (hS : va_S A H0 H locs) (q0 t0 : Nat) {a : Nat} {cA : ClassId} {n : Nat} {σ : zSt} {j : Nat} (ha : w[q0]? = some (a, .inl (cA, n, .inl (σ j)))) (ht : tys[t0]? = some (cA, .int)) {i x : Int32} {k : zSt → Option γ} (hf : (z_sg σ j n i x).bind k = some res) (hdg : decode cc pc = .ok (.iastore, 1))
    (kk : ∀ (σ' : zSt) (H1 : Heap) (locs1 : List Loc), σ' = z_up σ j (upd (σ j) i.toNatClampNeg x) → va_P D vwCl (w.set q0 (a, .inl (cA, n, .inl (upd (σ j) i.toNatClampNeg x)))) H1 → va_D A (w.set q0 (a, .inl (cA, n, .inl (upd (σ j) i.toNatClampNeg x)))) → va_S A H0 H1 locs1 → k σ' = some res → W p l e R s m args below meth c H1 locs1 cells slots Q (F0 m (pc + 1) ls rest)) : W p l e R s m args below meth c H locs cells slots Q (F0 m pc ls (.int x :: .int i :: .ref a :: rest)) := by
  unfold z_sg at hf
  split at hf
  · simp at hf
  · rename_i hn
    exact va_iast S.1 S.2.1 K hP hD hS q0 t0 ha ht hn hdg (fun H1 locs1 h1 h2 h3 => kk _ H1 locs1 rfl h1 h2 h3 hf)
theorem z_irem (S : CallFix p m c cc nL s args Ts own) {x y : Int32} {k : Int32 → Option γ} (hf : (z_rm x y).bind k = some res) (hdg : decode cc pc = .ok (.irem, 1))
    (kk : ∀ z : Int32, k z = some res → W p l e R s m args below meth c H locs cells slots Q (F0 m (pc + 1) ls (.int z :: rest))) : W p l e R s m args below meth c H locs cells slots Q (F0 m pc ls (.int y :: .int x :: rest)) := by
  unfold z_rm at hf
  split at hf
  · simp at hf
  · rename_i hn
    exact lv_irem S.1 S.2.1 hdg hn (kk _ hf)
theorem z_idiv (S : CallFix p m c cc nL s args Ts own) {x y : Int32} {k : Int32 → Option γ} (hf : (z_dv x y).bind k = some res) (hdg : decode cc pc = .ok (.idiv, 1))
    (kk : ∀ z : Int32, k z = some res → W p l e R s m args below meth c H locs cells slots Q (F0 m (pc + 1) ls (.int z :: rest))) : W p l e R s m args below meth c H locs cells slots Q (F0 m pc ls (.int y :: .int x :: rest)) := by
  unfold z_dv at hf
  split at hf
  · simp at hf
  · rename_i hn
    exact lv_idiv S.1 S.2.1 hdg hn (kk _ hf)
theorem z_br {c A B : Prop} {o1 o2 : Option γ} [Decidable c] (hf : (if c then o1 else o2) = some res) (kt : o1 = some res → A) (kf : o2 = some res → B) : (c → A) ∧ (¬ c → B) :=
  ⟨fun h => kt (by rw [if_pos h] at hf; exact hf), fun h => kf (by rw [if_neg h] at hf; exact hf)⟩
theorem z_case {A : Prop} {x : Int32} {v : Nat} {o1 o2 : Option γ} (hf : (if x = nI v then o1 else o2) = some res) (kt : x = nI v → o1 = some res → A) (kf : ¬ x = nI v → o2 = some res → A) : A := by
  by_cases h : x = nI v
  · rw [if_pos h] at hf
    exact kt h hf
  · rw [if_neg h] at hf
    exact kf h hf
theorem z_ne {x : Int32} {k : Nat} (h : ¬ x = nI k) (hk : k < 2 ^ 31) : x.toInt ≠ (k : Int) := fun e => h (Int32.toInt_inj.mp (e.trans (nI_toInt hk).symm))
theorem z_if_eq (S : CallFix p m c cc nL s args Ts own) {x : Int32} {off : Int} {tgt : Nat} {A B : Option γ} (hf : (if x = 0 then A else B) = some res) (hdg : decode cc pc = .ok (.ifCond .eq off, 3)) (ht : (pc : Int) + off = (tgt : Int))
    (kt : A = some res → W p l e R s m args below meth c H locs cells slots Q (F0 m tgt ls rest)) (kf : B = some res → W p l e R s m args below meth c H locs cells slots Q (F0 m (pc + 3) ls rest)) : W p l e R s m args below meth c H locs cells slots Q (F0 m pc ls (.int x :: rest)) := lv_if_eq S.1 S.2.1 hdg ht (z_br hf kt kf).1 (z_br hf kt kf).2
theorem z_icmp_eq (S : CallFix p m c cc nL s args Ts own) {x y : Int32} {off : Int} {tgt : Nat} {A B : Option γ} (hf : (if x = y then A else B) = some res) (hdg : decode cc pc = .ok (.if_icmp .eq off, 3)) (ht : (pc : Int) + off = (tgt : Int))
    (kt : A = some res → W p l e R s m args below meth c H locs cells slots Q (F0 m tgt ls rest)) (kf : B = some res → W p l e R s m args below meth c H locs cells slots Q (F0 m (pc + 3) ls rest)) : W p l e R s m args below meth c H locs cells slots Q (F0 m pc ls (.int y :: .int x :: rest)) := lv_icmp_eq S.1 S.2.1 hdg ht (z_br hf kt kf).1 (z_br hf kt kf).2
theorem z_if_ne (S : CallFix p m c cc nL s args Ts own) {x : Int32} {off : Int} {tgt : Nat} {A B : Option γ} (hf : (if x = 0 then A else B) = some res) (hdg : decode cc pc = .ok (.ifCond .ne off, 3)) (ht : (pc : Int) + off = (tgt : Int))
    (kt : B = some res → W p l e R s m args below meth c H locs cells slots Q (F0 m tgt ls rest)) (kf : A = some res → W p l e R s m args below meth c H locs cells slots Q (F0 m (pc + 3) ls rest)) : W p l e R s m args below meth c H locs cells slots Q (F0 m pc ls (.int x :: rest)) := lv_if_ne S.1 S.2.1 hdg ht (z_br hf kf kt).2 (z_br hf kf kt).1
theorem z_icmp_ne (S : CallFix p m c cc nL s args Ts own) {x y : Int32} {off : Int} {tgt : Nat} {A B : Option γ} (hf : (if x = y then A else B) = some res) (hdg : decode cc pc = .ok (.if_icmp .ne off, 3)) (ht : (pc : Int) + off = (tgt : Int))
    (kt : B = some res → W p l e R s m args below meth c H locs cells slots Q (F0 m tgt ls rest)) (kf : A = some res → W p l e R s m args below meth c H locs cells slots Q (F0 m (pc + 3) ls rest)) : W p l e R s m args below meth c H locs cells slots Q (F0 m pc ls (.int y :: .int x :: rest)) := lv_icmp_ne S.1 S.2.1 hdg ht (z_br hf kf kt).2 (z_br hf kf kt).1
theorem z_if_lt (S : CallFix p m c cc nL s args Ts own) {x : Int32} {off : Int} {tgt : Nat} {A B : Option γ} (hf : (if x < 0 then A else B) = some res) (hdg : decode cc pc = .ok (.ifCond .lt off, 3)) (ht : (pc : Int) + off = (tgt : Int))
    (kt : A = some res → W p l e R s m args below meth c H locs cells slots Q (F0 m tgt ls rest)) (kf : B = some res → W p l e R s m args below meth c H locs cells slots Q (F0 m (pc + 3) ls rest)) : W p l e R s m args below meth c H locs cells slots Q (F0 m pc ls (.int x :: rest)) := lv_if_lt S.1 S.2.1 hdg ht (z_br hf kt kf).1 (z_br hf kt kf).2
theorem z_icmp_lt (S : CallFix p m c cc nL s args Ts own) {x y : Int32} {off : Int} {tgt : Nat} {A B : Option γ} (hf : (if x < y then A else B) = some res) (hdg : decode cc pc = .ok (.if_icmp .lt off, 3)) (ht : (pc : Int) + off = (tgt : Int))
    (kt : A = some res → W p l e R s m args below meth c H locs cells slots Q (F0 m tgt ls rest)) (kf : B = some res → W p l e R s m args below meth c H locs cells slots Q (F0 m (pc + 3) ls rest)) : W p l e R s m args below meth c H locs cells slots Q (F0 m pc ls (.int y :: .int x :: rest)) := lv_icmp_lt S.1 S.2.1 hdg ht (z_br hf kt kf).1 (z_br hf kt kf).2
theorem z_if_ge (S : CallFix p m c cc nL s args Ts own) {x : Int32} {off : Int} {tgt : Nat} {A B : Option γ} (hf : (if 0 ≤ x then A else B) = some res) (hdg : decode cc pc = .ok (.ifCond .ge off, 3)) (ht : (pc : Int) + off = (tgt : Int))
    (kt : A = some res → W p l e R s m args below meth c H locs cells slots Q (F0 m tgt ls rest)) (kf : B = some res → W p l e R s m args below meth c H locs cells slots Q (F0 m (pc + 3) ls rest)) : W p l e R s m args below meth c H locs cells slots Q (F0 m pc ls (.int x :: rest)) := lv_if_ge S.1 S.2.1 hdg ht (z_br hf kt kf).1 (z_br hf kt kf).2
theorem z_icmp_ge (S : CallFix p m c cc nL s args Ts own) {x y : Int32} {off : Int} {tgt : Nat} {A B : Option γ} (hf : (if y ≤ x then A else B) = some res) (hdg : decode cc pc = .ok (.if_icmp .ge off, 3)) (ht : (pc : Int) + off = (tgt : Int))
    (kt : A = some res → W p l e R s m args below meth c H locs cells slots Q (F0 m tgt ls rest)) (kf : B = some res → W p l e R s m args below meth c H locs cells slots Q (F0 m (pc + 3) ls rest)) : W p l e R s m args below meth c H locs cells slots Q (F0 m pc ls (.int y :: .int x :: rest)) := lv_icmp_ge S.1 S.2.1 hdg ht (z_br hf kt kf).1 (z_br hf kt kf).2
theorem z_if_gt (S : CallFix p m c cc nL s args Ts own) {x : Int32} {off : Int} {tgt : Nat} {A B : Option γ} (hf : (if 0 < x then A else B) = some res) (hdg : decode cc pc = .ok (.ifCond .gt off, 3)) (ht : (pc : Int) + off = (tgt : Int))
    (kt : A = some res → W p l e R s m args below meth c H locs cells slots Q (F0 m tgt ls rest)) (kf : B = some res → W p l e R s m args below meth c H locs cells slots Q (F0 m (pc + 3) ls rest)) : W p l e R s m args below meth c H locs cells slots Q (F0 m pc ls (.int x :: rest)) := lv_if_gt S.1 S.2.1 hdg ht (z_br hf kt kf).1 (z_br hf kt kf).2
theorem z_icmp_gt (S : CallFix p m c cc nL s args Ts own) {x y : Int32} {off : Int} {tgt : Nat} {A B : Option γ} (hf : (if y < x then A else B) = some res) (hdg : decode cc pc = .ok (.if_icmp .gt off, 3)) (ht : (pc : Int) + off = (tgt : Int))
    (kt : A = some res → W p l e R s m args below meth c H locs cells slots Q (F0 m tgt ls rest)) (kf : B = some res → W p l e R s m args below meth c H locs cells slots Q (F0 m (pc + 3) ls rest)) : W p l e R s m args below meth c H locs cells slots Q (F0 m pc ls (.int y :: .int x :: rest)) := lv_icmp_gt S.1 S.2.1 hdg ht (z_br hf kt kf).1 (z_br hf kt kf).2
theorem z_if_le (S : CallFix p m c cc nL s args Ts own) {x : Int32} {off : Int} {tgt : Nat} {A B : Option γ} (hf : (if x ≤ 0 then A else B) = some res) (hdg : decode cc pc = .ok (.ifCond .le off, 3)) (ht : (pc : Int) + off = (tgt : Int))
    (kt : A = some res → W p l e R s m args below meth c H locs cells slots Q (F0 m tgt ls rest)) (kf : B = some res → W p l e R s m args below meth c H locs cells slots Q (F0 m (pc + 3) ls rest)) : W p l e R s m args below meth c H locs cells slots Q (F0 m pc ls (.int x :: rest)) := lv_if_le S.1 S.2.1 hdg ht (z_br hf kt kf).1 (z_br hf kt kf).2
theorem z_icmp_le (S : CallFix p m c cc nL s args Ts own) {x y : Int32} {off : Int} {tgt : Nat} {A B : Option γ} (hf : (if x ≤ y then A else B) = some res) (hdg : decode cc pc = .ok (.if_icmp .le off, 3)) (ht : (pc : Int) + off = (tgt : Int))
    (kt : A = some res → W p l e R s m args below meth c H locs cells slots Q (F0 m tgt ls rest)) (kf : B = some res → W p l e R s m args below meth c H locs cells slots Q (F0 m (pc + 3) ls rest)) : W p l e R s m args below meth c H locs cells slots Q (F0 m pc ls (.int y :: .int x :: rest)) := lv_icmp_le S.1 S.2.1 hdg ht (z_br hf kt kf).1 (z_br hf kt kf).2
end ZR
