/-! byte arrays -/
section ZB
variable {p : Program} {l : Launch} {e : Env} {R : Room} {s : State} {m : MethodId} {args : Array Value} {below : List Frame} {meth : Method} {c : Code} {H : Heap} {locs : List Loc} {cells slots : Nat} {Q : State → Prop}
variable {cc : ByteArray} {nL pc : Nat} {own : String} {ls : Array Slot} {rest : List Value} {γ : Type} {res : γ} {D : va_G} {tys : List (ClassId × FieldType)} {A : Nat → Prop} {w : va_W} {H0 : Heap} {Ts : List Cond}
theorem z_bald (S : CallFix p m c cc nL s args Ts own) (K : va_K D vwCl tys s) (hP : va_P D vwCl w H) (q0 t0 : Nat) {a : Nat} {cA : ClassId} {n : Nat} {f : Nat → Int32} (ha : w[q0]? = some (a, .inl (cA, n, .inl f))) (ht : tys[t0]? = some (cA, .byte)) {i : Int32} {k : Int32 → Option γ} (hf : (z_ag f n i).bind k = some res) (hdg : decode cc pc = .ok (.baload, 1))
    (kk : ∀ x : Int32, k x = some res → W p l e R s m args below meth c H locs cells slots Q (F0 m (pc + 1) ls (.int x :: rest))) : W p l e R s m args below meth c H locs cells slots Q (F0 m pc ls (.int i :: .ref a :: rest)) := by
  unfold z_ag at hf
  split at hf
  · simp at hf
  · rename_i hn
    exact va_bald S.1 S.2.1 K hP q0 t0 ha ht hn hdg (kk _ hf)
end ZB
