/-! a static method of the JDK's own, by its code -/
theorem gstartiF {S : Type} {l : Launch} {y : MethodName} {ws ws' : List Cond} {rm : Room} {D : va_G} {tys : List (ClassId × FieldType)} {wf : S → va_W} {av : List Value} {σ : S} {mc ms : Nat} {f : Int32 × S} {rt : FieldType} (cc : ByteArray) (maxL : Nat) (own : String) (hy : plainFor y = true) (hw : ws = Cond.code y cc maxL (some rt) :: ws') (hown0 : y.cls = own) (hn : (lg_sl av).length ≤ maxL)
    (body : ∀ (p : Program) (e : Env) (s : State) (m : MethodId) (below : List Frame) (meth : Method) (c : Code) (A : Nat → Prop) (ls : Array Slot), p.tables.exec = Jvm.exec → c.code = cc → c.maxLocals = maxL → s.vm.findClass own = some m.cls → (∀ w ∈ ws, w.before av.toArray s = true) → meth.sig.returnType = some rt → meth.locks = false → va_K D vwCl tys s → va_P D vwCl (wf σ) s.heap → va_D A (wf σ) → (∀ q : Nat, s.heap.size ≤ q → A q) → va_S A s.heap s.heap [] → lv_has ls maxL (lv_args 0 av) →
      W p l e rm s m av.toArray below meth c s.heap [] 0 0 (MQ below (va_Qi (fun r u => (r, u) = f) (gPost D wf A) A) av.toArray s mc ms A) (F0 m 0 ls [])) : gMi l y ws rm D tys wf av σ f mc ms := by
  intro sz
  refine MetFree.of_bodySF (code := cc) (maxLocals := maxL) (ret := some rt) hy ?_ ?_
  · intro args s m h hn
    obtain ⟨meth, c, h1, h2, h3, h4, h5, h6, -, -⟩ := Cond.code_spec hn (atoms_spec (ws := ws) h _ (by rw [hw]; exact List.mem_cons_self))
    exact ⟨meth, c, h1, h2, h3, h4, h5, h6⟩
  · intro p e s m args below meth c s₁ B hml hv _
    have hh0 : s₁.heap = s.heap := by rw [B.state]; rfl
    obtain ⟨rfl, hsz, hP, hK, hD0⟩ := hv
    have hts := atoms_spec (ws := ws) B.pre
    have hown : s.vm.findClass own = some m.cls := by rw [← hown0]; exact findClass_of_methodNamed B.named
    subst hsz
    have hD := hD0.self (sz := s.heap.size)
    have hA : ∀ q : Nat, s.heap.size ≤ q → va_A (wf σ) s.heap.size q := fun q h => Or.inr h
    rw [lg_entry_eq]
    obtain ⟨t, a1, o, b1, b2, b3⟩ := body p e s m below meth c _ _ B.exec B.bytes hml hown hts B.returns B.notSynchronized hK hP hD hA va_S.rf (lv_entry av hn) s₁ hh0 (Stand.of_body B)
    exact ⟨t, o, a1, b1, b2, b3⟩
