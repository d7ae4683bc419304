/-! the law's own calls of the class: what it throws is caught -/
abbrev LW (cy : Nat → ClassId) (ax ad ad2 : Nat → Nat) (ao : Nat) (u : (Sg × Sg) × (Nat → Int64)) : va_W := CW cy ax ad ad2 u.1 ++ [(ao, .inl (cy 4, 1, .inr (.inl u.2)))]
theorem CW_len (cy : Nat → ClassId) (ax ad ad2 : Nat → Nat) (u : Sg × Sg) : (CW cy ax ad ad2 u).length = 127 := by
  simp only [CW, xoC, List.length_append, WD_len, List.length_cons, List.length_nil]
theorem LW_get {cy : Nat → ClassId} {ax ad ad2 : Nat → Nat} {ao : Nat} {u : (Sg × Sg) × (Nat → Int64)} : (LW cy ax ad ad2 ao u)[127]? = some (ao, .inl (cy 4, 1, .inr (.inl u.2))) :=
  gx_r (p := 0) (CW_len cy ax ad ad2 u.1) rfl
theorem LW_set {cy : Nat → ClassId} {ax ad ad2 : Nat → Nat} {ao : Nat} {u : Sg × Sg} {f g : Nat → Int64} : (LW cy ax ad ad2 ao (u, f)).set 127 (ao, .inl (cy 4, 1, .inr (.inl g))) = LW cy ax ad ad2 ao (u, g) :=
  gx_setr (p := 0) (CW_len cy ax ad ad2 u) rfl
theorem LW_xo {cy : Nat → ClassId} {ax ad ad2 : Nat → Nat} {ao : Nat} {u : (Sg × Sg) × (Nat → Int64)} : (LW cy ax ad ad2 ao u)[0]? = some (ax 0, .inr (4, [.ref (ad 0), .ref (ad2 0)])) := rfl
def codeOf : List String → Nat → String → Int32
  | [], k, _ => nI k
  | h :: t, k, E => if E = h then nI k else codeOf t (k + 1) E
def wrapR (cv : Int32 → Int64) (hs : List String) (f : String ⊕ (Int32 × (Sg × Sg))) (u : (Sg × Sg) × (Nat → Int64)) : Int32 × ((Sg × Sg) × (Nat → Int64)) := match f with
  | .inr (r, v) => (nI 0, (v, vp_updL u.2 0 (cv r)))
  | .inl E => (codeOf hs 1 E, u)
def gNc (U : State) : Prop := ∀ E ∈ exs, ∀ F ∈ exs, E ≠ F → va_Nc E F U
theorem gNc.moved {u U : State} (hvm : u.vm.Alike U.vm) (h : gNc u) : gNc U := fun E hE F hF hn => va_Nc.moved hvm (h E hE F hF hn)
def gPreL {S : Type} (D : va_G) (tys : List (ClassId × FieldType)) (wf : S → va_W) (σ : S) (sz : Nat) : State → Prop := fun U => gPreX D tys wf σ sz U ∧ gNc U
theorem gPreL_blind {S : Type} {D : va_G} {tys : List (ClassId × FieldType)} {wf : S → va_W} {σ : S} {sz : Nat} {av : List Value} : FrameBlind (va_Pc av (gPreL D tys wf σ sz)) := by
  intro a U g mk h
  obtain ⟨h0, ⟨⟨h1, h2, h3, h4⟩, h5, h6⟩, h7⟩ := h
  exact ⟨h0, ⟨⟨h1, h2, va_K.moved (u := U) (U := U.calling g mk a) (Vm.Alike.refl U.vm) h3, h4⟩, gSt.moved (u := U) (U := U.calling g mk a) (Vm.Alike.refl U.vm) h5, gTx.same (u := U) (U := U.calling g mk a) rfl h6⟩, gNc.moved (u := U) (U := U.calling g mk a) (Vm.Alike.refl U.vm) h7⟩
def gL {S : Type} (l : Launch) (y : MethodName) (ws : List Cond) (rm : Room) (D : va_G) (tys : List (ClassId × FieldType)) (wf : S → va_W) (av : List Value) (σ : S) (f : Int32 × S) (mc ms : Nat) : Prop :=
  l.stackTraces = false → ∀ sz : Nat, Met l y ws rm (va_Pc av (gPreL D tys wf σ sz)) (va_Qi (fun r u => (r, u) = f) (gPost D wf (va_A (wf σ) sz)) (va_A (wf σ) sz)) mc ms (va_A (wf σ) sz)
theorem gstartL {S : Type} {l : Launch} {y : MethodName} {ws ws' : List Cond} {rm : Room} {D : va_G} {tys : List (ClassId × FieldType)} {wf : S → va_W} {av : List Value} {σ : S} {mc ms : Nat} {f : Int32 × S} {rt : FieldType} (cc : ByteArray) (maxL : Nat) (hh : List (Nat × Nat × Nat × Nat)) (own : String) (hy : plainName y.cls = true) (hw : ws = Cond.codeWith y cc maxL (some rt) hh :: ws') (hown0 : y.cls = own) (hn : (lg_sl av).length ≤ maxL)
    (body : ∀ (p : Program) (e : Env) (s : State) (m : MethodId) (below : List Frame) (meth : Method) (c : Code) (A : Nat → Prop) (ls : Array Slot), p.tables.exec = Jvm.exec → c.code = cc → c.maxLocals = maxL → s.vm.findClass own = some m.cls → (∀ w ∈ ws, w.before av.toArray s = true) → meth.sig.returnType = some rt → meth.locks = false → va_K D vwCl tys s → va_P D vwCl (wf σ) s.heap → va_D A (wf σ) → (∀ q : Nat, s.heap.size ≤ q → A q) → va_S A s.heap s.heap [] → lv_has ls maxL (lv_args 0 av) → l.stackTraces = false → c.exceptionTable.toList = tableOf hh → gSt A s s.heap → gTx s → gNc s →
      W p l e rm s m av.toArray below meth c s.heap [] 0 0 (MQ below (va_Qi (fun r u => (r, u) = f) (gPost D wf A) A) av.toArray s mc ms A) (F0 m 0 ls [])) : gL l y ws rm D tys wf av σ f mc ms := by
  intro hl sz
  refine va_MetW (cc := cc) (maxL := maxL) (ret := some rt) (hh := hh) hy hw ?_
  intro p e s m args below meth c s₁ B hml hv
  obtain ⟨rfl, ⟨⟨hsz, hP, hK, hD0⟩, hst, htx⟩, hnc⟩ := hv
  have hts := atoms_spec (ws := ws) B.pre
  have hown : s.vm.findClass own = some m.cls := by rw [← hown0]; exact findClass_of_methodNamed B.named
  have hT := vx_table (x := y) B (hts _ (by rw [hw]; exact List.mem_cons_self))
  subst hsz
  have hD := hD0.self (sz := s.heap.size)
  have hA : ∀ q : Nat, s.heap.size ≤ q → va_A (wf σ) s.heap.size q := fun q h => Or.inr h
  rw [lg_entry_eq]
  exact body p e s m below meth c _ _ B.exec B.bytes hml hown hts B.returns B.notSynchronized hK hP hD hA va_S.rf (lv_entry av hn) hl hT hst htx hnc
section GRC
variable {p : Program} {l : Launch} {e : Env} {R : Room} {s : State} {m : MethodId} {args : Array Value} {below : List Frame} {meth : Method} {c : Code} {H : Heap} {locs : List Loc} {cells slots : Nat} {Q : State → Prop}
variable {pc : Nat} {ls : Array Slot} {rest st0 : List Value} {A : Nat → Prop} {cc : ByteArray} {D : va_G} {tys : List (ClassId × FieldType)} {a : Nat}
/-- a call that answers an int, or throws: both are gone on with -/
theorem g_callxc {S Sc : Type} {wf : S → va_W} {σ : S} {wfc : Sc → va_W} {σc : Sc} {fc : String ⊕ (Int32 × Sc)} {y : MethodName} {bytes : ByteArray} {maxL nL mc ms n index cells2 slots2 : Nat} {rt : FieldType} {wc : List Cond} {rm : Room} {Ts : List Cond} {own C : String} {ci q0 : Nat} {fs : List Value} {cl0 : vw_C}
    (hl : l.stackTraces = false) (hst : gSt A s s.heap) (htx : gTx s)
    (hx : p.tables.exec = Jvm.exec) (hb : c.code = cc) (hml : c.maxLocals = nL) (hown : s.vm.findClass own = some m.cls) (hts : ∀ w ∈ Ts, w.before args s = true) (hK : va_K D vwCl tys s) (hP : va_P D vwCl (wf σ) H) (hD : va_D A (wf σ)) (hS : va_S A s.heap H locs) (hA : ∀ q : Nat, s.heap.size ≤ q → A q) (hsz : ls.size = nL)
    (wr : va_W) (hp1 : (wf σ).Perm (wfc σc ++ wr)) (back : Sc → S) (hp2 : ∀ u, (wfc u ++ wr).Perm (wf (back u)))
    (As : List Value) (hM : gMx l y wc rm D tys wfc (.ref a :: As) σc fc mc ms) (cw : CallW R s args own C index y bytes maxL (some rt) wc rm mc ms n) (he : (wf σ)[q0]? = some (a, .inr (ci, fs))) (hc : vwCl[ci]? = some cl0) (hC : cl0.1 = C) (hn : As.length = n) (hstk : st0 = As.reverse ++ .ref a :: rest) (hW : (rest.map fun v => v.category).sum ≤ 8) (hdg : decode cc pc = .ok (.invokevirtual index, 3)) (hroom : cells + mc ≤ R.cells ∧ slots + ms ≤ R.slots) (hc2 : cells + mc = cells2) (hs2 : slots + ms = slots2)
    (kx : ∀ (E : String) (ce : Cell) (q9 : Addr), fc = .inl E → ∀ (H1 : Heap) (locs1 : List Loc), va_P D vwCl (wf σ) H1 → va_D A (wf σ) → va_S A s.heap H1 locs1 → H1[q9]? = some ce → ce.vm = .none → s.vm.findClass E = some ce.cls → vx_W p l e R s m args below meth c H1 locs1 cells2 slots2 Q (F0 m pc ls rest) q9)
    (kk : ∀ (r : Int32) (u : Sc), fc = .inr (r, u) → ∀ (H1 : Heap) (locs1 : List Loc), va_P D vwCl (wf (back u)) H1 → va_D A (wf (back u)) → va_S A s.heap H1 locs1 → W p l e R s m args below meth c H1 locs1 cells2 slots2 Q (F0 m (pc + 3) ls (.int r :: rest))) : W p l e R s m args below meth c H locs cells slots Q (F0 m pc ls st0) := by
  subst hc2; subst hs2; subst hstk
  have hP1 := va_P_perm hp1 hP
  have hD1 := va_D_perm hp1 hD
  have hF := g_free hD1 hS hA
  have hst1 : gSt (va_A (wfc σc) H.size) s H := (hst.kept (fun q h1 h2 => hS.2.1 q h1 h2)).narrow hF
  refine vx_calli (vx_runV (As := As) (rest := rest) ⟨hx, hb, hml, hown, hts⟩ (hM hl H.size) cw ⟨gPreX_blind, ?_, fun U hU hW => ⟨rfl, ⟨by rw [hU], by rw [hU]; exact va_P_l hP1, va_K.moved hW.alike hK, (va_D_l hD1).weaken (fun _ _ _ _ => trivial)⟩, by rw [hU]; exact hst1.moved hW.alike, htx.warm hW⟩⟩ rfl hn hsz rfl (lv_room hW) hdg hroom) hS (fun q _ h => hF q h) hF (fun q _ h => hF q h) (fun E ce q9 u t H1 locs1 ht hvm hpx hB hz1 hk1 hS1 hcell hcv hcl => ?_) (fun r u t H1 locs1 ht hvm hw hB hz1 hk1 hS1 => ?_)
  · obtain ⟨cell, h1, h2, h3⟩ := va_recv hK hP hc he
    exact ⟨cell, h1, h2, by rw [← hC]; exact h3⟩
  · subst hpx
    obtain ⟨hfE, g1, g2⟩ := hB
    rw [ht] at g1
    obtain ⟨j1, j2⟩ := g_join hP1 hD1 hk1 hF g1 g2
    exact kx E ce q9 hfE H1 locs1 (va_P_perm hp1.symm j1) (va_D_perm hp1.symm j2) hS1 hcell hcv hcl
  · obtain ⟨g1, g2⟩ := hB
    rw [ht] at g1
    obtain ⟨j1, j2⟩ := g_join hP1 hD1 hk1 hF g1 g2
    exact kk r u hw H1 locs1 (va_P_perm (hp2 u) j1) (va_D_perm (hp2 u) j2) hS1
theorem g_last {S : Type} {wf : S → va_W} {σ σ1 : S} (hx : p.tables.exec = Jvm.exec) (hb : c.code = cc) (hK : va_K D vwCl tys s) (hP : va_P D vwCl (wf σ) H) (hD : va_D A (wf σ)) (hS : va_S A s.heap H locs) (q0 t0 : Nat) {cA : ClassId} {n : Nat} {f : Nat → Int64} {x : Int64} (j : Nat) (he : (wf σ)[q0]? = some (a, .inl (cA, n, .inr (.inl f)))) (ht : tys[t0]? = some (cA, .long)) (hj : j < n) (hj2 : n < 2 ^ 31)
    (hset : (wf σ).set q0 (a, .inl (cA, n, .inr (.inl (vp_updL f j x)))) = wf σ1) (hdg : decode cc pc = .ok (.lastore, 1))
    (kk : ∀ (H1 : Heap) (locs1 : List Loc), va_P D vwCl (wf σ1) H1 → va_D A (wf σ1) → va_S A s.heap H1 locs1 → W p l e R s m args below meth c H1 locs1 cells slots Q (F0 m (pc + 1) ls rest)) : W p l e R s m args below meth c H locs cells slots Q (F0 m pc ls (.long x :: .int (nI j) :: .ref a :: rest)) := by
  refine va_last hx hb hK hP hD hS q0 t0 he ht (vp_in_nI hj hj2) hdg ?_
  rw [nI_clamp (by omega), hset]
  exact kk
end GRC
