/-! THE MODEL: words of nest mates, contracts that want them -/
def nfs : List (Nat × String × String) := [(29, "shelters", "I"), (36, "citizens", "I"), (43, "place", "[I"), (46, "demand", "[I"), (53, "umbrellas", "I"), (60, "citizen", "[I"), (69, "is", "[I"), (72, "holds", "[I"), (75, "trust", "[I"), (81, "told", "[I"), (91, "kind", "[I"), (94, "at", "[I"), (97, "wear", "[I"), (100, "waits", "[I"), (103, "taken", "[I"), (106, "from", "[I"), (112, "left", "[I"), (115, "own", "[I"), (124, "hour", "I"), (133, "carried", "I")]
def gNw (U : State) : Prop := (∀ q ∈ nfs, va_Nw (.fieldLinkNest RX6 q.1 RX5 q.2.1 q.2.2 RX6) U) ∧ va_Nw (.fieldLinkNest RX5 102 RX6 "rain" "[I" RX6) U
theorem gNw.same {u U : State} (hv : U.vm = u.vm) (h : gNw u) : gNw U := ⟨fun q hq => va_tabs rfl hv.symm (h.1 q hq), va_tabs rfl hv.symm h.2⟩
theorem gNw.warm {s U : State} (hW : s.WarmedH U.vm) (h : gNw s) : gNw U := ⟨fun q hq => va_Nw.warmF hW (h.1 q hq), va_Nw.warmF hW h.2⟩
theorem nl_29 {args : Array Value} {s : State} (h : gNw s) : (Cond.fieldLinkNest RX6 29 RX5 "shelters" "I" RX6).before args s = true := va_Nw.use rfl (h.1 (29, "shelters", "I") (List.mem_of_getElem? (i := 0) rfl))
theorem nl_36 {args : Array Value} {s : State} (h : gNw s) : (Cond.fieldLinkNest RX6 36 RX5 "citizens" "I" RX6).before args s = true := va_Nw.use rfl (h.1 (36, "citizens", "I") (List.mem_of_getElem? (i := 1) rfl))
theorem nl_43 {args : Array Value} {s : State} (h : gNw s) : (Cond.fieldLinkNest RX6 43 RX5 "place" "[I" RX6).before args s = true := va_Nw.use rfl (h.1 (43, "place", "[I") (List.mem_of_getElem? (i := 2) rfl))
theorem nl_46 {args : Array Value} {s : State} (h : gNw s) : (Cond.fieldLinkNest RX6 46 RX5 "demand" "[I" RX6).before args s = true := va_Nw.use rfl (h.1 (46, "demand", "[I") (List.mem_of_getElem? (i := 3) rfl))
theorem nl_53 {args : Array Value} {s : State} (h : gNw s) : (Cond.fieldLinkNest RX6 53 RX5 "umbrellas" "I" RX6).before args s = true := va_Nw.use rfl (h.1 (53, "umbrellas", "I") (List.mem_of_getElem? (i := 4) rfl))
theorem nl_60 {args : Array Value} {s : State} (h : gNw s) : (Cond.fieldLinkNest RX6 60 RX5 "citizen" "[I" RX6).before args s = true := va_Nw.use rfl (h.1 (60, "citizen", "[I") (List.mem_of_getElem? (i := 5) rfl))
theorem nl_69 {args : Array Value} {s : State} (h : gNw s) : (Cond.fieldLinkNest RX6 69 RX5 "is" "[I" RX6).before args s = true := va_Nw.use rfl (h.1 (69, "is", "[I") (List.mem_of_getElem? (i := 6) rfl))
theorem nl_72 {args : Array Value} {s : State} (h : gNw s) : (Cond.fieldLinkNest RX6 72 RX5 "holds" "[I" RX6).before args s = true := va_Nw.use rfl (h.1 (72, "holds", "[I") (List.mem_of_getElem? (i := 7) rfl))
theorem nl_75 {args : Array Value} {s : State} (h : gNw s) : (Cond.fieldLinkNest RX6 75 RX5 "trust" "[I" RX6).before args s = true := va_Nw.use rfl (h.1 (75, "trust", "[I") (List.mem_of_getElem? (i := 8) rfl))
theorem nl_81 {args : Array Value} {s : State} (h : gNw s) : (Cond.fieldLinkNest RX6 81 RX5 "told" "[I" RX6).before args s = true := va_Nw.use rfl (h.1 (81, "told", "[I") (List.mem_of_getElem? (i := 9) rfl))
theorem nl_91 {args : Array Value} {s : State} (h : gNw s) : (Cond.fieldLinkNest RX6 91 RX5 "kind" "[I" RX6).before args s = true := va_Nw.use rfl (h.1 (91, "kind", "[I") (List.mem_of_getElem? (i := 10) rfl))
theorem nl_94 {args : Array Value} {s : State} (h : gNw s) : (Cond.fieldLinkNest RX6 94 RX5 "at" "[I" RX6).before args s = true := va_Nw.use rfl (h.1 (94, "at", "[I") (List.mem_of_getElem? (i := 11) rfl))
theorem nl_97 {args : Array Value} {s : State} (h : gNw s) : (Cond.fieldLinkNest RX6 97 RX5 "wear" "[I" RX6).before args s = true := va_Nw.use rfl (h.1 (97, "wear", "[I") (List.mem_of_getElem? (i := 12) rfl))
theorem nl_100 {args : Array Value} {s : State} (h : gNw s) : (Cond.fieldLinkNest RX6 100 RX5 "waits" "[I" RX6).before args s = true := va_Nw.use rfl (h.1 (100, "waits", "[I") (List.mem_of_getElem? (i := 13) rfl))
theorem nl_103 {args : Array Value} {s : State} (h : gNw s) : (Cond.fieldLinkNest RX6 103 RX5 "taken" "[I" RX6).before args s = true := va_Nw.use rfl (h.1 (103, "taken", "[I") (List.mem_of_getElem? (i := 14) rfl))
theorem nl_106 {args : Array Value} {s : State} (h : gNw s) : (Cond.fieldLinkNest RX6 106 RX5 "from" "[I" RX6).before args s = true := va_Nw.use rfl (h.1 (106, "from", "[I") (List.mem_of_getElem? (i := 15) rfl))
theorem nl_112 {args : Array Value} {s : State} (h : gNw s) : (Cond.fieldLinkNest RX6 112 RX5 "left" "[I" RX6).before args s = true := va_Nw.use rfl (h.1 (112, "left", "[I") (List.mem_of_getElem? (i := 16) rfl))
theorem nl_115 {args : Array Value} {s : State} (h : gNw s) : (Cond.fieldLinkNest RX6 115 RX5 "own" "[I" RX6).before args s = true := va_Nw.use rfl (h.1 (115, "own", "[I") (List.mem_of_getElem? (i := 17) rfl))
theorem nl_124 {args : Array Value} {s : State} (h : gNw s) : (Cond.fieldLinkNest RX6 124 RX5 "hour" "I" RX6).before args s = true := va_Nw.use rfl (h.1 (124, "hour", "I") (List.mem_of_getElem? (i := 18) rfl))
theorem nl_133 {args : Array Value} {s : State} (h : gNw s) : (Cond.fieldLinkNest RX6 133 RX5 "carried" "I" RX6).before args s = true := va_Nw.use rfl (h.1 (133, "carried", "I") (List.mem_of_getElem? (i := 19) rfl))
theorem nl_rain {args : Array Value} {s : State} (h : gNw s) : (Cond.fieldLinkNest RX5 102 RX6 "rain" "[I" RX6).before args s = true := va_Nw.use rfl h.2
def gPreN {S : Type} (D : va_G) (tys : List (ClassId × FieldType)) (wf : S → va_W) (σ : S) (sz : Nat) : State → Prop := fun U => gPre D tys wf σ sz U ∧ gNw U
def gMvN {S : Type} (l : Launch) (y : MethodName) (ws : List Cond) (rm : Room) (D : va_G) (tys : List (ClassId × FieldType)) (wf : S → va_W) (av : List Value) (σ f : S) (mc ms : Nat) : Prop :=
  ∀ sz : Nat, Met l y ws rm (va_Pc av (gPreN D tys wf σ sz)) (va_Qv (fun u => u = f) (gPost D wf (va_A (wf σ) sz)) (va_A (wf σ) sz)) mc ms (va_A (wf σ) sz)
def gMiN {S : Type} (l : Launch) (y : MethodName) (ws : List Cond) (rm : Room) (D : va_G) (tys : List (ClassId × FieldType)) (wf : S → va_W) (av : List Value) (σ : S) (f : Int32 × S) (mc ms : Nat) : Prop :=
  ∀ sz : Nat, Met l y ws rm (va_Pc av (gPreN D tys wf σ sz)) (va_Qi (fun r u => (r, u) = f) (gPost D wf (va_A (wf σ) sz)) (va_A (wf σ) sz)) mc ms (va_A (wf σ) sz)
def gMrN {S : Type} (l : Launch) (y : MethodName) (ws : List Cond) (rm : Room) (D : va_G) (tys : List (ClassId × FieldType)) (wf : S → va_W) (av : List Value) (σ : S) (r : Int32) (mc ms : Nat) : Prop :=
  gMiN l y ws rm D tys wf av σ (r, σ) mc ms
theorem gPreN_blind {S : Type} {D : va_G} {tys : List (ClassId × FieldType)} {wf : S → va_W} {σ : S} {sz : Nat} {av : List Value} : FrameBlind (va_Pc av (gPreN D tys wf σ sz)) := by
  intro a U g mk h
  obtain ⟨h0, ⟨h1, h2, h3, h4⟩, h5⟩ := h
  exact ⟨h0, ⟨h1, h2, va_K.moved (u := U) (U := U.calling g mk a) (Vm.Alike.refl U.vm) h3, h4⟩, gNw.same (u := U) (U := U.calling g mk a) rfl h5⟩
section GSN
variable {S : Type} {l : Launch} {y : MethodName} {ws ws' : List Cond} {rm : Room} {D : va_G} {tys : List (ClassId × FieldType)} {wf : S → va_W} {av : List Value} {σ : S} {mc ms : Nat}
theorem gstartvN {f : S} (cc : ByteArray) (maxL : Nat) (own : String) (hy : plainName y.cls = true) (hw : ws = Cond.code y cc maxL none :: ws') (hown0 : y.cls = own) (hn : (lg_sl av).length ≤ maxL)
    (body : ∀ (p : Program) (e : Env) (s : State) (m : MethodId) (below : List Frame) (meth : Method) (c : Code) (A : Nat → Prop) (ls : Array Slot), p.tables.exec = Jvm.exec → c.code = cc → c.maxLocals = maxL → s.vm.findClass own = some m.cls → (∀ w ∈ ws, w.before av.toArray s = true) → meth.sig.returnType = none → meth.locks = false → va_K D vwCl tys s → va_P D vwCl (wf σ) s.heap → va_D A (wf σ) → (∀ q : Nat, s.heap.size ≤ q → A q) → va_S A s.heap s.heap [] → lv_has ls maxL (lv_args 0 av) → gNw s →
      W p l e rm s m av.toArray below meth c s.heap [] 0 0 (MQ below (va_Qv (fun u => u = f) (gPost D wf A) A) av.toArray s mc ms A) (F0 m 0 ls [])) : gMvN l y ws rm D tys wf av σ f mc ms := by
  intro sz
  refine Met.ofW (cc := cc) (maxL := maxL) (ret := none) hy hw ?_
  intro p e s m args below meth c s₁ B hml hv
  obtain ⟨rfl, ⟨hsz, hP, hK, hD0⟩, hnw⟩ := hv
  have hts := atoms_spec (ws := ws) B.pre
  have hown : s.vm.findClass own = some m.cls := by rw [← hown0]; exact findClass_of_methodNamed B.named
  subst hsz
  have hD := hD0.self (sz := s.heap.size)
  have hA : ∀ q : Nat, s.heap.size ≤ q → va_A (wf σ) s.heap.size q := fun q h => Or.inr h
  rw [lg_entry_eq]
  exact body p e s m below meth c _ _ B.exec B.bytes hml hown hts B.returns B.notSynchronized hK hP hD hA va_S.rf (lv_entry av hn) hnw
theorem gstartiN {f : Int32 × S} {rt : FieldType} (cc : ByteArray) (maxL : Nat) (own : String) (hy : plainName y.cls = true) (hw : ws = Cond.code y cc maxL (some rt) :: ws') (hown0 : y.cls = own) (hn : (lg_sl av).length ≤ maxL)
    (body : ∀ (p : Program) (e : Env) (s : State) (m : MethodId) (below : List Frame) (meth : Method) (c : Code) (A : Nat → Prop) (ls : Array Slot), p.tables.exec = Jvm.exec → c.code = cc → c.maxLocals = maxL → s.vm.findClass own = some m.cls → (∀ w ∈ ws, w.before av.toArray s = true) → meth.sig.returnType = some rt → meth.locks = false → va_K D vwCl tys s → va_P D vwCl (wf σ) s.heap → va_D A (wf σ) → (∀ q : Nat, s.heap.size ≤ q → A q) → va_S A s.heap s.heap [] → lv_has ls maxL (lv_args 0 av) → gNw s →
      W p l e rm s m av.toArray below meth c s.heap [] 0 0 (MQ below (va_Qi (fun r u => (r, u) = f) (gPost D wf A) A) av.toArray s mc ms A) (F0 m 0 ls [])) : gMiN l y ws rm D tys wf av σ f mc ms := by
  intro sz
  refine Met.ofW (cc := cc) (maxL := maxL) (ret := some rt) hy hw ?_
  intro p e s m args below meth c s₁ B hml hv
  obtain ⟨rfl, ⟨hsz, hP, hK, hD0⟩, hnw⟩ := hv
  have hts := atoms_spec (ws := ws) B.pre
  have hown : s.vm.findClass own = some m.cls := by rw [← hown0]; exact findClass_of_methodNamed B.named
  subst hsz
  have hD := hD0.self (sz := s.heap.size)
  have hA : ∀ q : Nat, s.heap.size ≤ q → va_A (wf σ) s.heap.size q := fun q h => Or.inr h
  rw [lg_entry_eq]
  exact body p e s m below meth c _ _ B.exec B.bytes hml hown hts B.returns B.notSynchronized hK hP hD hA va_S.rf (lv_entry av hn) hnw
end GSN
section GRN
variable {p : Program} {l : Launch} {e : Env} {R : Room} {s : State} {m : MethodId} {args : Array Value} {below : List Frame} {meth : Method} {c : Code} {H : Heap} {locs : List Loc} {cells slots : Nat} {Q : State → Prop}
variable {pc : Nat} {ls : Array Slot} {rest st0 : List Value} {A : Nat → Prop} {H0 : Heap} {cc : ByteArray} {D : va_G} {tys : List (ClassId × FieldType)} {ws : va_W} {a : Nat}
theorem g_callvN {S Sc : Type} {wf : S → va_W} {σ : S} {wfc : Sc → va_W} {σc f : Sc} {y : MethodName} {bytes : ByteArray} {maxL nL mc ms n index cells2 slots2 : Nat} {wc : List Cond} {rm : Room} {Ts : List Cond} {own C : String} {ci q0 : Nat} {fs : List Value} {cl0 : vw_C}
    (hnw : gNw s) (hx : p.tables.exec = Jvm.exec) (hb : c.code = cc) (hml : c.maxLocals = nL) (hown : s.vm.findClass own = some m.cls) (hts : ∀ w ∈ Ts, w.before args s = true) (hK : va_K D vwCl tys s) (hP : va_P D vwCl (wf σ) H) (hD : va_D A (wf σ)) (hS : va_S A H0 H locs) (hA : ∀ q : Nat, H0.size ≤ q → A q) (hsz : ls.size = nL)
    (wr : va_W) (hp1 : (wf σ).Perm (wfc σc ++ wr)) (back : Sc → S) (hp2 : ∀ u, (wfc u ++ wr).Perm (wf (back u)))
    (As : List Value) (hM : gMvN l y wc rm D tys wfc (.ref a :: As) σc f mc ms) (cw : CallW R s args own C index y bytes maxL none wc rm mc ms n) (he : (wf σ)[q0]? = some (a, .inr (ci, fs))) (hc : vwCl[ci]? = some cl0) (hC : cl0.1 = C) (hn : As.length = n) (hst : st0 = As.reverse ++ .ref a :: rest) (hW : (rest.map fun v => v.category).sum ≤ 8) (hdg : decode cc pc = .ok (.invokevirtual index, 3)) (hroom : cells + mc ≤ R.cells ∧ slots + ms ≤ R.slots) (hc2 : cells + mc = cells2) (hs2 : slots + ms = slots2)
    (kk : ∀ u : Sc, u = f → ∀ (H1 : Heap) (locs1 : List Loc), va_P D vwCl (wf (back u)) H1 → va_D A (wf (back u)) → va_S A H0 H1 locs1 → W p l e R s m args below meth c H1 locs1 cells2 slots2 Q (F0 m (pc + 3) ls rest)) : W p l e R s m args below meth c H locs cells slots Q (F0 m pc ls st0) := by
  subst hc2; subst hs2; subst hst
  have hP1 := va_P_perm hp1 hP
  have hD1 := va_D_perm hp1 hD
  have hF := g_free hD1 hS hA
  refine va_callv (va_runV (As := As) (rest := rest) ⟨hx, hb, hml, hown, hts⟩ (hM H.size) cw ⟨gPreN_blind, ?_, fun U hU hW => ⟨rfl, ⟨by rw [hU], by rw [hU]; exact va_P_l hP1, va_K.moved hW.alike hK, (va_D_l hD1).weaken (fun _ _ _ _ => trivial)⟩, hnw.warm hW⟩⟩ rfl hn hsz rfl (lv_room hW) hdg hroom) hS (fun q _ h => hF q h) hF (fun u t H1 locs1 ht hvm hw hB hz1 hk1 hS1 => ?_)
  · obtain ⟨cell, h1, h2, h3⟩ := va_recv hK hP hc he
    exact ⟨cell, h1, h2, by rw [← hC]; exact h3⟩
  · obtain ⟨g1, g2⟩ := hB
    rw [ht] at g1
    obtain ⟨j1, j2⟩ := g_join hP1 hD1 hk1 hF g1 g2
    exact kk u hw H1 locs1 (va_P_perm (hp2 u) j1) (va_D_perm (hp2 u) j2) hS1
theorem g_calliN {S Sc : Type} {wf : S → va_W} {σ : S} {wfc : Sc → va_W} {σc : Sc} {f : Int32 × Sc} {y : MethodName} {bytes : ByteArray} {maxL nL mc ms n index cells2 slots2 : Nat} {rt : FieldType} {wc : List Cond} {rm : Room} {Ts : List Cond} {own C : String} {ci q0 : Nat} {fs : List Value} {cl0 : vw_C}
    (hnw : gNw s) (hx : p.tables.exec = Jvm.exec) (hb : c.code = cc) (hml : c.maxLocals = nL) (hown : s.vm.findClass own = some m.cls) (hts : ∀ w ∈ Ts, w.before args s = true) (hK : va_K D vwCl tys s) (hP : va_P D vwCl (wf σ) H) (hD : va_D A (wf σ)) (hS : va_S A H0 H locs) (hA : ∀ q : Nat, H0.size ≤ q → A q) (hsz : ls.size = nL)
    (wr : va_W) (hp1 : (wf σ).Perm (wfc σc ++ wr)) (back : Sc → S) (hp2 : ∀ u, (wfc u ++ wr).Perm (wf (back u)))
    (As : List Value) (hM : gMiN l y wc rm D tys wfc (.ref a :: As) σc f mc ms) (cw : CallW R s args own C index y bytes maxL (some rt) wc rm mc ms n) (he : (wf σ)[q0]? = some (a, .inr (ci, fs))) (hc : vwCl[ci]? = some cl0) (hC : cl0.1 = C) (hn : As.length = n) (hst : st0 = As.reverse ++ .ref a :: rest) (hW : (rest.map fun v => v.category).sum ≤ 8) (hdg : decode cc pc = .ok (.invokevirtual index, 3)) (hroom : cells + mc ≤ R.cells ∧ slots + ms ≤ R.slots) (hc2 : cells + mc = cells2) (hs2 : slots + ms = slots2)
    (kk : ∀ u : Int32 × Sc, u = f → ∀ (H1 : Heap) (locs1 : List Loc), va_P D vwCl (wf (back u.2)) H1 → va_D A (wf (back u.2)) → va_S A H0 H1 locs1 → W p l e R s m args below meth c H1 locs1 cells2 slots2 Q (F0 m (pc + 3) ls (.int u.1 :: rest))) : W p l e R s m args below meth c H locs cells slots Q (F0 m pc ls st0) := by
  subst hc2; subst hs2; subst hst
  have hP1 := va_P_perm hp1 hP
  have hD1 := va_D_perm hp1 hD
  have hF := g_free hD1 hS hA
  refine va_calli (va_runV (As := As) (rest := rest) ⟨hx, hb, hml, hown, hts⟩ (hM H.size) cw ⟨gPreN_blind, ?_, fun U hU hW => ⟨rfl, ⟨by rw [hU], by rw [hU]; exact va_P_l hP1, va_K.moved hW.alike hK, (va_D_l hD1).weaken (fun _ _ _ _ => trivial)⟩, hnw.warm hW⟩⟩ rfl hn hsz rfl (lv_room hW) hdg hroom) hS (fun q _ h => hF q h) hF (fun r u t H1 locs1 ht hvm hw hB hz1 hk1 hS1 => ?_)
  · obtain ⟨cell, h1, h2, h3⟩ := va_recv hK hP hc he
    exact ⟨cell, h1, h2, by rw [← hC]; exact h3⟩
  · obtain ⟨g1, g2⟩ := hB
    rw [ht] at g1
    obtain ⟨j1, j2⟩ := g_join hP1 hD1 hk1 hF g1 g2
    exact kk (r, u) hw H1 locs1 (va_P_perm (hp2 u) j1) (va_D_perm (hp2 u) j2) hS1
/-- a static method that answers an int -/
theorem g_callsN {S Sc : Type} {wf : S → va_W} {σ : S} {wfc : Sc → va_W} {σc : Sc} {f : Int32 × Sc} {y : MethodName} {bytes : ByteArray} {maxL nL mc ms n index cells2 slots2 : Nat} {rt : FieldType} {wc : List Cond} {rm : Room} {Ts : List Cond} {own : String}
    (hnw : gNw s) (hx : p.tables.exec = Jvm.exec) (hb : c.code = cc) (hml : c.maxLocals = nL) (hown : s.vm.findClass own = some m.cls) (hts : ∀ w ∈ Ts, w.before args s = true) (hK : va_K D vwCl tys s) (hP : va_P D vwCl (wf σ) H) (hD : va_D A (wf σ)) (hS : va_S A H0 H locs) (hA : ∀ q : Nat, H0.size ≤ q → A q) (hsz : ls.size = nL)
    (wr : va_W) (hp1 : (wf σ).Perm (wfc σc ++ wr)) (back : Sc → S) (hp2 : ∀ u, (wfc u ++ wr).Perm (wf (back u)))
    (As : List Value) (hM : gMiN l y wc rm D tys wfc As σc f mc ms) (cw : CallB R s args own index y bytes maxL (some rt) wc rm mc ms n ∧ (Cond.static y).before args s = true) (hn : As.length = n) (hst : st0 = As.reverse ++ rest) (hW : (rest.map fun v => v.category).sum ≤ 8) (hdg : decode cc pc = .ok (.invokestatic index, 3)) (hroom : cells + mc ≤ R.cells ∧ slots + ms ≤ R.slots) (hc2 : cells + mc = cells2) (hs2 : slots + ms = slots2)
    (kk : ∀ u : Int32 × Sc, u = f → ∀ (H1 : Heap) (locs1 : List Loc), va_P D vwCl (wf (back u.2)) H1 → va_D A (wf (back u.2)) → va_S A H0 H1 locs1 → W p l e R s m args below meth c H1 locs1 cells2 slots2 Q (F0 m (pc + 3) ls (.int u.1 :: rest))) : W p l e R s m args below meth c H locs cells slots Q (F0 m pc ls st0) := by
  subst hc2; subst hs2; subst hst
  have hP1 := va_P_perm hp1 hP
  have hD1 := va_D_perm hp1 hD
  have hF := g_free hD1 hS hA
  refine va_calli (va_runS (As := As) (rest := rest) ⟨hx, hb, hml, hown, hts⟩ (hM H.size) cw ⟨gPreN_blind, fun U hU hW => ⟨rfl, ⟨by rw [hU], by rw [hU]; exact va_P_l hP1, va_K.moved hW.alike hK, (va_D_l hD1).weaken (fun _ _ _ _ => trivial)⟩, hnw.warm hW⟩⟩ rfl hn hsz rfl (lv_room hW) hdg hroom) hS (fun q _ h => hF q h) hF (fun r u t H1 locs1 ht hvm hw hB hz1 hk1 hS1 => ?_)
  obtain ⟨g1, g2⟩ := hB
  rw [ht] at g1
  obtain ⟨j1, j2⟩ := g_join hP1 hD1 hk1 hF g1 g2
  exact kk (r, u) hw H1 locs1 (va_P_perm (hp2 u) j1) (va_D_perm (hp2 u) j2) hS1
/-- calls that answer and leave the state -/
theorem g_callrN {S Sc : Type} {wf : S → va_W} {σ : S} {wfc : Sc → va_W} {σc : Sc} {f : Int32} {y : MethodName} {bytes : ByteArray} {maxL nL mc ms n index cells2 slots2 : Nat} {rt : FieldType} {wc : List Cond} {rm : Room} {Ts : List Cond} {own C : String} {ci q0 : Nat} {fs : List Value} {cl0 : vw_C}
    (hnw : gNw s) (hx : p.tables.exec = Jvm.exec) (hb : c.code = cc) (hml : c.maxLocals = nL) (hown : s.vm.findClass own = some m.cls) (hts : ∀ w ∈ Ts, w.before args s = true) (hK : va_K D vwCl tys s) (hP : va_P D vwCl (wf σ) H) (hD : va_D A (wf σ)) (hS : va_S A H0 H locs) (hA : ∀ q : Nat, H0.size ≤ q → A q) (hsz : ls.size = nL)
    (wr : va_W) (hp1 : (wf σ).Perm (wfc σc ++ wr))
    (As : List Value) (hM : gMrN l y wc rm D tys wfc (.ref a :: As) σc f mc ms) (cw : CallW R s args own C index y bytes maxL (some rt) wc rm mc ms n) (he : (wf σ)[q0]? = some (a, .inr (ci, fs))) (hc : vwCl[ci]? = some cl0) (hC : cl0.1 = C) (hn : As.length = n) (hst : st0 = As.reverse ++ .ref a :: rest) (hW : (rest.map fun v => v.category).sum ≤ 8) (hdg : decode cc pc = .ok (.invokevirtual index, 3)) (hroom : cells + mc ≤ R.cells ∧ slots + ms ≤ R.slots) (hc2 : cells + mc = cells2) (hs2 : slots + ms = slots2)
    (kk : ∀ r : Int32, r = f → ∀ (H1 : Heap) (locs1 : List Loc), va_P D vwCl (wf σ) H1 → va_D A (wf σ) → va_S A H0 H1 locs1 → W p l e R s m args below meth c H1 locs1 cells2 slots2 Q (F0 m (pc + 3) ls (.int r :: rest))) : W p l e R s m args below meth c H locs cells slots Q (F0 m pc ls st0) := by
  subst hc2; subst hs2; subst hst
  have hP1 := va_P_perm hp1 hP
  have hD1 := va_D_perm hp1 hD
  have hF := g_free hD1 hS hA
  refine va_calli (va_runV (As := As) (rest := rest) ⟨hx, hb, hml, hown, hts⟩ (hM H.size) cw ⟨gPreN_blind, ?_, fun U hU hW => ⟨rfl, ⟨by rw [hU], by rw [hU]; exact va_P_l hP1, va_K.moved hW.alike hK, (va_D_l hD1).weaken (fun _ _ _ _ => trivial)⟩, hnw.warm hW⟩⟩ rfl hn hsz rfl (lv_room hW) hdg hroom) hS (fun q _ h => hF q h) hF (fun r u t H1 locs1 ht hvm hw hB hz1 hk1 hS1 => ?_)
  · obtain ⟨cell, h1, h2, h3⟩ := va_recv hK hP hc he
    exact ⟨cell, h1, h2, by rw [← hC]; exact h3⟩
  · obtain ⟨g1, g2⟩ := hB
    rw [ht] at g1
    obtain ⟨j1, j2⟩ := g_join hP1 hD1 hk1 hF g1 g2
    obtain ⟨hr, hu⟩ := Prod.mk.inj hw
    subst hu
    exact kk r hr H1 locs1 (va_P_perm hp1.symm j1) (va_D_perm hp1.symm j2) hS1
theorem g_callsrN {S Sc : Type} {wf : S → va_W} {σ : S} {wfc : Sc → va_W} {σc : Sc} {f : Int32} {y : MethodName} {bytes : ByteArray} {maxL nL mc ms n index cells2 slots2 : Nat} {rt : FieldType} {wc : List Cond} {rm : Room} {Ts : List Cond} {own : String}
    (hnw : gNw s) (hx : p.tables.exec = Jvm.exec) (hb : c.code = cc) (hml : c.maxLocals = nL) (hown : s.vm.findClass own = some m.cls) (hts : ∀ w ∈ Ts, w.before args s = true) (hK : va_K D vwCl tys s) (hP : va_P D vwCl (wf σ) H) (hD : va_D A (wf σ)) (hS : va_S A H0 H locs) (hA : ∀ q : Nat, H0.size ≤ q → A q) (hsz : ls.size = nL)
    (wr : va_W) (hp1 : (wf σ).Perm (wfc σc ++ wr))
    (As : List Value) (hM : gMrN l y wc rm D tys wfc As σc f mc ms) (cw : CallB R s args own index y bytes maxL (some rt) wc rm mc ms n ∧ (Cond.static y).before args s = true) (hn : As.length = n) (hst : st0 = As.reverse ++ rest) (hW : (rest.map fun v => v.category).sum ≤ 8) (hdg : decode cc pc = .ok (.invokestatic index, 3)) (hroom : cells + mc ≤ R.cells ∧ slots + ms ≤ R.slots) (hc2 : cells + mc = cells2) (hs2 : slots + ms = slots2)
    (kk : ∀ r : Int32, r = f → ∀ (H1 : Heap) (locs1 : List Loc), va_P D vwCl (wf σ) H1 → va_D A (wf σ) → va_S A H0 H1 locs1 → W p l e R s m args below meth c H1 locs1 cells2 slots2 Q (F0 m (pc + 3) ls (.int r :: rest))) : W p l e R s m args below meth c H locs cells slots Q (F0 m pc ls st0) := by
  subst hc2; subst hs2; subst hst
  have hP1 := va_P_perm hp1 hP
  have hD1 := va_D_perm hp1 hD
  have hF := g_free hD1 hS hA
  refine va_calli (va_runS (As := As) (rest := rest) ⟨hx, hb, hml, hown, hts⟩ (hM H.size) cw ⟨gPreN_blind, fun U hU hW => ⟨rfl, ⟨by rw [hU], by rw [hU]; exact va_P_l hP1, va_K.moved hW.alike hK, (va_D_l hD1).weaken (fun _ _ _ _ => trivial)⟩, hnw.warm hW⟩⟩ rfl hn hsz rfl (lv_room hW) hdg hroom) hS (fun q _ h => hF q h) hF (fun r u t H1 locs1 ht hvm hw hB hz1 hk1 hS1 => ?_)
  obtain ⟨g1, g2⟩ := hB
  rw [ht] at g1
  obtain ⟨j1, j2⟩ := g_join hP1 hD1 hk1 hF g1 g2
  obtain ⟨hr, hu⟩ := Prod.mk.inj hw
  subst hu
  exact kk r hr H1 locs1 (va_P_perm hp1.symm j1) (va_D_perm hp1.symm j2) hS1
end GRN
/-! THE MODEL'S STATE: 17 places: 0 itself, 1 place, 2 demand, 3 told, 4 kind, 5 at, 6 wear, 7 waits, 8 taken, 9 from, 10 citizen, 11 is, 12 to, 13 left, 14 holds, 15 trust, 16 own -/
def sLen (p : Nat) : Nat := if p ≤ 2 then 8 else if p ≤ 9 then 40 else if p = 10 then 50 else if p ≤ 15 then 10 else 40
abbrev stF (x0 : Nat) (ad : Nat → Nat) (f : Nat → Int32) : List Value := [.int (f 0), .int (f 1), .ref (ad 1), .ref (ad 2), .ref (ad 3), .int (f 5), .ref (ad 4), .ref (ad 5), .ref (ad 6), .ref (ad 7), .ref (ad 8), .ref (ad 9), .int (f 12), .ref (ad 10), .ref (ad 11), .ref (ad 12), .ref (ad 13), .ref (ad 14), .ref (ad 15), .ref (ad 16), .int (f 20), .ref x0]
def SC (cy : Nat → ClassId) (x0 : Nat) (ad : Nat → Nat) (p : Nat) (f : Nat → Int32) : va_E := if p = 0 then .inr (5, stF x0 ad f) else .inl (cy 0, sLen p, .inl f)
abbrev SW (cy : Nat → ClassId) (x0 : Nat) (ad : Nat → Nat) (σ : Sg) : va_W := WD 17 (SC cy x0 ad) ad σ
theorem SC_ar (cy : Nat → ClassId) (x0 : Nat) (ad : Nat → Nat) {j : Nat} (h : 0 < j) (f : Nat → Int32) : SC cy x0 ad j f = .inl (cy 0, sLen j, .inl f) := by
  unfold SC
  rw [if_neg (by omega)]
theorem stF_set (x0 : Nat) (ad : Nat → Nat) (f : Nat → Int32) (v : Int32) : ∀ k, k = 0 ∨ k = 1 ∨ k = 5 ∨ k = 12 ∨ k = 20 → (stF x0 ad f).set k (.int v) = stF x0 ad (upd f k v) := by
  intro k h
  rcases h with rfl | rfl | rfl | rfl | rfl <;> rfl
section SWR
variable (cy : Nat → ClassId) (x0 : Nat) (ad : Nat → Nat) (σ : Sg)
theorem SW_ob : (SW cy x0 ad σ)[0]? = some (ad 0, .inr (5, stF x0 ad (σ 0))) := WD_get (by decide) rfl
theorem SW_ar {j : Nat} (h : 0 < j ∧ j < 17) : (SW cy x0 ad σ)[j]? = some (ad j, .inl (cy 0, sLen j, .inl (σ j))) := WD_get h.2 (SC_ar cy x0 ad h.1 _)
theorem SW_ob_set (k : Nat) (h : k = 0 ∨ k = 1 ∨ k = 5 ∨ k = 12 ∨ k = 20) (v : Int32) : (SW cy x0 ad σ).set 0 (ad 0, .inr (5, (stF x0 ad (σ 0)).set k (.int v))) = SW cy x0 ad (up σ 0 k v) := WD_set (by rw [stF_set _ _ _ _ k h]; rfl)
theorem SW_ar_set {j : Nat} (h : 0 < j ∧ j < 17) (k : Nat) (v : Int32) : (SW cy x0 ad σ).set j (ad j, .inl (cy 0, sLen j, .inl (upd (σ j) k v))) = SW cy x0 ad (up σ j k v) := WD_set (SC_ar cy x0 ad h.1 _)
theorem SW_ar_setr {j : Nat} (h : 0 < j ∧ j < 17) (g : Nat → Int32) : (SW cy x0 ad σ).set j (ad j, .inl (cy 0, sLen j, .inl g)) = SW cy x0 ad (upr σ j g) := WD_setr (SC_ar cy x0 ad h.1 _)
end SWR
/-! the model itself: 0 the object, 1 the rain -/
abbrev moF (ax : Nat → Nat) (bs ba : Nat) (f : Nat → Int32) : List Value := [.int (f 0), .ref (ax 1), .ref bs, .ref ba]
def OC (cy : Nat → ClassId) (ax : Nat → Nat) (bs ba : Nat) (p : Nat) (f : Nat → Int32) : va_E := if p = 0 then .inr (6, moF ax bs ba f) else .inl (cy 0, 24, .inl f)
abbrev OW (cy : Nat → ClassId) (ax : Nat → Nat) (bs ba : Nat) (σ : Sg) : va_W := WD 2 (OC cy ax bs ba) ax σ
section OWR
variable (cy : Nat → ClassId) (ax : Nat → Nat) (bs ba : Nat) (σ : Sg)
theorem OW_ob : (OW cy ax bs ba σ)[0]? = some (ax 0, .inr (6, moF ax bs ba (σ 0))) := WD_get (by decide) rfl
theorem OW_rn : (OW cy ax bs ba σ)[1]? = some (ax 1, .inl (cy 0, 24, .inl (σ 1))) := WD_get (by decide) rfl
theorem OW_ob_set (k : Nat) (h : k = 0) (v : Int32) : (OW cy ax bs ba σ).set 0 (ax 0, .inr (6, (moF ax bs ba (σ 0)).set k (.int v))) = OW cy ax bs ba (up σ 0 k v) := by subst h; exact WD_set rfl
theorem OW_rn_set (k : Nat) (v : Int32) : (OW cy ax bs ba σ).set 1 (ax 1, .inl (cy 0, 24, .inl (upd (σ 1) k v))) = OW cy ax bs ba (up σ 1 k v) := WD_set rfl
end OWR
/-- a state and the model's own -/
abbrev PW (cy : Nat → ClassId) (ax : Nat → Nat) (bs ba : Nat) (ad : Nat → Nat) (u : Sg × Sg) : va_W := SW cy (ax 0) ad u.1 ++ OW cy ax bs ba u.2
/-- two states -/
abbrev BW (cy : Nat → ClassId) (x0 : Nat) (ad ad2 : Nat → Nat) (u : Sg × Sg) : va_W := SW cy x0 ad u.1 ++ SW cy x0 ad2 u.2
/-- the model whole -/
abbrev MW (cy : Nat → ClassId) (ax ad ad2 : Nat → Nat) (u : Sg × Sg × Sg) : va_W := OW cy ax (ad 0) (ad2 0) u.1 ++ (SW cy (ax 0) ad u.2.1 ++ SW cy (ax 0) ad2 u.2.2)
theorem pm_pn {X N B : va_W} : (X ++ (N ++ B)).Perm ((N ++ X) ++ B) := by
  rw [← List.append_assoc]
  exact List.Perm.append_right B List.perm_append_comm
theorem pm_pa {X N B : va_W} : (X ++ (N ++ B)).Perm ((B ++ X) ++ N) := by
  have h1 : (X ++ (N ++ B)).Perm (X ++ (B ++ N)) := List.Perm.append_left X List.perm_append_comm
  exact h1.trans pm_pn
theorem pm_n2 {X N B : va_W} : (X ++ (N ++ B)).Perm (N ++ (X ++ B)) := by
  rw [← List.append_assoc, ← List.append_assoc]
  exact List.Perm.append_right B List.perm_append_comm
theorem pm_a2 {X N B : va_W} : (X ++ (N ++ B)).Perm (B ++ (X ++ N)) := by
  rw [← List.append_assoc]
  exact List.perm_append_comm
theorem pm_c2 {X N : va_W} : (X ++ N).Perm (N ++ X) := List.perm_append_comm
section SWJ
variable (cy : Nat → ClassId) (x0 : Nat) (ad : Nat → Nat) (σ : Sg)
theorem SW_1 : (SW cy x0 ad σ)[1]? = some (ad 1, .inl (cy 0, 8, .inl (σ 1))) := SW_ar cy x0 ad σ ⟨by decide, by decide⟩
theorem SW_1_set (k : Nat) (v : Int32) : (SW cy x0 ad σ).set 1 (ad 1, .inl (cy 0, 8, .inl (upd (σ 1) k v))) = SW cy x0 ad (up σ 1 k v) := SW_ar_set cy x0 ad σ ⟨by decide, by decide⟩ k v
theorem SW_1_setr (g : Nat → Int32) : (SW cy x0 ad σ).set 1 (ad 1, .inl (cy 0, 8, .inl g)) = SW cy x0 ad (upr σ 1 g) := SW_ar_setr cy x0 ad σ ⟨by decide, by decide⟩ g
theorem SW_2 : (SW cy x0 ad σ)[2]? = some (ad 2, .inl (cy 0, 8, .inl (σ 2))) := SW_ar cy x0 ad σ ⟨by decide, by decide⟩
theorem SW_2_set (k : Nat) (v : Int32) : (SW cy x0 ad σ).set 2 (ad 2, .inl (cy 0, 8, .inl (upd (σ 2) k v))) = SW cy x0 ad (up σ 2 k v) := SW_ar_set cy x0 ad σ ⟨by decide, by decide⟩ k v
theorem SW_2_setr (g : Nat → Int32) : (SW cy x0 ad σ).set 2 (ad 2, .inl (cy 0, 8, .inl g)) = SW cy x0 ad (upr σ 2 g) := SW_ar_setr cy x0 ad σ ⟨by decide, by decide⟩ g
theorem SW_3 : (SW cy x0 ad σ)[3]? = some (ad 3, .inl (cy 0, 40, .inl (σ 3))) := SW_ar cy x0 ad σ ⟨by decide, by decide⟩
theorem SW_3_set (k : Nat) (v : Int32) : (SW cy x0 ad σ).set 3 (ad 3, .inl (cy 0, 40, .inl (upd (σ 3) k v))) = SW cy x0 ad (up σ 3 k v) := SW_ar_set cy x0 ad σ ⟨by decide, by decide⟩ k v
theorem SW_3_setr (g : Nat → Int32) : (SW cy x0 ad σ).set 3 (ad 3, .inl (cy 0, 40, .inl g)) = SW cy x0 ad (upr σ 3 g) := SW_ar_setr cy x0 ad σ ⟨by decide, by decide⟩ g
theorem SW_4 : (SW cy x0 ad σ)[4]? = some (ad 4, .inl (cy 0, 40, .inl (σ 4))) := SW_ar cy x0 ad σ ⟨by decide, by decide⟩
theorem SW_4_set (k : Nat) (v : Int32) : (SW cy x0 ad σ).set 4 (ad 4, .inl (cy 0, 40, .inl (upd (σ 4) k v))) = SW cy x0 ad (up σ 4 k v) := SW_ar_set cy x0 ad σ ⟨by decide, by decide⟩ k v
theorem SW_4_setr (g : Nat → Int32) : (SW cy x0 ad σ).set 4 (ad 4, .inl (cy 0, 40, .inl g)) = SW cy x0 ad (upr σ 4 g) := SW_ar_setr cy x0 ad σ ⟨by decide, by decide⟩ g
theorem SW_5 : (SW cy x0 ad σ)[5]? = some (ad 5, .inl (cy 0, 40, .inl (σ 5))) := SW_ar cy x0 ad σ ⟨by decide, by decide⟩
theorem SW_5_set (k : Nat) (v : Int32) : (SW cy x0 ad σ).set 5 (ad 5, .inl (cy 0, 40, .inl (upd (σ 5) k v))) = SW cy x0 ad (up σ 5 k v) := SW_ar_set cy x0 ad σ ⟨by decide, by decide⟩ k v
theorem SW_5_setr (g : Nat → Int32) : (SW cy x0 ad σ).set 5 (ad 5, .inl (cy 0, 40, .inl g)) = SW cy x0 ad (upr σ 5 g) := SW_ar_setr cy x0 ad σ ⟨by decide, by decide⟩ g
theorem SW_6 : (SW cy x0 ad σ)[6]? = some (ad 6, .inl (cy 0, 40, .inl (σ 6))) := SW_ar cy x0 ad σ ⟨by decide, by decide⟩
theorem SW_6_set (k : Nat) (v : Int32) : (SW cy x0 ad σ).set 6 (ad 6, .inl (cy 0, 40, .inl (upd (σ 6) k v))) = SW cy x0 ad (up σ 6 k v) := SW_ar_set cy x0 ad σ ⟨by decide, by decide⟩ k v
theorem SW_6_setr (g : Nat → Int32) : (SW cy x0 ad σ).set 6 (ad 6, .inl (cy 0, 40, .inl g)) = SW cy x0 ad (upr σ 6 g) := SW_ar_setr cy x0 ad σ ⟨by decide, by decide⟩ g
theorem SW_7 : (SW cy x0 ad σ)[7]? = some (ad 7, .inl (cy 0, 40, .inl (σ 7))) := SW_ar cy x0 ad σ ⟨by decide, by decide⟩
theorem SW_7_set (k : Nat) (v : Int32) : (SW cy x0 ad σ).set 7 (ad 7, .inl (cy 0, 40, .inl (upd (σ 7) k v))) = SW cy x0 ad (up σ 7 k v) := SW_ar_set cy x0 ad σ ⟨by decide, by decide⟩ k v
theorem SW_7_setr (g : Nat → Int32) : (SW cy x0 ad σ).set 7 (ad 7, .inl (cy 0, 40, .inl g)) = SW cy x0 ad (upr σ 7 g) := SW_ar_setr cy x0 ad σ ⟨by decide, by decide⟩ g
theorem SW_8 : (SW cy x0 ad σ)[8]? = some (ad 8, .inl (cy 0, 40, .inl (σ 8))) := SW_ar cy x0 ad σ ⟨by decide, by decide⟩
theorem SW_8_set (k : Nat) (v : Int32) : (SW cy x0 ad σ).set 8 (ad 8, .inl (cy 0, 40, .inl (upd (σ 8) k v))) = SW cy x0 ad (up σ 8 k v) := SW_ar_set cy x0 ad σ ⟨by decide, by decide⟩ k v
theorem SW_8_setr (g : Nat → Int32) : (SW cy x0 ad σ).set 8 (ad 8, .inl (cy 0, 40, .inl g)) = SW cy x0 ad (upr σ 8 g) := SW_ar_setr cy x0 ad σ ⟨by decide, by decide⟩ g
theorem SW_9 : (SW cy x0 ad σ)[9]? = some (ad 9, .inl (cy 0, 40, .inl (σ 9))) := SW_ar cy x0 ad σ ⟨by decide, by decide⟩
theorem SW_9_set (k : Nat) (v : Int32) : (SW cy x0 ad σ).set 9 (ad 9, .inl (cy 0, 40, .inl (upd (σ 9) k v))) = SW cy x0 ad (up σ 9 k v) := SW_ar_set cy x0 ad σ ⟨by decide, by decide⟩ k v
theorem SW_9_setr (g : Nat → Int32) : (SW cy x0 ad σ).set 9 (ad 9, .inl (cy 0, 40, .inl g)) = SW cy x0 ad (upr σ 9 g) := SW_ar_setr cy x0 ad σ ⟨by decide, by decide⟩ g
theorem SW_10 : (SW cy x0 ad σ)[10]? = some (ad 10, .inl (cy 0, 50, .inl (σ 10))) := SW_ar cy x0 ad σ ⟨by decide, by decide⟩
theorem SW_10_set (k : Nat) (v : Int32) : (SW cy x0 ad σ).set 10 (ad 10, .inl (cy 0, 50, .inl (upd (σ 10) k v))) = SW cy x0 ad (up σ 10 k v) := SW_ar_set cy x0 ad σ ⟨by decide, by decide⟩ k v
theorem SW_10_setr (g : Nat → Int32) : (SW cy x0 ad σ).set 10 (ad 10, .inl (cy 0, 50, .inl g)) = SW cy x0 ad (upr σ 10 g) := SW_ar_setr cy x0 ad σ ⟨by decide, by decide⟩ g
theorem SW_11 : (SW cy x0 ad σ)[11]? = some (ad 11, .inl (cy 0, 10, .inl (σ 11))) := SW_ar cy x0 ad σ ⟨by decide, by decide⟩
theorem SW_11_set (k : Nat) (v : Int32) : (SW cy x0 ad σ).set 11 (ad 11, .inl (cy 0, 10, .inl (upd (σ 11) k v))) = SW cy x0 ad (up σ 11 k v) := SW_ar_set cy x0 ad σ ⟨by decide, by decide⟩ k v
theorem SW_11_setr (g : Nat → Int32) : (SW cy x0 ad σ).set 11 (ad 11, .inl (cy 0, 10, .inl g)) = SW cy x0 ad (upr σ 11 g) := SW_ar_setr cy x0 ad σ ⟨by decide, by decide⟩ g
theorem SW_12 : (SW cy x0 ad σ)[12]? = some (ad 12, .inl (cy 0, 10, .inl (σ 12))) := SW_ar cy x0 ad σ ⟨by decide, by decide⟩
theorem SW_12_set (k : Nat) (v : Int32) : (SW cy x0 ad σ).set 12 (ad 12, .inl (cy 0, 10, .inl (upd (σ 12) k v))) = SW cy x0 ad (up σ 12 k v) := SW_ar_set cy x0 ad σ ⟨by decide, by decide⟩ k v
theorem SW_12_setr (g : Nat → Int32) : (SW cy x0 ad σ).set 12 (ad 12, .inl (cy 0, 10, .inl g)) = SW cy x0 ad (upr σ 12 g) := SW_ar_setr cy x0 ad σ ⟨by decide, by decide⟩ g
theorem SW_13 : (SW cy x0 ad σ)[13]? = some (ad 13, .inl (cy 0, 10, .inl (σ 13))) := SW_ar cy x0 ad σ ⟨by decide, by decide⟩
theorem SW_13_set (k : Nat) (v : Int32) : (SW cy x0 ad σ).set 13 (ad 13, .inl (cy 0, 10, .inl (upd (σ 13) k v))) = SW cy x0 ad (up σ 13 k v) := SW_ar_set cy x0 ad σ ⟨by decide, by decide⟩ k v
theorem SW_13_setr (g : Nat → Int32) : (SW cy x0 ad σ).set 13 (ad 13, .inl (cy 0, 10, .inl g)) = SW cy x0 ad (upr σ 13 g) := SW_ar_setr cy x0 ad σ ⟨by decide, by decide⟩ g
theorem SW_14 : (SW cy x0 ad σ)[14]? = some (ad 14, .inl (cy 0, 10, .inl (σ 14))) := SW_ar cy x0 ad σ ⟨by decide, by decide⟩
theorem SW_14_set (k : Nat) (v : Int32) : (SW cy x0 ad σ).set 14 (ad 14, .inl (cy 0, 10, .inl (upd (σ 14) k v))) = SW cy x0 ad (up σ 14 k v) := SW_ar_set cy x0 ad σ ⟨by decide, by decide⟩ k v
theorem SW_14_setr (g : Nat → Int32) : (SW cy x0 ad σ).set 14 (ad 14, .inl (cy 0, 10, .inl g)) = SW cy x0 ad (upr σ 14 g) := SW_ar_setr cy x0 ad σ ⟨by decide, by decide⟩ g
theorem SW_15 : (SW cy x0 ad σ)[15]? = some (ad 15, .inl (cy 0, 10, .inl (σ 15))) := SW_ar cy x0 ad σ ⟨by decide, by decide⟩
theorem SW_15_set (k : Nat) (v : Int32) : (SW cy x0 ad σ).set 15 (ad 15, .inl (cy 0, 10, .inl (upd (σ 15) k v))) = SW cy x0 ad (up σ 15 k v) := SW_ar_set cy x0 ad σ ⟨by decide, by decide⟩ k v
theorem SW_15_setr (g : Nat → Int32) : (SW cy x0 ad σ).set 15 (ad 15, .inl (cy 0, 10, .inl g)) = SW cy x0 ad (upr σ 15 g) := SW_ar_setr cy x0 ad σ ⟨by decide, by decide⟩ g
theorem SW_16 : (SW cy x0 ad σ)[16]? = some (ad 16, .inl (cy 0, 40, .inl (σ 16))) := SW_ar cy x0 ad σ ⟨by decide, by decide⟩
theorem SW_16_set (k : Nat) (v : Int32) : (SW cy x0 ad σ).set 16 (ad 16, .inl (cy 0, 40, .inl (upd (σ 16) k v))) = SW cy x0 ad (up σ 16 k v) := SW_ar_set cy x0 ad σ ⟨by decide, by decide⟩ k v
theorem SW_16_setr (g : Nat → Int32) : (SW cy x0 ad σ).set 16 (ad 16, .inl (cy 0, 40, .inl g)) = SW cy x0 ad (upr σ 16 g) := SW_ar_setr cy x0 ad σ ⟨by decide, by decide⟩ g
end SWJ
section GRP
variable {p : Program} {l : Launch} {e : Env} {R : Room} {s : State} {m : MethodId} {args : Array Value} {below : List Frame} {meth : Method} {c : Code} {H : Heap} {locs : List Loc} {cells slots : Nat} {Q : State → Prop}
variable {pc : Nat} {ls : Array Slot} {rest st0 : List Value} {A : Nat → Prop} {H0 : Heap} {cc : ByteArray} {D : va_G} {tys : List (ClassId × FieldType)} {ws : va_W} {a : Nat}
/-- a field is written: the world's new state has a name -/
theorem g_putN {S : Type} {wf : S → va_W} {σ σ1 : S} {own C host : String} {T : u_T} {N ci index : Nat} {Ts : List Cond} (hx : p.tables.exec = Jvm.exec) (hb : c.code = cc) (hts : ∀ w ∈ Ts, w.before args s = true) (hin : ∀ w ∈ u_ws C T N, w ∈ Ts) {ty0 : Nat → FieldType} (hty : ∀ k, k < N → parseFieldDescriptor (T k).2.2.1 = some (ty0 k)) (hnm : ∀ a, a < N → ∀ b, b < N → a ≠ b → (T a).2.1 ≠ (T b).2.1) (hown : s.vm.findClass own = some m.cls) (hK : va_K D vwCl tys s) (hP : va_P D vwCl (wf σ) H) (hD : va_D A (wf σ)) (hS0 : va_S A H0 H locs) (q0 : Nat) {fs : List Value} {v : Int32} (he : (wf σ)[q0]? = some (a, .inr (ci, fs))) (hc : vwCl[ci]? = some (C, T, N)) (k : Nat) (hk : k < N) (hlink : (Cond.fieldLinkNest own index (T k).1 (T k).2.1 (T k).2.2.1 host).before args s = true) (hfin : (T k).2.2.2 = false) (hd : (T k).2.2.1 = "I") (hl : k < fs.length)
    (hset : (wf σ).set q0 (a, .inr (ci, fs.set k (.int v))) = wf σ1) (hdg : decode cc pc = .ok (.putfield index, 3))
    (kk : ∀ u : S, u = σ1 → ∀ (H1 : Heap) (locs1 : List Loc), va_P D vwCl (wf u) H1 → va_D A (wf u) → va_S A H0 H1 locs1 → W p l e R s m args below meth c H1 locs1 cells slots Q (F0 m (pc + 3) ls rest)) : W p l e R s m args below meth c H locs cells slots Q (F0 m pc ls (.int v :: .ref a :: rest)) := by
  refine va_putN (ty := .int) hx hb hts hin ty0 hty hnm hown hK hP hD hS0 q0 he hc k hk hlink (fun _ h9 => h9) hfin (by rw [hd]; decide +kernel) rfl rfl hl hdg ?_
  rw [hset]
  exact fun H1 locs1 h1 h2 h3 => kk σ1 rfl H1 locs1 h1 h2 h3
end GRP
theorem keep_up {σ u : Sg} {b : Nat → Int32} {p k q : Nat} {v : Int32} (e : u = up σ p k v) (h : q ≠ p) (hk : σ q = b) : u q = b := by rw [e, up_row_ne σ k v h]; exact hk
theorem nI_rem (a b : Nat) (ha : a < 2 ^ 31) (hb : b < 2 ^ 31) (h0 : 0 < b) : nI a - nI a / nI b * nI b = nI (a % b) := by
  have ea := nI_toInt ha
  have eb := nI_toInt hb
  have hd : (nI a / nI b).toInt = ((a / b : Nat) : Int) := by
    rw [Int32.toInt_div_of_ne_right _ _ (by intro h; have := congrArg Int32.toInt h; rw [eb] at this; have h2 : (-1 : Int32).toInt = -1 := by decide
                                            omega), ea, eb, ← Int.ofNat_tdiv]
  have hq : a / b * b ≤ a := Nat.div_mul_le_self a b
  have e1 : (nI a / nI b * nI b).toInt = ((a / b * b : Nat) : Int) := by
    rw [Int32.toInt_mul, hd, eb, ← Int.natCast_mul, Int.bmod_eq_of_le_mul_two (by omega) (by omega)]
  apply Int32.toInt_inj.mp
  have hm := Nat.div_add_mod a b
  rw [Nat.mul_comm] at hm
  rw [Int32.toInt_sub, e1, ea, nI_toInt (by have := Nat.mod_lt a h0; omega), Int.bmod_eq_of_le_mul_two (by omega) (by omega)]
  omega
/-! counts of the model are in their bounds -/
def OkN (σ : Sg) : Prop := (σ 0 1 = nI (tn (σ 0 1)) ∧ tn (σ 0 1) ≤ 8) ∧ (σ 0 5 = nI (tn (σ 0 5)) ∧ tn (σ 0 5) ≤ 40) ∧ (σ 0 12 = nI (tn (σ 0 12)) ∧ tn (σ 0 12) ≤ 10)
theorem OkN.c1 {σ : Sg} (h : OkN σ) : σ 0 1 = nI (tn (σ 0 1)) := h.1.1
theorem OkN.n1 {σ : Sg} (h : OkN σ) : tn (σ 0 1) ≤ 8 := h.1.2
theorem OkN.c5 {σ : Sg} (h : OkN σ) : σ 0 5 = nI (tn (σ 0 5)) := h.2.1.1
theorem OkN.n5 {σ : Sg} (h : OkN σ) : tn (σ 0 5) ≤ 40 := h.2.1.2
theorem OkN.c12 {σ : Sg} (h : OkN σ) : σ 0 12 = nI (tn (σ 0 12)) := h.2.2.1
theorem OkN.n12 {σ : Sg} (h : OkN σ) : tn (σ 0 12) ≤ 10 := h.2.2.2
theorem OkN.mv {σ τ : Sg} (h : OkN σ) (hz : τ 0 = σ 0) : OkN τ := by unfold OkN; rw [hz]; exact h
theorem up_z (σ : Sg) (p k : Nat) (v : Int32) (h : p ≠ 0) : up σ p k v 0 = σ 0 := up_row_ne σ k v (Ne.symm h)
theorem tn_lt {x : Int32} {n : Nat} (h : vp_in x n) : tn x < n := tn_in h
