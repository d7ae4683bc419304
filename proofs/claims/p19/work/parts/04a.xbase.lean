/-! methods that answer or throw: a spec is a String (the class thrown) or an answer and a state -/
def xb {α β : Type} (a : String ⊕ α) (f : α → String ⊕ β) : String ⊕ β := match a with
  | .inl E => .inl E
  | .inr x => f x
theorem xb_l {α β : Type} {a : String ⊕ α} {f : α → String ⊕ β} {E : String} (h : a = .inl E) : xb a f = .inl E := by rw [h]; rfl
theorem xb_r {α β : Type} {a : String ⊕ α} {f : α → String ⊕ β} {x : α} (h : a = .inr x) : xb a f = f x := by rw [h]; rfl
def gSt (A : Nat → Prop) (U : State) (H : Heap) : Prop := vx_Zq Bundle.tN "UNASSIGNED_STACK" Bundle.steD A U H ∧ vx_Zq Bundle.tN "SUPPRESSED_SENTINEL" Bundle.listD A U H
def txs : List (Nat × String) := [(150, "there are 40 umbrellas"), (181, "no such shelter"), (187, "no such umbrella"), (192, "no such citizen"), (194, "nothing is told by this number"), (196, "hour is 0 to 23"), (198, "hours is less than 1, or too many"), (25, "place is 0 to 99, demand 0 to 10"), (40, "the place is taken, or there are 8 shelters"), (51, "many is 1 to 10"), (56, "there would be more than 40 umbrellas"), (61, "home and work differ, leaves and returns too"), (66, "leaves and returns are 0 to 23, forgets is 1 to 9"), (71, "there are 10 citizens"), (80, "rain is 0 to 9"), (86, "demand is 0 to 10")]
def exs : List String := ["java/lang/IllegalArgumentException", "java/lang/IllegalStateException", "java/lang/IndexOutOfBoundsException"]
def dcs : List String := ["java/lang/RuntimeException", "java/lang/Exception", "java/lang/Throwable"]
def gTx (U : State) : Prop := (∀ q ∈ txs, ∃ a : Nat, vk_R RX4 q.1 q.2 a U) ∧ (∀ E ∈ exs, va_Nw (.castable E E) U) ∧ ∀ E ∈ dcs, va_Nw (.declares (Bundle.initS E)) U
theorem gSt.moved {A : Nat → Prop} {u U : State} {H : Heap} (hvm : u.vm.Alike U.vm) (h : gSt A u H) : gSt A U H := ⟨vx_Zq.moved hvm h.1, vx_Zq.moved hvm h.2⟩
theorem gSt.kept {A : Nat → Prop} {U : State} {H H1 : Heap} (h : gSt A U H) (hq : ∀ a : Nat, a < H.size → ¬ A a → H1[a]? = H[a]?) : gSt A U H1 := ⟨vx_Zq.kept h.1 hq, vx_Zq.kept h.2 hq⟩
theorem gSt.narrow {A B : Nat → Prop} {U : State} {H : Heap} (h : gSt A U H) (hAB : ∀ q, B q → A q) : gSt B U H := ⟨vx_Zq.narrow h.1 hAB, vx_Zq.narrow h.2 hAB⟩
theorem gTx.same {u U : State} (hv : U.vm = u.vm) (h : gTx u) : gTx U := ⟨fun q hq => by
  obtain ⟨a, ha⟩ := h.1 q hq
  exact ⟨a, vk_R.same hv ha⟩, fun E hE => va_tabs rfl hv.symm (h.2.1 E hE), fun E hE => va_tabs rfl hv.symm (h.2.2 E hE)⟩
theorem gTx.warm {s U : State} (hW : s.WarmedH U.vm) (h : gTx s) : gTx U := ⟨fun q hq => by
  obtain ⟨a, ha⟩ := h.1 q hq
  exact ⟨a, vk_R.warm hW ha⟩, fun E hE => va_Nw.warmC hW (h.2.1 E hE), fun E hE => va_tabs rfl (rfl : (s.setVm U.vm).vm = U.vm) (by rw [Cond.declares_setVm hW.alike]; exact h.2.2 E hE)⟩
theorem hat_x {args : Array Value} {s : State} {ic : Nat} {E : String} {names : List String} (h1 : ∀ w ∈ (vx_atS RX4 ic E names).filter goodWord, w.before args s = true) (hn : (vx_atS RX4 ic E names).filter (fun w => !goodWord w) = [.declares (Bundle.initS "java/lang/RuntimeException"), .declares (Bundle.initS "java/lang/Exception"), .declares (Bundle.initS "java/lang/Throwable"), .castable E E]) (hE : E ∈ exs) (htx : gTx s) : ∀ w ∈ vx_atS RX4 ic E names, w.before args s = true :=
  vx_hat h1 (fun w h => by rw [hn] at h; exact h) (vx_c (va_Nw.use (A := args) rfl (htx.2.2 _ (by decide))) (vx_c (va_Nw.use (A := args) rfl (htx.2.2 _ (by decide))) (vx_c (va_Nw.use (A := args) rfl (htx.2.2 _ (by decide))) (vx_c (va_Nw.use (A := args) rfl (htx.2.1 E hE)) vx_n))))
def gPreX {S : Type} (D : va_G) (tys : List (ClassId × FieldType)) (wf : S → va_W) (σ : S) (sz : Nat) : State → Prop := fun U => gPre D tys wf σ sz U ∧ gSt (va_A (wf σ) sz) U U.heap ∧ gTx U
def gXC {S : Type} {α : Type} (D : va_G) (wf : S → va_W) (σ : S) (f : String ⊕ α) (A : Nat → Prop) : String → State → State → Prop := vx_X (fun u : S => u = σ) (fun E u t => f = .inl E ∧ gPost D wf A u t) A
def gMx {S : Type} (l : Launch) (y : MethodName) (ws : List Cond) (rm : Room) (D : va_G) (tys : List (ClassId × FieldType)) (wf : S → va_W) (av : List Value) (σ : S) (f : String ⊕ (Int32 × S)) (mc ms : Nat) : Prop :=
  l.stackTraces = false → ∀ sz : Nat, vx_Met l y ws rm (va_Pc av (gPreX D tys wf σ sz)) (va_Qi (fun r u => f = .inr (r, u)) (gPost D wf (va_A (wf σ) sz)) (va_A (wf σ) sz)) (gXC D wf σ f (va_A (wf σ) sz)) mc ms (va_A (wf σ) sz)
def gMxv {S : Type} (l : Launch) (y : MethodName) (ws : List Cond) (rm : Room) (D : va_G) (tys : List (ClassId × FieldType)) (wf : S → va_W) (av : List Value) (σ : S) (f : String ⊕ Unit) (mc ms : Nat) : Prop :=
  l.stackTraces = false → ∀ sz : Nat, vx_Met l y ws rm (va_Pc av (gPreX D tys wf σ sz)) (va_Qv (fun u => f = .inr () ∧ u = σ) (gPost D wf (va_A (wf σ) sz)) (va_A (wf σ) sz)) (gXC D wf σ f (va_A (wf σ) sz)) mc ms (va_A (wf σ) sz)
theorem gPreX_blind {S : Type} {D : va_G} {tys : List (ClassId × FieldType)} {wf : S → va_W} {σ : S} {sz : Nat} {av : List Value} : FrameBlind (va_Pc av (gPreX D tys wf σ sz)) := by
  intro a U g mk h
  obtain ⟨h0, ⟨h1, h2, h3, h4⟩, h5, h6⟩ := h
  exact ⟨h0, ⟨h1, h2, va_K.moved (u := U) (U := U.calling g mk a) (Vm.Alike.refl U.vm) h3, h4⟩, gSt.moved (u := U) (U := U.calling g mk a) (Vm.Alike.refl U.vm) h5, gTx.same (u := U) (U := U.calling g mk a) rfl h6⟩
section GSX
variable {S : Type} {l : Launch} {y : MethodName} {ws ws' : List Cond} {rm : Room} {D : va_G} {tys : List (ClassId × FieldType)} {wf : S → va_W} {av : List Value} {σ : S} {mc ms : Nat}
theorem gstartx {f : String ⊕ (Int32 × S)} {rt : FieldType} (cc : ByteArray) (maxL : Nat) (own : String) (hy : plainName y.cls = true) (hw : ws = Cond.code y cc maxL (some rt) :: ws') (hown0 : y.cls = own) (hn : (lg_sl av).length ≤ maxL)
    (body : ∀ (p : Program) (e : Env) (s : State) (m : MethodId) (below : List Frame) (meth : Method) (c : Code) (A : Nat → Prop) (ls : Array Slot), p.tables.exec = Jvm.exec → c.code = cc → c.maxLocals = maxL → s.vm.findClass own = some m.cls → (∀ w ∈ ws, w.before av.toArray s = true) → meth.sig.returnType = some rt → meth.locks = false → va_K D vwCl tys s → va_P D vwCl (wf σ) s.heap → va_D A (wf σ) → (∀ q : Nat, s.heap.size ≤ q → A q) → va_S A s.heap s.heap [] → lv_has ls maxL (lv_args 0 av) → l.stackTraces = false → (∀ x ∈ c.exceptionTable.toList, False) → gSt A s s.heap → gTx s →
      W p l e rm s m av.toArray below meth c s.heap [] 0 0 (vx_MQ below (va_Qi (fun r u => f = .inr (r, u)) (gPost D wf A) A) (gXC D wf σ f A) av.toArray s mc ms A) (F0 m 0 ls [])) : gMx l y ws rm D tys wf av σ f mc ms := by
  intro hl sz
  refine vx_ofW (cc := cc) (maxL := maxL) (ret := some rt) hy hw ?_
  intro p e s m args below meth c s₁ B hml hT hv
  obtain ⟨rfl, ⟨hsz, hP, hK, hD0⟩, hst, htx⟩ := hv
  have hts := atoms_spec (ws := ws) B.pre
  have hown : s.vm.findClass own = some m.cls := by rw [← hown0]; exact findClass_of_methodNamed B.named
  subst hsz
  have hD := hD0.self (sz := s.heap.size)
  have hA : ∀ q : Nat, s.heap.size ≤ q → va_A (wf σ) s.heap.size q := fun q h => Or.inr h
  rw [lg_entry_eq]
  exact body p e s m below meth c _ _ B.exec B.bytes hml hown hts B.returns B.notSynchronized hK hP hD hA va_S.rf (lv_entry av hn) hl hT hst htx
theorem gstartxv {f : String ⊕ Unit} (cc : ByteArray) (maxL : Nat) (own : String) (hy : plainName y.cls = true) (hw : ws = Cond.code y cc maxL none :: ws') (hown0 : y.cls = own) (hn : (lg_sl av).length ≤ maxL)
    (body : ∀ (p : Program) (e : Env) (s : State) (m : MethodId) (below : List Frame) (meth : Method) (c : Code) (A : Nat → Prop) (ls : Array Slot), p.tables.exec = Jvm.exec → c.code = cc → c.maxLocals = maxL → s.vm.findClass own = some m.cls → (∀ w ∈ ws, w.before av.toArray s = true) → meth.sig.returnType = none → meth.locks = false → va_K D vwCl tys s → va_P D vwCl (wf σ) s.heap → va_D A (wf σ) → (∀ q : Nat, s.heap.size ≤ q → A q) → va_S A s.heap s.heap [] → lv_has ls maxL (lv_args 0 av) → l.stackTraces = false → (∀ x ∈ c.exceptionTable.toList, False) → gSt A s s.heap → gTx s →
      W p l e rm s m av.toArray below meth c s.heap [] 0 0 (vx_MQ below (va_Qv (fun u => f = .inr () ∧ u = σ) (gPost D wf A) A) (gXC D wf σ f A) av.toArray s mc ms A) (F0 m 0 ls [])) : gMxv l y ws rm D tys wf av σ f mc ms := by
  intro hl sz
  refine vx_ofW (cc := cc) (maxL := maxL) (ret := none) hy hw ?_
  intro p e s m args below meth c s₁ B hml hT hv
  obtain ⟨rfl, ⟨hsz, hP, hK, hD0⟩, hst, htx⟩ := hv
  have hts := atoms_spec (ws := ws) B.pre
  have hown : s.vm.findClass own = some m.cls := by rw [← hown0]; exact findClass_of_methodNamed B.named
  subst hsz
  have hD := hD0.self (sz := s.heap.size)
  have hA : ∀ q : Nat, s.heap.size ≤ q → va_A (wf σ) s.heap.size q := fun q h => Or.inr h
  rw [lg_entry_eq]
  exact body p e s m below meth c _ _ B.exec B.bytes hml hown hts B.returns B.notSynchronized hK hP hD hA va_S.rf (lv_entry av hn) hl hT hst htx
end GSX
section GRX
variable {p : Program} {l : Launch} {e : Env} {R : Room} {s : State} {m : MethodId} {args : Array Value} {below : List Frame} {meth : Method} {c : Code} {H : Heap} {locs : List Loc} {cells slots : Nat} {Q : State → Prop}
variable {pc : Nat} {ls : Array Slot} {rest st0 : List Value} {A : Nat → Prop} {H0 : Heap} {cc : ByteArray} {D : va_G} {tys : List (ClassId × FieldType)} {ws : va_W} {a : Nat}
theorem g_endxv {S : Type} {wf : S → va_W} {σ : S} {f : String ⊕ Unit} {mc ms : Nat} (hx : p.tables.exec = Jvm.exec) (hb : c.code = cc) (hr : meth.sig.returnType = none) (hlocks : meth.locks = false) (hf : f = .inr ()) (hP : va_P D vwCl (wf σ) H) (hD : va_D A (wf σ)) (hS : va_S A s.heap H locs) (hc : cells ≤ mc) (hs : slots ≤ ms) (hdg : decode cc pc = .ok (.return_, 1)) :
    W p l e R s m args below meth c H locs cells slots (vx_MQ below (va_Qv (fun u => f = .inr () ∧ u = σ) (gPost D wf A) A) (gXC D wf σ f A) args s mc ms A) (F0 m pc ls []) := by
  refine vx_ret (W.widen hc hs ?_)
  exact W.vret hx hb hr (fun t ht hW => ⟨⟨σ, rfl, ⟨hf, rfl⟩, by rw [ht]; exact hP, hD⟩, hS.F ht⟩) hS.2.2 hdg hlocks
theorem g_endxi {S : Type} {wf : S → va_W} {σ u : S} {v : Int32} {f : String ⊕ (Int32 × S)} {rt : FieldType} {mc ms : Nat} (hx : p.tables.exec = Jvm.exec) (hb : c.code = cc) (hr : meth.sig.returnType = some rt) (hlocks : meth.locks = false) (hn : narrow rt (.int v) = .int v) (hf : f = .inr (v, u)) (hP : va_P D vwCl (wf u) H) (hD : va_D A (wf u)) (hS : va_S A s.heap H locs) (hc : cells ≤ mc) (hs : slots ≤ ms) (hdg : decode cc pc = .ok (.ireturn, 1)) :
    W p l e R s m args below meth c H locs cells slots (vx_MQ below (va_Qi (fun r u => f = .inr (r, u)) (gPost D wf A) A) (gXC D wf σ f A) args s mc ms A) (F0 m pc ls [.int v]) := by
  refine vx_ret (W.widen hc hs ?_)
  exact W.zret hx hb hr hn (fun t ht hW => ⟨⟨v, u, rfl, hf, by rw [ht]; exact hP, hD⟩, hS.F ht⟩) hS.2.2 hdg hlocks
/-- the end by a throw of the class's own -/
theorem g_throw {S α : Type} {wf : S → va_W} {σ : S} {f : String ⊕ α} {Qc : Array Value → State → Outcome → State → Prop} {mc ms : Nat} {cls text : String} {ik is ic : Nat} (hx : p.tables.exec = Jvm.exec) (hb : c.code = cc) (hml : c.maxLocals = ls.size) (hl : l.stackTraces = false) (hown : s.vm.findClass RX4 = some m.cls) (hcls : Bundle.fit cls = true)
    (hk : (Cond.classLink RX4 ik cls).before args s = true) (hini : (Cond.initialized cls).before args s = true) (hat : ∀ w ∈ vx_atS RX4 ic cls ["java/lang/RuntimeException", "java/lang/Exception"], w.before args s = true)
    (hgood : ∀ w ∈ Cond.classLink RX4 ik cls :: Cond.initialized cls :: vx_atS RX4 ic cls ["java/lang/RuntimeException", "java/lang/Exception"], vx_ot w = true)
    (htx : gTx s) (hq : (is, text) ∈ txs) (hst : gSt A s s.heap) (hT : ∀ x ∈ c.exceptionTable.toList, False) (hlocks : meth.locks = false) (hf : f = .inl cls) (hP : va_P D vwCl (wf σ) H) (hD : va_D A (wf σ)) (hS : va_S A s.heap H locs) 
    (d0 : decode cc pc = .ok (.new ik, 3)) (d3 : decode cc (pc + 3) = .ok (.dup, 1)) (d4 : decode cc (pc + 4) = .ok (.ldc is, 2)) (d6 : decode cc (pc + 6) = .ok (.invokespecial ic, 3)) (d9 : decode cc (pc + 9) = .ok (.athrow, 1))
    (hR1 : 5 < R.frames) (hR2 : (rest.map fun v => v.category).sum + 82 ≤ R.locals) (hR3 : cells + 1 ≤ R.cells) (hR4 : slots + 6 ≤ R.slots) (hc : cells + 1 ≤ mc) (hs : slots + 6 ≤ ms) :
    W p l e R s m args below meth c H locs cells slots (vx_MQ below Qc (gXC D wf σ f A) args s mc ms A) (F0 m pc ls rest) := by
  obtain ⟨sa, hsa⟩ := htx.1 _ hq
  refine vx_throwS (names := ["java/lang/RuntimeException", "java/lang/Exception"]) hx hb hl hown hcls (by decide +kernel) hk hini hsa hat hgood hst.1 hst.2 hS hml.symm d0 d3 d4 d6 d9 (fun x h => (hT x h).elim) hR1 hR2 hR3 hR4 hlocks ?_ hS.2.2 hc hs
  intro t hvm hsz hk9
  refine ⟨σ, rfl, ⟨hf, hP.kept (fun k q hq => hk9 q.1 (hP k q hq).lt), hD⟩, Nat.le_trans hS.1 hsz, fun q h1 h2 => (hk9 q (Nat.lt_of_lt_of_le h1 hS.1)).trans (hS.2.1 q h1 h2)⟩
/-- a call that answers, or throws on: void, virtual -/
theorem g_callxv {S Sc α : Type} {wf : S → va_W} {σ : S} {wfc : Sc → va_W} {σc : Sc} {fc : String ⊕ Unit} {f : String ⊕ α} {Qc : Array Value → State → Outcome → State → Prop} {mc0 ms0 : Nat} {y : MethodName} {bytes : ByteArray} {maxL nL mc ms n index cells2 slots2 : Nat} {wc : List Cond} {rm : Room} {Ts : List Cond} {own C : String} {ci q0 : Nat} {fs : List Value} {cl0 : vw_C}
    (hl : l.stackTraces = false) (hT : ∀ x ∈ c.exceptionTable.toList, False) (hst : gSt A s s.heap) (htx : gTx s) (hlocks : meth.locks = false)
    (hx : p.tables.exec = Jvm.exec) (hb : c.code = cc) (hml : c.maxLocals = nL) (hown : s.vm.findClass own = some m.cls) (hts : ∀ w ∈ Ts, w.before args s = true) (hK : va_K D vwCl tys s) (hP : va_P D vwCl (wf σ) H) (hD : va_D A (wf σ)) (hS : va_S A s.heap H locs) (hA : ∀ q : Nat, s.heap.size ≤ q → A q) (hsz : ls.size = nL)
    (wr : va_W) (hp1 : (wf σ).Perm (wfc σc ++ wr))
    (As : List Value) (hM : gMxv l y wc rm D tys wfc (.ref a :: As) σc fc mc ms) (cw : CallW R s args own C index y bytes maxL none wc rm mc ms n) (he : (wf σ)[q0]? = some (a, .inr (ci, fs))) (hc : vwCl[ci]? = some cl0) (hC : cl0.1 = C) (hn : As.length = n) (hstk : st0 = As.reverse ++ .ref a :: rest) (hW : (rest.map fun v => v.category).sum ≤ 8) (hdg : decode cc pc = .ok (.invokevirtual index, 3)) (hroom : cells + mc ≤ R.cells ∧ slots + ms ≤ R.slots) (hc2 : cells + mc = cells2) (hs2 : slots + ms = slots2)
    (hfx : ∀ E, fc = .inl E → f = .inl E) (hmc : cells + mc ≤ mc0) (hms : slots + ms ≤ ms0)
    (kk : fc = .inr () → ∀ (H1 : Heap) (locs1 : List Loc), va_P D vwCl (wf σ) H1 → va_D A (wf σ) → va_S A s.heap H1 locs1 → W p l e R s m args below meth c H1 locs1 cells2 slots2 (vx_MQ below Qc (gXC D wf σ f A) args s mc0 ms0 A) (F0 m (pc + 3) ls rest)) : W p l e R s m args below meth c H locs cells slots (vx_MQ below Qc (gXC D wf σ f A) args s mc0 ms0 A) (F0 m pc ls st0) := by
  subst hc2; subst hs2; subst hstk
  have hP1 := va_P_perm hp1 hP
  have hD1 := va_D_perm hp1 hD
  have hF := g_free hD1 hS hA
  have hst1 : gSt (va_A (wfc σc) H.size) s H := (hst.kept (fun q h1 h2 => hS.2.1 q h1 h2)).narrow hF
  refine vx_callv (vx_runV (As := As) (rest := rest) ⟨hx, hb, hml, hown, hts⟩ (hM hl H.size) cw ⟨gPreX_blind, ?_, fun U hU hW => ⟨rfl, ⟨by rw [hU], by rw [hU]; exact va_P_l hP1, va_K.moved hW.alike hK, (va_D_l hD1).weaken (fun _ _ _ _ => trivial)⟩, by rw [hU]; exact hst1.moved hW.alike, htx.warm hW⟩⟩ rfl hn hsz rfl (lv_room hW) hdg hroom) hS (fun q _ h => hF q h) hF (fun q _ h => hF q h) (fun E ce q9 u t H1 locs1 ht hvm hpx hB hz1 hk1 hS1 hcell hcv hcl => ?_) (fun u t H1 locs1 ht hvm hw hB hz1 hk1 hS1 => ?_)
  · obtain ⟨cell, h1, h2, h3⟩ := va_recv hK hP hc he
    exact ⟨cell, h1, h2, by rw [← hC]; exact h3⟩
  · subst hpx
    obtain ⟨hfE, g1, g2⟩ := hB
    rw [ht] at g1
    obtain ⟨j1, j2⟩ := g_join hP1 hD1 hk1 hF g1 g2
    refine vx_out (fun x h => (hT x h).elim) hlocks hcell hcv hcl (fun t2 ht2 hvm2 => ⟨σ, rfl, ⟨hfx E hfE, by rw [ht2]; exact va_P_perm hp1.symm j1, va_D_perm hp1.symm j2⟩, hS1.F ht2⟩) hS1.2.2 hmc hms
  · obtain ⟨g1, g2⟩ := hB
    rw [ht] at g1
    obtain ⟨j1, j2⟩ := g_join hP1 hD1 hk1 hF g1 g2
    obtain ⟨hw, hu⟩ := hw
    subst hu
    exact kk hw H1 locs1 (va_P_perm hp1.symm j1) (va_D_perm hp1.symm j2) hS1
/-- void, static -/
theorem g_callxsv {S Sc α : Type} {wf : S → va_W} {σ : S} {wfc : Sc → va_W} {σc : Sc} {fc : String ⊕ Unit} {f : String ⊕ α} {Qc : Array Value → State → Outcome → State → Prop} {mc0 ms0 : Nat} {y : MethodName} {bytes : ByteArray} {maxL nL mc ms n index cells2 slots2 : Nat} {wc : List Cond} {rm : Room} {Ts : List Cond} {own : String}
    (hl : l.stackTraces = false) (hT : ∀ x ∈ c.exceptionTable.toList, False) (hst : gSt A s s.heap) (htx : gTx s) (hlocks : meth.locks = false)
    (hx : p.tables.exec = Jvm.exec) (hb : c.code = cc) (hml : c.maxLocals = nL) (hown : s.vm.findClass own = some m.cls) (hts : ∀ w ∈ Ts, w.before args s = true) (hK : va_K D vwCl tys s) (hP : va_P D vwCl (wf σ) H) (hD : va_D A (wf σ)) (hS : va_S A s.heap H locs) (hA : ∀ q : Nat, s.heap.size ≤ q → A q) (hsz : ls.size = nL)
    (wr : va_W) (hp1 : (wf σ).Perm (wfc σc ++ wr))
    (As : List Value) (hM : gMxv l y wc rm D tys wfc As σc fc mc ms) (cw : CallB R s args own index y bytes maxL none wc rm mc ms n ∧ (Cond.static y).before args s = true) (hn : As.length = n) (hstk : st0 = As.reverse ++ rest) (hW : (rest.map fun v => v.category).sum ≤ 8) (hdg : decode cc pc = .ok (.invokestatic index, 3)) (hroom : cells + mc ≤ R.cells ∧ slots + ms ≤ R.slots) (hc2 : cells + mc = cells2) (hs2 : slots + ms = slots2)
    (hfx : ∀ E, fc = .inl E → f = .inl E) (hmc : cells + mc ≤ mc0) (hms : slots + ms ≤ ms0)
    (kk : fc = .inr () → ∀ (H1 : Heap) (locs1 : List Loc), va_P D vwCl (wf σ) H1 → va_D A (wf σ) → va_S A s.heap H1 locs1 → W p l e R s m args below meth c H1 locs1 cells2 slots2 (vx_MQ below Qc (gXC D wf σ f A) args s mc0 ms0 A) (F0 m (pc + 3) ls rest)) : W p l e R s m args below meth c H locs cells slots (vx_MQ below Qc (gXC D wf σ f A) args s mc0 ms0 A) (F0 m pc ls st0) := by
  subst hc2; subst hs2; subst hstk
  have hP1 := va_P_perm hp1 hP
  have hD1 := va_D_perm hp1 hD
  have hF := g_free hD1 hS hA
  have hst1 : gSt (va_A (wfc σc) H.size) s H := (hst.kept (fun q h1 h2 => hS.2.1 q h1 h2)).narrow hF
  refine vx_callv (vx_runS (As := As) (rest := rest) ⟨hx, hb, hml, hown, hts⟩ (hM hl H.size) cw ⟨gPreX_blind, fun U hU hW => ⟨rfl, ⟨by rw [hU], by rw [hU]; exact va_P_l hP1, va_K.moved hW.alike hK, (va_D_l hD1).weaken (fun _ _ _ _ => trivial)⟩, by rw [hU]; exact hst1.moved hW.alike, htx.warm hW⟩⟩ rfl hn hsz rfl (lv_room hW) hdg hroom) hS (fun q _ h => hF q h) hF (fun q _ h => hF q h) (fun E ce q9 u t H1 locs1 ht hvm hpx hB hz1 hk1 hS1 hcell hcv hcl => ?_) (fun u t H1 locs1 ht hvm hw hB hz1 hk1 hS1 => ?_)
  · subst hpx
    obtain ⟨hfE, g1, g2⟩ := hB
    rw [ht] at g1
    obtain ⟨j1, j2⟩ := g_join hP1 hD1 hk1 hF g1 g2
    refine vx_out (fun x h => (hT x h).elim) hlocks hcell hcv hcl (fun t2 ht2 hvm2 => ⟨σ, rfl, ⟨hfx E hfE, by rw [ht2]; exact va_P_perm hp1.symm j1, va_D_perm hp1.symm j2⟩, hS1.F ht2⟩) hS1.2.2 hmc hms
  · obtain ⟨g1, g2⟩ := hB
    rw [ht] at g1
    obtain ⟨j1, j2⟩ := g_join hP1 hD1 hk1 hF g1 g2
    obtain ⟨hw, hu⟩ := hw
    subst hu
    exact kk hw H1 locs1 (va_P_perm hp1.symm j1) (va_D_perm hp1.symm j2) hS1
end GRX

theorem ng_23 : (vx_atS RX4 27 "java/lang/IllegalArgumentException" ["java/lang/RuntimeException", "java/lang/Exception"]).filter (fun w => !goodWord w) = [.declares (Bundle.initS "java/lang/RuntimeException"), .declares (Bundle.initS "java/lang/Exception"), .declares (Bundle.initS "java/lang/Throwable"), .castable "java/lang/IllegalArgumentException" "java/lang/IllegalArgumentException"] := by decide +kernel
theorem ot_23 : ∀ w ∈ Cond.classLink RX4 23 "java/lang/IllegalArgumentException" :: Cond.initialized "java/lang/IllegalArgumentException" :: vx_atS RX4 27 "java/lang/IllegalArgumentException" ["java/lang/RuntimeException", "java/lang/Exception"], vx_ot w = true := by decide +kernel
theorem ng_38 : (vx_atS RX4 42 "java/lang/IllegalStateException" ["java/lang/RuntimeException", "java/lang/Exception"]).filter (fun w => !goodWord w) = [.declares (Bundle.initS "java/lang/RuntimeException"), .declares (Bundle.initS "java/lang/Exception"), .declares (Bundle.initS "java/lang/Throwable"), .castable "java/lang/IllegalStateException" "java/lang/IllegalStateException"] := by decide +kernel
theorem ot_38 : ∀ w ∈ Cond.classLink RX4 38 "java/lang/IllegalStateException" :: Cond.initialized "java/lang/IllegalStateException" :: vx_atS RX4 42 "java/lang/IllegalStateException" ["java/lang/RuntimeException", "java/lang/Exception"], vx_ot w = true := by decide +kernel
theorem ng_179 : (vx_atS RX4 183 "java/lang/IndexOutOfBoundsException" ["java/lang/RuntimeException", "java/lang/Exception"]).filter (fun w => !goodWord w) = [.declares (Bundle.initS "java/lang/RuntimeException"), .declares (Bundle.initS "java/lang/Exception"), .declares (Bundle.initS "java/lang/Throwable"), .castable "java/lang/IndexOutOfBoundsException" "java/lang/IndexOutOfBoundsException"] := by decide +kernel
theorem ot_179 : ∀ w ∈ Cond.classLink RX4 179 "java/lang/IndexOutOfBoundsException" :: Cond.initialized "java/lang/IndexOutOfBoundsException" :: vx_atS RX4 183 "java/lang/IndexOutOfBoundsException" ["java/lang/RuntimeException", "java/lang/Exception"], vx_ot w = true := by decide +kernel
/-! THE CLASS: the object, the republic now, the one ahead -/
abbrev xoC (ax ad ad2 : Nat → Nat) : va_W := [(ax 0, .inr (4, [.ref (ad 0), .ref (ad2 0)]))]
abbrev CW (cy : Nat → ClassId) (ax ad ad2 : Nat → Nat) (u : Sg × Sg) : va_W := xoC ax ad ad2 ++ (RW cy ad u.1 ++ RW cy ad2 u.2)
theorem CW_xo (cy : Nat → ClassId) (ax : Nat → Nat) {ad ad2 : Nat → Nat} (u : Sg × Sg) : (CW cy ax ad ad2 u)[0]? = some (ax 0, .inr (4, [.ref (ad 0), .ref (ad2 0)])) := rfl
theorem pm_n {X N B : va_W} : (X ++ (N ++ B)).Perm (N ++ (X ++ B)) := by
  rw [← List.append_assoc, ← List.append_assoc]
  exact List.Perm.append_right B List.perm_append_comm
theorem pm_a {X N B : va_W} : (X ++ (N ++ B)).Perm (B ++ (X ++ N)) := by
  rw [← List.append_assoc]
  exact List.perm_append_comm
theorem pm_x {X N : va_W} : (X ++ N).Perm (N ++ X) := List.perm_append_comm
theorem ok_X1_becomeLike (σ : Sg × Sg) (h : OkR σ.1) : OkR (s_X1_becomeLike σ).2 := by
  have hJ : JB σ (s_X1_becomeLike σ) := by
    unfold s_X1_becomeLike
    simp only [ltt]
    exact JB_of (JB_of (JB_of (τ := (σ.1, up (up (up (up (up (upr σ.2 1 (va_cpy (σ.1 1) (σ.2 1) 0 0 24)) 0 4 (σ.1 0 4)) 0 5 (σ.1 0 5)) 0 6 (σ.1 0 6)) 0 7 (σ.1 0 7)) 0 8 (σ.1 0 8))) ⟨rfl, h.c5, h.c6, h.c7⟩ (zl_X1_becomeLike_57 _ _ _ _)) (zl_X1_becomeLike_88 _ _ _ _)) (zl_X1_becomeLike_119 _ _ _ _)
  obtain ⟨h1, h5, h6, h7⟩ := hJ
  have n5 := h.n5; have n6 := h.n6; have n7 := h.n7
  refine ⟨⟨?_, ?_⟩, ⟨?_, ?_⟩, ?_, ?_⟩ <;> first | rw [h5] | rw [h6] | rw [h7]
  all_goals first | rw [tn_nI (by omega)] | skip
  all_goals first | rfl | omega
theorem z1_X1_becomeLike (σ : Sg × Sg) : (s_X1_becomeLike σ).1 = σ.1 := by
  unfold s_X1_becomeLike
  simp only [ltt]
  rw [(zl_X1_becomeLike_119 _ _ _ _).1, (zl_X1_becomeLike_88 _ _ _ _).1, (zl_X1_becomeLike_57 _ _ _ _).1]
theorem ok_X1_addUmbrella (σ : Sg) (x : Int32) (h : OkR σ) : OkR (s_X1_addUmbrella σ x) := by
  unfold s_X1_addUmbrella
  simp only [ltt]
  have n6 := h.n6
  split
  · exact h
  · rename_i hc
    have hlt : tn (σ 0 6) < 40 := by
      have h9 := hc
      rw [nI_leI (by omega) (by omega)] at h9
      omega
    have hz : ∀ k, (s_X3_beNewIn σ (tn (σ 0 6)) x) 0 k = σ 0 k := fun k => congrFun (z_X3_beNewIn σ (tn (σ 0 6)) x) k
    have e6 : up (s_X3_beNewIn σ (tn (σ 0 6)) x) 0 6 (nI (tn (σ 0 6) + 1)) 0 6 = nI (tn (σ 0 6) + 1) := up_s _ _ _ _
    have e5 : up (s_X3_beNewIn σ (tn (σ 0 6)) x) 0 6 (nI (tn (σ 0 6) + 1)) 0 5 = σ 0 5 := (up_ne _ _ (by decide)).trans (hz 5)
    have e7 : up (s_X3_beNewIn σ (tn (σ 0 6)) x) 0 6 (nI (tn (σ 0 6) + 1)) 0 7 = σ 0 7 := (up_ne _ _ (by decide)).trans (hz 7)
    unfold OkR
    rw [e5, e6, e7, tn_nI (by omega)]
    exact ⟨h.1, ⟨rfl, by omega⟩, h.2.2⟩
