section GNW
variable {p : Program} {l : Launch} {e : Env} {R : Room} {s : State} {m : MethodId} {args : Array Value} {below : List Frame} {meth : Method} {c : Code} {H : Heap} {locs : List Loc} {cells slots : Nat} {Q : State → Prop}
variable {pc : Nat} {ls : Array Slot} {rest : List Value} {A : Nat → Prop} {H0 : Heap} {cc : ByteArray} {D : va_G}
theorem g_newi {cy : Nat → ClassId} {ws : va_W} {n : Nat} (hx : p.tables.exec = Jvm.exec) (hb : c.code = cc) (harr : (Cond.arrayClass .int).before args s = true) (hK : va_K D vwCl (Ty cy) s) (hP : va_P D vwCl ws H) (hD : va_D A ws) (hS : va_S A H0 H locs) (hA : ∀ q, H0.size ≤ q → A q)
    (hn : n < 1000) (hcells : cells + 1 ≤ R.cells) (hslots : slots + n ≤ R.slots) (hdg : decode cc pc = .ok (.newarray .int, 2))
    (kk : ∀ (q : Nat) (H1 : Heap), va_P D vwCl (ws ++ [(q, .inl (cy 0, n, .inl (fun _ => (0 : Int32))))]) H1 → va_D A (ws ++ [(q, .inl (cy 0, n, .inl (fun _ => (0 : Int32))))]) → va_S A H0 H1 locs →
      W p l e R s m args below meth c H1 locs (cells + 1) (slots + n) Q (F0 m (pc + 2) ls (.ref q :: rest))) : W p l e R s m args below meth c H locs cells slots Q (F0 m pc ls (.int (nI n) :: rest)) := by
  refine va_newa (atype := .int) (ty := .int) (N' := n) (a0 := (n, .inl (fun _ => (0 : Int32)))) hx hb harr rfl hK hP hD hS hA (fun cA => rfl) (nI_pos (by omega)) (nI_clamp (by omega)) ?_ hcells hslots hdg (fun q cA H1 hK1 hP1 hD1 hS1 => ?_)
  · show n * 4 ≤ 536870912
    omega
  · have h0 : va_RA s (cy 0) .int := (hK.2 0 (cy 0, .int) rfl).2
    have h1 : va_RA s cA .int := (hK1.2 (Ty cy).length (cA, .int) (by rw [List.getElem?_append_right (Nat.le_refl _)]; simp)).2
    have hc : cA = cy 0 := Option.some.inj (h1.symm.trans h0)
    subst hc
    exact kk q H1 hP1 hD1 hS1
end GNW
/-! constructors: the world that they make -/
def gCw (U : State) : Prop := (va_AO "UmbrellaLand$Shelter" U ∧ va_AO "UmbrellaLand$Umbrella" U ∧ va_AO "UmbrellaLand$Citizen" U) ∧ (va_Nw (.methodLinkNest RX1 33 yX2_init "UmbrellaLand") U ∧ va_Nw (.methodLinkNest RX1 34 yX3_init "UmbrellaLand") U ∧ va_Nw (.methodLinkNest RX1 35 yX0_init "UmbrellaLand") U)
theorem gCw.same {u U : State} (hA : u.vm.Alike U.vm) (hv : U.vm = u.vm) (h : gCw u) : gCw U := ⟨⟨va_AO.moved hA h.1.1, va_AO.moved hA h.1.2.1, va_AO.moved hA h.1.2.2⟩, ⟨va_tabs rfl hv.symm h.2.1, va_tabs rfl hv.symm h.2.2.1, va_tabs rfl hv.symm h.2.2.2⟩⟩
theorem gCw.warm {s U : State} (hW : s.WarmedH U.vm) (h : gCw s) : gCw U := ⟨⟨va_AO.moved hW.alike h.1.1, va_AO.moved hW.alike h.1.2.1, va_AO.moved hW.alike h.1.2.2⟩, ⟨va_Nw.warmM hW h.2.1, va_Nw.warmM hW h.2.2.1, va_Nw.warmM hW h.2.2.2⟩⟩
def gPreC (D : va_G) (cy : Nat → ClassId) (w0 : va_W) (sz : Nat) : State → Prop := fun U => (U.heap.size = sz ∧ va_P D vwCl w0 U.heap ∧ va_K D vwCl (Ty cy) U ∧ va_D (fun _ => True) w0) ∧ gCw U
/-- a constructor: from the world w0 (its object, as it was born) to a world wf of what it made -/
def gCon {S : Type} (l : Launch) (y : MethodName) (ws : List Cond) (rm : Room) (D : va_G) (cy : Nat → ClassId) (wf : S → va_W) (av : List Value) (w0 : va_W) (pa : S → Prop) (mc ms : Nat) : Prop :=
  ∀ sz : Nat, Met l y ws rm (va_Pc av (gPreC D cy w0 sz)) (va_Qv pa (gPost D wf (va_A w0 sz)) (va_A w0 sz)) mc ms (va_A w0 sz)
theorem gPreC_blind {D : va_G} {cy : Nat → ClassId} {w0 : va_W} {sz : Nat} {av : List Value} : FrameBlind (va_Pc av (gPreC D cy w0 sz)) := by
  intro a U g mk h
  obtain ⟨h0, ⟨h1, h2, h3, h4⟩, h5⟩ := h
  exact ⟨h0, ⟨h1, h2, va_K.moved (u := U) (U := U.calling g mk a) (Vm.Alike.refl U.vm) h3, h4⟩, gCw.same (u := U) (U := U.calling g mk a) (Vm.Alike.refl U.vm) rfl h5⟩
theorem gstartC {S : Type} {l : Launch} {y : MethodName} {ws ws' : List Cond} {rm : Room} {D : va_G} {cy : Nat → ClassId} {wf : S → va_W} {av : List Value} {w0 : va_W} {pa : S → Prop} {mc ms : Nat} (cc : ByteArray) (maxL : Nat) (own : String) (hy : plainName y.cls = true) (hw : ws = Cond.code y cc maxL none :: ws') (hown0 : y.cls = own) (hname : y.name = "<init>") (hn : (lg_sl av).length ≤ maxL)
    (body : ∀ (p : Program) (e : Env) (s : State) (m : MethodId) (below : List Frame) (meth : Method) (c : Code) (A : Nat → Prop) (ls : Array Slot), p.tables.exec = Jvm.exec → c.code = cc → c.maxLocals = maxL → s.vm.findClass own = some m.cls → (∀ w ∈ ws, w.before av.toArray s = true) → meth.sig.returnType = none → meth.locks = false → va_K D vwCl (Ty cy) s → va_P D vwCl w0 s.heap → va_D A w0 → (∀ q : Nat, s.heap.size ≤ q → A q) → va_S A s.heap s.heap [] → lv_has ls maxL (lv_args 0 av) → gCw s → meth.name = "<init>" →
      W p l e rm s m av.toArray below meth c s.heap [] 0 0 (MQ below (va_Qv pa (gPost D wf A) A) av.toArray s mc ms A) (F0 m 0 ls [])) : gCon l y ws rm D cy wf av w0 pa mc ms := by
  intro sz
  refine Met.ofW (cc := cc) (maxL := maxL) (ret := none) hy hw ?_
  intro p e s m args below meth c s₁ B hml hv
  obtain ⟨rfl, ⟨hsz, hP, hK, hD0⟩, hcw⟩ := hv
  have hts := atoms_spec (ws := ws) B.pre
  have hown : s.vm.findClass own = some m.cls := by rw [← hown0]; exact findClass_of_methodNamed B.named
  have hin : meth.name = "<init>" := (name_of_methodNamed B.named B.method).1.trans hname
  subst hsz
  have hD := hD0.self (sz := s.heap.size)
  have hA : ∀ q : Nat, s.heap.size ≤ q → va_A w0 s.heap.size q := fun q h => Or.inr h
  rw [lg_entry_eq]
  exact body p e s m below meth c _ _ B.exec B.bytes hml hown hts B.returns B.notSynchronized hK hP hD hA va_S.rf (lv_entry av hn) hcw hin
section GCN
variable {p : Program} {l : Launch} {e : Env} {R : Room} {s : State} {m : MethodId} {args : Array Value} {below : List Frame} {meth : Method} {c : Code} {H : Heap} {locs : List Loc} {cells slots : Nat} {Q : State → Prop}
variable {pc : Nat} {ls : Array Slot} {rest st0 : List Value} {A : Nat → Prop} {H0 : Heap} {cc : ByteArray} {D : va_G} {a : Nat}
theorem g_endC {S : Type} {wf : S → va_W} {u : S} {pa : S → Prop} {mc ms : Nat} (hx : p.tables.exec = Jvm.exec) (hb : c.code = cc) (hr : meth.sig.returnType = none) (hlocks : meth.locks = false) (hpa : pa u) (hP : va_P D vwCl (wf u) H) (hD : va_D A (wf u)) (hS : va_S A s.heap H locs) (hc : cells ≤ mc) (hs : slots ≤ ms) (hdg : decode cc pc = .ok (.return_, 1)) :
    W p l e R s m args below meth c H locs cells slots (MQ below (va_Qv pa (gPost D wf A) A) args s mc ms A) (F0 m pc ls []) := by
  refine W.widen hc hs ?_
  exact W.vret hx hb hr (fun t ht hW => ⟨⟨u, rfl, hpa, by rw [ht]; exact hP, hD⟩, hS.F ht⟩) hS.2.2 hdg hlocks
/-- a constructor is called: by its class, or by a nest mate -/
theorem g_callC {S : Type} {cy : Nat → ClassId} {ws : va_W} {wfc : S → va_W} {pa : S → Prop} {y : MethodName} {bytes : ByteArray} {maxL nL mc ms n index cells2 slots2 : Nat} {wc : List Cond} {rm : Room} {Ts : List Cond} {own : String}
    (hcw : gCw s) (hx : p.tables.exec = Jvm.exec) (hb : c.code = cc) (hml : c.maxLocals = nL) (hown : s.vm.findClass own = some m.cls) (hts : ∀ w ∈ Ts, w.before args s = true) (hK : va_K D vwCl (Ty cy) s) (hP : va_P D vwCl ws H) (hD : va_D A ws) (hS : va_S A H0 H locs) (hA : ∀ q : Nat, H0.size ≤ q → A q) (hsz : ls.size = nL)
    (w0 wr : va_W) (hp1 : ws.Perm (w0 ++ wr)) (As : List Value) (hM : gCon l y wc rm D cy wfc (.ref a :: As) w0 pa mc ms) (cw : CallB R s args own index y bytes maxL none wc rm mc ms n ∧ y.name = "<init>" ∧ (Cond.instanceMethod y).before args s = true) (hn : As.length = n) (hst : st0 = As.reverse ++ .ref a :: rest) (hW : (rest.map fun v => v.category).sum ≤ 8) (hdg : decode cc pc = .ok (.invokespecial index, 3)) (hroom : cells + mc ≤ R.cells ∧ slots + ms ≤ R.slots) (hc2 : cells + mc = cells2) (hs2 : slots + ms = slots2)
    (kk : ∀ u : S, pa u → ∀ (H1 : Heap) (locs1 : List Loc), va_P D vwCl (wfc u ++ wr) H1 → va_D A (wfc u ++ wr) → va_S A H0 H1 locs1 → W p l e R s m args below meth c H1 locs1 cells2 slots2 Q (F0 m (pc + 3) ls rest)) : W p l e R s m args below meth c H locs cells slots Q (F0 m pc ls st0) := by
  subst hc2; subst hs2; subst hst
  have hP1 := va_P_perm hp1 hP
  have hD1 := va_D_perm hp1 hD
  have hF := g_free hD1 hS hA
  refine va_callv (va_runI (As := As) (rest := rest) ⟨hx, hb, hml, hown, hts⟩ (hM H.size) cw ⟨gPreC_blind, fun U hU hW => ⟨rfl, ⟨by rw [hU], by rw [hU]; exact va_P_l hP1, va_K.moved hW.alike hK, (va_D_l hD1).weaken (fun _ _ _ _ => trivial)⟩, hcw.warm hW⟩⟩ rfl hn hsz rfl (lv_room hW) hdg hroom) hS (fun q _ h => hF q h) hF (fun u t H1 locs1 ht hvm hw hB hz1 hk1 hS1 => ?_)
  obtain ⟨g1, g2⟩ := hB
  rw [ht] at g1
  obtain ⟨j1, j2⟩ := g_join hP1 hD1 hk1 hF g1 g2
  exact kk u hw H1 locs1 j1 j2 hS1
theorem g_callCN {S : Type} {cy : Nat → ClassId} {ws : va_W} {wfc : S → va_W} {pa : S → Prop} {y : MethodName} {bytes : ByteArray} {maxL nL mc ms n index cells2 slots2 : Nat} {wc : List Cond} {rm : Room} {Ts : List Cond} {own host : String}
    (hcw : gCw s) (hx : p.tables.exec = Jvm.exec) (hb : c.code = cc) (hml : c.maxLocals = nL) (hown : s.vm.findClass own = some m.cls) (hts : ∀ w ∈ Ts, w.before args s = true) (hK : va_K D vwCl (Ty cy) s) (hP : va_P D vwCl ws H) (hD : va_D A ws) (hS : va_S A H0 H locs) (hA : ∀ q : Nat, H0.size ≤ q → A q) (hsz : ls.size = nL)
    (w0 wr : va_W) (hp1 : ws.Perm (w0 ++ wr)) (As : List Value) (hM : gCon l y wc rm D cy wfc (.ref a :: As) w0 pa mc ms) (cw : va_CN R s args own index y host bytes maxL none wc rm mc ms n ∧ y.name = "<init>" ∧ (Cond.instanceMethod y).before args s = true) (hn : As.length = n) (hst : st0 = As.reverse ++ .ref a :: rest) (hW : (rest.map fun v => v.category).sum ≤ 8) (hdg : decode cc pc = .ok (.invokespecial index, 3)) (hroom : cells + mc ≤ R.cells ∧ slots + ms ≤ R.slots) (hc2 : cells + mc = cells2) (hs2 : slots + ms = slots2)
    (kk : ∀ u : S, pa u → ∀ (H1 : Heap) (locs1 : List Loc), va_P D vwCl (wfc u ++ wr) H1 → va_D A (wfc u ++ wr) → va_S A H0 H1 locs1 → W p l e R s m args below meth c H1 locs1 cells2 slots2 Q (F0 m (pc + 3) ls rest)) : W p l e R s m args below meth c H locs cells slots Q (F0 m pc ls st0) := by
  subst hc2; subst hs2; subst hst
  have hP1 := va_P_perm hp1 hP
  have hD1 := va_D_perm hp1 hD
  have hF := g_free hD1 hS hA
  refine va_callv (va_runIN (As := As) (rest := rest) ⟨hx, hb, hml, hown, hts⟩ (hM H.size) cw ⟨gPreC_blind, fun U hU hW => ⟨rfl, ⟨by rw [hU], by rw [hU]; exact va_P_l hP1, va_K.moved hW.alike hK, (va_D_l hD1).weaken (fun _ _ _ _ => trivial)⟩, hcw.warm hW⟩⟩ rfl hn hsz rfl (lv_room hW) hdg hroom) hS (fun q _ h => hF q h) hF (fun u t H1 locs1 ht hvm hw hB hz1 hk1 hS1 => ?_)
  obtain ⟨g1, g2⟩ := hB
  rw [ht] at g1
  obtain ⟨j1, j2⟩ := g_join hP1 hD1 hk1 hF g1 g2
  exact kk u hw H1 locs1 j1 j2 hS1
/-- a new array of references -/
theorem g_newq {cy : Nat → ClassId} {ws : va_W} {n index : Nat} {own C : String} (t : Nat) (ht : (Ty cy)[t]? = some (cy t, .object C)) (hx : p.tables.exec = Jvm.exec) (hb : c.code = cc) (hown : s.vm.findClass own = some m.cls) (hcl : (Cond.classLink own index C).before args s = true) (hao : va_AO C s) (hK : va_K D vwCl (Ty cy) s) (hP : va_P D vwCl ws H) (hD : va_D A ws) (hS : va_S A H0 H locs) (hA : ∀ q, H0.size ≤ q → A q)
    (hn : n < 1000) (hcells : cells + 1 ≤ R.cells) (hslots : slots + n ≤ R.slots) (hdg : decode cc pc = .ok (.anewarray index, 3))
    (kk : ∀ (q : Nat) (H1 : Heap), va_P D vwCl (ws ++ [(q, .inl (cy t, n, .inr (.inr (.inr (.inr (fun _ => none))))))]) H1 → va_D A (ws ++ [(q, .inl (cy t, n, .inr (.inr (.inr (.inr (fun _ => none))))))]) → va_S A H0 H1 locs →
      W p l e R s m args below meth c H1 locs (cells + 1) (slots + n) Q (F0 m (pc + 3) ls (.ref q :: rest))) : W p l e R s m args below meth c H locs cells slots Q (F0 m pc ls (.int (nI n) :: rest)) := by
  refine va_newq (N' := n) hx hb hown hcl hao hK hP hD hS hA (nI_pos (by omega)) (nI_clamp (by omega)) (by omega) hcells hslots hdg (fun q cA H1 hK1 hP1 hD1 hS1 => ?_)
  obtain ⟨k0, c0, a1, a2, a3, h0⟩ : va_RA s (cy t) (.object C) := (hK.2 t (cy t, .object C) ht).2
  obtain ⟨k1, c1, b1, b2, b3, h1⟩ : va_RA s cA (.object C) := (hK1.2 (Ty cy).length (cA, .object C) (by rw [List.getElem?_append_right (Nat.le_refl _)]; simp)).2
  have hc : cA = cy t := Option.some.inj (h1.symm.trans h0)
  subst hc
  exact kk q H1 hP1 hD1 hS1
end GCN
/-! the republic as it grows: m rows made -/
abbrev z0 : Nat → Int32 := fun _ => 0
abbrev zz : Sg := fun _ _ => 0
def rf (ad : Nat → Nat) (off n m : Nat) : Nat → Option Nat := fun i => if i < n ∧ off + i < m then some (ad (5 + (off + i))) else none
def au (ad : Nat → Nat) (k q : Nat) : Nat → Nat := fun j => if j = k then q else ad j
def NB (cy : Nat → ClassId) (ad : Nat → Nat) (m : Nat) : va_W := [(ad 0, .inr (1, obF ad z0)), (ad 1, .inl (cy 0, 24, .inl z0)), (ad 2, .inl (cy 1, 8, .inr (.inr (.inr (.inr (rf ad 0 8 m)))))), (ad 3, .inl (cy 2, 40, .inr (.inr (.inr (.inr (rf ad 8 40 m)))))), (ad 4, .inl (cy 3, 10, .inr (.inr (.inr (.inr (rf ad 48 10 m))))))]
def NC (cy : Nat → ClassId) (ad : Nat → Nat) (m : Nat) : va_W := NB cy ad m ++ (List.range m).map (fun j => (ad (5 + j), RC cy ad (5 + j) z0))
theorem NC_len (cy : Nat → ClassId) (ad : Nat → Nat) (m : Nat) : (NC cy ad m).length = 5 + m := by simp [NC, NB]; omega
theorem au_ne (ad : Nat → Nat) {k q j : Nat} (h : j ≠ k) : au ad k q j = ad j := if_neg h
theorem au_s (ad : Nat → Nat) (k q : Nat) : au ad k q k = q := if_pos rfl
theorem rf_same (ad : Nat → Nat) {off n m q : Nat} (h : m < off ∨ off + n ≤ m) : rf (au ad (5 + m) q) off n (m + 1) = rf ad off n m := by
  funext i
  unfold rf
  by_cases h1 : i < n ∧ off + i < m
  · rw [if_pos h1, if_pos ⟨h1.1, by omega⟩, au_ne ad (by omega)]
  · rw [if_neg h1, if_neg (by omega)]
theorem rf_up (ad : Nat → Nat) {off n m q k : Nat} (hk : off + k = m) (h : k < n) : rf (au ad (5 + m) q) off n (m + 1) = va_up (rf ad off n m) k (some q) := by
  funext i
  unfold rf va_up
  by_cases h0 : i = k
  · subst h0
    rw [if_pos rfl, if_pos ⟨h, by omega⟩, show 5 + (off + i) = 5 + m by omega, au_s]
  · rw [if_neg h0]
    show _ = if i < n ∧ off + i < m then some (ad (5 + (off + i))) else none
    by_cases h1 : i < n ∧ off + i < m
    · rw [if_pos h1, if_pos ⟨h1.1, by omega⟩, au_ne ad (by omega)]
    · rw [if_neg h1, if_neg (by omega)]
theorem RC_ad (cy : Nat → ClassId) (ad ad' : Nat → Nat) {p : Nat} (h : 5 ≤ p) (f : Nat → Int32) : RC cy ad p f = RC cy ad' p f := by
  simp only [RC, show ¬ p = 0 by omega, show ¬ p = 1 by omega, show ¬ p = 2 by omega, show ¬ p = 3 by omega, show ¬ p = 4 by omega, if_false]
theorem NC_rows (cy : Nat → ClassId) (ad : Nat → Nat) (m q : Nat) {e : va_E} (he : RC cy ad (5 + m) z0 = e) : (List.range (m + 1)).map (fun j => (au ad (5 + m) q (5 + j), RC cy (au ad (5 + m) q) (5 + j) z0)) = (List.range m).map (fun j => (ad (5 + j), RC cy ad (5 + j) z0)) ++ [(q, e)] := by
  rw [List.range_succ, List.map_append]
  congr 1
  · apply List.map_congr_left
    intro j hj
    have hj2 := List.mem_range.mp hj
    rw [au_ne ad (by omega), RC_ad cy (au ad (5 + m) q) ad (by omega)]
  · show [(au ad (5 + m) q (5 + m), RC cy (au ad (5 + m) q) (5 + m) z0)] = [(q, e)]
    rw [au_s, RC_ad cy (au ad (5 + m) q) ad (by omega), he]
theorem NB_ob (ad : Nat → Nat) (m q : Nat) : obF (au ad (5 + m) q) z0 = obF ad z0 := by
  show [_, _, _, _, _, _, _, _, _] = [_, _, _, _, _, _, _, _, _]
  rw [au_ne ad (by omega), au_ne ad (by omega), au_ne ad (by omega), au_ne ad (by omega)]
theorem NC_2 (cy : Nat → ClassId) (ad : Nat → Nat) {m q : Nat} (hm : m < 8) {e : va_E} (he : RC cy ad (5 + m) z0 = e) : (NC cy ad m ++ [(q, e)]).set 2 (ad 2, .inl (cy 1, 8, .inr (.inr (.inr (.inr (va_up (rf ad 0 8 m) m (some q))))))) = NC cy (au ad (5 + m) q) (m + 1) := by
  have e0 : ∀ j, j < 5 → au ad (5 + m) q j = ad j := fun j h => au_ne ad (by omega)
  unfold NC
  rw [NC_rows cy ad m q he, ← List.append_assoc]
  unfold NB
  rw [rf_up ad (off := 0) (k := m) (by omega) hm, rf_same ad (off := 8) (Or.inl (by omega)), rf_same ad (off := 48) (Or.inl (by omega)), NB_ob, e0 0 (by decide), e0 1 (by decide), e0 2 (by decide), e0 3 (by decide), e0 4 (by decide)]
  rfl
theorem NC_3 (cy : Nat → ClassId) (ad : Nat → Nat) {m q k : Nat} (hk : 8 + k = m) (hm : k < 40) {e : va_E} (he : RC cy ad (5 + m) z0 = e) : (NC cy ad m ++ [(q, e)]).set 3 (ad 3, .inl (cy 2, 40, .inr (.inr (.inr (.inr (va_up (rf ad 8 40 m) k (some q))))))) = NC cy (au ad (5 + m) q) (m + 1) := by
  have e0 : ∀ j, j < 5 → au ad (5 + m) q j = ad j := fun j h => au_ne ad (by omega)
  unfold NC
  rw [NC_rows cy ad m q he, ← List.append_assoc]
  unfold NB
  rw [rf_up ad (off := 8) (k := k) hk hm, rf_same ad (off := 0) (Or.inr (by omega)), rf_same ad (off := 48) (Or.inl (by omega)), NB_ob, e0 0 (by decide), e0 1 (by decide), e0 2 (by decide), e0 3 (by decide), e0 4 (by decide)]
  rfl
theorem NC_4 (cy : Nat → ClassId) (ad : Nat → Nat) {m q k : Nat} (hk : 48 + k = m) (hm : k < 10) {e : va_E} (he : RC cy ad (5 + m) z0 = e) : (NC cy ad m ++ [(q, e)]).set 4 (ad 4, .inl (cy 3, 10, .inr (.inr (.inr (.inr (va_up (rf ad 48 10 m) k (some q))))))) = NC cy (au ad (5 + m) q) (m + 1) := by
  have e0 : ∀ j, j < 5 → au ad (5 + m) q j = ad j := fun j h => au_ne ad (by omega)
  unfold NC
  rw [NC_rows cy ad m q he, ← List.append_assoc]
  unfold NB
  rw [rf_up ad (off := 48) (k := k) hk hm, rf_same ad (off := 0) (Or.inr (by omega)), rf_same ad (off := 8) (Or.inr (by omega)), NB_ob, e0 0 (by decide), e0 1 (by decide), e0 2 (by decide), e0 3 (by decide), e0 4 (by decide)]
  rfl
theorem arrV_cg (cA : ClassId) (n : Nat) {f g : Nat → Value} (h : ∀ j, j < n → f j = g j) : arrV cA n f = arrV cA n g := by
  unfold arrV
  congr 1
  first
    | (apply Array.ext'; simp; intro a ha; exact congrArg _ (h a ha))
    | (apply Array.ext <;> simp; intro i h1; exact h i h1)
theorem RW_of_NC {D : va_G} {cy : Nat → ClassId} {ad : Nat → Nat} {H : Heap} (h : va_P D vwCl (NC cy ad 58) H) : va_P D vwCl (RW cy ad zz) H := by
  intro k q hk
  have hlt : k < 63 := by
    have := (List.getElem?_eq_some_iff.mp hk).1
    rw [WD_len] at this
    exact this
  have hq : (RW cy ad zz)[k]? = some (ad k, RC cy ad k z0) := WD_get hlt rfl
  have hqe : q = (ad k, RC cy ad k z0) := Option.some.inj (hk.symm.trans hq)
  subst hqe
  by_cases h5 : 5 ≤ k
  · refine h k _ ?_
    unfold NC
    rw [List.getElem?_append_right (by show 5 ≤ k; exact h5)]
    show ((List.range 58).map _)[k - 5]? = _
    rw [List.getElem?_map, List.getElem?_range (by omega), Option.map_some, show 5 + (k - 5) = k by omega]
  · rcases (show k = 0 ∨ k = 1 ∨ k = 2 ∨ k = 3 ∨ k = 4 by omega) with rfl | rfl | rfl | rfl | rfl
    · exact h 0 _ rfl
    · exact h 1 _ rfl
    · have h2 : H[ad 2]? = some (arrV (cy 1) 8 (fun j => va_rf (rf ad 0 8 58 j))) := h 2 _ rfl
      show H[ad 2]? = some (arrV (cy 1) 8 (fun j => va_rf (some (ad (5 + j)))))
      rw [h2, arrV_cg (cy 1) 8 (fun j hj => by unfold rf; rw [if_pos ⟨hj, by omega⟩, Nat.zero_add])]
    · have h2 : H[ad 3]? = some (arrV (cy 2) 40 (fun j => va_rf (rf ad 8 40 58 j))) := h 3 _ rfl
      show H[ad 3]? = some (arrV (cy 2) 40 (fun j => va_rf (some (ad (13 + j)))))
      rw [h2, arrV_cg (cy 2) 40 (fun j hj => by unfold rf; rw [if_pos ⟨hj, by omega⟩, show 5 + (8 + j) = 13 + j by omega])]
    · have h2 : H[ad 4]? = some (arrV (cy 3) 10 (fun j => va_rf (rf ad 48 10 58 j))) := h 4 _ rfl
      show H[ad 4]? = some (arrV (cy 3) 10 (fun j => va_rf (some (ad (53 + j)))))
      rw [h2, arrV_cg (cy 3) 10 (fun j hj => by unfold rf; rw [if_pos ⟨hj, by omega⟩, show 5 + (48 + j) = 53 + j by omega])]
theorem RW_D_of_NC {A : Nat → Prop} {cy : Nat → ClassId} {ad : Nat → Nat} (h : va_D A (NC cy ad 58)) : va_D A (RW cy ad zz) := by
  have e : (RW cy ad zz).map (·.1) = (NC cy ad 58).map (·.1) := by
    show ((List.range 63).map (fun p => (ad p, RC cy ad p z0))).map (·.1) = _
    rfl
  rw [va_D_iff] at h ⊢
  refine ⟨by rw [e]; exact h.1, fun q hq => ?_⟩
  have h1 : q.1 ∈ (NC cy ad 58).map (·.1) := by rw [← e]; exact List.mem_map.mpr ⟨q, hq, rfl⟩
  obtain ⟨x, hx, hxq⟩ := List.mem_map.mp h1
  rw [← hxq]
  exact h.2 x hx
