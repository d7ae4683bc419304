/-! THE LAW: its world, its calls, what a step must keep -/
section GRK
variable {p : Program} {l : Launch} {e : Env} {R : Room} {s : State} {m : MethodId} {args : Array Value} {below : List Frame} {meth : Method} {c : Code} {H : Heap} {locs : List Loc} {cells slots : Nat} {Q : State → Prop}
variable {pc : Nat} {ls : Array Slot} {rest st0 : List Value} {A : Nat → Prop} {H0 : Heap} {cc : ByteArray} {D : va_G} {tys : List (ClassId × FieldType)} {ws : va_W} {a : Nat}
theorem g_calll {S Sc : Type} {wf : S → va_W} {σ : S} {wfc : Sc → va_W} {σc : Sc} {f : Int64 × Sc} {y : MethodName} {bytes : ByteArray} {maxL nL mc ms n index cells2 slots2 : Nat} {wc : List Cond} {rm : Room} {Ts : List Cond} {own C : String} {ci q0 : Nat} {fs : List Value} {cl0 : vw_C}
    (hx : p.tables.exec = Jvm.exec) (hb : c.code = cc) (hml : c.maxLocals = nL) (hown : s.vm.findClass own = some m.cls) (hts : ∀ w ∈ Ts, w.before args s = true) (hK : va_K D vwCl tys s) (hP : va_P D vwCl (wf σ) H) (hD : va_D A (wf σ)) (hS : va_S A H0 H locs) (hA : ∀ q : Nat, H0.size ≤ q → A q) (hsz : ls.size = nL)
    (wr : va_W) (hp1 : (wf σ).Perm (wfc σc ++ wr)) (back : Sc → S) (hp2 : ∀ u, (wfc u ++ wr).Perm (wf (back u)))
    (As : List Value) (hM : gMl l y wc rm D tys wfc (.ref a :: As) σc f mc ms) (cw : CallW R s args own C index y bytes maxL (some .long) wc rm mc ms n) (he : (wf σ)[q0]? = some (a, .inr (ci, fs))) (hc : vwCl[ci]? = some cl0) (hC : cl0.1 = C) (hn : As.length = n) (hst : st0 = As.reverse ++ .ref a :: rest) (hW : (rest.map fun v => v.category).sum ≤ 8) (hdg : decode cc pc = .ok (.invokevirtual index, 3)) (hroom : cells + mc ≤ R.cells ∧ slots + ms ≤ R.slots) (hc2 : cells + mc = cells2) (hs2 : slots + ms = slots2)
    (kk : ∀ u : Int64 × Sc, u = f → ∀ (H1 : Heap) (locs1 : List Loc), va_P D vwCl (wf (back u.2)) H1 → va_D A (wf (back u.2)) → va_S A H0 H1 locs1 → W p l e R s m args below meth c H1 locs1 cells2 slots2 Q (F0 m (pc + 3) ls (.long u.1 :: rest))) : W p l e R s m args below meth c H locs cells slots Q (F0 m pc ls st0) := by
  subst hc2; subst hs2; subst hst
  have hP1 := va_P_perm hp1 hP
  have hD1 := va_D_perm hp1 hD
  have hF := g_free hD1 hS hA
  refine va_calll (va_runV (As := As) (rest := rest) ⟨hx, hb, hml, hown, hts⟩ (hM H.size) cw ⟨gPre_blind, ?_, fun U hU hW => ⟨rfl, by rw [hU], by rw [hU]; exact va_P_l hP1, va_K.moved hW.alike hK, (va_D_l hD1).weaken (fun _ _ _ _ => trivial)⟩⟩ rfl hn hsz rfl (lv_room hW) hdg hroom) hS (fun q _ h => hF q h) hF (fun r u t H1 locs1 ht hvm hw hB hz1 hk1 hS1 => ?_)
  · obtain ⟨cell, h1, h2, h3⟩ := va_recv hK hP hc he
    exact ⟨cell, h1, h2, by rw [← hC]; exact h3⟩
  · obtain ⟨g1, g2⟩ := hB
    rw [ht] at g1
    obtain ⟨j1, j2⟩ := g_join hP1 hD1 hk1 hF g1 g2
    exact kk (r, u) hw H1 locs1 (va_P_perm (hp2 u) j1) (va_D_perm (hp2 u) j2) hS1
theorem g_calld {S Sc : Type} {wf : S → va_W} {σ : S} {wfc : Sc → va_W} {σc : Sc} {f : UInt64 × Sc} {y : MethodName} {bytes : ByteArray} {maxL nL mc ms n index cells2 slots2 : Nat} {wc : List Cond} {rm : Room} {Ts : List Cond} {own C : String} {ci q0 : Nat} {fs : List Value} {cl0 : vw_C}
    (hx : p.tables.exec = Jvm.exec) (hb : c.code = cc) (hml : c.maxLocals = nL) (hown : s.vm.findClass own = some m.cls) (hts : ∀ w ∈ Ts, w.before args s = true) (hK : va_K D vwCl tys s) (hP : va_P D vwCl (wf σ) H) (hD : va_D A (wf σ)) (hS : va_S A H0 H locs) (hA : ∀ q : Nat, H0.size ≤ q → A q) (hsz : ls.size = nL)
    (wr : va_W) (hp1 : (wf σ).Perm (wfc σc ++ wr)) (back : Sc → S) (hp2 : ∀ u, (wfc u ++ wr).Perm (wf (back u)))
    (As : List Value) (hM : gMd l y wc rm D tys wfc (.ref a :: As) σc f mc ms) (cw : CallW R s args own C index y bytes maxL (some .double) wc rm mc ms n) (he : (wf σ)[q0]? = some (a, .inr (ci, fs))) (hc : vwCl[ci]? = some cl0) (hC : cl0.1 = C) (hn : As.length = n) (hst : st0 = As.reverse ++ .ref a :: rest) (hW : (rest.map fun v => v.category).sum ≤ 8) (hdg : decode cc pc = .ok (.invokevirtual index, 3)) (hroom : cells + mc ≤ R.cells ∧ slots + ms ≤ R.slots) (hc2 : cells + mc = cells2) (hs2 : slots + ms = slots2)
    (kk : ∀ u : UInt64 × Sc, u = f → ∀ (H1 : Heap) (locs1 : List Loc), va_P D vwCl (wf (back u.2)) H1 → va_D A (wf (back u.2)) → va_S A H0 H1 locs1 → W p l e R s m args below meth c H1 locs1 cells2 slots2 Q (F0 m (pc + 3) ls (.double u.1 :: rest))) : W p l e R s m args below meth c H locs cells slots Q (F0 m pc ls st0) := by
  subst hc2; subst hs2; subst hst
  have hP1 := va_P_perm hp1 hP
  have hD1 := va_D_perm hp1 hD
  have hF := g_free hD1 hS hA
  refine va_calld (va_runV (As := As) (rest := rest) ⟨hx, hb, hml, hown, hts⟩ (hM H.size) cw ⟨gPre_blind, ?_, fun U hU hW => ⟨rfl, by rw [hU], by rw [hU]; exact va_P_l hP1, va_K.moved hW.alike hK, (va_D_l hD1).weaken (fun _ _ _ _ => trivial)⟩⟩ rfl hn hsz rfl (lv_room hW) hdg hroom) hS (fun q _ h => hF q h) hF (fun r u t H1 locs1 ht hvm hw hB hz1 hk1 hS1 => ?_)
  · obtain ⟨cell, h1, h2, h3⟩ := va_recv hK hP hc he
    exact ⟨cell, h1, h2, by rw [← hC]; exact h3⟩
  · obtain ⟨g1, g2⟩ := hB
    rw [ht] at g1
    obtain ⟨j1, j2⟩ := g_join hP1 hD1 hk1 hF g1 g2
    exact kk (r, u) hw H1 locs1 (va_P_perm (hp2 u) j1) (va_D_perm (hp2 u) j2) hS1
theorem g_calllN {S Sc : Type} {wf : S → va_W} {σ : S} {wfc : Sc → va_W} {σc : Sc} {f : Int64 × Sc} {y : MethodName} {bytes : ByteArray} {maxL nL mc ms n index cells2 slots2 : Nat} {wc : List Cond} {rm : Room} {Ts : List Cond} {own C : String} {ci q0 : Nat} {fs : List Value} {cl0 : vw_C}
    (hnw : gNw s) (hx : p.tables.exec = Jvm.exec) (hb : c.code = cc) (hml : c.maxLocals = nL) (hown : s.vm.findClass own = some m.cls) (hts : ∀ w ∈ Ts, w.before args s = true) (hK : va_K D vwCl tys s) (hP : va_P D vwCl (wf σ) H) (hD : va_D A (wf σ)) (hS : va_S A H0 H locs) (hA : ∀ q : Nat, H0.size ≤ q → A q) (hsz : ls.size = nL)
    (wr : va_W) (hp1 : (wf σ).Perm (wfc σc ++ wr)) (back : Sc → S) (hp2 : ∀ u, (wfc u ++ wr).Perm (wf (back u)))
    (As : List Value) (hM : gMlN l y wc rm D tys wfc (.ref a :: As) σc f mc ms) (cw : CallW R s args own C index y bytes maxL (some .long) wc rm mc ms n) (he : (wf σ)[q0]? = some (a, .inr (ci, fs))) (hc : vwCl[ci]? = some cl0) (hC : cl0.1 = C) (hn : As.length = n) (hst : st0 = As.reverse ++ .ref a :: rest) (hW : (rest.map fun v => v.category).sum ≤ 8) (hdg : decode cc pc = .ok (.invokevirtual index, 3)) (hroom : cells + mc ≤ R.cells ∧ slots + ms ≤ R.slots) (hc2 : cells + mc = cells2) (hs2 : slots + ms = slots2)
    (kk : ∀ u : Int64 × Sc, u = f → ∀ (H1 : Heap) (locs1 : List Loc), va_P D vwCl (wf (back u.2)) H1 → va_D A (wf (back u.2)) → va_S A H0 H1 locs1 → W p l e R s m args below meth c H1 locs1 cells2 slots2 Q (F0 m (pc + 3) ls (.long u.1 :: rest))) : W p l e R s m args below meth c H locs cells slots Q (F0 m pc ls st0) := by
  subst hc2; subst hs2; subst hst
  have hP1 := va_P_perm hp1 hP
  have hD1 := va_D_perm hp1 hD
  have hF := g_free hD1 hS hA
  refine va_calll (va_runV (As := As) (rest := rest) ⟨hx, hb, hml, hown, hts⟩ (hM H.size) cw ⟨gPreN_blind, ?_, fun U hU hW => ⟨rfl, ⟨by rw [hU], by rw [hU]; exact va_P_l hP1, va_K.moved hW.alike hK, (va_D_l hD1).weaken (fun _ _ _ _ => trivial)⟩, hnw.warm hW⟩⟩ rfl hn hsz rfl (lv_room hW) hdg hroom) hS (fun q _ h => hF q h) hF (fun r u t H1 locs1 ht hvm hw hB hz1 hk1 hS1 => ?_)
  · obtain ⟨cell, h1, h2, h3⟩ := va_recv hK hP hc he
    exact ⟨cell, h1, h2, by rw [← hC]; exact h3⟩
  · obtain ⟨g1, g2⟩ := hB
    rw [ht] at g1
    obtain ⟨j1, j2⟩ := g_join hP1 hD1 hk1 hF g1 g2
    exact kk (r, u) hw H1 locs1 (va_P_perm (hp2 u) j1) (va_D_perm (hp2 u) j2) hS1
theorem g_calldN {S Sc : Type} {wf : S → va_W} {σ : S} {wfc : Sc → va_W} {σc : Sc} {f : UInt64 × Sc} {y : MethodName} {bytes : ByteArray} {maxL nL mc ms n index cells2 slots2 : Nat} {wc : List Cond} {rm : Room} {Ts : List Cond} {own C : String} {ci q0 : Nat} {fs : List Value} {cl0 : vw_C}
    (hnw : gNw s) (hx : p.tables.exec = Jvm.exec) (hb : c.code = cc) (hml : c.maxLocals = nL) (hown : s.vm.findClass own = some m.cls) (hts : ∀ w ∈ Ts, w.before args s = true) (hK : va_K D vwCl tys s) (hP : va_P D vwCl (wf σ) H) (hD : va_D A (wf σ)) (hS : va_S A H0 H locs) (hA : ∀ q : Nat, H0.size ≤ q → A q) (hsz : ls.size = nL)
    (wr : va_W) (hp1 : (wf σ).Perm (wfc σc ++ wr)) (back : Sc → S) (hp2 : ∀ u, (wfc u ++ wr).Perm (wf (back u)))
    (As : List Value) (hM : gMdN l y wc rm D tys wfc (.ref a :: As) σc f mc ms) (cw : CallW R s args own C index y bytes maxL (some .double) wc rm mc ms n) (he : (wf σ)[q0]? = some (a, .inr (ci, fs))) (hc : vwCl[ci]? = some cl0) (hC : cl0.1 = C) (hn : As.length = n) (hst : st0 = As.reverse ++ .ref a :: rest) (hW : (rest.map fun v => v.category).sum ≤ 8) (hdg : decode cc pc = .ok (.invokevirtual index, 3)) (hroom : cells + mc ≤ R.cells ∧ slots + ms ≤ R.slots) (hc2 : cells + mc = cells2) (hs2 : slots + ms = slots2)
    (kk : ∀ u : UInt64 × Sc, u = f → ∀ (H1 : Heap) (locs1 : List Loc), va_P D vwCl (wf (back u.2)) H1 → va_D A (wf (back u.2)) → va_S A H0 H1 locs1 → W p l e R s m args below meth c H1 locs1 cells2 slots2 Q (F0 m (pc + 3) ls (.double u.1 :: rest))) : W p l e R s m args below meth c H locs cells slots Q (F0 m pc ls st0) := by
  subst hc2; subst hs2; subst hst
  have hP1 := va_P_perm hp1 hP
  have hD1 := va_D_perm hp1 hD
  have hF := g_free hD1 hS hA
  refine va_calld (va_runV (As := As) (rest := rest) ⟨hx, hb, hml, hown, hts⟩ (hM H.size) cw ⟨gPreN_blind, ?_, fun U hU hW => ⟨rfl, ⟨by rw [hU], by rw [hU]; exact va_P_l hP1, va_K.moved hW.alike hK, (va_D_l hD1).weaken (fun _ _ _ _ => trivial)⟩, hnw.warm hW⟩⟩ rfl hn hsz rfl (lv_room hW) hdg hroom) hS (fun q _ h => hF q h) hF (fun r u t H1 locs1 ht hvm hw hB hz1 hk1 hS1 => ?_)
  · obtain ⟨cell, h1, h2, h3⟩ := va_recv hK hP hc he
    exact ⟨cell, h1, h2, by rw [← hC]; exact h3⟩
  · obtain ⟨g1, g2⟩ := hB
    rw [ht] at g1
    obtain ⟨j1, j2⟩ := g_join hP1 hD1 hk1 hF g1 g2
    exact kk (r, u) hw H1 locs1 (va_P_perm (hp2 u) j1) (va_D_perm (hp2 u) j2) hS1
theorem g_callL {S Sc : Type} {wf : S → va_W} {σ : S} {wfc : Sc → va_W} {σc : Sc} {f : Int32 × Sc} {y : MethodName} {bytes : ByteArray} {maxL nL mc ms n index cells2 slots2 : Nat} {rt : FieldType} {wc : List Cond} {rm : Room} {Ts : List Cond} {own : String} {hh : List (Nat × Nat × Nat × Nat)}
    (hl : l.stackTraces = false) (hst : gSt A s s.heap) (htx : gTx s) (hnc : gNc s)
    (hx : p.tables.exec = Jvm.exec) (hb : c.code = cc) (hml : c.maxLocals = nL) (hown : s.vm.findClass own = some m.cls) (hts : ∀ w ∈ Ts, w.before args s = true) (hK : va_K D vwCl tys s) (hP : va_P D vwCl (wf σ) H) (hD : va_D A (wf σ)) (hS : va_S A s.heap H locs) (hA : ∀ q : Nat, s.heap.size ≤ q → A q) (hsz : ls.size = nL)
    (wr : va_W) (hp1 : (wf σ).Perm (wfc σc ++ wr)) (back : Sc → S) (hp2 : ∀ u, (wfc u ++ wr).Perm (wf (back u)))
    (As : List Value) (hM : gL l y wc rm D tys wfc As σc f mc ms) (cw : vx_CSW R s args own index y bytes maxL (some rt) hh wc rm mc ms n) (hn : As.length = n) (hstk : st0 = As.reverse ++ rest) (hW : (rest.map fun v => v.category).sum ≤ 8) (hdg : decode cc pc = .ok (.invokestatic index, 3)) (hroom : cells + mc ≤ R.cells ∧ slots + ms ≤ R.slots) (hc2 : cells + mc = cells2) (hs2 : slots + ms = slots2)
    (kk : ∀ u : Int32 × Sc, u = f → ∀ (H1 : Heap) (locs1 : List Loc), va_P D vwCl (wf (back u.2)) H1 → va_D A (wf (back u.2)) → va_S A s.heap H1 locs1 → W p l e R s m args below meth c H1 locs1 cells2 slots2 Q (F0 m (pc + 3) ls (.int u.1 :: rest))) : W p l e R s m args below meth c H locs cells slots Q (F0 m pc ls st0) := by
  subst hc2; subst hs2; subst hstk
  have hP1 := va_P_perm hp1 hP
  have hD1 := va_D_perm hp1 hD
  have hF := g_free hD1 hS hA
  have hst1 : gSt (va_A (wfc σc) H.size) s H := (hst.kept (fun q h1 h2 => hS.2.1 q h1 h2)).narrow hF
  refine va_calli (vx_runSW (As := As) (rest := rest) ⟨hx, hb, hml, hown, hts⟩ (hM hl H.size) cw ⟨gPreL_blind, fun U hU hW => ⟨rfl, ⟨⟨by rw [hU], by rw [hU]; exact va_P_l hP1, va_K.moved hW.alike hK, (va_D_l hD1).weaken (fun _ _ _ _ => trivial)⟩, by rw [hU]; exact hst1.moved hW.alike, htx.warm hW⟩, hnc.moved hW.alike⟩⟩ rfl hn hsz rfl (lv_room hW) hdg hroom) hS (fun q _ h => hF q h) hF (fun r u t H1 locs1 ht hvm hw hB hz1 hk1 hS1 => ?_)
  obtain ⟨g1, g2⟩ := hB
  rw [ht] at g1
  obtain ⟨j1, j2⟩ := g_join hP1 hD1 hk1 hF g1 g2
  exact kk (r, u) hw H1 locs1 (va_P_perm (hp2 u) j1) (va_D_perm (hp2 u) j2) hS1
end GRK
abbrev MS : Type := Sg × Sg × Sg
abbrev TS : Type := ((Sg × Sg) × (Nat → Int64)) × MS
abbrev TW (cy : Nat → ClassId) (ax ad ad2 : Nat → Nat) (ao : Nat) (am sd sd2 : Nat → Nat) (u : TS) : va_W := LW cy ax ad ad2 ao u.1 ++ MW cy am sd sd2 u.2
theorem LW_len (cy : Nat → ClassId) (ax ad ad2 : Nat → Nat) (ao : Nat) (u : (Sg × Sg) × (Nat → Int64)) : (LW cy ax ad ad2 ao u).length = 128 := by
  show (CW cy ax ad ad2 u.1 ++ [_]).length = 128
  rw [List.length_append, CW_len]
  rfl
theorem lg_self (x : Int64) : lg_cmp x x = 0 := by simp [lg_cmp]
abbrev cvI : Int32 → Int64 := fun r => r.toInt64
abbrev cvB : Int32 → Int64 := fun r => if r = 0 then (0 : Int64) else 1
def Mt (LI : Nat → (Sg × Sg) → MS → Prop) (h : Nat) (cv : Int32 → Int64) (hs : List String) (f : String ⊕ (Int32 × (Sg × Sg))) (σ : Sg × Sg) (g : Int32 × MS) : Prop :=
  (∀ E, f = .inl E → E ∈ hs) ∧ ∀ fo, (wrapR cv hs f (σ, fo)).1 = g.2.1 0 0 ∧ ((wrapR cv hs f (σ, fo)).1 = 0 → (wrapR cv hs f (σ, fo)).2.2 0 = cv g.1) ∧ LI (h + 100) (wrapR cv hs f (σ, fo)).2.1 g.2
def LIok (IV : Nat → Sg × Sg → Prop) (LI : Nat → (Sg × Sg) → MS → Prop) : Prop := QInv IV ∧ ∀ h σ μ, LI h σ μ → OkR σ.1 ∧ OkN μ.2.1 ∧ (∃ h0, h0 ≤ h ∧ IV h0 (μ.2.1, μ.1)) ∧ (¬ σ.1 0 7 = 0 → vf_n64 (FP.ddiv (FP.i2d (s_X1_trustOfAll σ.1)) (FP.i2d (σ.1 0 7)))) ∧ (¬ μ.2.1 0 12 = 0 → vf_n64 (FP.ddiv (FP.i2d (s_X5_over μ.2.1 (nI 1))) (FP.i2d (nI (tn (μ.2.1 0 12))))))
def St_build (LI : Nat → (Sg × Sg) → MS → Prop) : Prop := ∀ h σ μ, LI h σ μ → h ≤ 60000 → ∀ x y : Int32, Mt LI h cvI ["java/lang/IllegalArgumentException", "java/lang/IllegalStateException"] (s_X4_build σ x y) σ (s_X6_build μ x y)
def St_bring (LI : Nat → (Sg × Sg) → MS → Prop) : Prop := ∀ h σ μ, LI h σ μ → h ≤ 60000 → ∀ x y : Int32, Mt LI h cvI ["java/lang/IndexOutOfBoundsException", "java/lang/IllegalArgumentException", "java/lang/IllegalStateException"] (s_X4_bring σ x y) σ (s_X6_bring μ x y)
def St_addCitizen (LI : Nat → (Sg × Sg) → MS → Prop) : Prop := ∀ h σ μ, LI h σ μ → h ≤ 60000 → ∀ x y z w v : Int32, Mt LI h cvI ["java/lang/IndexOutOfBoundsException", "java/lang/IllegalArgumentException", "java/lang/IllegalStateException"] (s_X4_addCitizen σ x y z w v) σ (s_X6_addCitizen μ x y z w v)
def St_setRain (LI : Nat → (Sg × Sg) → MS → Prop) : Prop := ∀ h σ μ, LI h σ μ → h ≤ 60000 → ∀ x y : Int32, Mt LI h cvI ["java/lang/IndexOutOfBoundsException", "java/lang/IllegalArgumentException"] (s_X4_setRain σ x y) σ (s_X6_setRain μ x y)
def St_setDemand (LI : Nat → (Sg × Sg) → MS → Prop) : Prop := ∀ h σ μ, LI h σ μ → h ≤ 60000 → ∀ x y : Int32, Mt LI h cvI ["java/lang/IndexOutOfBoundsException", "java/lang/IllegalArgumentException"] (s_X4_setDemand σ x y) σ (s_X6_setDemand μ x y)
def St_shelter (LI : Nat → (Sg × Sg) → MS → Prop) : Prop := ∀ h σ μ, LI h σ μ → h ≤ 60000 → ∀ x y : Int32, Mt LI h cvI ["java/lang/IndexOutOfBoundsException"] (s_X4_shelter σ x y) σ (s_X6_shelter μ x y)
def St_umbrella (LI : Nat → (Sg × Sg) → MS → Prop) : Prop := ∀ h σ μ, LI h σ μ → h ≤ 60000 → ∀ x y : Int32, Mt LI h cvI ["java/lang/IndexOutOfBoundsException"] (s_X4_umbrella σ x y) σ (s_X6_umbrella μ x y)
def St_citizen (LI : Nat → (Sg × Sg) → MS → Prop) : Prop := ∀ h σ μ, LI h σ μ → h ≤ 60000 → ∀ x y : Int32, Mt LI h cvI ["java/lang/IndexOutOfBoundsException"] (s_X4_citizen σ x y) σ (s_X6_citizen μ x y)
def St_count (LI : Nat → (Sg × Sg) → MS → Prop) : Prop := ∀ h σ μ, LI h σ μ → h ≤ 60000 → ∀ x : Int32, Mt LI h cvI ["java/lang/IndexOutOfBoundsException"] (s_X4_count σ x) σ (s_X6_count μ x)
def St_pass (LI : Nat → (Sg × Sg) → MS → Prop) : Prop := ∀ h σ μ, LI h σ μ → h ≤ 60000 → ∀ x : Int32, Mt LI h cvI ["java/lang/IllegalArgumentException"] (s_X4_pass σ x) σ (s_X6_pass_ μ x)
def St_foresee (LI : Nat → (Sg × Sg) → MS → Prop) : Prop := ∀ h σ μ, LI h σ μ → h ≤ 60000 → ∀ x y : Int32, Mt LI h cvI ["java/lang/IllegalArgumentException", "java/lang/IndexOutOfBoundsException"] (s_X4_foresee σ x y) σ (s_X6_foresee μ x y)
def St_advise (LI : Nat → (Sg × Sg) → MS → Prop) : Prop := ∀ h σ μ, LI h σ μ → h ≤ 60000 → ∀ x : Int32, Mt LI h cvI ["java/lang/IllegalArgumentException", "java/lang/IllegalStateException"] (s_X4_advise σ x) σ (s_X6_advise μ x)
def St_wouldGet (LI : Nat → (Sg × Sg) → MS → Prop) : Prop := ∀ h σ μ, LI h σ μ → h ≤ 60000 → ∀ x y : Int32, Mt LI h cvB ["java/lang/IndexOutOfBoundsException"] (s_X4_wouldGet σ x y) σ (s_X6_wouldGet μ x y)
def St_lasts (LI : Nat → (Sg × Sg) → MS → Prop) : Prop := ∀ h σ μ, LI h σ μ → h ≤ 60000 → ∀ x y : Int32, Mt LI h cvI ["java/lang/IndexOutOfBoundsException"] (s_X4_lasts σ x y) σ (s_X6_lasts μ x y)
def St_trust (LI : Nat → (Sg × Sg) → MS → Prop) : Prop := ∀ h σ μ, LI h σ μ → (s_X4_trust σ).1 = (s_X6_trust μ).1 ∧ LI h (s_X4_trust σ).2 (s_X6_trust μ).2
def St_digest (LI : Nat → (Sg × Sg) → MS → Prop) : Prop := ∀ h σ μ, LI h σ μ → (s_X4_digest σ).1 = (s_X6_digest μ).1 ∧ LI h (s_X4_digest σ).2 (s_X6_digest μ).2
/-- what holds all over the law's walk -/
def LC (p : Program) (l : Launch) (s : State) (m : MethodId) (c : Code) (D : va_G) (cy : Nat → ClassId) (b L : Nat) (xs : Nat → Int32) : Prop :=
  p.tables.exec = Jvm.exec ∧ c.code = code ∧ c.maxLocals = 9 ∧ s.vm.findClass RL = some m.cls ∧ (∀ w ∈ wsL_law, w.before #[Value.ref b] s = true) ∧ va_X b L xs s s.heap ∧ b < s.heap.size ∧ va_K D vwCl (Ty cy) s ∧ gSt (fun q : Nat => s.heap.size ≤ q) s s.heap ∧ gTx s ∧ gNc s ∧ gNw s ∧ l.stackTraces = false ∧ L ≤ 3072
