/-! calls as the law makes them -/
section GRC
variable {p : Program} {l : Launch} {e : Env} {R : Room} {s : State} {m : MethodId} {args : Array Value} {below : List Frame} {meth : Method} {c : Code} {H : Heap} {locs : List Loc} {cells slots : Nat} {Q : State → Prop}
variable {pc : Nat} {ls : Array Slot} {rest st0 : List Value} {A : Nat → Prop} {cc : ByteArray} {D : va_G} {tys : List (ClassId × FieldType)} {a : Nat}
theorem g_callxc {S Sc : Type} {wf : S → va_W} {σ : S} {wfc : Sc → va_W} {σc : Sc} {fc : String ⊕ (Int32 × Sc)} {y : MethodName} {bytes : ByteArray} {maxL nL mc ms n index cells2 slots2 : Nat} {rt : FieldType} {wc : List Cond} {rm : Room} {Ts : List Cond} {own C : String} {ci q0 : Nat} {fs : List Value} {cl0 : vw_C}
    (hl : l.stackTraces = false) (hst : gSt A s s.heap) (htx : gTx s)
    (hx : p.tables.exec = Jvm.exec) (hb : c.code = cc) (hml : c.maxLocals = nL) (hown : s.vm.findClass own = some m.cls) (hts : ∀ w ∈ Ts, w.before args s = true) (hK : va_K D vwCl tys s) (hP : va_P D vwCl (wf σ) H) (hD : va_D A (wf σ)) (hS : va_S A s.heap H locs) (hA : ∀ q : Nat, s.heap.size ≤ q → A q) (hsz : ls.size = nL)
    (wr : va_W) (hp1 : (wf σ).Perm (wfc σc ++ wr)) (back : Sc → S) (hp2 : ∀ u, (wfc u ++ wr).Perm (wf (back u)))
    (As : List Value) (hM : gMx l y wc rm D tys wfc (.ref a :: As) σc fc mc ms) (cw : CallW R s args own C index y bytes maxL (some rt) wc rm mc ms n) (he : (wf σ)[q0]? = some (a, .inr (ci, fs))) (hc : vwCl[ci]? = some cl0) (hC : cl0.1 = C) (hn : As.length = n) (hstk : st0 = As.reverse ++ .ref a :: rest) (hW : (rest.map fun v => v.category).sum ≤ 8) (hdg : decode cc pc = .ok (.invokevirtual index, 3)) (hroom : cells + mc ≤ R.cells ∧ slots + ms ≤ R.slots) (hc2 : cells + mc = cells2) (hs2 : slots + ms = slots2)
    (kx : ∀ (E : String) (ce : Cell) (q9 : Addr), fc = .inl E → ∀ (H1 : Heap) (locs1 : List Loc), va_P D vwCl (wf σ) H1 → va_D A (wf σ) → va_S A s.heap H1 locs1 → H1[q9]? = some ce → ce.vm = .none → s.vm.findClass E = some ce.cls → vx_W p l e R s m args below meth c H1 locs1 cells2 slots2 Q (F0 m pc ls rest) q9)
    (kk : ∀ (r : Int32) (u : Sc), fc = .inr (r, u) → ∀ (H1 : Heap) (locs1 : List Loc), va_P D vwCl (wf (back u)) H1 → va_D A (wf (back u)) → va_S A s.heap H1 locs1 → W p l e R s m args below meth c H1 locs1 cells2 slots2 Q (F0 m (pc + 3) ls (.int r :: rest))) : W p l e R s m args below meth c H locs cells slots Q (F0 m pc ls st0) := by
  subst hc2; subst hs2; subst hstk
  have hP1 := va_P_perm hp1 hP
  have hD1 := va_D_perm hp1 hD
  have hF := g_free hD1 hS hA
  have hst1 : gSt (va_A (wfc σc) H.size) s H := (hst.kept (fun q h1 h2 => hS.2.1 q h1 h2)).narrow hF
  refine vx_calli (vx_runV (As := As) (rest := rest) ⟨hx, hb, hml, hown, hts⟩ (hM hl H.size) cw ⟨gPreX_blind, ?_, fun U hU hW => ⟨rfl, ⟨by rw [hU], by rw [hU]; exact va_P_l hP1, va_K.moved hW.alike hK, (va_D_l hD1).weaken (fun _ _ _ _ => trivial)⟩, by rw [hU]; exact hst1.moved hW.alike, htx.warm hW⟩⟩ rfl hn hsz rfl (lv_room hW) hdg hroom) hS (fun q _ h => hF q h) hF (fun q _ h => hF q h) (fun E ce q9 u t H1 locs1 ht hvm hpx hB hz1 hk1 hS1 hcell hcv hcl => ?_) (fun r u t H1 locs1 ht hvm hw hB hz1 hk1 hS1 => ?_)
  · obtain ⟨cell, h1, h2, h3⟩ := va_recv hK hP hc he
    exact ⟨cell, h1, h2, by rw [← hC]; exact h3⟩
  · subst hpx
    obtain ⟨hfE, g1, g2⟩ := hB
    rw [ht] at g1
    obtain ⟨j1, j2⟩ := g_join hP1 hD1 hk1 hF g1 g2
    exact kx E ce q9 hfE H1 locs1 (va_P_perm hp1.symm j1) (va_D_perm hp1.symm j2) hS1 hcell hcv hcl
  · obtain ⟨g1, g2⟩ := hB
    rw [ht] at g1
    obtain ⟨j1, j2⟩ := g_join hP1 hD1 hk1 hF g1 g2
    exact kk r u hw H1 locs1 (va_P_perm (hp2 u) j1) (va_D_perm (hp2 u) j2) hS1
end GRC
section GRK
variable {p : Program} {l : Launch} {e : Env} {R : Room} {s : State} {m : MethodId} {args : Array Value} {below : List Frame} {meth : Method} {c : Code} {H : Heap} {locs : List Loc} {cells slots : Nat} {Q : State → Prop}
variable {pc : Nat} {ls : Array Slot} {rest st0 : List Value} {A : Nat → Prop} {H0 : Heap} {cc : ByteArray} {D : va_G} {tys : List (ClassId × FieldType)} {ws : va_W} {a : Nat}
theorem g_calll {S Sc : Type} {wf : S → va_W} {σ : S} {wfc : Sc → va_W} {σc : Sc} {f : Int64 × Sc} {y : MethodName} {bytes : ByteArray} {maxL nL mc ms n index cells2 slots2 : Nat} {wc : List Cond} {rm : Room} {Ts : List Cond} {own C : String} {ci q0 : Nat} {fs : List Value} {cl0 : vw_C}
    (hx : p.tables.exec = Jvm.exec) (hb : c.code = cc) (hml : c.maxLocals = nL) (hown : s.vm.findClass own = some m.cls) (hts : ∀ w ∈ Ts, w.before args s = true) (hK : va_K D vwCl tys s) (hP : va_P D vwCl (wf σ) H) (hD : va_D A (wf σ)) (hS : va_S A H0 H locs) (hA : ∀ q : Nat, H0.size ≤ q → A q) (hsz : ls.size = nL)
    (wr : va_W) (hp1 : (wf σ).Perm (wfc σc ++ wr)) (back : Sc → S) (hp2 : ∀ u, (wfc u ++ wr).Perm (wf (back u)))
    (As : List Value) (hM : gMl l y wc rm D tys wfc (.ref a :: As) σc f mc ms) (cw : CallW R s args own C index y bytes maxL (some .long) wc rm mc ms n) (he : (wf σ)[q0]? = some (a, .inr (ci, fs))) (hc : vwCl[ci]? = some cl0) (hC : cl0.1 = C) (hn : As.length = n) (hst : st0 = As.reverse ++ .ref a :: rest) (hW : (rest.map fun v => v.category).sum ≤ 8) (hdg : decode cc pc = .ok (.invokevirtual index, 3)) (hroom : cells + mc ≤ R.cells ∧ slots + ms ≤ R.slots) (hc2 : cells + mc = cells2) (hs2 : slots + ms = slots2)
    (kk : ∀ u : Int64 × Sc, u = f → ∀ (H1 : Heap) (locs1 : List Loc), va_P D vwCl (wf (back u.2)) H1 → va_D A (wf (back u.2)) → va_S A H0 H1 locs1 → W p l e R s m args below meth c H1 locs1 cells2 slots2 Q (F0 m (pc + 3) ls (.long u.1 :: rest))) : W p l e R s m args below meth c H locs cells slots Q (F0 m pc ls st0) := by
  subst hc2; subst hs2; subst hst
  have hP1 := va_P_perm hp1 hP
  have hD1 := va_D_perm hp1 hD
  have hF := g_free hD1 hS hA
  refine va_calll (va_runV (As := As) (rest := rest) ⟨hx, hb, hml, hown, hts⟩ (hM H.size) cw ⟨gPre_blind, ?_, fun U hU hW => ⟨rfl, by rw [hU], by rw [hU]; exact va_P_l hP1, va_K.moved hW.alike hK, (va_D_l hD1).weaken (fun _ _ _ _ => trivial)⟩⟩ rfl hn hsz rfl (lv_room hW) hdg hroom) hS (fun q _ h => hF q h) hF (fun r u t H1 locs1 ht hvm hw hB hz1 hk1 hS1 => ?_)
  · obtain ⟨cell, h1, h2, h3⟩ := va_recv hK hP hc he
    exact ⟨cell, h1, h2, by rw [← hC]; exact h3⟩
  · obtain ⟨g1, g2⟩ := hB
    rw [ht] at g1
    obtain ⟨j1, j2⟩ := g_join hP1 hD1 hk1 hF g1 g2
    exact kk (r, u) hw H1 locs1 (va_P_perm (hp2 u) j1) (va_D_perm (hp2 u) j2) hS1
theorem g_calld {S Sc : Type} {wf : S → va_W} {σ : S} {wfc : Sc → va_W} {σc : Sc} {f : UInt64 × Sc} {y : MethodName} {bytes : ByteArray} {maxL nL mc ms n index cells2 slots2 : Nat} {wc : List Cond} {rm : Room} {Ts : List Cond} {own C : String} {ci q0 : Nat} {fs : List Value} {cl0 : vw_C}
    (hx : p.tables.exec = Jvm.exec) (hb : c.code = cc) (hml : c.maxLocals = nL) (hown : s.vm.findClass own = some m.cls) (hts : ∀ w ∈ Ts, w.before args s = true) (hK : va_K D vwCl tys s) (hP : va_P D vwCl (wf σ) H) (hD : va_D A (wf σ)) (hS : va_S A H0 H locs) (hA : ∀ q : Nat, H0.size ≤ q → A q) (hsz : ls.size = nL)
    (wr : va_W) (hp1 : (wf σ).Perm (wfc σc ++ wr)) (back : Sc → S) (hp2 : ∀ u, (wfc u ++ wr).Perm (wf (back u)))
    (As : List Value) (hM : gMd l y wc rm D tys wfc (.ref a :: As) σc f mc ms) (cw : CallW R s args own C index y bytes maxL (some .double) wc rm mc ms n) (he : (wf σ)[q0]? = some (a, .inr (ci, fs))) (hc : vwCl[ci]? = some cl0) (hC : cl0.1 = C) (hn : As.length = n) (hst : st0 = As.reverse ++ .ref a :: rest) (hW : (rest.map fun v => v.category).sum ≤ 8) (hdg : decode cc pc = .ok (.invokevirtual index, 3)) (hroom : cells + mc ≤ R.cells ∧ slots + ms ≤ R.slots) (hc2 : cells + mc = cells2) (hs2 : slots + ms = slots2)
    (kk : ∀ u : UInt64 × Sc, u = f → ∀ (H1 : Heap) (locs1 : List Loc), va_P D vwCl (wf (back u.2)) H1 → va_D A (wf (back u.2)) → va_S A H0 H1 locs1 → W p l e R s m args below meth c H1 locs1 cells2 slots2 Q (F0 m (pc + 3) ls (.double u.1 :: rest))) : W p l e R s m args below meth c H locs cells slots Q (F0 m pc ls st0) := by
  subst hc2; subst hs2; subst hst
  have hP1 := va_P_perm hp1 hP
  have hD1 := va_D_perm hp1 hD
  have hF := g_free hD1 hS hA
  refine va_calld (va_runV (As := As) (rest := rest) ⟨hx, hb, hml, hown, hts⟩ (hM H.size) cw ⟨gPre_blind, ?_, fun U hU hW => ⟨rfl, by rw [hU], by rw [hU]; exact va_P_l hP1, va_K.moved hW.alike hK, (va_D_l hD1).weaken (fun _ _ _ _ => trivial)⟩⟩ rfl hn hsz rfl (lv_room hW) hdg hroom) hS (fun q _ h => hF q h) hF (fun r u t H1 locs1 ht hvm hw hB hz1 hk1 hS1 => ?_)
  · obtain ⟨cell, h1, h2, h3⟩ := va_recv hK hP hc he
    exact ⟨cell, h1, h2, by rw [← hC]; exact h3⟩
  · obtain ⟨g1, g2⟩ := hB
    rw [ht] at g1
    obtain ⟨j1, j2⟩ := g_join hP1 hD1 hk1 hF g1 g2
    exact kk (r, u) hw H1 locs1 (va_P_perm (hp2 u) j1) (va_D_perm (hp2 u) j2) hS1
end GRK
