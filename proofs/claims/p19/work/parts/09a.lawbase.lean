/-! THE LAW: what holds all over its walk; its small methods; its calls -/
def LCC (p : Program) (l : Launch) (s : State) (m : MethodId) (c : Code) (args : Array Value) (A : Nat → Prop) (D : va_G) (cy : Nat → ClassId) (b L : Nat) (xs : Nat → Int32) (cc : ByteArray) (nL : Nat) (Ts : List Cond) : Prop :=
  p.tables.exec = Jvm.exec ∧ c.code = cc ∧ c.maxLocals = nL ∧ s.vm.findClass RL = some m.cls ∧ (∀ w ∈ Ts, w.before args s = true) ∧ va_K D vwCl (Ty cy) s ∧ (va_X b L xs s s.heap ∧ b < s.heap.size ∧ ¬ A b ∧ L ≤ 260) ∧ (∀ q : Nat, s.heap.size ≤ q → A q) ∧ gSt A s s.heap ∧ gTx s ∧ l.stackTraces = false
theorem and_nn (x : Int32) : 0 ≤ (x &&& (2147483647 : Int32)).toInt := by
  have key : (x &&& (2147483647 : Int32)).toBitVec.msb = false := by
    rw [Int32.toBitVec_and, BitVec.msb_and]
    have e : (2147483647 : Int32).toBitVec.msb = false := by decide
    rw [e]
    simp
  rw [BitVec.msb_eq_toInt] at key
  have h1 : ¬ (x &&& (2147483647 : Int32)).toInt < 0 := of_decide_eq_false key
  omega
theorem rem_n {x n : Int32} (hx : 0 ≤ x.toInt) (hn : 0 < n.toInt) : (x - x / n * n).toInt = x.toInt % n.toInt := by
  have hn1 : n ≠ (-1 : Int32) := fun q => by rw [q, ti_m1] at hn; omega
  have hd : (x / n).toInt = x.toInt.tdiv n.toInt := Int32.toInt_div_of_ne_right _ _ hn1
  have b1 := Int32.toInt_lt x
  have e := Int.mul_tdiv_add_tmod x.toInt n.toInt
  have t1 := Int.tmod_lt_of_pos x.toInt hn
  have t2 := Int.tmod_nonneg n.toInt hx
  have e2 : x.toInt.tmod n.toInt = x.toInt % n.toInt := Int.tmod_eq_emod_of_nonneg hx
  have t3 : x.toInt.tmod n.toInt ≤ x.toInt := by
    have q1 := Int.tdiv_nonneg hx (Int.le_of_lt hn)
    have q2 := Int.mul_nonneg (Int.le_of_lt hn) q1
    omega
  have e3 : x.toInt.tdiv n.toInt * n.toInt = x.toInt - x.toInt.tmod n.toInt := by rw [Int.mul_comm]; omega
  have e1 : (x / n * n).toInt = x.toInt - x.toInt.tmod n.toInt := by
    rw [Int32.toInt_mul, hd, e3, Int.bmod_eq_of_le_mul_two (by omega) (by omega)]
  rw [ti_sub (by rw [e1]; omega), e1, ← e2]
  omega
def bl (x n : Int32) : Int32 := (x &&& (2147483647 : Int32)) - (x &&& (2147483647 : Int32)) / n * n
theorem bl_rg (x : Int32) {n : Int32} (hn : 0 < n.toInt) : 0 ≤ (bl x n).toInt ∧ (bl x n).toInt < n.toInt := by
  unfold bl
  rw [rem_n (and_nn x) hn]
  exact ⟨Int.emod_nonneg _ (by omega), Int.emod_lt_of_pos _ hn⟩
abbrev rm_L0 : Room := { frames := 0, cells := 0, slots := 0, locals := 0 }
set_option maxHeartbeats 4000000 in
set_option maxRecDepth 100000 in
theorem c_L_below (l : Launch) (D : va_G) (cy : Nat → ClassId) (x n : Int32) (hn : ¬ n = 0) : gMr l yL_below wsL_below rm_L0 D (Ty cy) w0 [.int (x), .int (n)] () (bl x n) 0 0 := by
  refine gstarti cL_below 2 RL (by decide) rfl rfl (Nat.le_of_ble_eq_true rfl) ?_
  intro p e s m below meth c A ls hx hb hml hown hts hr hlocks hK hP hD hA hS hl
  have hl : lv_has ls 2 [(0, .int (x)), (1, .int (n))] := hl
  refine lv_iload_n hx hb dL_below_0 rfl (lv_at hl 0 rfl) ?_
  refine lv_ldc hx hb hown (hts (.constant RL 7 (2147483647)) (by decide +kernel)) dL_below_1 ?_
  refine lv_iand hx hb dL_below_3 ?_
  refine lv_iload_n hx hb dL_below_4 rfl (lv_at hl 1 rfl) ?_
  refine lv_irem hx hb dL_below_5 hn ?_
  exact g_endi hx hb hr hlocks rfl rfl hP hD hS (Nat.le_of_ble_eq_true rfl) (Nat.le_of_ble_eq_true rfl) dL_below_6
set_option maxHeartbeats 4000000 in
set_option maxRecDepth 100000 in
/-- the script's own word, or one that its place makes -/
theorem c_L_cell (l : Launch) (b L sz : Nat) (xs : Nat → Int32) (k : Int32) (hk : 0 ≤ k.toInt) (hL : L ≤ 260) : Met l yL_cell wsL_cell rm_L0 (va_Pc [.ref b, .int k] (fun U => U.heap.size = sz ∧ b < U.heap.size ∧ va_X b L xs U U.heap)) (va_Qi (fun _ (_ : Unit) => True) (fun _ _ => True) (va_A [] sz)) 0 0 (va_A [] sz) := by
  refine Met.ofW (cc := cL_cell) (maxL := 2) (ret := some .int) (by decide) rfl ?_
  intro p e s m args below meth c s₁ B hml hv
  obtain ⟨rfl, hsz, hbl, hX⟩ := hv
  have hx := B.exec
  have hb := B.bytes
  have hr := B.returns
  have hlocks := B.notSynchronized
  have hts := atoms_spec (ws := wsL_cell) B.pre
  have hown : s.vm.findClass RL = some m.cls := findClass_of_methodNamed B.named
  subst hsz
  have hA : ∀ q : Nat, s.heap.size ≤ q → va_A [] s.heap.size q := fun q h => Or.inr h
  have hbA : ¬ va_A [] s.heap.size b := fun h => by
    rcases va_A_mem.mp h with q | q
    · simp at q
    · omega
  have hS : va_S (va_A [] s.heap.size) s.heap s.heap [] := va_S.rf
  generalize va_A [] s.heap.size = A at hA hbA hS ⊢
  have hl := lv_entry ([.ref b, .int k]) (n := 2) (Nat.le_of_ble_eq_true rfl)
  rw [lg_entry_eq]
  generalize (lg_sl ([.ref b, .int k]) ++ List.replicate (2 - (lg_sl ([.ref b, .int k])).length) Slot.unset).toArray = ls at hl ⊢
  have hl : lv_has ls 2 [(0, .ref b), (1, .int k)] := hl
  have eL : (Int32.ofNat L).toInt = (L : Int) := ti_n (by omega)
  refine lv_iload_n hx hb dL_cell_0 rfl (lv_at hl 1 rfl) ?_
  refine lv_aload_n hx hb dL_cell_1 rfl (lv_at hl 0 rfl) ?_
  refine va_slen hx hb hX hbl hbA hS dL_cell_2 ?_
  refine lv_icmp_ge (tgt := 12) hx hb dL_cell_3 (by decide) (fun c1 => ?_) (fun c1 => ?_)
  · refine lv_ldc hx hb hown (hts (.constant RL 8 (790386105)) (by decide +kernel)) dL_cell_12 ?_
    refine lv_iload_n hx hb dL_cell_14 rfl (lv_at hl 1 rfl) ?_
    refine lv_iconst (v := nI 3) hx hb dL_cell_15 (by decide) ?_
    refine lv_iadd hx hb dL_cell_16 ?_
    refine lv_imul hx hb dL_cell_17 ?_
    exact W.iret hx hb hr (fun t ht hW => ⟨⟨_, (), rfl, trivial, trivial⟩, hS.F ht⟩) hS.2.2 dL_cell_18 hlocks
  · have hin : vp_in k L := by
      rw [vp_in_iff]
      have c2 : ¬ (L : Int) ≤ k.toInt := fun q => c1 (tle.mpr (by rw [eL]; exact q))
      omega
    refine lv_aload_n hx hb dL_cell_6 rfl (lv_at hl 0 rfl) ?_
    refine lv_iload_n hx hb dL_cell_7 rfl (lv_at hl 1 rfl) ?_
    refine va_sld hx hb hX hbl hbA hS hin dL_cell_8 ?_
    refine lv_goto (tgt := 18) hx hb dL_cell_9 (by decide) ?_
    exact W.iret hx hb hr (fun t ht hW => ⟨⟨_, (), rfl, trivial, trivial⟩, hS.F ht⟩) hS.2.2 dL_cell_18 hlocks
section LR
variable {p : Program} {l : Launch} {e : Env} {R : Room} {s : State} {m : MethodId} {args : Array Value} {below : List Frame} {meth : Method} {c : Code} {H : Heap} {locs : List Loc} {cells slots : Nat} {Q : State → Prop}
variable {pc : Nat} {ls : Array Slot} {rest : List Value} {A : Nat → Prop} {cc : ByteArray} {D : va_G} {cy : Nat → ClassId} {b L nL : Nat} {xs : Nat → Int32} {Ts : List Cond} {ax ad ad2 : Nat → Nat} {X : va_W}
/-- 'below' -/
theorem lr_below (C : LCC p l s m c args A D cy b L xs cc nL Ts) {ws : va_W} (hP : va_P D vwCl ws H) (hD : va_D A ws) (hS : va_S A s.heap H locs) (hsz : ls.size = nL)
    (cw : CallB R s args RL 18 yL_below cL_below 2 (some .int) wsL_below rm_L0 0 0 2 ∧ (Cond.static yL_below).before args s = true) {n x : Int32} (hn : 0 < n.toInt) (hW : (rest.map fun v => v.category).sum ≤ 8) (hdg : decode cc pc = .ok (.invokestatic 18, 3)) (hroom : cells ≤ R.cells ∧ slots ≤ R.slots)
    (kk : ∀ r : Int32, 0 ≤ r.toInt → r.toInt < n.toInt → ∀ (H1 : Heap) (locs1 : List Loc), va_P D vwCl ws H1 → va_D A ws → va_S A s.heap H1 locs1 → W p l e R s m args below meth c H1 locs1 cells slots Q (F0 m (pc + 3) ls (.int r :: rest))) :
    W p l e R s m args below meth c H locs cells slots Q (F0 m pc ls (.int n :: .int x :: rest)) := by
  obtain ⟨hx, hb, hml, hown, hts, hK, hX, hA, hst, htx, hl0⟩ := C
  have hn0 : ¬ n = 0 := fun q => by rw [q, ti_0] at hn; omega
  obtain ⟨g1, g2⟩ := bl_rg x hn
  exact g_callsr (wf := fun _ : Unit => ws) (σ := ()) (wfc := w0) (σc := ()) hx hb hml hown hts hK hP hD hS hA hsz ws (List.Perm.refl _) [.int x, .int n] (c_L_below l D cy x n hn0) cw rfl rfl hW hdg hroom rfl rfl (fun r hr H1 locs1 hP hD hS => by subst hr; exact kk _ g1 g2 H1 locs1 hP hD hS)
/-- 'cell' -/
theorem lr_cell (C : LCC p l s m c args A D cy b L xs cc nL Ts) {ws : va_W} (hP : va_P D vwCl ws H) (hD : va_D A ws) (hS : va_S A s.heap H locs) (hsz : ls.size = nL)
    (cw : CallB R s args RL 12 yL_cell cL_cell 2 (some .int) wsL_cell rm_L0 0 0 2 ∧ (Cond.static yL_cell).before args s = true) {k : Int32} (hk : 0 ≤ k.toInt) (hW : (rest.map fun v => v.category).sum ≤ 8) (hdg : decode cc pc = .ok (.invokestatic 12, 3)) (hroom : cells ≤ R.cells ∧ slots ≤ R.slots)
    (kk : ∀ r : Int32, ∀ (H1 : Heap) (locs1 : List Loc), va_P D vwCl ws H1 → va_D A ws → va_S A s.heap H1 locs1 → W p l e R s m args below meth c H1 locs1 cells slots Q (F0 m (pc + 3) ls (.int r :: rest))) :
    W p l e R s m args below meth c H locs cells slots Q (F0 m pc ls (.int k :: .ref b :: rest)) := by
  obtain ⟨hx, hb, hml, hown, hts, hK, ⟨hX, hbl, hbA, hL⟩, hA, hst, htx, hl0⟩ := C
  have hF := g_free (wc := []) (wr := ws) hD hS hA
  have hXH : va_X b L xs s H := hX.kept (hS.2.1 b hbl hbA)
  have hbH : b < H.size := Nat.lt_of_lt_of_le hbl hS.1
  refine va_calli (va_runS (As := [.ref b, .int k]) (rest := rest) ⟨hx, hb, hml, hown, hts⟩ (c_L_cell l b L H.size xs k hk hL) cw ⟨?_, fun U hU hW => ⟨rfl, by rw [hU], by rw [hU]; exact hbH, by rw [hU]; exact hXH.moved hW.alike⟩⟩ rfl rfl hsz rfl (lv_room hW) hdg hroom) hS (fun q _ h => hF q h) hF (fun r u t H1 locs1 ht hvm hw hB hz1 hk1 hS1 => ?_)
  · intro a U g mk h
    obtain ⟨h0, h1, h2, h3⟩ := h
    exact ⟨h0, h1, h2, va_X.moved (u := U) (U := U.calling g mk a) (Vm.Alike.refl U.vm) h3⟩
  · have e : va_P D vwCl ws H1 := va_P_iff.mpr fun q hq => by
      have h0 := va_P_iff.mp hP q hq
      exact h0.kept (hk1 q.1 h0.lt (fun h => by
        rcases va_A_mem.mp h with z | z
        · simp at z
        · have := h0.lt; omega))
    exact kk r H1 locs1 e hD hS1
/-- a method of the class that answers an int, and doesn't throw here -/
theorem lr_call (C : LCC p l s m c args A D cy b L xs cc nL Ts) {σ τ : Sg × Sg} {r : Int32} {fc : String ⊕ (Int32 × (Sg × Sg))} (hP : va_P D vwCl (CW cy ax ad ad2 σ ++ X) H) (hD : va_D A (CW cy ax ad ad2 σ ++ X)) (hS : va_S A s.heap H locs) (hsz : ls.size = nL)
    (As : List Value) {y : MethodName} {bytes : ByteArray} {maxL mc ms n index cells2 slots2 : Nat} {rt : FieldType} {wc : List Cond} {rm : Room} {st0 : List Value}
    (hM : gMx l y wc rm D (Ty cy) (CW cy ax ad ad2) (.ref (ax 0) :: As) σ fc mc ms) (cw : CallW R s args RL RX4 index y bytes maxL (some rt) wc rm mc ms n) (hfc : fc = .inr (r, τ)) (hn : As.length = n) (hstk : st0 = As.reverse ++ .ref (ax 0) :: rest) (hW : (rest.map fun v => v.category).sum ≤ 8) (hdg : decode cc pc = .ok (.invokevirtual index, 3)) (hroom : cells + mc ≤ R.cells ∧ slots + ms ≤ R.slots) (hc2 : cells + mc = cells2) (hs2 : slots + ms = slots2)
    (kk : ∀ (H1 : Heap) (locs1 : List Loc), va_P D vwCl (CW cy ax ad ad2 τ ++ X) H1 → va_D A (CW cy ax ad ad2 τ ++ X) → va_S A s.heap H1 locs1 → W p l e R s m args below meth c H1 locs1 cells2 slots2 Q (F0 m (pc + 3) ls (.int r :: rest))) :
    W p l e R s m args below meth c H locs cells slots Q (F0 m pc ls st0) := by
  obtain ⟨hx, hb, hml, hown, hts, hK, hX, hA, hst, htx, hl0⟩ := C
  refine g_callxc (wf := fun u => CW cy ax ad ad2 u ++ X) (σ := σ) (wfc := CW cy ax ad ad2) (σc := σ) hl0 hst htx hx hb hml hown hts hK hP hD hS hA hsz X (List.Perm.refl _) (fun u => u) (fun _ => List.Perm.refl _) As hM cw (ci := 4) (q0 := 0) (fs := [.ref (ad 0), .ref (ad2 0)]) rfl rfl rfl hn hstk hW hdg hroom hc2 hs2 (fun E ce q9 h => ?_) (fun r' u' h H1 locs1 hP hD hS => ?_)
  · rw [hfc] at h; cases h
  · rw [hfc] at h; cases h
    exact kk H1 locs1 hP hD hS
theorem lr_digest (C : LCC p l s m c args A D cy b L xs cc nL Ts) {σ : Sg × Sg} (hI : OkR σ.1) (hP : va_P D vwCl (CW cy ax ad ad2 σ ++ X) H) (hD : va_D A (CW cy ax ad ad2 σ ++ X)) (hS : va_S A s.heap H locs) (hsz : ls.size = nL)
    {bytes : ByteArray} {maxL n index : Nat} (cw : CallW R s args RL RX4 index yX4_digest bytes maxL (some .long) wsX4_digest rm_X4_digest 0 0 n) (hn : 0 = n) (hW : (rest.map fun v => v.category).sum ≤ 8) (hdg : decode cc pc = .ok (.invokevirtual index, 3)) (hroom : cells ≤ R.cells ∧ slots ≤ R.slots)
    (kk : ∀ (H1 : Heap) (locs1 : List Loc), va_P D vwCl (CW cy ax ad ad2 σ ++ X) H1 → va_D A (CW cy ax ad ad2 σ ++ X) → va_S A s.heap H1 locs1 → W p l e R s m args below meth c H1 locs1 cells slots Q (F0 m (pc + 3) ls (.long (s_X4_digest σ).1 :: rest))) :
    W p l e R s m args below meth c H locs cells slots Q (F0 m pc ls (.ref (ax 0) :: rest)) := by
  obtain ⟨hx, hb, hml, hown, hts, hK, hX, hA, hst, htx, hl0⟩ := C
  exact g_calll (wf := fun u => CW cy ax ad ad2 u ++ X) (σ := σ) (wfc := CW cy ax ad ad2) (σc := σ) hx hb hml hown hts hK hP hD hS hA hsz X (List.Perm.refl _) (fun u => u) (fun _ => List.Perm.refl _) [] (c_X4_digest l D cy ax ad ad2 σ hI) cw (ci := 4) (q0 := 0) (fs := [.ref (ad 0), .ref (ad2 0)]) rfl rfl rfl hn rfl hW hdg hroom rfl rfl (fun u eu H1 locs1 hP hD hS => by subst eu; exact kk H1 locs1 hP hD hS)
theorem lr_trust (C : LCC p l s m c args A D cy b L xs cc nL Ts) {σ : Sg × Sg} {v : UInt64} (hI : OkR σ.1) (hnan : ¬ σ.1 0 7 = 0 → vf_n64 (FP.ddiv (FP.i2d (s_X1_trustOfAll σ.1)) (FP.i2d (σ.1 0 7)))) (hv : s_X4_trust σ = (v, σ)) (hP : va_P D vwCl (CW cy ax ad ad2 σ ++ X) H) (hD : va_D A (CW cy ax ad ad2 σ ++ X)) (hS : va_S A s.heap H locs) (hsz : ls.size = nL)
    {bytes : ByteArray} {maxL n index : Nat} (cw : CallW R s args RL RX4 index yX4_trust bytes maxL (some .double) wsX4_trust rm_X4_trust 0 0 n) (hn : 0 = n) (hW : (rest.map fun v => v.category).sum ≤ 8) (hdg : decode cc pc = .ok (.invokevirtual index, 3)) (hroom : cells ≤ R.cells ∧ slots ≤ R.slots)
    (kk : ∀ (H1 : Heap) (locs1 : List Loc), va_P D vwCl (CW cy ax ad ad2 σ ++ X) H1 → va_D A (CW cy ax ad ad2 σ ++ X) → va_S A s.heap H1 locs1 → W p l e R s m args below meth c H1 locs1 cells slots Q (F0 m (pc + 3) ls (.double v :: rest))) :
    W p l e R s m args below meth c H locs cells slots Q (F0 m pc ls (.ref (ax 0) :: rest)) := by
  obtain ⟨hx, hb, hml, hown, hts, hK, hX, hA, hst, htx, hl0⟩ := C
  exact g_calld (wf := fun u => CW cy ax ad ad2 u ++ X) (σ := σ) (wfc := CW cy ax ad ad2) (σc := σ) hx hb hml hown hts hK hP hD hS hA hsz X (List.Perm.refl _) (fun u => u) (fun _ => List.Perm.refl _) [] (c_X4_trust l D cy ax ad ad2 σ hI hnan) cw (ci := 4) (q0 := 0) (fs := [.ref (ad 0), .ref (ad2 0)]) rfl rfl rfl hn rfl hW hdg hroom rfl rfl (fun u eu H1 locs1 hP hD hS => by rw [hv] at eu; subst eu; exact kk H1 locs1 hP hD hS)
end LR
