theorem lg_self (x : Int64) : lg_cmp x x = 0 := by simp [lg_cmp]
set_option maxHeartbeats 4000000 in
set_option maxRecDepth 100000 in
theorem bB1 {p : Program} {l : Launch} {e : Env} {s : State} {m : MethodId} {args : Array Value} {below : List Frame} {meth : Method} {c : Code} {Q : State → Prop} {A : Nat → Prop} {D : va_G} {cy : Nat → ClassId} {b L : Nat} {xs : Nat → Int32} {ax ad ad2 : Nat → Nat} (C0 : LCC p l s m c args A D cy b L xs cL_law 18 wsL_law) {B nS nU nC t : Nat} {σ : Sg × Sg} {x : Int32} (ht : t < 60) (hI : Inv B nS nU nC σ.1) (cells slots : Nat) (hr : cells + 50 ≤ room_1.cells ∧ slots + 400 ≤ room_1.slots)
    (K : ∀ hh : Int32, (1 ≤ hh.toInt ∧ hh.toInt ≤ 3) → ∀ (z : Sg) (H : Heap) (locs : List Loc) (ls : Array Slot), va_P D vwCl (CW cy ax ad ad2 (σ.1, z) ++ ([] : va_W)) H → va_D A (CW cy ax ad ad2 (σ.1, z) ++ ([] : va_W)) → va_S A s.heap H locs → lv_has ls 18 [(9, .int (s_X1_umbrellasThatAre (s_X1_letGoBy σ.1 (tn hh)).2 (nI 0))), (8, .int (s_X1_wetOfAll (s_X1_letGoBy σ.1 (tn hh)).2)), (6, .long ((s_X4_digest σ).1)), (5, .int (hh)), (0, .ref (b)), (1, .ref (ax 0)), (2, .int (nI nS)), (3, .int (nI t)), (4, .int (x))] → W p l e room_1 s m args below meth c H locs (cells + 7) (slots + 42) Q (F0 m 209 ls [])) :
    ∀ (H : Heap) (locs : List Loc) (ls : Array Slot), va_P D vwCl (CW cy ax ad ad2 σ ++ ([] : va_W)) H → va_D A (CW cy ax ad ad2 σ ++ ([] : va_W)) → va_S A s.heap H locs → lv_has ls 18 [(0, .ref (b)), (1, .ref (ax 0)), (2, .int (nI nS)), (3, .int (nI t)), (4, .int (x))] → W p l e room_1 s m args below meth c H locs (cells) (slots) Q (F0 m 149 ls []) := by
  intro H locs ls hP hD hS hl
  have C9 := C0
  obtain ⟨hx, hb, hml, hown, hts, hK, hXX, hA, hst, htx, hl0⟩ := C9
  have n8 := hI.1.2.2.1
  have n40 := hI.1.2.2.2.1
  have n10 := hI.1.2.2.2.2.1
  have nB := hI.1.2.2.2.2.2
  refine lv_iconst (v := nI 1) hx hb dL_law_149 (by decide) ?_
  refine lv_iload hx hb dL_law_150 (lv_at hl 4 rfl) ?_
  refine lv_iconst (v := nI 5) hx hb dL_law_152 (by decide) ?_
  refine lv_ishr hx hb dL_law_153 ?_
  refine lv_iconst (v := nI 3) hx hb dL_law_154 (by decide) ?_
  refine lr_below C0 hP hD hS hl.1 (cwb_L_law hts) (by rw [ti_n (by decide)]; omega) (Nat.le_of_ble_eq_true rfl) dL_law_155 ⟨by omega, by omega⟩ (fun r0 r0a r0b H locs hP hD hS => ?_)
  rw [ti_n (by decide)] at r0b
  refine lv_iadd hx hb dL_law_158 ?_
  refine lv_topi (fun hh ehh => ?_)
  have hh9 : 1 ≤ hh.toInt ∧ hh.toInt ≤ 3 := by rw [ehh, ti_add (by rw [k_1]; omega), k_1]; omega
  refine lv_istore (lv' := [(5, .int (hh)), (0, .ref (b)), (1, .ref (ax 0)), (2, .int (nI nS)), (3, .int (nI t)), (4, .int (x))]) hx hb dL_law_159 hl (by decide) rfl (fun ls hl => ?_)
  refine lv_aload_n hx hb dL_law_161 rfl (lv_at hl 2 rfl) ?_
  refine lr_digest C0 (σ := σ) (inv_okR hI) hP hD hS hl.1 (cw_L_law_digest hts) rfl (Nat.le_of_ble_eq_true rfl) dL_law_162 ⟨by omega, by omega⟩ (fun H locs hP hD hS => ?_)
  refine lv_lstore (lv' := [(6, .long ((s_X4_digest σ).1)), (5, .int (hh)), (0, .ref (b)), (1, .ref (ax 0)), (2, .int (nI nS)), (3, .int (nI t)), (4, .int (x))]) hx hb dL_law_165 hl (by decide) rfl (fun ls hl => ?_)
  refine lv_aload_n hx hb dL_law_167 rfl (lv_at hl 3 rfl) ?_
  refine lv_iload hx hb dL_law_168 (lv_at hl 1 rfl) ?_
  refine lv_iconst (v := nI 0) hx hb dL_law_170 (by decide) ?_
  obtain ⟨A1, eA1⟩ := op_fore0 (σ := σ) hI (x := hh) (by omega)
  obtain ⟨A2, eA2⟩ := op_fore1 (σ := (σ.1, A1)) hI (x := hh) (by omega)
  refine lr_call (τ := (σ.1, A1)) (cells2 := cells + 2) (slots2 := slots + 12) C0 hP hD hS hl.1 [.int (hh), .int (nI 0)] (c_X4_foresee l D cy ax ad ad2 σ hh (nI 0) (inv_okR hI)) (cw_L_law_foresee hts) eA1 rfl rfl (Nat.le_of_ble_eq_true rfl) dL_law_171 ⟨by omega, by omega⟩ (by omega) (by omega) (fun H locs hP hD hS => ?_)
  refine lv_istore (lv' := [(8, .int (s_X1_wetOfAll (s_X1_letGoBy σ.1 (tn hh)).2)), (6, .long ((s_X4_digest σ).1)), (5, .int (hh)), (0, .ref (b)), (1, .ref (ax 0)), (2, .int (nI nS)), (3, .int (nI t)), (4, .int (x))]) hx hb dL_law_174 hl (by decide) rfl (fun ls hl => ?_)
  refine lv_aload_n hx hb dL_law_176 rfl (lv_at hl 4 rfl) ?_
  refine lv_iload hx hb dL_law_177 (lv_at hl 2 rfl) ?_
  refine lv_iconst (v := nI 1) hx hb dL_law_179 (by decide) ?_
  refine lr_call (τ := (σ.1, A2)) (cells2 := cells + 4) (slots2 := slots + 24) C0 hP hD hS hl.1 [.int (hh), .int (nI 1)] (c_X4_foresee l D cy ax ad ad2 ((σ.1, A1)) hh (nI 1) (inv_okR hI)) (cw_L_law_foresee hts) eA2 rfl rfl (Nat.le_of_ble_eq_true rfl) dL_law_180 ⟨by omega, by omega⟩ (by omega) (by omega) (fun H locs hP hD hS => ?_)
  refine lv_istore (lv' := [(9, .int (s_X1_umbrellasThatAre (s_X1_letGoBy σ.1 (tn hh)).2 (nI 0))), (8, .int (s_X1_wetOfAll (s_X1_letGoBy σ.1 (tn hh)).2)), (6, .long ((s_X4_digest σ).1)), (5, .int (hh)), (0, .ref (b)), (1, .ref (ax 0)), (2, .int (nI nS)), (3, .int (nI t)), (4, .int (x))]) hx hb dL_law_183 hl (by decide) rfl (fun ls hl => ?_)
  refine lv_iload_n hx hb dL_law_185 rfl (lv_at hl 7 rfl) ?_
  refine lv_bipush (v := nI 6) hx hb dL_law_186 (by decide) ?_
  refine lv_irem hx hb dL_law_188 (by decide) ?_
  refine lv_if_ne (tgt := 209) hx hb dL_law_189 (by decide) (fun c5 => ?_) (fun c5 => ?_)
  · refine W.widen (k := cells + 7) (n := slots + 42) (by omega) (by omega) ?_
    exact K hh hh9 A2 H locs ls hP hD hS (lv_sub hl [0, 1, 2, 3, 4, 5, 6, 7, 8] rfl)
  · refine lv_aload_n hx hb dL_law_192 rfl (lv_at hl 5 rfl) ?_
    refine lv_iconst (v := nI 2) hx hb dL_law_193 (by decide) ?_
    refine lr_call (τ := (σ.1, A2)) (cells2 := cells + 5) (slots2 := slots + 30) C0 hP hD hS hl.1 [.int (nI 2)] (c_X4_count l D cy ax ad ad2 ((σ.1, A2)) (nI 2) (inv_okR hI)) (cw_L_law_count hts) ((oc_2 (σ := (σ.1, A2)) hI)) rfl rfl (Nat.le_of_ble_eq_true rfl) dL_law_194 ⟨by omega, by omega⟩ (by omega) (by omega) (fun H locs hP hD hS => ?_)
    refine lv_bipush (v := nI 40) hx hb dL_law_197 (by decide) ?_
    refine lv_icmp_ge (tgt := 209) hx hb dL_law_199 (by decide) (fun c6 => ?_) (fun c6 => ?_)
    · refine W.widen (k := cells + 7) (n := slots + 42) (by omega) (by omega) ?_
      exact K hh hh9 A2 H locs ls hP hD hS (lv_sub hl [0, 1, 2, 3, 4, 5, 6, 7, 8] rfl)
    · have hU40 : nU < 40 := by rw [nI_leI (by decide) (by omega)] at c6; omega
      obtain ⟨rv, A3, eA3⟩ := op_adv (σ := (σ.1, A2)) hI hU40 (x := hh) (by omega)
      refine lv_aload_n hx hb dL_law_202 rfl (lv_at hl 5 rfl) ?_
      refine lv_iload hx hb dL_law_203 (lv_at hl 3 rfl) ?_
      refine lr_call (τ := (σ.1, A3)) (cells2 := cells + 7) (slots2 := slots + 42) C0 hP hD hS hl.1 [.int (hh)] (c_X4_advise l D cy ax ad ad2 ((σ.1, A2)) hh (inv_okR hI)) (cw_L_law_advise hts) eA3 rfl rfl (Nat.le_of_ble_eq_true rfl) dL_law_205 ⟨by omega, by omega⟩ (by omega) (by omega) (fun H locs hP hD hS => ?_)
      refine lv_pop hx hb dL_law_208 rfl ?_
      refine W.widen (k := cells + 7) (n := slots + 42) (by omega) (by omega) ?_
      exact K hh hh9 A3 H locs ls hP hD hS (lv_sub hl [0, 1, 2, 3, 4, 5, 6, 7, 8] rfl)
set_option maxHeartbeats 4000000 in
set_option maxRecDepth 100000 in
theorem bB2 {p : Program} {l : Launch} {e : Env} {s : State} {m : MethodId} {args : Array Value} {below : List Frame} {meth : Method} {c : Code} {Q : State → Prop} {A : Nat → Prop} {D : va_G} {cy : Nat → ClassId} {b L : Nat} {xs : Nat → Int32} {ax ad ad2 : Nat → Nat} (C0 : LCC p l s m c args A D cy b L xs cL_law 18 wsL_law) {B nS nU nC t : Nat} {σ : Sg × Sg} {x hh : Int32} {z0 : Sg} (hI : Inv B nS nU nC σ.1) (cells slots : Nat) (hr : cells + 50 ≤ room_1.cells ∧ slots + 400 ≤ room_1.slots)
    (K : ∀ (z : Sg) (H : Heap) (locs : List Loc) (ls : Array Slot), va_P D vwCl (CW cy ax ad ad2 (σ.1, z) ++ ([] : va_W)) H → va_D A (CW cy ax ad ad2 (σ.1, z) ++ ([] : va_W)) → va_S A s.heap H locs → lv_has ls 18 [(9, .int (s_X1_umbrellasThatAre (s_X1_letGoBy σ.1 (tn hh)).2 (nI 0))), (8, .int (s_X1_wetOfAll (s_X1_letGoBy σ.1 (tn hh)).2)), (6, .long ((s_X4_digest σ).1)), (5, .int (hh)), (0, .ref (b)), (1, .ref (ax 0)), (2, .int (nI nS)), (3, .int (nI t)), (4, .int (x))] → W p l e room_1 s m args below meth c H locs (cells + 3) (slots + 18) Q (F0 m 232 ls [])) :
    ∀ (H : Heap) (locs : List Loc) (ls : Array Slot), va_P D vwCl (CW cy ax ad ad2 ((σ.1, z0)) ++ ([] : va_W)) H → va_D A (CW cy ax ad ad2 ((σ.1, z0)) ++ ([] : va_W)) → va_S A s.heap H locs → lv_has ls 18 [(9, .int (s_X1_umbrellasThatAre (s_X1_letGoBy σ.1 (tn hh)).2 (nI 0))), (8, .int (s_X1_wetOfAll (s_X1_letGoBy σ.1 (tn hh)).2)), (6, .long ((s_X4_digest σ).1)), (5, .int (hh)), (0, .ref (b)), (1, .ref (ax 0)), (2, .int (nI nS)), (3, .int (nI t)), (4, .int (x))] → W p l e room_1 s m args below meth c H locs (cells) (slots) Q (F0 m 209 ls []) := by
  intro H locs ls hP hD hS hl
  have C9 := C0
  obtain ⟨hx, hb, hml, hown, hts, hK, hXX, hA, hst, htx, hl0⟩ := C9
  have n8 := hI.1.2.2.1
  have n40 := hI.1.2.2.2.1
  have n10 := hI.1.2.2.2.2.1
  have nB := hI.1.2.2.2.2.2
  refine lv_aload_n hx hb dL_law_209 rfl (lv_at hl 5 rfl) ?_
  refine lv_iconst (v := nI 2) hx hb dL_law_210 (by decide) ?_
  refine lr_call (τ := (σ.1, z0)) (cells2 := cells + 1) (slots2 := slots + 6) C0 hP hD hS hl.1 [.int (nI 2)] (c_X4_count l D cy ax ad ad2 ((σ.1, z0)) (nI 2) (inv_okR hI)) (cw_L_law_count hts) ((oc_2 (σ := (σ.1, z0)) hI)) rfl rfl (Nat.le_of_ble_eq_true rfl) dL_law_211 ⟨by omega, by omega⟩ (by omega) (by omega) (fun H locs hP hD hS => ?_)
  refine lv_if_le (tgt := 232) hx hb dL_law_214 (by decide) (fun c7 => ?_) (fun c7 => ?_)
  · refine W.widen (k := cells + 3) (n := slots + 18) (by omega) (by omega) ?_
    exact K z0 H locs ls hP hD hS (lv_sub hl [0, 1, 2, 3, 4, 5, 6, 7, 8] rfl)
  · have hU1 : 0 < nU := by rw [← nI_0, nI_leI (by omega) (by omega)] at c7; omega
    refine lv_aload_n hx hb dL_law_217 rfl (lv_at hl 5 rfl) ?_
    refine lv_iconst (v := nI 0) hx hb dL_law_218 (by decide) ?_
    refine lv_iload hx hb dL_law_219 (lv_at hl 8 rfl) ?_
    refine lv_iconst (v := nI 4) hx hb dL_law_221 (by decide) ?_
    refine lv_ishr hx hb dL_law_222 ?_
    refine lv_bipush (v := nI 24) hx hb dL_law_223 (by decide) ?_
    refine lr_below C0 hP hD hS hl.1 (cwb_L_law hts) (by rw [ti_n (by decide)]; omega) (Nat.le_of_ble_eq_true rfl) dL_law_225 ⟨by omega, by omega⟩ (fun r1 r1a r1b H locs hP hD hS => ?_)
    rw [ti_n (by decide)] at r1b
    obtain ⟨rv, eR⟩ := op_lasts (σ := (σ.1, z0)) hI hU1 (y := r1) (by omega)
    refine lr_call (τ := (σ.1, z0)) (cells2 := cells + 3) (slots2 := slots + 18) C0 hP hD hS hl.1 [.int (nI 0), .int (r1)] (c_X4_lasts l D cy ax ad ad2 ((σ.1, z0)) (nI 0) r1 (inv_okR hI)) (cw_L_law_lasts hts) eR rfl rfl (Nat.le_of_ble_eq_true rfl) dL_law_228 ⟨by omega, by omega⟩ (by omega) (by omega) (fun H locs hP hD hS => ?_)
    refine lv_pop hx hb dL_law_231 rfl ?_
    refine W.widen (k := cells + 3) (n := slots + 18) (by omega) (by omega) ?_
    exact K z0 H locs ls hP hD hS (lv_sub hl [0, 1, 2, 3, 4, 5, 6, 7, 8] rfl)
set_option maxHeartbeats 4000000 in
set_option maxRecDepth 100000 in
theorem bB3 {p : Program} {l : Launch} {e : Env} {s : State} {m : MethodId} {args : Array Value} {below : List Frame} {meth : Method} {c : Code} {Q : State → Prop} {A : Nat → Prop} {D : va_G} {cy : Nat → ClassId} {b L : Nat} {xs : Nat → Int32} {ax ad ad2 : Nat → Nat} (C0 : LCC p l s m c args A D cy b L xs cL_law 18 wsL_law) {B nS nU nC t : Nat} {σ : Sg × Sg} {x hh : Int32} {z0 : Sg} (hh9 : 1 ≤ hh.toInt ∧ hh.toInt ≤ 3) (hB : B + 300 ≤ 100000000) (hI : Inv B nS nU nC σ.1) (cells slots : Nat) (hr : cells + 50 ≤ room_1.cells ∧ slots + 400 ≤ room_1.slots)
    (K : ∀ (τ : Sg × Sg) (H : Heap) (locs : List Loc) (ls : Array Slot), Inv (B + 300) nS nU nC τ.1 → va_P D vwCl (CW cy ax ad ad2 τ ++ ([] : va_W)) H → va_D A (CW cy ax ad ad2 τ ++ ([] : va_W)) → va_S A s.heap H locs → lv_has ls 18 [(0, .ref (b)), (1, .ref (ax 0)), (2, .int (nI nS)), (3, .int (nI t))] → W p l e room_1 s m args below meth c H locs (cells + 5) (slots + 30) Q (F0 m 308 ls [])) :
    ∀ (H : Heap) (locs : List Loc) (ls : Array Slot), va_P D vwCl (CW cy ax ad ad2 ((σ.1, z0)) ++ ([] : va_W)) H → va_D A (CW cy ax ad ad2 ((σ.1, z0)) ++ ([] : va_W)) → va_S A s.heap H locs → lv_has ls 18 [(9, .int (s_X1_umbrellasThatAre (s_X1_letGoBy σ.1 (tn hh)).2 (nI 0))), (8, .int (s_X1_wetOfAll (s_X1_letGoBy σ.1 (tn hh)).2)), (6, .long ((s_X4_digest σ).1)), (5, .int (hh)), (0, .ref (b)), (1, .ref (ax 0)), (2, .int (nI nS)), (3, .int (nI t)), (4, .int (x))] → W p l e room_1 s m args below meth c H locs (cells) (slots) Q (F0 m 232 ls []) := by
  intro H locs ls hP hD hS hl
  have C9 := C0
  obtain ⟨hx, hb, hml, hown, hts, hK, hXX, hA, hst, htx, hl0⟩ := C9
  have n8 := hI.1.2.2.1
  have n40 := hI.1.2.2.2.1
  have n10 := hI.1.2.2.2.2.1
  have nB := hI.1.2.2.2.2.2
  have hdg : (s_X4_digest (σ.1, z0)).1 = (s_X4_digest σ).1 := dg_ok σ.1 z0 σ.2
  refine lv_aload_n hx hb dL_law_232 rfl (lv_at hl 5 rfl) ?_
  refine lr_digest C0 (σ := (σ.1, z0)) (inv_okR hI) hP hD hS hl.1 (cw_L_law_digest hts) rfl (Nat.le_of_ble_eq_true rfl) dL_law_233 ⟨by omega, by omega⟩ (fun H locs hP hD hS => ?_)
  refine lv_lload hx hb dL_law_236 (lv_at hl 2 rfl) ?_
  refine W.lcmp hx hb dL_law_238 ?_
  refine lv_if_eq (tgt := 244) hx hb dL_law_239 (by decide) (fun c8 => ?_) (fun c8 => False.elim (c8 (by rw [hdg]; exact lg_self _)))
  refine lv_aload_n hx hb dL_law_244 rfl (lv_at hl 5 rfl) ?_
  refine lv_bipush (v := nI 9) hx hb dL_law_245 (by decide) ?_
  refine lr_call (τ := (σ.1, z0)) (cells2 := cells + 1) (slots2 := slots + 6) C0 hP hD hS hl.1 [.int (nI 9)] (c_X4_count l D cy ax ad ad2 ((σ.1, z0)) (nI 9) (inv_okR hI)) (cw_L_law_count hts) ((oc_9 (σ := (σ.1, z0)))) rfl rfl (Nat.le_of_ble_eq_true rfl) dL_law_247 ⟨by omega, by omega⟩ (by omega) (by omega) (fun H locs hP hD hS => ?_)
  refine lv_istore (lv' := [(10, .int (s_X1_wetOfAll σ.1)), (9, .int (s_X1_umbrellasThatAre (s_X1_letGoBy σ.1 (tn hh)).2 (nI 0))), (8, .int (s_X1_wetOfAll (s_X1_letGoBy σ.1 (tn hh)).2)), (6, .long ((s_X4_digest σ).1)), (5, .int (hh)), (0, .ref (b)), (1, .ref (ax 0)), (2, .int (nI nS)), (3, .int (nI t)), (4, .int (x))]) hx hb dL_law_250 hl (by decide) rfl (fun ls hl => ?_)
  refine lv_aload_n hx hb dL_law_252 rfl (lv_at hl 6 rfl) ?_
  refine lv_iload hx hb dL_law_253 (lv_at hl 4 rfl) ?_
  obtain ⟨g1, g2, g3, g4⟩ := inv_go (tn hh) 0 B (nI 0) σ.1 hI (by have := ti_tn (x := hh) (by omega); omega) (by rw [k_0]; omega) (by have := ti_tn (x := hh) (by omega); rw [k_0]; omega)
  have etn := ti_tn (x := hh) (by omega)
  rw [k_0] at g3 g4
  have hI2 : Inv (B + 300) nS nU nC (s_X1_letGoBy σ.1 (tn hh)).2 := inv_mono g1 (by omega) hB
  have hw1 := sm_wet hI
  have hw2 := sm_wet hI2
  have hwle : cn (eI σ.1) nC ≤ cn (eI (s_X1_letGoBy σ.1 (tn hh)).2) nC := cn_le nC (fun d hd => g2 d hd)
  have g3 : 0 ≤ (s_X1_letGoBy σ.1 (tn hh)).1.toInt := g3
  have g4 : (s_X1_letGoBy σ.1 (tn hh)).1.toInt ≤ (nC : Int) * (tn hh : Int) := by have q : (s_X1_letGoBy σ.1 (tn hh)).1.toInt ≤ 0 + (nC : Int) * (tn hh : Int) := g4; omega
  have hmul : (nI nC * hh).toInt = (nC : Int) * (tn hh : Int) := by
    have e1 : (nI nC).toInt = (nC : Int) := ti_n (by omega)
    have e3 : tn hh = 1 ∨ tn hh = 2 ∨ tn hh = 3 := by omega
    rw [Int32.toInt_mul, e1, etn, Int.bmod_eq_of_le_mul_two] <;> rcases e3 with q | q | q <;> rw [q] <;> omega
  refine lr_call (τ := ((s_X1_letGoBy σ.1 (tn hh)).2, z0)) (cells2 := cells + 2) (slots2 := slots + 12) C0 hP hD hS hl.1 [.int (hh)] (c_X4_pass l D cy ax ad ad2 ((σ.1, z0)) hh (inv_okR hI)) (cw_L_law_pass hts) ((op_pass (σ := (σ.1, z0)) (x := hh) (by omega))) rfl rfl (Nat.le_of_ble_eq_true rfl) dL_law_255 ⟨by omega, by omega⟩ (by omega) (by omega) (fun H locs hP hD hS => ?_)
  refine lv_istore (lv' := [(11, .int ((s_X1_letGoBy σ.1 (tn hh)).1)), (10, .int (s_X1_wetOfAll σ.1)), (9, .int (s_X1_umbrellasThatAre (s_X1_letGoBy σ.1 (tn hh)).2 (nI 0))), (8, .int (s_X1_wetOfAll (s_X1_letGoBy σ.1 (tn hh)).2)), (6, .long ((s_X4_digest σ).1)), (5, .int (hh)), (0, .ref (b)), (1, .ref (ax 0)), (2, .int (nI nS)), (3, .int (nI t)), (4, .int (x))]) hx hb dL_law_258 hl (by decide) rfl (fun ls hl => ?_)
  refine lv_aload_n hx hb dL_law_260 rfl (lv_at hl 7 rfl) ?_
  refine lv_bipush (v := nI 9) hx hb dL_law_261 (by decide) ?_
  refine lr_call (τ := ((s_X1_letGoBy σ.1 (tn hh)).2, z0)) (cells2 := cells + 3) (slots2 := slots + 18) C0 hP hD hS hl.1 [.int (nI 9)] (c_X4_count l D cy ax ad ad2 (((s_X1_letGoBy σ.1 (tn hh)).2, z0)) (nI 9) (inv_okR hI2)) (cw_L_law_count hts) ((oc_9 (σ := ((s_X1_letGoBy σ.1 (tn hh)).2, z0)))) rfl rfl (Nat.le_of_ble_eq_true rfl) dL_law_263 ⟨by omega, by omega⟩ (by omega) (by omega) (fun H locs hP hD hS => ?_)
  refine lv_iload hx hb dL_law_266 (lv_at hl 3 rfl) ?_
  refine lv_icmp_ne (tgt := 306) hx hb dL_law_268 (by decide) (fun c9 => False.elim (c9 rfl)) (fun c9 => ?_)
  refine lv_aload_n hx hb dL_law_271 rfl (lv_at hl 7 rfl) ?_
  refine lv_iconst (v := nI 4) hx hb dL_law_272 (by decide) ?_
  refine lr_call (τ := ((s_X1_letGoBy σ.1 (tn hh)).2, z0)) (cells2 := cells + 4) (slots2 := slots + 24) C0 hP hD hS hl.1 [.int (nI 4)] (c_X4_count l D cy ax ad ad2 (((s_X1_letGoBy σ.1 (tn hh)).2, z0)) (nI 4) (inv_okR hI2)) (cw_L_law_count hts) ((oc_4 (σ := ((s_X1_letGoBy σ.1 (tn hh)).2, z0)))) rfl rfl (Nat.le_of_ble_eq_true rfl) dL_law_273 ⟨by omega, by omega⟩ (by omega) (by omega) (fun H locs hP hD hS => ?_)
  refine lv_iload hx hb dL_law_276 (lv_at hl 2 rfl) ?_
  refine lv_icmp_ne (tgt := 306) hx hb dL_law_278 (by decide) (fun c10 => False.elim (c10 rfl)) (fun c10 => ?_)
  refine lv_iload hx hb dL_law_281 (lv_at hl 3 rfl) ?_
  refine lv_iload hx hb dL_law_283 (lv_at hl 1 rfl) ?_
  refine lv_icmp_lt (tgt := 306) hx hb dL_law_285 (by decide) (fun c11 => False.elim (absurd (tl.mp c11) (by rw [hw1, hw2]; omega))) (fun c11 => ?_)
  refine lv_iload hx hb dL_law_288 (lv_at hl 0 rfl) ?_
  refine lv_if_lt (tgt := 306) hx hb dL_law_290 (by decide) (fun c12 => False.elim (absurd (tl.mp c12) (by rw [ti_0]; omega))) (fun c12 => ?_)
  refine lv_iload hx hb dL_law_293 (lv_at hl 0 rfl) ?_
  refine lv_aload_n hx hb dL_law_295 rfl (lv_at hl 7 rfl) ?_
  refine lv_iconst (v := nI 3) hx hb dL_law_296 (by decide) ?_
  refine lr_call (τ := ((s_X1_letGoBy σ.1 (tn hh)).2, z0)) (cells2 := cells + 5) (slots2 := slots + 30) C0 hP hD hS hl.1 [.int (nI 3)] (c_X4_count l D cy ax ad ad2 (((s_X1_letGoBy σ.1 (tn hh)).2, z0)) (nI 3) (inv_okR hI2)) (cw_L_law_count hts) ((oc_3 (σ := ((s_X1_letGoBy σ.1 (tn hh)).2, z0)) hI2)) rfl rfl (Nat.le_of_ble_eq_true rfl) dL_law_297 ⟨by omega, by omega⟩ (by omega) (by omega) (fun H locs hP hD hS => ?_)
  refine lv_iload hx hb dL_law_300 (lv_at hl 5 rfl) ?_
  refine lv_imul hx hb dL_law_302 ?_
  refine lv_icmp_le (tgt := 308) hx hb dL_law_303 (by decide) (fun c13 => ?_) (fun c13 => False.elim (c13 (tle.mpr (by rw [hmul]; omega))))
  refine W.widen (k := cells + 5) (n := slots + 30) (by omega) (by omega) ?_
  exact K ((s_X1_letGoBy σ.1 (tn hh)).2, z0) H locs ls hI2 hP hD hS (lv_sub hl [6, 7, 8, 9] rfl)
