set_option maxHeartbeats 4000000 in
set_option maxRecDepth 100000 in
theorem bC {p : Program} {l : Launch} {e : Env} {s : State} {m : MethodId} {args : Array Value} {below : List Frame} {meth : Method} {c : Code} {Q : State → Prop} {A : Nat → Prop} {D : va_G} {cy : Nat → ClassId} {b L : Nat} {xs : Nat → Int32} {ax ad ad2 : Nat → Nat} (C0 : LCC p l s m c args A D cy b L xs cL_law 18 wsL_law) {B nS nU nC t : Nat} {σ : Sg × Sg} {qa qb qc : Nat} (hI : Inv B nS nU nC σ.1) (cells slots : Nat) (hr : cells + 700 ≤ room_1.cells ∧ slots + 4200 ≤ room_1.slots)
    (K : ∀ (f g h : Nat → Int32) (H : Heap) (locs : List Loc) (ls : Array Slot), AC σ.1 nU f g h → va_P D vwCl (CW cy ax ad ad2 σ ++ AW cy qa qb qc f g h) H → va_D A (CW cy ax ad ad2 σ ++ AW cy qa qb qc f g h) → va_S A s.heap H locs → lv_has ls 18 [(14, .ref (qc)), (13, .ref (qb)), (12, .ref (qa)), (0, .ref (b)), (1, .ref (ax 0)), (2, .int (nI nS)), (3, .int (nI t))] → W p l e room_1 s m args below meth c H locs (cells + 700) (slots + 4200) Q (F0 m 493 ls [])) :
    ∀ (n u : Nat) (f g h : Nat → Int32) (H : Heap) (locs : List Loc) (ls : Array Slot), u + n = nU → AC σ.1 u f g h → va_P D vwCl (CW cy ax ad ad2 σ ++ AW cy qa qb qc f g h) H → va_D A (CW cy ax ad ad2 σ ++ AW cy qa qb qc f g h) → va_S A s.heap H locs → lv_has ls 18 [(15, .int (nI u)), (14, .ref (qc)), (13, .ref (qb)), (12, .ref (qa)), (0, .ref (b)), (1, .ref (ax 0)), (2, .int (nI nS)), (3, .int (nI t))] → W p l e room_1 s m args below meth c H locs (cells + 17 * u) (slots + 102 * u) Q (F0 m 328 ls []) := by
  have C9 := C0
  obtain ⟨hx, hb, hml, hown, hts, hK, hXX, hA, hst, htx, hl0⟩ := C9
  have n8 := hI.1.2.2.1
  have n40 := hI.1.2.2.2.1
  have n10 := hI.1.2.2.2.2.1
  have nB := hI.1.2.2.2.2.2
  intro n
  induction n with
  | zero =>
    intro u f g h H locs ls hu hAC hP hD hS hl
    refine lv_iload hx hb dL_law_328 (lv_at hl 0 rfl) ?_
    refine lv_aload_n hx hb dL_law_330 rfl (lv_at hl 5 rfl) ?_
    refine lv_iconst (v := nI 2) hx hb dL_law_331 (by decide) ?_
    refine lr_call (τ := σ) (cells2 := cells + 17 * u + 1) (slots2 := slots + 102 * u + 6) C0 hP hD hS hl.1 [.int (nI 2)] (c_X4_count l D cy ax ad ad2 σ (nI 2) (inv_okR hI)) (cw_L_law_count hts) ((oc_2 hI)) rfl rfl (Nat.le_of_ble_eq_true rfl) dL_law_332 ⟨by omega, by omega⟩ (by omega) (by omega) (fun H locs hP hD hS => ?_)
    refine lv_icmp_ge (tgt := 493) hx hb dL_law_335 (by decide) (fun c14 => ?_) (fun c14 => False.elim (c14 ((nI_leI (by omega) (by omega)).mpr (by omega))))
    refine W.widen (k := cells + 700) (n := slots + 4200) (by omega) (by omega) ?_
    exact K f g h H locs ls (by rw [show nU = u by omega]; exact hAC) hP hD hS (lv_sub hl [1, 2, 3, 4, 5, 6, 7] rfl)
  | succ n ih =>
    intro u f g h H locs ls hu hAC hP hD hS hl
    have huU : u < nU := by omega
    have hUu := hI.2.2.2.1 u huU
    unfold UI at hUu
    refine lv_iload hx hb dL_law_328 (lv_at hl 0 rfl) ?_
    refine lv_aload_n hx hb dL_law_330 rfl (lv_at hl 5 rfl) ?_
    refine lv_iconst (v := nI 2) hx hb dL_law_331 (by decide) ?_
    refine lr_call (τ := σ) (cells2 := cells + 17 * u + 1) (slots2 := slots + 102 * u + 6) C0 hP hD hS hl.1 [.int (nI 2)] (c_X4_count l D cy ax ad ad2 σ (nI 2) (inv_okR hI)) (cw_L_law_count hts) ((oc_2 hI)) rfl rfl (Nat.le_of_ble_eq_true rfl) dL_law_332 ⟨by omega, by omega⟩ (by omega) (by omega) (fun H locs hP hD hS => ?_)
    refine lv_icmp_ge (tgt := 493) hx hb dL_law_335 (by decide) (fun c15 => False.elim (absurd ((nI_leI (by omega) (by omega)).mp c15) (by omega))) (fun c15 => ?_)
    rcases hUu.2 with hk | hk | hk | hk
    · have e0 : σ.1 (13 + u) 0 = nI 0 := (te_n 0 (by decide)).mpr hk.1
      obtain ⟨i, hi, ea, eai⟩ := of_rng (x := σ.1 (13 + u) 1) (n := nS) hk.2.1 hk.2.2.1
      refine lv_aload_n hx hb dL_law_338 rfl (lv_at hl 5 rfl) ?_
      refine lv_iload hx hb dL_law_339 (lv_at hl 0 rfl) ?_
      refine lv_iconst (v := nI 0) hx hb dL_law_341 (by decide) ?_
      refine lr_call (τ := σ) (cells2 := cells + 17 * u + 3) (slots2 := slots + 102 * u + 18) C0 hP hD hS hl.1 [.int (nI u), .int (nI 0)] (c_X4_umbrella l D cy ax ad ad2 σ (nI u) (nI 0) (inv_okR hI)) (cw_L_law_umbrella hts) ((ou_0 hI huU)) rfl rfl (Nat.le_of_ble_eq_true rfl) dL_law_342 ⟨by omega, by omega⟩ (by omega) (by omega) (fun H locs hP hD hS => ?_)
      refine g_top (y := nI 0) (e0) ?_
      refine lv_istore (lv' := [(16, .int (nI 0)), (15, .int (nI u)), (14, .ref (qc)), (13, .ref (qb)), (12, .ref (qa)), (0, .ref (b)), (1, .ref (ax 0)), (2, .int (nI nS)), (3, .int (nI t))]) hx hb dL_law_345 hl (by decide) rfl (fun ls hl => ?_)
      refine lv_aload_n hx hb dL_law_347 rfl (lv_at hl 6 rfl) ?_
      refine lv_iload hx hb dL_law_348 (lv_at hl 1 rfl) ?_
      refine lv_iconst (v := nI 1) hx hb dL_law_350 (by decide) ?_
      refine lr_call (τ := σ) (cells2 := cells + 17 * u + 5) (slots2 := slots + 102 * u + 30) C0 hP hD hS hl.1 [.int (nI u), .int (nI 1)] (c_X4_umbrella l D cy ax ad ad2 σ (nI u) (nI 1) (inv_okR hI)) (cw_L_law_umbrella hts) ((ou_1 hI huU)) rfl rfl (Nat.le_of_ble_eq_true rfl) dL_law_351 ⟨by omega, by omega⟩ (by omega) (by omega) (fun H locs hP hD hS => ?_)
      refine g_top (y := nI i) (ea) ?_
      refine lv_istore (lv' := [(17, .int (nI i)), (16, .int (nI 0)), (15, .int (nI u)), (14, .ref (qc)), (13, .ref (qb)), (12, .ref (qa)), (0, .ref (b)), (1, .ref (ax 0)), (2, .int (nI nS)), (3, .int (nI t))]) hx hb dL_law_354 hl (by decide) rfl (fun ls hl => ?_)
      refine lv_aload hx hb dL_law_356 (lv_at hl 3 rfl) ?_
      refine lv_iload hx hb dL_law_358 (lv_at hl 1 rfl) ?_
      refine lv_dup2_11 hx hb dL_law_360 rfl rfl ?_
      refine lr_iald (X := (AW cy qa qb qc f g h)) C0 hP 2 rfl 0 (tn_nI (by decide)) (vp_in_nI (by decide) (by decide)) dL_law_361 ?_
      refine lv_iconst (v := nI 1) hx hb dL_law_362 (by decide) ?_
      refine lv_iadd hx hb dL_law_363 ?_
      refine lr_iast (X := (AW cy qa qb qc f g h)) (X' := (AW cy qa qb qc f g (upd h 0 ((h 0) + (nI 1))))) C0 hP hD hS 2 rfl 0 (tn_nI (by decide)) (vp_in_nI (by decide) (by decide)) rfl dL_law_364 (fun H locs hP hD hS => ?_)
      refine lv_iload hx hb dL_law_365 (lv_at hl 1 rfl) ?_
      refine lv_if_ne (tgt := 379) hx hb dL_law_367 (by decide) (fun c16 => False.elim (c16 (by decide))) (fun c16 => ?_)
      refine lv_aload hx hb dL_law_370 (lv_at hl 4 rfl) ?_
      refine lv_iload hx hb dL_law_372 (lv_at hl 0 rfl) ?_
      refine lv_dup2_11 hx hb dL_law_374 rfl rfl ?_
      refine lr_iald (X := (AW cy qa qb qc f g (upd h 0 ((h 0) + (nI 1))))) C0 hP 1 rfl i (tn_nI (by omega)) (vp_in_nI (by omega) (by decide)) dL_law_375 ?_
      refine lv_iconst (v := nI 1) hx hb dL_law_376 (by decide) ?_
      refine lv_iadd hx hb dL_law_377 ?_
      refine lr_iast (X := (AW cy qa qb qc f g (upd h 0 ((h 0) + (nI 1))))) (X' := (AW cy qa qb qc f (upd g i ((g i) + (nI 1))) (upd h 0 ((h 0) + (nI 1))))) C0 hP hD hS 1 rfl i (tn_nI (by omega)) (vp_in_nI (by omega) (by decide)) rfl dL_law_378 (fun H locs hP hD hS => ?_)
      refine lv_iload hx hb dL_law_379 (lv_at hl 1 rfl) ?_
      refine lv_iconst (v := nI 1) hx hb dL_law_381 (by decide) ?_
      refine lv_icmp_ne (tgt := 394) hx hb dL_law_382 (by decide) (fun c17 => ?_) (fun c17 => False.elim (absurd c17 (by decide)))
      refine lv_iload hx hb dL_law_394 (lv_at hl 1 rfl) ?_
      refine lv_iconst (v := nI 1) hx hb dL_law_396 (by decide) ?_
      refine lv_icmp_le (tgt := 429) hx hb dL_law_397 (by decide) (fun c18 => ?_) (fun c18 => False.elim (c18 (by decide)))
      refine lv_iload hx hb dL_law_429 (lv_at hl 1 rfl) ?_
      refine lv_iconst (v := nI 2) hx hb dL_law_431 (by decide) ?_
      refine lv_icmp_ge (tgt := 445) hx hb dL_law_432 (by decide) (fun c19 => False.elim (absurd c19 (by decide))) (fun c19 => ?_)
      refine lv_aload_n hx hb dL_law_435 rfl (lv_at hl 7 rfl) ?_
      refine lv_iload hx hb dL_law_436 (lv_at hl 2 rfl) ?_
      refine lv_iconst (v := nI 3) hx hb dL_law_438 (by decide) ?_
      refine lr_call (τ := σ) (cells2 := cells + 17 * u + 7) (slots2 := slots + 102 * u + 42) C0 hP hD hS hl.1 [.int (nI u), .int (nI 3)] (c_X4_umbrella l D cy ax ad ad2 σ (nI u) (nI 3) (inv_okR hI)) (cw_L_law_umbrella hts) ((ou_3 hI huU)) rfl rfl (Nat.le_of_ble_eq_true rfl) dL_law_439 ⟨by omega, by omega⟩ (by omega) (by omega) (fun H locs hP hD hS => ?_)
      refine lv_if_ne (tgt := 485) hx hb dL_law_442 (by decide) (fun c20 => False.elim (c20 (te_0.mpr (by omega)))) (fun c20 => ?_)
      refine lv_aload_n hx hb dL_law_445 rfl (lv_at hl 7 rfl) ?_
      refine lv_iload hx hb dL_law_446 (lv_at hl 2 rfl) ?_
      refine lv_iconst (v := nI 2) hx hb dL_law_448 (by decide) ?_
      refine lr_call (τ := σ) (cells2 := cells + 17 * u + 9) (slots2 := slots + 102 * u + 54) C0 hP hD hS hl.1 [.int (nI u), .int (nI 2)] (c_X4_umbrella l D cy ax ad ad2 σ (nI u) (nI 2) (inv_okR hI)) (cw_L_law_umbrella hts) ((ou_2 hI huU)) rfl rfl (Nat.le_of_ble_eq_true rfl) dL_law_449 ⟨by omega, by omega⟩ (by omega) (by omega) (fun H locs hP hD hS => ?_)
      refine lv_if_lt (tgt := 485) hx hb dL_law_452 (by decide) (fun c21 => False.elim (absurd (tl.mp c21) (by rw [ti_0]; omega))) (fun c21 => ?_)
      refine lv_aload_n hx hb dL_law_455 rfl (lv_at hl 7 rfl) ?_
      refine lv_iload hx hb dL_law_456 (lv_at hl 2 rfl) ?_
      refine lv_iconst (v := nI 2) hx hb dL_law_458 (by decide) ?_
      refine lr_call (τ := σ) (cells2 := cells + 17 * u + 11) (slots2 := slots + 102 * u + 66) C0 hP hD hS hl.1 [.int (nI u), .int (nI 2)] (c_X4_umbrella l D cy ax ad ad2 σ (nI u) (nI 2) (inv_okR hI)) (cw_L_law_umbrella hts) ((ou_2 hI huU)) rfl rfl (Nat.le_of_ble_eq_true rfl) dL_law_459 ⟨by omega, by omega⟩ (by omega) (by omega) (fun H locs hP hD hS => ?_)
      refine lv_bipush (v := nI 38) hx hb dL_law_462 (by decide) ?_
      refine lv_icmp_gt (tgt := 485) hx hb dL_law_464 (by decide) (fun c22 => False.elim (absurd (tl.mp c22) (by rw [ti_n (by decide)]; omega))) (fun c22 => ?_)
      refine lv_iload hx hb dL_law_467 (lv_at hl 1 rfl) ?_
      refine lv_iconst (v := nI 3) hx hb dL_law_469 (by decide) ?_
      refine lv_icmp_eq (tgt := 487) hx hb dL_law_470 (by decide) (fun c23 => False.elim (absurd c23 (by decide))) (fun c23 => ?_)
      refine lv_aload_n hx hb dL_law_473 rfl (lv_at hl 7 rfl) ?_
      refine lv_iload hx hb dL_law_474 (lv_at hl 2 rfl) ?_
      refine lv_iconst (v := nI 2) hx hb dL_law_476 (by decide) ?_
      refine lr_call (τ := σ) (cells2 := cells + 17 * u + 13) (slots2 := slots + 102 * u + 78) C0 hP hD hS hl.1 [.int (nI u), .int (nI 2)] (c_X4_umbrella l D cy ax ad ad2 σ (nI u) (nI 2) (inv_okR hI)) (cw_L_law_umbrella hts) ((ou_2 hI huU)) rfl rfl (Nat.le_of_ble_eq_true rfl) dL_law_477 ⟨by omega, by omega⟩ (by omega) (by omega) (fun H locs hP hD hS => ?_)
      refine lv_bipush (v := nI 29) hx hb dL_law_480 (by decide) ?_
      refine lv_icmp_le (tgt := 487) hx hb dL_law_482 (by decide) (fun c24 => ?_) (fun c24 => False.elim (c24 (tle.mpr (by rw [ti_n (by decide)]; omega))))
      refine lv_iinc (v := nI (u + 1)) (lv' := [(15, .int (nI (u + 1))), (17, .int (nI i)), (16, .int (nI 0)), (14, .ref (qc)), (13, .ref (qb)), (12, .ref (qa)), (0, .ref (b)), (1, .ref (ax 0)), (2, .int (nI nS)), (3, .int (nI t))]) hx hb dL_law_487 hl (k := 2) rfl (nI_1 _) (by decide) rfl (fun ls hl => ?_)
      refine lv_goto (tgt := 328) hx hb dL_law_490 (by decide) ?_
      refine W.widen (k := cells + 17 * (u + 1)) (n := slots + 102 * (u + 1)) (by omega) (by omega) ?_
      exact ih (u + 1) _ _ _ H locs ls (by omega) (ac_step0 hAC (by omega) (by omega) hk.1 eai) hP hD hS (lv_sub hl [0, 3, 4, 5, 6, 7, 8, 9] rfl)
    · have e0 : σ.1 (13 + u) 0 = nI 1 := (te_n 1 (by decide)).mpr hk.1
      obtain ⟨i, hi, ea, eai⟩ := of_rng (x := σ.1 (13 + u) 1) (n := nC) hk.2.1 hk.2.2.1
      refine lv_aload_n hx hb dL_law_338 rfl (lv_at hl 5 rfl) ?_
      refine lv_iload hx hb dL_law_339 (lv_at hl 0 rfl) ?_
      refine lv_iconst (v := nI 0) hx hb dL_law_341 (by decide) ?_
      refine lr_call (τ := σ) (cells2 := cells + 17 * u + 3) (slots2 := slots + 102 * u + 18) C0 hP hD hS hl.1 [.int (nI u), .int (nI 0)] (c_X4_umbrella l D cy ax ad ad2 σ (nI u) (nI 0) (inv_okR hI)) (cw_L_law_umbrella hts) ((ou_0 hI huU)) rfl rfl (Nat.le_of_ble_eq_true rfl) dL_law_342 ⟨by omega, by omega⟩ (by omega) (by omega) (fun H locs hP hD hS => ?_)
      refine g_top (y := nI 1) (e0) ?_
      refine lv_istore (lv' := [(16, .int (nI 1)), (15, .int (nI u)), (14, .ref (qc)), (13, .ref (qb)), (12, .ref (qa)), (0, .ref (b)), (1, .ref (ax 0)), (2, .int (nI nS)), (3, .int (nI t))]) hx hb dL_law_345 hl (by decide) rfl (fun ls hl => ?_)
      refine lv_aload_n hx hb dL_law_347 rfl (lv_at hl 6 rfl) ?_
      refine lv_iload hx hb dL_law_348 (lv_at hl 1 rfl) ?_
      refine lv_iconst (v := nI 1) hx hb dL_law_350 (by decide) ?_
      refine lr_call (τ := σ) (cells2 := cells + 17 * u + 5) (slots2 := slots + 102 * u + 30) C0 hP hD hS hl.1 [.int (nI u), .int (nI 1)] (c_X4_umbrella l D cy ax ad ad2 σ (nI u) (nI 1) (inv_okR hI)) (cw_L_law_umbrella hts) ((ou_1 hI huU)) rfl rfl (Nat.le_of_ble_eq_true rfl) dL_law_351 ⟨by omega, by omega⟩ (by omega) (by omega) (fun H locs hP hD hS => ?_)
      refine g_top (y := nI i) (ea) ?_
      refine lv_istore (lv' := [(17, .int (nI i)), (16, .int (nI 1)), (15, .int (nI u)), (14, .ref (qc)), (13, .ref (qb)), (12, .ref (qa)), (0, .ref (b)), (1, .ref (ax 0)), (2, .int (nI nS)), (3, .int (nI t))]) hx hb dL_law_354 hl (by decide) rfl (fun ls hl => ?_)
      refine lv_aload hx hb dL_law_356 (lv_at hl 3 rfl) ?_
      refine lv_iload hx hb dL_law_358 (lv_at hl 1 rfl) ?_
      refine lv_dup2_11 hx hb dL_law_360 rfl rfl ?_
      refine lr_iald (X := (AW cy qa qb qc f g h)) C0 hP 2 rfl 1 (tn_nI (by decide)) (vp_in_nI (by decide) (by decide)) dL_law_361 ?_
      refine lv_iconst (v := nI 1) hx hb dL_law_362 (by decide) ?_
      refine lv_iadd hx hb dL_law_363 ?_
      refine lr_iast (X := (AW cy qa qb qc f g h)) (X' := (AW cy qa qb qc f g (upd h 1 ((h 1) + (nI 1))))) C0 hP hD hS 2 rfl 1 (tn_nI (by decide)) (vp_in_nI (by decide) (by decide)) rfl dL_law_364 (fun H locs hP hD hS => ?_)
      refine lv_iload hx hb dL_law_365 (lv_at hl 1 rfl) ?_
      refine lv_if_ne (tgt := 379) hx hb dL_law_367 (by decide) (fun c25 => ?_) (fun c25 => False.elim (absurd c25 (by decide)))
      refine lv_iload hx hb dL_law_379 (lv_at hl 1 rfl) ?_
      refine lv_iconst (v := nI 1) hx hb dL_law_381 (by decide) ?_
      refine lv_icmp_ne (tgt := 394) hx hb dL_law_382 (by decide) (fun c26 => False.elim (c26 rfl)) (fun c26 => ?_)
      refine lv_aload hx hb dL_law_385 (lv_at hl 5 rfl) ?_
      refine lv_iload hx hb dL_law_387 (lv_at hl 0 rfl) ?_
      refine lv_dup2_11 hx hb dL_law_389 rfl rfl ?_
      refine lr_iald (X := (AW cy qa qb qc f g (upd h 1 ((h 1) + (nI 1))))) C0 hP 0 rfl i (tn_nI (by omega)) (vp_in_nI (by omega) (by decide)) dL_law_390 ?_
      refine lv_iconst (v := nI 1) hx hb dL_law_391 (by decide) ?_
      refine lv_iadd hx hb dL_law_392 ?_
      refine lr_iast (X := (AW cy qa qb qc f g (upd h 1 ((h 1) + (nI 1))))) (X' := (AW cy qa qb qc (upd f i ((f i) + (nI 1))) g (upd h 1 ((h 1) + (nI 1))))) C0 hP hD hS 0 rfl i (tn_nI (by omega)) (vp_in_nI (by omega) (by decide)) rfl dL_law_393 (fun H locs hP hD hS => ?_)
      refine lv_iload hx hb dL_law_394 (lv_at hl 1 rfl) ?_
      refine lv_iconst (v := nI 1) hx hb dL_law_396 (by decide) ?_
      refine lv_icmp_le (tgt := 429) hx hb dL_law_397 (by decide) (fun c27 => ?_) (fun c27 => False.elim (c27 (by decide)))
      refine lv_iload hx hb dL_law_429 (lv_at hl 1 rfl) ?_
      refine lv_iconst (v := nI 2) hx hb dL_law_431 (by decide) ?_
      refine lv_icmp_ge (tgt := 445) hx hb dL_law_432 (by decide) (fun c28 => False.elim (absurd c28 (by decide))) (fun c28 => ?_)
      refine lv_aload_n hx hb dL_law_435 rfl (lv_at hl 7 rfl) ?_
      refine lv_iload hx hb dL_law_436 (lv_at hl 2 rfl) ?_
      refine lv_iconst (v := nI 3) hx hb dL_law_438 (by decide) ?_
      refine lr_call (τ := σ) (cells2 := cells + 17 * u + 7) (slots2 := slots + 102 * u + 42) C0 hP hD hS hl.1 [.int (nI u), .int (nI 3)] (c_X4_umbrella l D cy ax ad ad2 σ (nI u) (nI 3) (inv_okR hI)) (cw_L_law_umbrella hts) ((ou_3 hI huU)) rfl rfl (Nat.le_of_ble_eq_true rfl) dL_law_439 ⟨by omega, by omega⟩ (by omega) (by omega) (fun H locs hP hD hS => ?_)
      refine lv_if_ne (tgt := 485) hx hb dL_law_442 (by decide) (fun c29 => False.elim (c29 (te_0.mpr (by omega)))) (fun c29 => ?_)
      refine lv_aload_n hx hb dL_law_445 rfl (lv_at hl 7 rfl) ?_
      refine lv_iload hx hb dL_law_446 (lv_at hl 2 rfl) ?_
      refine lv_iconst (v := nI 2) hx hb dL_law_448 (by decide) ?_
      refine lr_call (τ := σ) (cells2 := cells + 17 * u + 9) (slots2 := slots + 102 * u + 54) C0 hP hD hS hl.1 [.int (nI u), .int (nI 2)] (c_X4_umbrella l D cy ax ad ad2 σ (nI u) (nI 2) (inv_okR hI)) (cw_L_law_umbrella hts) ((ou_2 hI huU)) rfl rfl (Nat.le_of_ble_eq_true rfl) dL_law_449 ⟨by omega, by omega⟩ (by omega) (by omega) (fun H locs hP hD hS => ?_)
      refine lv_if_lt (tgt := 485) hx hb dL_law_452 (by decide) (fun c30 => False.elim (absurd (tl.mp c30) (by rw [ti_0]; omega))) (fun c30 => ?_)
      refine lv_aload_n hx hb dL_law_455 rfl (lv_at hl 7 rfl) ?_
      refine lv_iload hx hb dL_law_456 (lv_at hl 2 rfl) ?_
      refine lv_iconst (v := nI 2) hx hb dL_law_458 (by decide) ?_
      refine lr_call (τ := σ) (cells2 := cells + 17 * u + 11) (slots2 := slots + 102 * u + 66) C0 hP hD hS hl.1 [.int (nI u), .int (nI 2)] (c_X4_umbrella l D cy ax ad ad2 σ (nI u) (nI 2) (inv_okR hI)) (cw_L_law_umbrella hts) ((ou_2 hI huU)) rfl rfl (Nat.le_of_ble_eq_true rfl) dL_law_459 ⟨by omega, by omega⟩ (by omega) (by omega) (fun H locs hP hD hS => ?_)
      refine lv_bipush (v := nI 38) hx hb dL_law_462 (by decide) ?_
      refine lv_icmp_gt (tgt := 485) hx hb dL_law_464 (by decide) (fun c31 => False.elim (absurd (tl.mp c31) (by rw [ti_n (by decide)]; omega))) (fun c31 => ?_)
      refine lv_iload hx hb dL_law_467 (lv_at hl 1 rfl) ?_
      refine lv_iconst (v := nI 3) hx hb dL_law_469 (by decide) ?_
      refine lv_icmp_eq (tgt := 487) hx hb dL_law_470 (by decide) (fun c32 => False.elim (absurd c32 (by decide))) (fun c32 => ?_)
      refine lv_aload_n hx hb dL_law_473 rfl (lv_at hl 7 rfl) ?_
      refine lv_iload hx hb dL_law_474 (lv_at hl 2 rfl) ?_
      refine lv_iconst (v := nI 2) hx hb dL_law_476 (by decide) ?_
      refine lr_call (τ := σ) (cells2 := cells + 17 * u + 13) (slots2 := slots + 102 * u + 78) C0 hP hD hS hl.1 [.int (nI u), .int (nI 2)] (c_X4_umbrella l D cy ax ad ad2 σ (nI u) (nI 2) (inv_okR hI)) (cw_L_law_umbrella hts) ((ou_2 hI huU)) rfl rfl (Nat.le_of_ble_eq_true rfl) dL_law_477 ⟨by omega, by omega⟩ (by omega) (by omega) (fun H locs hP hD hS => ?_)
      refine lv_bipush (v := nI 29) hx hb dL_law_480 (by decide) ?_
      refine lv_icmp_le (tgt := 487) hx hb dL_law_482 (by decide) (fun c33 => ?_) (fun c33 => False.elim (c33 (tle.mpr (by rw [ti_n (by decide)]; omega))))
      refine lv_iinc (v := nI (u + 1)) (lv' := [(15, .int (nI (u + 1))), (17, .int (nI i)), (16, .int (nI 1)), (14, .ref (qc)), (13, .ref (qb)), (12, .ref (qa)), (0, .ref (b)), (1, .ref (ax 0)), (2, .int (nI nS)), (3, .int (nI t))]) hx hb dL_law_487 hl (k := 2) rfl (nI_1 _) (by decide) rfl (fun ls hl => ?_)
      refine lv_goto (tgt := 328) hx hb dL_law_490 (by decide) ?_
      refine W.widen (k := cells + 17 * (u + 1)) (n := slots + 102 * (u + 1)) (by omega) (by omega) ?_
      exact ih (u + 1) _ _ _ H locs ls (by omega) (ac_step1 hAC (by omega) (by omega) hk.1 eai) hP hD hS (lv_sub hl [0, 3, 4, 5, 6, 7, 8, 9] rfl)
    · have e0 : σ.1 (13 + u) 0 = nI 2 := (te_n 2 (by decide)).mpr hk.1
      have ea : σ.1 (13 + u) 1 = (-1 : Int32) := te_m1.mpr hk.2.1
      refine lv_aload_n hx hb dL_law_338 rfl (lv_at hl 5 rfl) ?_
      refine lv_iload hx hb dL_law_339 (lv_at hl 0 rfl) ?_
      refine lv_iconst (v := nI 0) hx hb dL_law_341 (by decide) ?_
      refine lr_call (τ := σ) (cells2 := cells + 17 * u + 3) (slots2 := slots + 102 * u + 18) C0 hP hD hS hl.1 [.int (nI u), .int (nI 0)] (c_X4_umbrella l D cy ax ad ad2 σ (nI u) (nI 0) (inv_okR hI)) (cw_L_law_umbrella hts) ((ou_0 hI huU)) rfl rfl (Nat.le_of_ble_eq_true rfl) dL_law_342 ⟨by omega, by omega⟩ (by omega) (by omega) (fun H locs hP hD hS => ?_)
      refine g_top (y := nI 2) (e0) ?_
      refine lv_istore (lv' := [(16, .int (nI 2)), (15, .int (nI u)), (14, .ref (qc)), (13, .ref (qb)), (12, .ref (qa)), (0, .ref (b)), (1, .ref (ax 0)), (2, .int (nI nS)), (3, .int (nI t))]) hx hb dL_law_345 hl (by decide) rfl (fun ls hl => ?_)
      refine lv_aload_n hx hb dL_law_347 rfl (lv_at hl 6 rfl) ?_
      refine lv_iload hx hb dL_law_348 (lv_at hl 1 rfl) ?_
      refine lv_iconst (v := nI 1) hx hb dL_law_350 (by decide) ?_
      refine lr_call (τ := σ) (cells2 := cells + 17 * u + 5) (slots2 := slots + 102 * u + 30) C0 hP hD hS hl.1 [.int (nI u), .int (nI 1)] (c_X4_umbrella l D cy ax ad ad2 σ (nI u) (nI 1) (inv_okR hI)) (cw_L_law_umbrella hts) ((ou_1 hI huU)) rfl rfl (Nat.le_of_ble_eq_true rfl) dL_law_351 ⟨by omega, by omega⟩ (by omega) (by omega) (fun H locs hP hD hS => ?_)
      refine g_top (y := (-1 : Int32)) (ea) ?_
      refine lv_istore (lv' := [(17, .int ((-1 : Int32))), (16, .int (nI 2)), (15, .int (nI u)), (14, .ref (qc)), (13, .ref (qb)), (12, .ref (qa)), (0, .ref (b)), (1, .ref (ax 0)), (2, .int (nI nS)), (3, .int (nI t))]) hx hb dL_law_354 hl (by decide) rfl (fun ls hl => ?_)
      refine lv_aload hx hb dL_law_356 (lv_at hl 3 rfl) ?_
      refine lv_iload hx hb dL_law_358 (lv_at hl 1 rfl) ?_
      refine lv_dup2_11 hx hb dL_law_360 rfl rfl ?_
      refine lr_iald (X := (AW cy qa qb qc f g h)) C0 hP 2 rfl 2 (tn_nI (by decide)) (vp_in_nI (by decide) (by decide)) dL_law_361 ?_
      refine lv_iconst (v := nI 1) hx hb dL_law_362 (by decide) ?_
      refine lv_iadd hx hb dL_law_363 ?_
      refine lr_iast (X := (AW cy qa qb qc f g h)) (X' := (AW cy qa qb qc f g (upd h 2 ((h 2) + (nI 1))))) C0 hP hD hS 2 rfl 2 (tn_nI (by decide)) (vp_in_nI (by decide) (by decide)) rfl dL_law_364 (fun H locs hP hD hS => ?_)
      refine lv_iload hx hb dL_law_365 (lv_at hl 1 rfl) ?_
      refine lv_if_ne (tgt := 379) hx hb dL_law_367 (by decide) (fun c34 => ?_) (fun c34 => False.elim (absurd c34 (by decide)))
      refine lv_iload hx hb dL_law_379 (lv_at hl 1 rfl) ?_
      refine lv_iconst (v := nI 1) hx hb dL_law_381 (by decide) ?_
      refine lv_icmp_ne (tgt := 394) hx hb dL_law_382 (by decide) (fun c35 => ?_) (fun c35 => False.elim (absurd c35 (by decide)))
      refine lv_iload hx hb dL_law_394 (lv_at hl 1 rfl) ?_
      refine lv_iconst (v := nI 1) hx hb dL_law_396 (by decide) ?_
      refine lv_icmp_le (tgt := 429) hx hb dL_law_397 (by decide) (fun c36 => False.elim (absurd c36 (by decide))) (fun c36 => ?_)
      refine lv_iload hx hb dL_law_400 (lv_at hl 0 rfl) ?_
      refine lv_iconst (v := (-1 : Int32)) hx hb dL_law_402 (by decide) ?_
      refine lv_icmp_ne (tgt := 485) hx hb dL_law_403 (by decide) (fun c37 => False.elim (c37 rfl)) (fun c37 => ?_)
      refine lv_aload_n hx hb dL_law_406 rfl (lv_at hl 7 rfl) ?_
      refine lv_iload hx hb dL_law_407 (lv_at hl 2 rfl) ?_
      refine lv_iconst (v := nI 3) hx hb dL_law_409 (by decide) ?_
      refine lr_call (τ := σ) (cells2 := cells + 17 * u + 7) (slots2 := slots + 102 * u + 42) C0 hP hD hS hl.1 [.int (nI u), .int (nI 3)] (c_X4_umbrella l D cy ax ad ad2 σ (nI u) (nI 3) (inv_okR hI)) (cw_L_law_umbrella hts) ((ou_3 hI huU)) rfl rfl (Nat.le_of_ble_eq_true rfl) dL_law_410 ⟨by omega, by omega⟩ (by omega) (by omega) (fun H locs hP hD hS => ?_)
      refine lv_iconst (v := nI 1) hx hb dL_law_413 (by decide) ?_
      refine lv_icmp_lt (tgt := 485) hx hb dL_law_414 (by decide) (fun c38 => False.elim (absurd (tl.mp c38) (by rw [k_1]; omega))) (fun c38 => ?_)
      refine lv_aload_n hx hb dL_law_417 rfl (lv_at hl 7 rfl) ?_
      refine lv_iload hx hb dL_law_418 (lv_at hl 2 rfl) ?_
      refine lv_iconst (v := nI 3) hx hb dL_law_420 (by decide) ?_
      refine lr_call (τ := σ) (cells2 := cells + 17 * u + 9) (slots2 := slots + 102 * u + 54) C0 hP hD hS hl.1 [.int (nI u), .int (nI 3)] (c_X4_umbrella l D cy ax ad ad2 σ (nI u) (nI 3) (inv_okR hI)) (cw_L_law_umbrella hts) ((ou_3 hI huU)) rfl rfl (Nat.le_of_ble_eq_true rfl) dL_law_421 ⟨by omega, by omega⟩ (by omega) (by omega) (fun H locs hP hD hS => ?_)
      refine lv_bipush (v := nI 24) hx hb dL_law_424 (by decide) ?_
      refine lv_icmp_gt (tgt := 485) hx hb dL_law_426 (by decide) (fun c39 => False.elim (absurd (tl.mp c39) (by rw [k_24]; omega))) (fun c39 => ?_)
      refine lv_iload hx hb dL_law_429 (lv_at hl 1 rfl) ?_
      refine lv_iconst (v := nI 2) hx hb dL_law_431 (by decide) ?_
      refine lv_icmp_ge (tgt := 445) hx hb dL_law_432 (by decide) (fun c40 => ?_) (fun c40 => False.elim (c40 (by decide)))
      refine lv_aload_n hx hb dL_law_445 rfl (lv_at hl 7 rfl) ?_
      refine lv_iload hx hb dL_law_446 (lv_at hl 2 rfl) ?_
      refine lv_iconst (v := nI 2) hx hb dL_law_448 (by decide) ?_
      refine lr_call (τ := σ) (cells2 := cells + 17 * u + 11) (slots2 := slots + 102 * u + 66) C0 hP hD hS hl.1 [.int (nI u), .int (nI 2)] (c_X4_umbrella l D cy ax ad ad2 σ (nI u) (nI 2) (inv_okR hI)) (cw_L_law_umbrella hts) ((ou_2 hI huU)) rfl rfl (Nat.le_of_ble_eq_true rfl) dL_law_449 ⟨by omega, by omega⟩ (by omega) (by omega) (fun H locs hP hD hS => ?_)
      refine lv_if_lt (tgt := 485) hx hb dL_law_452 (by decide) (fun c41 => False.elim (absurd (tl.mp c41) (by rw [ti_0]; omega))) (fun c41 => ?_)
      refine lv_aload_n hx hb dL_law_455 rfl (lv_at hl 7 rfl) ?_
      refine lv_iload hx hb dL_law_456 (lv_at hl 2 rfl) ?_
      refine lv_iconst (v := nI 2) hx hb dL_law_458 (by decide) ?_
      refine lr_call (τ := σ) (cells2 := cells + 17 * u + 13) (slots2 := slots + 102 * u + 78) C0 hP hD hS hl.1 [.int (nI u), .int (nI 2)] (c_X4_umbrella l D cy ax ad ad2 σ (nI u) (nI 2) (inv_okR hI)) (cw_L_law_umbrella hts) ((ou_2 hI huU)) rfl rfl (Nat.le_of_ble_eq_true rfl) dL_law_459 ⟨by omega, by omega⟩ (by omega) (by omega) (fun H locs hP hD hS => ?_)
      refine lv_bipush (v := nI 38) hx hb dL_law_462 (by decide) ?_
      refine lv_icmp_gt (tgt := 485) hx hb dL_law_464 (by decide) (fun c42 => False.elim (absurd (tl.mp c42) (by rw [ti_n (by decide)]; omega))) (fun c42 => ?_)
      refine lv_iload hx hb dL_law_467 (lv_at hl 1 rfl) ?_
      refine lv_iconst (v := nI 3) hx hb dL_law_469 (by decide) ?_
      refine lv_icmp_eq (tgt := 487) hx hb dL_law_470 (by decide) (fun c43 => False.elim (absurd c43 (by decide))) (fun c43 => ?_)
      refine lv_aload_n hx hb dL_law_473 rfl (lv_at hl 7 rfl) ?_
      refine lv_iload hx hb dL_law_474 (lv_at hl 2 rfl) ?_
      refine lv_iconst (v := nI 2) hx hb dL_law_476 (by decide) ?_
      refine lr_call (τ := σ) (cells2 := cells + 17 * u + 15) (slots2 := slots + 102 * u + 90) C0 hP hD hS hl.1 [.int (nI u), .int (nI 2)] (c_X4_umbrella l D cy ax ad ad2 σ (nI u) (nI 2) (inv_okR hI)) (cw_L_law_umbrella hts) ((ou_2 hI huU)) rfl rfl (Nat.le_of_ble_eq_true rfl) dL_law_477 ⟨by omega, by omega⟩ (by omega) (by omega) (fun H locs hP hD hS => ?_)
      refine lv_bipush (v := nI 29) hx hb dL_law_480 (by decide) ?_
      refine lv_icmp_le (tgt := 487) hx hb dL_law_482 (by decide) (fun c44 => ?_) (fun c44 => False.elim (c44 (tle.mpr (by rw [ti_n (by decide)]; omega))))
      refine lv_iinc (v := nI (u + 1)) (lv' := [(15, .int (nI (u + 1))), (17, .int ((-1 : Int32))), (16, .int (nI 2)), (14, .ref (qc)), (13, .ref (qb)), (12, .ref (qa)), (0, .ref (b)), (1, .ref (ax 0)), (2, .int (nI nS)), (3, .int (nI t))]) hx hb dL_law_487 hl (k := 2) rfl (nI_1 _) (by decide) rfl (fun ls hl => ?_)
      refine lv_goto (tgt := 328) hx hb dL_law_490 (by decide) ?_
      refine W.widen (k := cells + 17 * (u + 1)) (n := slots + 102 * (u + 1)) (by omega) (by omega) ?_
      exact ih (u + 1) _ _ _ H locs ls (by omega) (ac_step2 hAC (by omega) hk.1) hP hD hS (lv_sub hl [0, 3, 4, 5, 6, 7, 8, 9] rfl)
    · have e0 : σ.1 (13 + u) 0 = nI 3 := (te_n 3 (by decide)).mpr hk.1
      have ea : σ.1 (13 + u) 1 = (-1 : Int32) := te_m1.mpr hk.2.1
      refine lv_aload_n hx hb dL_law_338 rfl (lv_at hl 5 rfl) ?_
      refine lv_iload hx hb dL_law_339 (lv_at hl 0 rfl) ?_
      refine lv_iconst (v := nI 0) hx hb dL_law_341 (by decide) ?_
      refine lr_call (τ := σ) (cells2 := cells + 17 * u + 3) (slots2 := slots + 102 * u + 18) C0 hP hD hS hl.1 [.int (nI u), .int (nI 0)] (c_X4_umbrella l D cy ax ad ad2 σ (nI u) (nI 0) (inv_okR hI)) (cw_L_law_umbrella hts) ((ou_0 hI huU)) rfl rfl (Nat.le_of_ble_eq_true rfl) dL_law_342 ⟨by omega, by omega⟩ (by omega) (by omega) (fun H locs hP hD hS => ?_)
      refine g_top (y := nI 3) (e0) ?_
      refine lv_istore (lv' := [(16, .int (nI 3)), (15, .int (nI u)), (14, .ref (qc)), (13, .ref (qb)), (12, .ref (qa)), (0, .ref (b)), (1, .ref (ax 0)), (2, .int (nI nS)), (3, .int (nI t))]) hx hb dL_law_345 hl (by decide) rfl (fun ls hl => ?_)
      refine lv_aload_n hx hb dL_law_347 rfl (lv_at hl 6 rfl) ?_
      refine lv_iload hx hb dL_law_348 (lv_at hl 1 rfl) ?_
      refine lv_iconst (v := nI 1) hx hb dL_law_350 (by decide) ?_
      refine lr_call (τ := σ) (cells2 := cells + 17 * u + 5) (slots2 := slots + 102 * u + 30) C0 hP hD hS hl.1 [.int (nI u), .int (nI 1)] (c_X4_umbrella l D cy ax ad ad2 σ (nI u) (nI 1) (inv_okR hI)) (cw_L_law_umbrella hts) ((ou_1 hI huU)) rfl rfl (Nat.le_of_ble_eq_true rfl) dL_law_351 ⟨by omega, by omega⟩ (by omega) (by omega) (fun H locs hP hD hS => ?_)
      refine g_top (y := (-1 : Int32)) (ea) ?_
      refine lv_istore (lv' := [(17, .int ((-1 : Int32))), (16, .int (nI 3)), (15, .int (nI u)), (14, .ref (qc)), (13, .ref (qb)), (12, .ref (qa)), (0, .ref (b)), (1, .ref (ax 0)), (2, .int (nI nS)), (3, .int (nI t))]) hx hb dL_law_354 hl (by decide) rfl (fun ls hl => ?_)
      refine lv_aload hx hb dL_law_356 (lv_at hl 3 rfl) ?_
      refine lv_iload hx hb dL_law_358 (lv_at hl 1 rfl) ?_
      refine lv_dup2_11 hx hb dL_law_360 rfl rfl ?_
      refine lr_iald (X := (AW cy qa qb qc f g h)) C0 hP 2 rfl 3 (tn_nI (by decide)) (vp_in_nI (by decide) (by decide)) dL_law_361 ?_
      refine lv_iconst (v := nI 1) hx hb dL_law_362 (by decide) ?_
      refine lv_iadd hx hb dL_law_363 ?_
      refine lr_iast (X := (AW cy qa qb qc f g h)) (X' := (AW cy qa qb qc f g (upd h 3 ((h 3) + (nI 1))))) C0 hP hD hS 2 rfl 3 (tn_nI (by decide)) (vp_in_nI (by decide) (by decide)) rfl dL_law_364 (fun H locs hP hD hS => ?_)
      refine lv_iload hx hb dL_law_365 (lv_at hl 1 rfl) ?_
      refine lv_if_ne (tgt := 379) hx hb dL_law_367 (by decide) (fun c45 => ?_) (fun c45 => False.elim (absurd c45 (by decide)))
      refine lv_iload hx hb dL_law_379 (lv_at hl 1 rfl) ?_
      refine lv_iconst (v := nI 1) hx hb dL_law_381 (by decide) ?_
      refine lv_icmp_ne (tgt := 394) hx hb dL_law_382 (by decide) (fun c46 => ?_) (fun c46 => False.elim (absurd c46 (by decide)))
      refine lv_iload hx hb dL_law_394 (lv_at hl 1 rfl) ?_
      refine lv_iconst (v := nI 1) hx hb dL_law_396 (by decide) ?_
      refine lv_icmp_le (tgt := 429) hx hb dL_law_397 (by decide) (fun c47 => False.elim (absurd c47 (by decide))) (fun c47 => ?_)
      refine lv_iload hx hb dL_law_400 (lv_at hl 0 rfl) ?_
      refine lv_iconst (v := (-1 : Int32)) hx hb dL_law_402 (by decide) ?_
      refine lv_icmp_ne (tgt := 485) hx hb dL_law_403 (by decide) (fun c48 => False.elim (c48 rfl)) (fun c48 => ?_)
      refine lv_aload_n hx hb dL_law_406 rfl (lv_at hl 7 rfl) ?_
      refine lv_iload hx hb dL_law_407 (lv_at hl 2 rfl) ?_
      refine lv_iconst (v := nI 3) hx hb dL_law_409 (by decide) ?_
      refine lr_call (τ := σ) (cells2 := cells + 17 * u + 7) (slots2 := slots + 102 * u + 42) C0 hP hD hS hl.1 [.int (nI u), .int (nI 3)] (c_X4_umbrella l D cy ax ad ad2 σ (nI u) (nI 3) (inv_okR hI)) (cw_L_law_umbrella hts) ((ou_3 hI huU)) rfl rfl (Nat.le_of_ble_eq_true rfl) dL_law_410 ⟨by omega, by omega⟩ (by omega) (by omega) (fun H locs hP hD hS => ?_)
      refine lv_iconst (v := nI 1) hx hb dL_law_413 (by decide) ?_
      refine lv_icmp_lt (tgt := 485) hx hb dL_law_414 (by decide) (fun c49 => False.elim (absurd (tl.mp c49) (by rw [k_1]; omega))) (fun c49 => ?_)
      refine lv_aload_n hx hb dL_law_417 rfl (lv_at hl 7 rfl) ?_
      refine lv_iload hx hb dL_law_418 (lv_at hl 2 rfl) ?_
      refine lv_iconst (v := nI 3) hx hb dL_law_420 (by decide) ?_
      refine lr_call (τ := σ) (cells2 := cells + 17 * u + 9) (slots2 := slots + 102 * u + 54) C0 hP hD hS hl.1 [.int (nI u), .int (nI 3)] (c_X4_umbrella l D cy ax ad ad2 σ (nI u) (nI 3) (inv_okR hI)) (cw_L_law_umbrella hts) ((ou_3 hI huU)) rfl rfl (Nat.le_of_ble_eq_true rfl) dL_law_421 ⟨by omega, by omega⟩ (by omega) (by omega) (fun H locs hP hD hS => ?_)
      refine lv_bipush (v := nI 24) hx hb dL_law_424 (by decide) ?_
      refine lv_icmp_gt (tgt := 485) hx hb dL_law_426 (by decide) (fun c50 => False.elim (absurd (tl.mp c50) (by rw [k_24]; omega))) (fun c50 => ?_)
      refine lv_iload hx hb dL_law_429 (lv_at hl 1 rfl) ?_
      refine lv_iconst (v := nI 2) hx hb dL_law_431 (by decide) ?_
      refine lv_icmp_ge (tgt := 445) hx hb dL_law_432 (by decide) (fun c51 => ?_) (fun c51 => False.elim (c51 (by decide)))
      refine lv_aload_n hx hb dL_law_445 rfl (lv_at hl 7 rfl) ?_
      refine lv_iload hx hb dL_law_446 (lv_at hl 2 rfl) ?_
      refine lv_iconst (v := nI 2) hx hb dL_law_448 (by decide) ?_
      refine lr_call (τ := σ) (cells2 := cells + 17 * u + 11) (slots2 := slots + 102 * u + 66) C0 hP hD hS hl.1 [.int (nI u), .int (nI 2)] (c_X4_umbrella l D cy ax ad ad2 σ (nI u) (nI 2) (inv_okR hI)) (cw_L_law_umbrella hts) ((ou_2 hI huU)) rfl rfl (Nat.le_of_ble_eq_true rfl) dL_law_449 ⟨by omega, by omega⟩ (by omega) (by omega) (fun H locs hP hD hS => ?_)
      refine lv_if_lt (tgt := 485) hx hb dL_law_452 (by decide) (fun c52 => False.elim (absurd (tl.mp c52) (by rw [ti_0]; omega))) (fun c52 => ?_)
      refine lv_aload_n hx hb dL_law_455 rfl (lv_at hl 7 rfl) ?_
      refine lv_iload hx hb dL_law_456 (lv_at hl 2 rfl) ?_
      refine lv_iconst (v := nI 2) hx hb dL_law_458 (by decide) ?_
      refine lr_call (τ := σ) (cells2 := cells + 17 * u + 13) (slots2 := slots + 102 * u + 78) C0 hP hD hS hl.1 [.int (nI u), .int (nI 2)] (c_X4_umbrella l D cy ax ad ad2 σ (nI u) (nI 2) (inv_okR hI)) (cw_L_law_umbrella hts) ((ou_2 hI huU)) rfl rfl (Nat.le_of_ble_eq_true rfl) dL_law_459 ⟨by omega, by omega⟩ (by omega) (by omega) (fun H locs hP hD hS => ?_)
      refine lv_bipush (v := nI 38) hx hb dL_law_462 (by decide) ?_
      refine lv_icmp_gt (tgt := 485) hx hb dL_law_464 (by decide) (fun c53 => False.elim (absurd (tl.mp c53) (by rw [ti_n (by decide)]; omega))) (fun c53 => ?_)
      refine lv_iload hx hb dL_law_467 (lv_at hl 1 rfl) ?_
      refine lv_iconst (v := nI 3) hx hb dL_law_469 (by decide) ?_
      refine lv_icmp_eq (tgt := 487) hx hb dL_law_470 (by decide) (fun c54 => ?_) (fun c54 => False.elim (c54 rfl))
      refine lv_iinc (v := nI (u + 1)) (lv' := [(15, .int (nI (u + 1))), (17, .int ((-1 : Int32))), (16, .int (nI 3)), (14, .ref (qc)), (13, .ref (qb)), (12, .ref (qa)), (0, .ref (b)), (1, .ref (ax 0)), (2, .int (nI nS)), (3, .int (nI t))]) hx hb dL_law_487 hl (k := 2) rfl (nI_1 _) (by decide) rfl (fun ls hl => ?_)
      refine lv_goto (tgt := 328) hx hb dL_law_490 (by decide) ?_
      refine W.widen (k := cells + 17 * (u + 1)) (n := slots + 102 * (u + 1)) (by omega) (by omega) ?_
      exact ih (u + 1) _ _ _ H locs ls (by omega) (ac_step3 hAC (by omega) hk.1) hP hD hS (lv_sub hl [0, 3, 4, 5, 6, 7, 8, 9] rfl)
