set_option maxHeartbeats 4000000 in
set_option maxRecDepth 100000 in
theorem bC0 {p : Program} {l : Launch} {e : Env} {s : State} {m : MethodId} {args : Array Value} {below : List Frame} {meth : Method} {c : Code} {Q : State → Prop} {A : Nat → Prop} {D : va_G} {cy : Nat → ClassId} {b L : Nat} {xs : Nat → Int32} {ax ad ad2 : Nat → Nat} (C0 : LCC p l s m c args A D cy b L xs cL_law 18 wsL_law) {nS t : Nat} {σ : Sg × Sg}  (cells slots : Nat) (hr : cells + 50 ≤ room_1.cells ∧ slots + 400 ≤ room_1.slots)
    (K : ∀ (qa qb qc : Nat) (H : Heap) (locs : List Loc) (ls : Array Slot), va_P D vwCl (CW cy ax ad ad2 σ ++ AW cy qa qb qc ((fun _ => (0 : Int32))) ((fun _ => (0 : Int32))) ((fun _ => (0 : Int32)))) H → va_D A (CW cy ax ad ad2 σ ++ AW cy qa qb qc ((fun _ => (0 : Int32))) ((fun _ => (0 : Int32))) ((fun _ => (0 : Int32)))) → va_S A s.heap H locs → lv_has ls 18 [(15, .int (nI 0)), (14, .ref (qc)), (13, .ref (qb)), (12, .ref (qa)), (0, .ref (b)), (1, .ref (ax 0)), (2, .int (nI nS)), (3, .int (nI t))] → W p l e room_1 s m args below meth c H locs (cells + 3) (slots + 22) Q (F0 m 328 ls [])) :
    ∀ (H : Heap) (locs : List Loc) (ls : Array Slot), va_P D vwCl (CW cy ax ad ad2 σ ++ ([] : va_W)) H → va_D A (CW cy ax ad ad2 σ ++ ([] : va_W)) → va_S A s.heap H locs → lv_has ls 18 [(0, .ref (b)), (1, .ref (ax 0)), (2, .int (nI nS)), (3, .int (nI t))] → W p l e room_1 s m args below meth c H locs (cells) (slots) Q (F0 m 308 ls []) := by
  intro H locs ls hP hD hS hl
  have C9 := C0
  obtain ⟨hx, hb, hml, hown, hts, hK, hXX, hA, hst, htx, hl0⟩ := C9
  rw [List.append_nil] at hP hD
  refine lv_bipush (v := nI 10) hx hb dL_law_308 (by decide) ?_
  refine g_newi (n := 10) hx hb (hts (.arrayClass .int) (by decide +kernel)) hK hP hD hS hA (by decide) (by omega) (by omega) dL_law_310 (fun qa H hP hD hS => ?_)
  refine lv_astore (lv' := [(12, .ref (qa)), (0, .ref (b)), (1, .ref (ax 0)), (2, .int (nI nS)), (3, .int (nI t))]) hx hb dL_law_312 hl (by decide) rfl (fun ls hl => ?_)
  refine lv_bipush (v := nI 8) hx hb dL_law_314 (by decide) ?_
  refine g_newi (n := 8) hx hb (hts (.arrayClass .int) (by decide +kernel)) hK hP hD hS hA (by decide) (by omega) (by omega) dL_law_316 (fun qb H hP hD hS => ?_)
  replace hP := vP_app hP
  replace hD := vD_app hD
  refine lv_astore (lv' := [(13, .ref (qb)), (12, .ref (qa)), (0, .ref (b)), (1, .ref (ax 0)), (2, .int (nI nS)), (3, .int (nI t))]) hx hb dL_law_318 hl (by decide) rfl (fun ls hl => ?_)
  refine lv_iconst (v := nI 4) hx hb dL_law_320 (by decide) ?_
  refine g_newi (n := 4) hx hb (hts (.arrayClass .int) (by decide +kernel)) hK hP hD hS hA (by decide) (by omega) (by omega) dL_law_321 (fun qc H hP hD hS => ?_)
  replace hP := vP_app hP
  replace hD := vD_app hD
  refine lv_astore (lv' := [(14, .ref (qc)), (13, .ref (qb)), (12, .ref (qa)), (0, .ref (b)), (1, .ref (ax 0)), (2, .int (nI nS)), (3, .int (nI t))]) hx hb dL_law_323 hl (by decide) rfl (fun ls hl => ?_)
  refine lv_iconst (v := nI 0) hx hb dL_law_325 (by decide) ?_
  refine lv_istore (lv' := [(15, .int (nI 0)), (14, .ref (qc)), (13, .ref (qb)), (12, .ref (qa)), (0, .ref (b)), (1, .ref (ax 0)), (2, .int (nI nS)), (3, .int (nI t))]) hx hb dL_law_326 hl (by decide) rfl (fun ls hl => ?_)
  exact K qa qb qc H locs ls hP hD hS (lv_sub hl [0, 1, 2, 3, 4, 5, 6, 7] rfl)
set_option maxHeartbeats 4000000 in
set_option maxRecDepth 100000 in
theorem bD {p : Program} {l : Launch} {e : Env} {s : State} {m : MethodId} {args : Array Value} {below : List Frame} {meth : Method} {c : Code} {Q : State → Prop} {A : Nat → Prop} {D : va_G} {cy : Nat → ClassId} {b L : Nat} {xs : Nat → Int32} {ax ad ad2 : Nat → Nat} (C0 : LCC p l s m c args A D cy b L xs cL_law 18 wsL_law) {B nS nU nC t : Nat} {σ : Sg × Sg} {qa qb qc : Nat} {f g h : Nat → Int32} (hI : Inv B nS nU nC σ.1) (hAC : AC σ.1 nU f g h) (cells slots : Nat) (hr : cells + 200 ≤ room_1.cells ∧ slots + 1200 ≤ room_1.slots)
    (K : ∀ (ts : Int32) (H : Heap) (locs : List Loc) (ls : Array Slot), ts.toInt = cn (tI σ.1) nC → va_P D vwCl (CW cy ax ad ad2 σ ++ AW cy qa qb qc f g h) H → va_D A (CW cy ax ad ad2 σ ++ AW cy qa qb qc f g h) → va_S A s.heap H locs → lv_has ls 18 [(15, .int (ts)), (14, .ref (qc)), (13, .ref (qb)), (12, .ref (qa)), (0, .ref (b)), (1, .ref (ax 0)), (2, .int (nI nS)), (3, .int (nI t))] → W p l e room_1 s m args below meth c H locs (cells + 200) (slots + 1200) Q (F0 m 624 ls [])) :
    ∀ (n u : Nat) (ts : Int32) (H : Heap) (locs : List Loc) (ls : Array Slot), u + n = nC → ts.toInt = cn (tI σ.1) u → va_P D vwCl (CW cy ax ad ad2 σ ++ AW cy qa qb qc f g h) H → va_D A (CW cy ax ad ad2 σ ++ AW cy qa qb qc f g h) → va_S A s.heap H locs → lv_has ls 18 [(16, .int (nI u)), (15, .int (ts)), (14, .ref (qc)), (13, .ref (qb)), (12, .ref (qa)), (0, .ref (b)), (1, .ref (ax 0)), (2, .int (nI nS)), (3, .int (nI t))] → W p l e room_1 s m args below meth c H locs (cells + 17 * u) (slots + 102 * u) Q (F0 m 499 ls []) := by
  have C9 := C0
  obtain ⟨hx, hb, hml, hown, hts, hK, hXX, hA, hst, htx, hl0⟩ := C9
  have n8 := hI.1.2.2.1
  have n40 := hI.1.2.2.2.1
  have n10 := hI.1.2.2.2.2.1
  have nB := hI.1.2.2.2.2.2
  intro n
  induction n with
  | zero =>
    intro u ts H locs ls hu hts9 hP hD hS hl
    refine lv_iload hx hb dL_law_499 (lv_at hl 0 rfl) ?_
    refine lv_aload_n hx hb dL_law_501 rfl (lv_at hl 6 rfl) ?_
    refine lv_iconst (v := nI 3) hx hb dL_law_502 (by decide) ?_
    refine lr_call (τ := σ) (cells2 := cells + 17 * u + 1) (slots2 := slots + 102 * u + 6) C0 hP hD hS hl.1 [.int (nI 3)] (c_X4_count l D cy ax ad ad2 σ (nI 3) (inv_okR hI)) (cw_L_law_count hts) ((oc_3 hI)) rfl rfl (Nat.le_of_ble_eq_true rfl) dL_law_503 ⟨by omega, by omega⟩ (by omega) (by omega) (fun H locs hP hD hS => ?_)
    refine lv_icmp_ge (tgt := 624) hx hb dL_law_506 (by decide) (fun c55 => ?_) (fun c55 => False.elim (c55 ((nI_leI (by omega) (by omega)).mpr (by omega))))
    refine W.widen (k := cells + 200) (n := slots + 1200) (by omega) (by omega) ?_
    exact K ts H locs ls (by rw [show nC = u by omega]; exact hts9) hP hD hS (lv_sub hl [1, 2, 3, 4, 5, 6, 7, 8] rfl)
  | succ n ih =>
    intro u ts H locs ls hu hts9 hP hD hS hl
    have huC : u < nC := by omega
    have hC := hI.2.2.2.2.1 u huC
    have hhd := sm_hand hI huC
    have hf := hAC.1 u (by omega)
    have hb9 := cn_rg (f := tI σ.1) 10 u (fun x hx => tI_b hI (by omega))
    rw [hhd] at hf
    unfold CI at hC
    refine lv_iload hx hb dL_law_499 (lv_at hl 0 rfl) ?_
    refine lv_aload_n hx hb dL_law_501 rfl (lv_at hl 6 rfl) ?_
    refine lv_iconst (v := nI 3) hx hb dL_law_502 (by decide) ?_
    refine lr_call (τ := σ) (cells2 := cells + 17 * u + 1) (slots2 := slots + 102 * u + 6) C0 hP hD hS hl.1 [.int (nI 3)] (c_X4_count l D cy ax ad ad2 σ (nI 3) (inv_okR hI)) (cw_L_law_count hts) ((oc_3 hI)) rfl rfl (Nat.le_of_ble_eq_true rfl) dL_law_503 ⟨by omega, by omega⟩ (by omega) (by omega) (fun H locs hP hD hS => ?_)
    refine lv_icmp_ge (tgt := 624) hx hb dL_law_506 (by decide) (fun c56 => False.elim (absurd ((nI_leI (by omega) (by omega)).mp c56) (by omega))) (fun c56 => ?_)
    by_cases hn : (σ.1 (53 + u) 9).toInt < 0
    · have e9 : σ.1 (53 + u) 9 = (-1 : Int32) := te_m1.mpr (by omega)
      rw [if_pos hn] at hf
      have ef : f u = nI 0 := (te_n 0 (by decide)).mpr hf
      refine lv_aload_n hx hb dL_law_509 rfl (lv_at hl 6 rfl) ?_
      refine lv_iload hx hb dL_law_510 (lv_at hl 0 rfl) ?_
      refine lv_iconst (v := nI 4) hx hb dL_law_512 (by decide) ?_
      refine lr_call (τ := σ) (cells2 := cells + 17 * u + 3) (slots2 := slots + 102 * u + 18) C0 hP hD hS hl.1 [.int (nI u), .int (nI 4)] (c_X4_citizen l D cy ax ad ad2 σ (nI u) (nI 4) (inv_okR hI)) (cw_L_law_citizen hts) ((ot_4 hI huC)) rfl rfl (Nat.le_of_ble_eq_true rfl) dL_law_513 ⟨by omega, by omega⟩ (by omega) (by omega) (fun H locs hP hD hS => ?_)
      refine g_top (y := (-1 : Int32)) (e9) ?_
      refine lv_istore (lv' := [(17, .int ((-1 : Int32))), (16, .int (nI u)), (15, .int (ts)), (14, .ref (qc)), (13, .ref (qb)), (12, .ref (qa)), (0, .ref (b)), (1, .ref (ax 0)), (2, .int (nI nS)), (3, .int (nI t))]) hx hb dL_law_516 hl (by decide) rfl (fun ls hl => ?_)
      refine lv_aload hx hb dL_law_518 (lv_at hl 5 rfl) ?_
      refine lv_iload hx hb dL_law_520 (lv_at hl 1 rfl) ?_
      refine lr_iald (X := (AW cy qa qb qc f g h)) C0 hP 0 rfl u (tn_nI (by omega)) (vp_in_nI (by omega) (by decide)) dL_law_522 ?_
      refine g_top (y := nI 0) (ef) ?_
      refine lv_iload hx hb dL_law_523 (lv_at hl 0 rfl) ?_
      refine lv_if_ge (tgt := 532) hx hb dL_law_525 (by decide) (fun c57 => False.elim (absurd c57 (by decide))) (fun c57 => ?_)
      refine lv_iconst (v := nI 0) hx hb dL_law_528 (by decide) ?_
      refine lv_goto (tgt := 533) hx hb dL_law_529 (by decide) ?_
      refine lv_icmp_ne (tgt := 604) hx hb dL_law_533 (by decide) (fun c58 => False.elim (c58 rfl)) (fun c58 => ?_)
      refine lv_iload hx hb dL_law_536 (lv_at hl 0 rfl) ?_
      refine lv_if_lt (tgt := 563) hx hb dL_law_538 (by decide) (fun c59 => ?_) (fun c59 => False.elim (c59 (by decide)))
      refine lv_aload_n hx hb dL_law_563 rfl (lv_at hl 7 rfl) ?_
      refine lv_iload hx hb dL_law_564 (lv_at hl 1 rfl) ?_
      refine lv_iconst (v := nI 5) hx hb dL_law_566 (by decide) ?_
      refine lr_call (τ := σ) (cells2 := cells + 17 * u + 5) (slots2 := slots + 102 * u + 30) C0 hP hD hS hl.1 [.int (nI u), .int (nI 5)] (c_X4_citizen l D cy ax ad ad2 σ (nI u) (nI 5) (inv_okR hI)) (cw_L_law_citizen hts) ((ot_5 hI huC)) rfl rfl (Nat.le_of_ble_eq_true rfl) dL_law_567 ⟨by omega, by omega⟩ (by omega) (by omega) (fun H locs hP hD hS => ?_)
      refine lv_if_lt (tgt := 604) hx hb dL_law_570 (by decide) (fun c60 => False.elim (absurd (tl.mp c60) (by rw [ti_0]; omega))) (fun c60 => ?_)
      refine lv_aload_n hx hb dL_law_573 rfl (lv_at hl 7 rfl) ?_
      refine lv_iload hx hb dL_law_574 (lv_at hl 1 rfl) ?_
      refine lv_iconst (v := nI 5) hx hb dL_law_576 (by decide) ?_
      refine lr_call (τ := σ) (cells2 := cells + 17 * u + 7) (slots2 := slots + 102 * u + 42) C0 hP hD hS hl.1 [.int (nI u), .int (nI 5)] (c_X4_citizen l D cy ax ad ad2 σ (nI u) (nI 5) (inv_okR hI)) (cw_L_law_citizen hts) ((ot_5 hI huC)) rfl rfl (Nat.le_of_ble_eq_true rfl) dL_law_577 ⟨by omega, by omega⟩ (by omega) (by omega) (fun H locs hP hD hS => ?_)
      refine lv_bipush (v := nI 10) hx hb dL_law_580 (by decide) ?_
      refine lv_icmp_gt (tgt := 604) hx hb dL_law_582 (by decide) (fun c61 => False.elim (absurd (tl.mp c61) (by rw [k_10]; omega))) (fun c61 => ?_)
      refine lv_aload_n hx hb dL_law_585 rfl (lv_at hl 7 rfl) ?_
      refine lv_iload hx hb dL_law_586 (lv_at hl 1 rfl) ?_
      refine lv_bipush (v := nI 8) hx hb dL_law_588 (by decide) ?_
      refine lr_call (τ := σ) (cells2 := cells + 17 * u + 9) (slots2 := slots + 102 * u + 54) C0 hP hD hS hl.1 [.int (nI u), .int (nI 8)] (c_X4_citizen l D cy ax ad ad2 σ (nI u) (nI 8) (inv_okR hI)) (cw_L_law_citizen hts) ((ot_8 hI huC)) rfl rfl (Nat.le_of_ble_eq_true rfl) dL_law_590 ⟨by omega, by omega⟩ (by omega) (by omega) (fun H locs hP hD hS => ?_)
      refine lv_aload_n hx hb dL_law_593 rfl (lv_at hl 7 rfl) ?_
      refine lv_iload hx hb dL_law_594 (lv_at hl 1 rfl) ?_
      refine lv_bipush (v := nI 7) hx hb dL_law_596 (by decide) ?_
      refine lr_call (τ := σ) (cells2 := cells + 17 * u + 11) (slots2 := slots + 102 * u + 66) C0 hP hD hS hl.1 [.int (nI u), .int (nI 7)] (c_X4_citizen l D cy ax ad ad2 σ (nI u) (nI 7) (inv_okR hI)) (cw_L_law_citizen hts) ((ot_7 hI huC)) rfl rfl (Nat.le_of_ble_eq_true rfl) dL_law_598 ⟨by omega, by omega⟩ (by omega) (by omega) (fun H locs hP hD hS => ?_)
      refine lv_icmp_le (tgt := 606) hx hb dL_law_601 (by decide) (fun c62 => ?_) (fun c62 => False.elim (c62 (tle.mpr (by omega))))
      refine lv_iload hx hb dL_law_606 (lv_at hl 2 rfl) ?_
      refine lv_aload_n hx hb dL_law_608 rfl (lv_at hl 7 rfl) ?_
      refine lv_iload hx hb dL_law_609 (lv_at hl 1 rfl) ?_
      refine lv_iconst (v := nI 5) hx hb dL_law_611 (by decide) ?_
      refine lr_call (τ := σ) (cells2 := cells + 17 * u + 13) (slots2 := slots + 102 * u + 78) C0 hP hD hS hl.1 [.int (nI u), .int (nI 5)] (c_X4_citizen l D cy ax ad ad2 σ (nI u) (nI 5) (inv_okR hI)) (cw_L_law_citizen hts) ((ot_5 hI huC)) rfl rfl (Nat.le_of_ble_eq_true rfl) dL_law_612 ⟨by omega, by omega⟩ (by omega) (by omega) (fun H locs hP hD hS => ?_)
      refine lv_iadd hx hb dL_law_615 ?_
      refine lv_topi (fun ts2 ets2 => ?_)
      refine lv_istore (lv' := [(15, .int (ts2)), (17, .int ((-1 : Int32))), (16, .int (nI u)), (14, .ref (qc)), (13, .ref (qb)), (12, .ref (qa)), (0, .ref (b)), (1, .ref (ax 0)), (2, .int (nI nS)), (3, .int (nI t))]) hx hb dL_law_616 hl (by decide) rfl (fun ls hl => ?_)
      refine lv_iinc (v := nI (u + 1)) (lv' := [(16, .int (nI (u + 1))), (15, .int (ts2)), (17, .int ((-1 : Int32))), (14, .ref (qc)), (13, .ref (qb)), (12, .ref (qa)), (0, .ref (b)), (1, .ref (ax 0)), (2, .int (nI nS)), (3, .int (nI t))]) hx hb dL_law_618 hl (k := 2) rfl (nI_1 _) (by decide) rfl (fun ls hl => ?_)
      refine lv_goto (tgt := 499) hx hb dL_law_621 (by decide) ?_
      refine W.widen (k := cells + 17 * (u + 1)) (n := slots + 102 * (u + 1)) (by omega) (by omega) ?_
      exact ih (u + 1) ts2 H locs ls (by omega) (by rw [ets2, ti_add (by omega), hts9]; rfl) hP hD hS (lv_sub hl [0, 1, 3, 4, 5, 6, 7, 8, 9] rfl)
    · obtain ⟨x, hx9, e9, e9i⟩ := of_rng (x := σ.1 (53 + u) 9) (n := nU) (by omega) (by omega)
      rw [if_neg hn] at hf
      have ef : f u = nI 1 := (te_n 1 (by decide)).mpr hf
      have hH := (hI.2.2.2.2.2 x hx9 u huC).mpr e9i
      have eh : σ.1 (13 + x) 1 = nI u := (te_n u (by omega)).mpr hH.2
      refine lv_aload_n hx hb dL_law_509 rfl (lv_at hl 6 rfl) ?_
      refine lv_iload hx hb dL_law_510 (lv_at hl 0 rfl) ?_
      refine lv_iconst (v := nI 4) hx hb dL_law_512 (by decide) ?_
      refine lr_call (τ := σ) (cells2 := cells + 17 * u + 3) (slots2 := slots + 102 * u + 18) C0 hP hD hS hl.1 [.int (nI u), .int (nI 4)] (c_X4_citizen l D cy ax ad ad2 σ (nI u) (nI 4) (inv_okR hI)) (cw_L_law_citizen hts) ((ot_4 hI huC)) rfl rfl (Nat.le_of_ble_eq_true rfl) dL_law_513 ⟨by omega, by omega⟩ (by omega) (by omega) (fun H locs hP hD hS => ?_)
      refine g_top (y := nI x) (e9) ?_
      refine lv_istore (lv' := [(17, .int (nI x)), (16, .int (nI u)), (15, .int (ts)), (14, .ref (qc)), (13, .ref (qb)), (12, .ref (qa)), (0, .ref (b)), (1, .ref (ax 0)), (2, .int (nI nS)), (3, .int (nI t))]) hx hb dL_law_516 hl (by decide) rfl (fun ls hl => ?_)
      refine lv_aload hx hb dL_law_518 (lv_at hl 5 rfl) ?_
      refine lv_iload hx hb dL_law_520 (lv_at hl 1 rfl) ?_
      refine lr_iald (X := (AW cy qa qb qc f g h)) C0 hP 0 rfl u (tn_nI (by omega)) (vp_in_nI (by omega) (by decide)) dL_law_522 ?_
      refine g_top (y := nI 1) (ef) ?_
      refine lv_iload hx hb dL_law_523 (lv_at hl 0 rfl) ?_
      refine lv_if_ge (tgt := 532) hx hb dL_law_525 (by decide) (fun c63 => ?_) (fun c63 => False.elim (c63 (nI_pos' (by omega))))
      refine lv_iconst (v := nI 1) hx hb dL_law_532 (by decide) ?_
      refine lv_icmp_ne (tgt := 604) hx hb dL_law_533 (by decide) (fun c64 => False.elim (c64 rfl)) (fun c64 => ?_)
      refine lv_iload hx hb dL_law_536 (lv_at hl 0 rfl) ?_
      refine lv_if_lt (tgt := 563) hx hb dL_law_538 (by decide) (fun c65 => False.elim (absurd c65 (nI_pos (by omega)))) (fun c65 => ?_)
      refine lv_aload_n hx hb dL_law_541 rfl (lv_at hl 7 rfl) ?_
      refine lv_iload hx hb dL_law_542 (lv_at hl 0 rfl) ?_
      refine lv_iconst (v := nI 1) hx hb dL_law_544 (by decide) ?_
      refine lr_call (τ := σ) (cells2 := cells + 17 * u + 5) (slots2 := slots + 102 * u + 30) C0 hP hD hS hl.1 [.int (nI x), .int (nI 1)] (c_X4_umbrella l D cy ax ad ad2 σ (nI x) (nI 1) (inv_okR hI)) (cw_L_law_umbrella hts) ((ou_1 hI hx9)) rfl rfl (Nat.le_of_ble_eq_true rfl) dL_law_545 ⟨by omega, by omega⟩ (by omega) (by omega) (fun H locs hP hD hS => ?_)
      refine lv_iload hx hb dL_law_548 (lv_at hl 1 rfl) ?_
      refine lv_icmp_ne (tgt := 604) hx hb dL_law_550 (by decide) (fun c66 => False.elim (c66 eh)) (fun c66 => ?_)
      refine lv_aload_n hx hb dL_law_553 rfl (lv_at hl 7 rfl) ?_
      refine lv_iload hx hb dL_law_554 (lv_at hl 1 rfl) ?_
      refine lv_iconst (v := nI 2) hx hb dL_law_556 (by decide) ?_
      refine lr_call (τ := σ) (cells2 := cells + 17 * u + 7) (slots2 := slots + 102 * u + 42) C0 hP hD hS hl.1 [.int (nI u), .int (nI 2)] (c_X4_citizen l D cy ax ad ad2 σ (nI u) (nI 2) (inv_okR hI)) (cw_L_law_citizen hts) ((ot_2 hI huC)) rfl rfl (Nat.le_of_ble_eq_true rfl) dL_law_557 ⟨by omega, by omega⟩ (by omega) (by omega) (fun H locs hP hD hS => ?_)
      refine lv_if_ge (tgt := 604) hx hb dL_law_560 (by decide) (fun c67 => False.elim (absurd (tle.mp c67) (by rw [ti_0]; omega))) (fun c67 => ?_)
      refine lv_aload_n hx hb dL_law_563 rfl (lv_at hl 7 rfl) ?_
      refine lv_iload hx hb dL_law_564 (lv_at hl 1 rfl) ?_
      refine lv_iconst (v := nI 5) hx hb dL_law_566 (by decide) ?_
      refine lr_call (τ := σ) (cells2 := cells + 17 * u + 9) (slots2 := slots + 102 * u + 54) C0 hP hD hS hl.1 [.int (nI u), .int (nI 5)] (c_X4_citizen l D cy ax ad ad2 σ (nI u) (nI 5) (inv_okR hI)) (cw_L_law_citizen hts) ((ot_5 hI huC)) rfl rfl (Nat.le_of_ble_eq_true rfl) dL_law_567 ⟨by omega, by omega⟩ (by omega) (by omega) (fun H locs hP hD hS => ?_)
      refine lv_if_lt (tgt := 604) hx hb dL_law_570 (by decide) (fun c68 => False.elim (absurd (tl.mp c68) (by rw [ti_0]; omega))) (fun c68 => ?_)
      refine lv_aload_n hx hb dL_law_573 rfl (lv_at hl 7 rfl) ?_
      refine lv_iload hx hb dL_law_574 (lv_at hl 1 rfl) ?_
      refine lv_iconst (v := nI 5) hx hb dL_law_576 (by decide) ?_
      refine lr_call (τ := σ) (cells2 := cells + 17 * u + 11) (slots2 := slots + 102 * u + 66) C0 hP hD hS hl.1 [.int (nI u), .int (nI 5)] (c_X4_citizen l D cy ax ad ad2 σ (nI u) (nI 5) (inv_okR hI)) (cw_L_law_citizen hts) ((ot_5 hI huC)) rfl rfl (Nat.le_of_ble_eq_true rfl) dL_law_577 ⟨by omega, by omega⟩ (by omega) (by omega) (fun H locs hP hD hS => ?_)
      refine lv_bipush (v := nI 10) hx hb dL_law_580 (by decide) ?_
      refine lv_icmp_gt (tgt := 604) hx hb dL_law_582 (by decide) (fun c69 => False.elim (absurd (tl.mp c69) (by rw [k_10]; omega))) (fun c69 => ?_)
      refine lv_aload_n hx hb dL_law_585 rfl (lv_at hl 7 rfl) ?_
      refine lv_iload hx hb dL_law_586 (lv_at hl 1 rfl) ?_
      refine lv_bipush (v := nI 8) hx hb dL_law_588 (by decide) ?_
      refine lr_call (τ := σ) (cells2 := cells + 17 * u + 13) (slots2 := slots + 102 * u + 78) C0 hP hD hS hl.1 [.int (nI u), .int (nI 8)] (c_X4_citizen l D cy ax ad ad2 σ (nI u) (nI 8) (inv_okR hI)) (cw_L_law_citizen hts) ((ot_8 hI huC)) rfl rfl (Nat.le_of_ble_eq_true rfl) dL_law_590 ⟨by omega, by omega⟩ (by omega) (by omega) (fun H locs hP hD hS => ?_)
      refine lv_aload_n hx hb dL_law_593 rfl (lv_at hl 7 rfl) ?_
      refine lv_iload hx hb dL_law_594 (lv_at hl 1 rfl) ?_
      refine lv_bipush (v := nI 7) hx hb dL_law_596 (by decide) ?_
      refine lr_call (τ := σ) (cells2 := cells + 17 * u + 15) (slots2 := slots + 102 * u + 90) C0 hP hD hS hl.1 [.int (nI u), .int (nI 7)] (c_X4_citizen l D cy ax ad ad2 σ (nI u) (nI 7) (inv_okR hI)) (cw_L_law_citizen hts) ((ot_7 hI huC)) rfl rfl (Nat.le_of_ble_eq_true rfl) dL_law_598 ⟨by omega, by omega⟩ (by omega) (by omega) (fun H locs hP hD hS => ?_)
      refine lv_icmp_le (tgt := 606) hx hb dL_law_601 (by decide) (fun c70 => ?_) (fun c70 => False.elim (c70 (tle.mpr (by omega))))
      refine lv_iload hx hb dL_law_606 (lv_at hl 2 rfl) ?_
      refine lv_aload_n hx hb dL_law_608 rfl (lv_at hl 7 rfl) ?_
      refine lv_iload hx hb dL_law_609 (lv_at hl 1 rfl) ?_
      refine lv_iconst (v := nI 5) hx hb dL_law_611 (by decide) ?_
      refine lr_call (τ := σ) (cells2 := cells + 17 * u + 17) (slots2 := slots + 102 * u + 102) C0 hP hD hS hl.1 [.int (nI u), .int (nI 5)] (c_X4_citizen l D cy ax ad ad2 σ (nI u) (nI 5) (inv_okR hI)) (cw_L_law_citizen hts) ((ot_5 hI huC)) rfl rfl (Nat.le_of_ble_eq_true rfl) dL_law_612 ⟨by omega, by omega⟩ (by omega) (by omega) (fun H locs hP hD hS => ?_)
      refine lv_iadd hx hb dL_law_615 ?_
      refine lv_topi (fun ts2 ets2 => ?_)
      refine lv_istore (lv' := [(15, .int (ts2)), (17, .int (nI x)), (16, .int (nI u)), (14, .ref (qc)), (13, .ref (qb)), (12, .ref (qa)), (0, .ref (b)), (1, .ref (ax 0)), (2, .int (nI nS)), (3, .int (nI t))]) hx hb dL_law_616 hl (by decide) rfl (fun ls hl => ?_)
      refine lv_iinc (v := nI (u + 1)) (lv' := [(16, .int (nI (u + 1))), (15, .int (ts2)), (17, .int (nI x)), (14, .ref (qc)), (13, .ref (qb)), (12, .ref (qa)), (0, .ref (b)), (1, .ref (ax 0)), (2, .int (nI nS)), (3, .int (nI t))]) hx hb dL_law_618 hl (k := 2) rfl (nI_1 _) (by decide) rfl (fun ls hl => ?_)
      refine lv_goto (tgt := 499) hx hb dL_law_621 (by decide) ?_
      refine W.widen (k := cells + 17 * (u + 1)) (n := slots + 102 * (u + 1)) (by omega) (by omega) ?_
      exact ih (u + 1) ts2 H locs ls (by omega) (by rw [ets2, ti_add (by omega), hts9]; rfl) hP hD hS (lv_sub hl [0, 1, 3, 4, 5, 6, 7, 8, 9] rfl)
