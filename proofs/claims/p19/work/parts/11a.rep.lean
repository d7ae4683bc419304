theorem fr_rain {nS nC : Nat} {σ : Sg} (h : Fr nS nC σ) (j : Nat) (v : Int32) : Fr nS nC (up σ 1 j v) :=
  ⟨fun i a b => by rw [up_row_ne σ j v (show 5 + i ≠ 1 by omega)]; exact h.1 i a b, fun c a b => by rw [up_row_ne σ j v (show 53 + c ≠ 1 by omega)]; exact h.2 c a b⟩
theorem fr_eq {nS nC : Nat} {σ τ : Sg} (h : Fr nS nC σ) (e : ∀ p, (p ≠ 0 ∧ p < 13) ∨ 53 ≤ p → τ p = σ p) : Fr nS nC τ :=
  ⟨fun i a b => by rw [e (5 + i) (by omega)]; exact h.1 i a b, fun c a b => by rw [e (53 + c) (by omega)]; exact h.2 c a b⟩
theorem nI_sub1 {n : Nat} (h : 1 ≤ n) : nI n - nI 1 = nI (n - 1) := by
  obtain ⟨k, rfl⟩ : ∃ k, n = k + 1 := ⟨n - 1, by omega⟩
  exact nI_pred k
theorem wrap9 {a r N : Nat} (ha : a < N) (hr : r + 1 < N) : (a + 1 + r) % N < N ∧ ¬ (a + 1 + r) % N = a := by
  refine ⟨Nat.mod_lt _ (by omega), ?_⟩
  by_cases q : a + 1 + r < N
  · rw [Nat.mod_eq_of_lt q]; omega
  · have e : a + 1 + r = (a + 1 + r - N) + N := by omega
    rw [e, Nat.add_mod_right, Nat.mod_eq_of_lt (by omega)]
    omega
set_option maxHeartbeats 4000000 in
set_option maxRecDepth 100000 in
theorem rB1 {p : Program} {l : Launch} {e : Env} {s : State} {m : MethodId} {args : Array Value} {below : List Frame} {meth : Method} {c : Code} {Q : State → Prop} {A : Nat → Prop} {D : va_G} {cy : Nat → ClassId} {b L : Nat} {xs : Nat → Int32} {ax ad ad2 : Nat → Nat} (C0 : LCC p l s m c args A D cy b L xs cL_republic 8 wsL_republic)  (cells slots : Nat) (hr : cells + 48 ≤ rm_L_republic.cells ∧ slots + 288 ≤ rm_L_republic.slots)
    (K : ∀ (σ : Sg × Sg) (H : Heap) (locs : List Loc) (ls : Array Slot), Inv 0 0 0 0 σ.1 → Fr 0 0 σ.1 → va_P D vwCl (CW cy ax ad ad2 σ ++ ([] : va_W)) H → va_D A (CW cy ax ad ad2 σ ++ ([] : va_W)) → va_S A s.heap H locs → lv_has ls 8 [(1, .ref (ax 0)), (0, .ref (b))] → W p l e rm_L_republic s m args below meth c H locs (cells + 48) (slots + 288) Q (F0 m 72 ls [])) :
    ∀ (n u : Nat) (σ : Sg × Sg) (H : Heap) (locs : List Loc) (ls : Array Slot), u + n = 24 → Inv 0 0 0 0 σ.1 → Fr 0 0 σ.1 → va_P D vwCl (CW cy ax ad ad2 σ ++ ([] : va_W)) H → va_D A (CW cy ax ad ad2 σ ++ ([] : va_W)) → va_S A s.heap H locs → lv_has ls 8 [(2, .int (nI u)), (1, .ref (ax 0)), (0, .ref (b))] → W p l e rm_L_republic s m args below meth c H locs (cells + 2 * u) (slots + 12 * u) Q (F0 m 10 ls []) := by
  have C9 := C0
  obtain ⟨hx, hb, hml, hown, hts, hK, hXX, hA, hst, htx, hl0⟩ := C9
  intro n
  induction n with
  | zero =>
    intro u σ H locs ls hu hI hF hP hD hS hl
    refine lv_iload_n hx hb dL_republic_10 rfl (lv_at hl 0 rfl) ?_
    refine lv_bipush (v := nI 24) hx hb dL_republic_11 (by decide) ?_
    refine lv_icmp_ge (tgt := 72) hx hb dL_republic_13 (by decide) (fun c93 => ?_) (fun c93 => False.elim (c93 ((nI_leI (by decide) (by omega)).mpr (by omega))))
    refine W.widen (k := cells + 48) (n := slots + 288) (by omega) (by omega) ?_
    exact K σ H locs ls hI hF hP hD hS (lv_sub hl [1, 2] rfl)
  | succ n ih =>
    intro u σ H locs ls hu hI hF hP hD hS hl
    refine lv_iload_n hx hb dL_republic_10 rfl (lv_at hl 0 rfl) ?_
    refine lv_bipush (v := nI 24) hx hb dL_republic_11 (by decide) ?_
    refine lv_icmp_ge (tgt := 72) hx hb dL_republic_13 (by decide) (fun c94 => False.elim (absurd ((nI_leI (by decide) (by omega)).mp c94) (by omega))) (fun c94 => ?_)
    refine lv_aload_n hx hb dL_republic_16 rfl (lv_at hl 1 rfl) ?_
    refine lv_iload_n hx hb dL_republic_17 rfl (lv_at hl 0 rfl) ?_
    refine lv_aload_n hx hb dL_republic_18 rfl (lv_at hl 2 rfl) ?_
    refine lv_iload_n hx hb dL_republic_19 rfl (lv_at hl 0 rfl) ?_
    refine lv_iconst (v := nI 3) hx hb dL_republic_20 (by decide) ?_
    refine lv_irem hx hb dL_republic_21 (by decide) ?_
    refine g_top (y := nI (u % 3)) (nI_rem2 u 3 (by omega) (by decide) (by decide)) ?_
    refine lr_cell C0 hP hD hS hl.1 (cwc_L_republic hts) (by rw [ti_n (by omega)]; omega) (Nat.le_of_ble_eq_true rfl) dL_republic_22 ⟨by omega, by omega⟩ (fun x0 H locs hP hD hS => ?_)
    refine lv_iload_n hx hb dL_republic_25 rfl (lv_at hl 0 rfl) ?_
    refine lv_iconst (v := nI 3) hx hb dL_republic_26 (by decide) ?_
    refine lv_idiv hx hb dL_republic_27 (by decide) ?_
    refine lv_iconst (v := nI 3) hx hb dL_republic_28 (by decide) ?_
    refine lv_imul hx hb dL_republic_29 ?_
    refine lv_ishr hx hb dL_republic_30 ?_
    refine lv_topi (fun y0 ey0 => ?_)
    refine lv_iconst (v := nI 3) hx hb dL_republic_31 (by decide) ?_
    refine lr_below C0 hP hD hS hl.1 (cwb_L_republic hts) (by rw [ti_n (by decide)]; omega) (Nat.le_of_ble_eq_true rfl) dL_republic_32 ⟨by omega, by omega⟩ (fun r0 r0a r0b H locs hP hD hS => ?_)
    rw [ti_n (by decide)] at r0b
    refine lv_if_ne (tgt := 42) hx hb dL_republic_35 (by decide) (fun c95 => ?_) (fun c95 => ?_)
    · refine lv_aload_n hx hb dL_republic_42 rfl (lv_at hl 2 rfl) ?_
      refine lv_iconst (v := nI 3) hx hb dL_republic_43 (by decide) ?_
      refine lv_iload_n hx hb dL_republic_44 rfl (lv_at hl 0 rfl) ?_
      refine lv_iconst (v := nI 3) hx hb dL_republic_45 (by decide) ?_
      refine lv_irem hx hb dL_republic_46 (by decide) ?_
      refine g_top (y := nI (u % 3)) (nI_rem2 u 3 (by omega) (by decide) (by decide)) ?_
      refine lv_iadd hx hb dL_republic_47 ?_
      refine g_top (y := nI (3 + u % 3)) (nI_add 3 (u % 3)) ?_
      refine lr_cell C0 hP hD hS hl.1 (cwc_L_republic hts) (by rw [ti_n (by omega)]; omega) (Nat.le_of_ble_eq_true rfl) dL_republic_48 ⟨by omega, by omega⟩ (fun x1 H locs hP hD hS => ?_)
      refine lv_iload_n hx hb dL_republic_51 rfl (lv_at hl 0 rfl) ?_
      refine lv_iconst (v := nI 3) hx hb dL_republic_52 (by decide) ?_
      refine lv_idiv hx hb dL_republic_53 (by decide) ?_
      refine lv_iconst (v := nI 3) hx hb dL_republic_54 (by decide) ?_
      refine lv_imul hx hb dL_republic_55 ?_
      refine lv_ishr hx hb dL_republic_56 ?_
      refine lv_topi (fun y1 ey1 => ?_)
      refine lv_bipush (v := nI 10) hx hb dL_republic_57 (by decide) ?_
      refine lr_below C0 hP hD hS hl.1 (cwb_L_republic hts) (by rw [ti_n (by decide)]; omega) (Nat.le_of_ble_eq_true rfl) dL_republic_59 ⟨by omega, by omega⟩ (fun r1 r1a r1b H locs hP hD hS => ?_)
      rw [ti_n (by decide)] at r1b
      refine lr_call (τ := (up σ.1 1 (tn (nI u)) r1, σ.2)) (cells2 := cells + 2 * u + 2) (slots2 := slots + 12 * u + 12) C0 hP hD hS hl.1 [.int (nI u), .int (r1)] (c_X4_setRain l D cy ax ad ad2 σ (nI u) r1 (inv_okR hI)) (cw_L_republic_setRain hts) ((op_rain (σ := σ) (x := nI u) (y := r1) (by rw [ti_n (by omega)]; omega) (by omega))) rfl rfl (Nat.le_of_ble_eq_true rfl) dL_republic_62 ⟨by omega, by omega⟩ (by omega) (by omega) (fun H locs hP hD hS => ?_)
      refine lv_pop hx hb dL_republic_65 rfl ?_
      refine lv_iinc (v := nI (u + 1)) (lv' := [(2, .int (nI (u + 1))), (1, .ref (ax 0)), (0, .ref (b))]) hx hb dL_republic_66 hl (k := 0) rfl (nI_1 _) (by decide) rfl (fun ls hl => ?_)
      refine lv_goto (tgt := 10) hx hb dL_republic_69 (by decide) ?_
      exact ih (u + 1) (up σ.1 1 (tn (nI u)) r1, σ.2) H locs ls (by omega) (inv_setR hI (tn (nI u)) (by omega)) (fr_rain hF _ _) hP hD hS (lv_sub hl [0, 1, 2] rfl)
    · refine lv_iconst (v := nI 0) hx hb dL_republic_38 (by decide) ?_
      refine lv_goto (tgt := 62) hx hb dL_republic_39 (by decide) ?_
      refine lr_call (τ := (up σ.1 1 (tn (nI u)) (nI 0), σ.2)) (cells2 := cells + 2 * u + 2) (slots2 := slots + 12 * u + 12) C0 hP hD hS hl.1 [.int (nI u), .int (nI 0)] (c_X4_setRain l D cy ax ad ad2 σ (nI u) (nI 0) (inv_okR hI)) (cw_L_republic_setRain hts) ((op_rain (σ := σ) (x := nI u) (y := nI 0) (by rw [ti_n (by omega)]; omega) (by rw [k_0]; omega))) rfl rfl (Nat.le_of_ble_eq_true rfl) dL_republic_62 ⟨by omega, by omega⟩ (by omega) (by omega) (fun H locs hP hD hS => ?_)
      refine lv_pop hx hb dL_republic_65 rfl ?_
      refine lv_iinc (v := nI (u + 1)) (lv' := [(2, .int (nI (u + 1))), (1, .ref (ax 0)), (0, .ref (b))]) hx hb dL_republic_66 hl (k := 0) rfl (nI_1 _) (by decide) rfl (fun ls hl => ?_)
      refine lv_goto (tgt := 10) hx hb dL_republic_69 (by decide) ?_
      exact ih (u + 1) (up σ.1 1 (tn (nI u)) (nI 0), σ.2) H locs ls (by omega) (inv_setR hI (tn (nI u)) (by rw [k_0]; omega)) (fr_rain hF _ _) hP hD hS (lv_sub hl [0, 1, 2] rfl)
set_option maxHeartbeats 4000000 in
set_option maxRecDepth 100000 in
theorem rB2 {p : Program} {l : Launch} {e : Env} {s : State} {m : MethodId} {args : Array Value} {below : List Frame} {meth : Method} {c : Code} {Q : State → Prop} {A : Nat → Prop} {D : va_G} {cy : Nat → ClassId} {b L : Nat} {xs : Nat → Int32} {ax ad ad2 : Nat → Nat} (C0 : LCC p l s m c args A D cy b L xs cL_republic 8 wsL_republic) {N : Nat} (hN : N ≤ 7) (cells slots : Nat) (hr : cells + 8 ≤ rm_L_republic.cells ∧ slots + 48 ≤ rm_L_republic.slots)
    (K : ∀ (σ : Sg × Sg) (H : Heap) (locs : List Loc) (ls : Array Slot), Inv 0 N 0 0 σ.1 → Fr N 0 σ.1 → va_P D vwCl (CW cy ax ad ad2 σ ++ ([] : va_W)) H → va_D A (CW cy ax ad ad2 σ ++ ([] : va_W)) → va_S A s.heap H locs → lv_has ls 8 [(2, .int (nI N)), (1, .ref (ax 0)), (0, .ref (b))] → W p l e rm_L_republic s m args below meth c H locs (cells + 8) (slots + 48) Q (F0 m 139 ls [])) :
    ∀ (n u : Nat) (σ : Sg × Sg) (H : Heap) (locs : List Loc) (ls : Array Slot), u + n = N → Inv 0 u 0 0 σ.1 → Fr u 0 σ.1 → (∀ i, i < u → (σ.1 (5 + i) 0).toInt < 12 * ((u : Nat) : Int)) → va_P D vwCl (CW cy ax ad ad2 σ ++ ([] : va_W)) H → va_D A (CW cy ax ad ad2 σ ++ ([] : va_W)) → va_S A s.heap H locs → lv_has ls 8 [(3, .int (nI u)), (2, .int (nI N)), (1, .ref (ax 0)), (0, .ref (b))] → W p l e rm_L_republic s m args below meth c H locs (cells + 1 * u) (slots + 6 * u) Q (F0 m 88 ls []) := by
  have C9 := C0
  obtain ⟨hx, hb, hml, hown, hts, hK, hXX, hA, hst, htx, hl0⟩ := C9
  intro n
  induction n with
  | zero =>
    intro u σ H locs ls hu hI hF hpl hP hD hS hl
    refine lv_iload_n hx hb dL_republic_88 rfl (lv_at hl 0 rfl) ?_
    refine lv_iload_n hx hb dL_republic_89 rfl (lv_at hl 1 rfl) ?_
    refine lv_icmp_ge (tgt := 139) hx hb dL_republic_90 (by decide) (fun c96 => ?_) (fun c96 => False.elim (c96 ((nI_leI (by omega) (by omega)).mpr (by omega))))
    refine W.widen (k := cells + 8) (n := slots + 48) (by omega) (by omega) ?_
    have e : u = N := by omega
    subst e
    exact K σ H locs ls hI hF hP hD hS (lv_sub hl [1, 2, 3] rfl)
  | succ n ih =>
    intro u σ H locs ls hu hI hF hpl hP hD hS hl
    refine lv_iload_n hx hb dL_republic_88 rfl (lv_at hl 0 rfl) ?_
    refine lv_iload_n hx hb dL_republic_89 rfl (lv_at hl 1 rfl) ?_
    refine lv_icmp_ge (tgt := 139) hx hb dL_republic_90 (by decide) (fun c97 => False.elim (absurd ((nI_leI (by omega) (by omega)).mp c97) (by omega))) (fun c97 => ?_)
    refine lv_aload_n hx hb dL_republic_93 rfl (lv_at hl 2 rfl) ?_
    refine lv_bipush (v := nI 12) hx hb dL_republic_94 (by decide) ?_
    refine lv_iload_n hx hb dL_republic_96 rfl (lv_at hl 0 rfl) ?_
    refine lv_imul hx hb dL_republic_97 ?_
    refine lv_topi (fun w0 ew0 => ?_)
    refine lv_aload_n hx hb dL_republic_98 rfl (lv_at hl 3 rfl) ?_
    refine lv_bipush (v := nI 6) hx hb dL_republic_99 (by decide) ?_
    refine lr_cell C0 hP hD hS hl.1 (cwc_L_republic hts) (by rw [ti_n (by decide)]; omega) (Nat.le_of_ble_eq_true rfl) dL_republic_101 ⟨by omega, by omega⟩ (fun x0 H locs hP hD hS => ?_)
    refine lv_iconst (v := nI 2) hx hb dL_republic_104 (by decide) ?_
    refine lv_iload_n hx hb dL_republic_105 rfl (lv_at hl 0 rfl) ?_
    refine lv_imul hx hb dL_republic_106 ?_
    refine lv_ishr hx hb dL_republic_107 ?_
    refine lv_topi (fun y0 ey0 => ?_)
    refine lv_bipush (v := nI 12) hx hb dL_republic_108 (by decide) ?_
    refine lr_below C0 hP hD hS hl.1 (cwb_L_republic hts) (by rw [ti_n (by decide)]; omega) (Nat.le_of_ble_eq_true rfl) dL_republic_110 ⟨by omega, by omega⟩ (fun r0 r0a r0b H locs hP hD hS => ?_)
    rw [ti_n (by decide)] at r0b
    refine lv_iadd hx hb dL_republic_113 ?_
    refine lv_topi (fun px epx => ?_)
    refine lv_aload_n hx hb dL_republic_114 rfl (lv_at hl 3 rfl) ?_
    refine lv_bipush (v := nI 7) hx hb dL_republic_115 (by decide) ?_
    refine lr_cell C0 hP hD hS hl.1 (cwc_L_republic hts) (by rw [ti_n (by decide)]; omega) (Nat.le_of_ble_eq_true rfl) dL_republic_117 ⟨by omega, by omega⟩ (fun x1 H locs hP hD hS => ?_)
    refine lv_iconst (v := nI 3) hx hb dL_republic_120 (by decide) ?_
    refine lv_iload_n hx hb dL_republic_121 rfl (lv_at hl 0 rfl) ?_
    refine lv_imul hx hb dL_republic_122 ?_
    refine lv_ishr hx hb dL_republic_123 ?_
    refine lv_topi (fun y1 ey1 => ?_)
    refine lv_bipush (v := nI 9) hx hb dL_republic_124 (by decide) ?_
    refine lr_below C0 hP hD hS hl.1 (cwb_L_republic hts) (by rw [ti_n (by decide)]; omega) (Nat.le_of_ble_eq_true rfl) dL_republic_126 ⟨by omega, by omega⟩ (fun r1 r1a r1b H locs hP hD hS => ?_)
    rw [ti_n (by decide)] at r1b
    have k12 : (nI 12).toInt = 12 := ti_n (by decide)
    have ku : (nI u).toInt = (u : Int) := ti_n (by omega)
    have ew : w0.toInt = 12 * (u : Int) := by rw [ew0, Int32.toInt_mul, k12, ku, Int.bmod_eq_of_le_mul_two (by omega) (by omega)]
    have epx2 : px.toInt = 12 * (u : Int) + r0.toInt := by rw [epx, ti_add (by omega), ew]
    obtain ⟨rv, τ, eB, hI2, hF2, hpl2⟩ := op_build hI hF (by omega) hpl (x := px) (y := r1) (by omega) (by omega)
    refine lr_call (τ := τ) (cells2 := cells + 1 * u + 1) (slots2 := slots + 6 * u + 6) C0 hP hD hS hl.1 [.int (px), .int (r1)] (c_X4_build l D cy ax ad ad2 σ px r1 (inv_okR hI)) (cw_L_republic_build hts) eB rfl rfl (Nat.le_of_ble_eq_true rfl) dL_republic_129 ⟨by omega, by omega⟩ (by omega) (by omega) (fun H locs hP hD hS => ?_)
    refine lv_pop hx hb dL_republic_132 rfl ?_
    refine lv_iinc (v := nI (u + 1)) (lv' := [(3, .int (nI (u + 1))), (2, .int (nI N)), (1, .ref (ax 0)), (0, .ref (b))]) hx hb dL_republic_133 hl (k := 0) rfl (nI_1 _) (by decide) rfl (fun ls hl => ?_)
    refine lv_goto (tgt := 88) hx hb dL_republic_136 (by decide) ?_
    exact ih (u + 1) τ H locs ls (by omega) hI2 hF2 hpl2 hP hD hS (lv_sub hl [0, 1, 2, 3] rfl)
set_option maxHeartbeats 4000000 in
set_option maxRecDepth 100000 in
theorem rB3 {p : Program} {l : Launch} {e : Env} {s : State} {m : MethodId} {args : Array Value} {below : List Frame} {meth : Method} {c : Code} {Q : State → Prop} {A : Nat → Prop} {D : va_G} {cy : Nat → ClassId} {b L : Nat} {xs : Nat → Int32} {ax ad ad2 : Nat → Nat} (C0 : LCC p l s m c args A D cy b L xs cL_republic 8 wsL_republic) {N : Nat} (hN : N ≤ 7) (cells slots : Nat) (hr : cells + 14 ≤ rm_L_republic.cells ∧ slots + 84 ≤ rm_L_republic.slots)
    (K : ∀ (σ : Sg × Sg) (nU : Nat) (H : Heap) (locs : List Loc) (ls : Array Slot), Inv 0 N nU 0 σ.1 → Fr N 0 σ.1 → va_P D vwCl (CW cy ax ad ad2 σ ++ ([] : va_W)) H → va_D A (CW cy ax ad ad2 σ ++ ([] : va_W)) → va_S A s.heap H locs → lv_has ls 8 [(2, .int (nI N)), (1, .ref (ax 0)), (0, .ref (b))] → W p l e rm_L_republic s m args below meth c H locs (cells + 14) (slots + 84) Q (F0 m 191 ls [])) :
    ∀ (n u : Nat) (σ : Sg × Sg) (nU : Nat) (H : Heap) (locs : List Loc) (ls : Array Slot), u + n = N → nU ≤ 5 * u → Inv 0 N nU 0 σ.1 → Fr N 0 σ.1 → va_P D vwCl (CW cy ax ad ad2 σ ++ ([] : va_W)) H → va_D A (CW cy ax ad ad2 σ ++ ([] : va_W)) → va_S A s.heap H locs → lv_has ls 8 [(3, .int (nI u)), (2, .int (nI N)), (1, .ref (ax 0)), (0, .ref (b))] → W p l e rm_L_republic s m args below meth c H locs (cells + 2 * u) (slots + 12 * u) Q (F0 m 141 ls []) := by
  have C9 := C0
  obtain ⟨hx, hb, hml, hown, hts, hK, hXX, hA, hst, htx, hl0⟩ := C9
  intro n
  induction n with
  | zero =>
    intro u σ nU H locs ls hu h5 hI hF hP hD hS hl
    refine lv_iload_n hx hb dL_republic_141 rfl (lv_at hl 0 rfl) ?_
    refine lv_iload_n hx hb dL_republic_142 rfl (lv_at hl 1 rfl) ?_
    refine lv_icmp_ge (tgt := 191) hx hb dL_republic_143 (by decide) (fun c98 => ?_) (fun c98 => False.elim (c98 ((nI_leI (by omega) (by omega)).mpr (by omega))))
    refine W.widen (k := cells + 14) (n := slots + 84) (by omega) (by omega) ?_
    exact K σ nU H locs ls hI hF hP hD hS (lv_sub hl [1, 2, 3] rfl)
  | succ n ih =>
    intro u σ nU H locs ls hu h5 hI hF hP hD hS hl
    refine lv_iload_n hx hb dL_republic_141 rfl (lv_at hl 0 rfl) ?_
    refine lv_iload_n hx hb dL_republic_142 rfl (lv_at hl 1 rfl) ?_
    refine lv_icmp_ge (tgt := 191) hx hb dL_republic_143 (by decide) (fun c99 => False.elim (absurd ((nI_leI (by omega) (by omega)).mp c99) (by omega))) (fun c99 => ?_)
    refine lv_aload_n hx hb dL_republic_146 rfl (lv_at hl 3 rfl) ?_
    refine lv_bipush (v := nI 8) hx hb dL_republic_147 (by decide) ?_
    refine lr_cell C0 hP hD hS hl.1 (cwc_L_republic hts) (by rw [ti_n (by decide)]; omega) (Nat.le_of_ble_eq_true rfl) dL_republic_149 ⟨by omega, by omega⟩ (fun x0 H locs hP hD hS => ?_)
    refine lv_iconst (v := nI 2) hx hb dL_republic_152 (by decide) ?_
    refine lv_iload_n hx hb dL_republic_153 rfl (lv_at hl 0 rfl) ?_
    refine lv_imul hx hb dL_republic_154 ?_
    refine lv_ishr hx hb dL_republic_155 ?_
    refine lv_topi (fun y0 ey0 => ?_)
    refine lv_iconst (v := nI 3) hx hb dL_republic_156 (by decide) ?_
    refine lr_below C0 hP hD hS hl.1 (cwb_L_republic hts) (by rw [ti_n (by decide)]; omega) (Nat.le_of_ble_eq_true rfl) dL_republic_157 ⟨by omega, by omega⟩ (fun r0 r0a r0b H locs hP hD hS => ?_)
    rw [ti_n (by decide)] at r0b
    refine lv_if_le (tgt := 185) hx hb dL_republic_160 (by decide) (fun c100 => ?_) (fun c100 => ?_)
    · refine lv_iinc (v := nI (u + 1)) (lv' := [(3, .int (nI (u + 1))), (2, .int (nI N)), (1, .ref (ax 0)), (0, .ref (b))]) hx hb dL_republic_185 hl (k := 0) rfl (nI_1 _) (by decide) rfl (fun ls hl => ?_)
      refine lv_goto (tgt := 141) hx hb dL_republic_188 (by decide) ?_
      refine W.widen (k := cells + 2 * (u + 1)) (n := slots + 12 * (u + 1)) (by omega) (by omega) ?_
      exact ih (u + 1) σ nU H locs ls (by omega) (by omega) hI hF hP hD hS (lv_sub hl [0, 1, 2, 3] rfl)
    · refine lv_aload_n hx hb dL_republic_163 rfl (lv_at hl 2 rfl) ?_
      refine lv_iload_n hx hb dL_republic_164 rfl (lv_at hl 0 rfl) ?_
      refine lv_iconst (v := nI 1) hx hb dL_republic_165 (by decide) ?_
      refine lv_aload_n hx hb dL_republic_166 rfl (lv_at hl 3 rfl) ?_
      refine lv_bipush (v := nI 8) hx hb dL_republic_167 (by decide) ?_
      refine lr_cell C0 hP hD hS hl.1 (cwc_L_republic hts) (by rw [ti_n (by decide)]; omega) (Nat.le_of_ble_eq_true rfl) dL_republic_169 ⟨by omega, by omega⟩ (fun x1 H locs hP hD hS => ?_)
      refine lv_iconst (v := nI 3) hx hb dL_republic_172 (by decide) ?_
      refine lv_iload_n hx hb dL_republic_173 rfl (lv_at hl 0 rfl) ?_
      refine lv_imul hx hb dL_republic_174 ?_
      refine lv_ishr hx hb dL_republic_175 ?_
      refine lv_topi (fun y1 ey1 => ?_)
      refine lv_iconst (v := nI 5) hx hb dL_republic_176 (by decide) ?_
      refine lr_below C0 hP hD hS hl.1 (cwb_L_republic hts) (by rw [ti_n (by decide)]; omega) (Nat.le_of_ble_eq_true rfl) dL_republic_177 ⟨by omega, by omega⟩ (fun r1 r1a r1b H locs hP hD hS => ?_)
      rw [ti_n (by decide)] at r1b
      refine lv_iadd hx hb dL_republic_180 ?_
      refine lv_topi (fun yy eyy => ?_)
      have hy : 1 ≤ yy.toInt ∧ yy.toInt ≤ 5 := by rw [eyy, ti_add (by rw [k_1]; omega), k_1]; omega
      have ety := ti_tn (x := yy) (by omega)
      obtain ⟨rv, τ, eB, hI2, hrow⟩ := op_bring hI (x := nI u) (y := yy) (by rw [ti_n (by omega)]; omega) (by omega) (by omega)
      refine lr_call (τ := τ) (cells2 := cells + 2 * u + 2) (slots2 := slots + 12 * u + 12) C0 hP hD hS hl.1 [.int (nI u), .int (yy)] (c_X4_bring l D cy ax ad ad2 σ (nI u) yy (inv_okR hI)) (cw_L_republic_bring hts) eB rfl rfl (Nat.le_of_ble_eq_true rfl) dL_republic_181 ⟨by omega, by omega⟩ (by omega) (by omega) (fun H locs hP hD hS => ?_)
      refine lv_pop hx hb dL_republic_184 rfl ?_
      refine lv_iinc (v := nI (u + 1)) (lv' := [(3, .int (nI (u + 1))), (2, .int (nI N)), (1, .ref (ax 0)), (0, .ref (b))]) hx hb dL_republic_185 hl (k := 0) rfl (nI_1 _) (by decide) rfl (fun ls hl => ?_)
      refine lv_goto (tgt := 141) hx hb dL_republic_188 (by decide) ?_
      refine W.widen (k := cells + 2 * (u + 1)) (n := slots + 12 * (u + 1)) (by omega) (by omega) ?_
      exact ih (u + 1) τ (nU + tn yy) H locs ls (by omega) (by omega) hI2 (fr_eq hF hrow) hP hD hS (lv_sub hl [0, 1, 2, 3] rfl)
set_option maxHeartbeats 4000000 in
set_option maxRecDepth 100000 in
theorem rB4 {p : Program} {l : Launch} {e : Env} {s : State} {m : MethodId} {args : Array Value} {below : List Frame} {meth : Method} {c : Code} {Q : State → Prop} {A : Nat → Prop} {D : va_G} {cy : Nat → ClassId} {b L : Nat} {xs : Nat → Int32} {ax ad ad2 : Nat → Nat} (C0 : LCC p l s m c args A D cy b L xs cL_republic 8 wsL_republic) {N M nU : Nat} (h2 : 2 ≤ N) (hN : N ≤ 7) (hM : M ≤ 10) (cells slots : Nat) (hr : cells + 30 ≤ rm_L_republic.cells ∧ slots + 180 ≤ rm_L_republic.slots)
    (K : ∀ (σ : Sg × Sg) (H : Heap) (locs : List Loc) (ls : Array Slot), Inv 0 N nU M σ.1 → va_P D vwCl (CW cy ax ad ad2 σ ++ ([] : va_W)) H → va_D A (CW cy ax ad ad2 σ ++ ([] : va_W)) → va_S A s.heap H locs → lv_has ls 8 [(1, .ref (ax 0)), (0, .ref (b))] → W p l e rm_L_republic s m args below meth c H locs (cells + 30) (slots + 180) Q (F0 m 316 ls [])) :
    ∀ (n u : Nat) (σ : Sg × Sg) (H : Heap) (locs : List Loc) (ls : Array Slot), u + n = M → Inv 0 N nU u σ.1 → Fr N u σ.1 → va_P D vwCl (CW cy ax ad ad2 σ ++ ([] : va_W)) H → va_D A (CW cy ax ad ad2 σ ++ ([] : va_W)) → va_S A s.heap H locs → lv_has ls 8 [(4, .int (nI u)), (3, .int (nI M)), (2, .int (nI N)), (1, .ref (ax 0)), (0, .ref (b))] → W p l e rm_L_republic s m args below meth c H locs (cells + 3 * u) (slots + 18 * u) Q (F0 m 208 ls []) := by
  have C9 := C0
  obtain ⟨hx, hb, hml, hown, hts, hK, hXX, hA, hst, htx, hl0⟩ := C9
  intro n
  induction n with
  | zero =>
    intro u σ H locs ls hu hI hF hP hD hS hl
    refine lv_iload hx hb dL_republic_208 (lv_at hl 0 rfl) ?_
    refine lv_iload_n hx hb dL_republic_210 rfl (lv_at hl 1 rfl) ?_
    refine lv_icmp_ge (tgt := 316) hx hb dL_republic_211 (by decide) (fun c101 => ?_) (fun c101 => False.elim (c101 ((nI_leI (by omega) (by omega)).mpr (by omega))))
    refine W.widen (k := cells + 30) (n := slots + 180) (by omega) (by omega) ?_
    have e : u = M := by omega
    subst e
    exact K σ H locs ls hI hP hD hS (lv_sub hl [3, 4] rfl)
  | succ n ih =>
    intro u σ H locs ls hu hI hF hP hD hS hl
    refine lv_iload hx hb dL_republic_208 (lv_at hl 0 rfl) ?_
    refine lv_iload_n hx hb dL_republic_210 rfl (lv_at hl 1 rfl) ?_
    refine lv_icmp_ge (tgt := 316) hx hb dL_republic_211 (by decide) (fun c102 => False.elim (absurd ((nI_leI (by omega) (by omega)).mp c102) (by omega))) (fun c102 => ?_)
    refine lv_aload_n hx hb dL_republic_214 rfl (lv_at hl 4 rfl) ?_
    refine lv_bipush (v := nI 10) hx hb dL_republic_215 (by decide) ?_
    refine lv_iload hx hb dL_republic_217 (lv_at hl 0 rfl) ?_
    refine lv_iconst (v := nI 5) hx hb dL_republic_219 (by decide) ?_
    refine lv_irem hx hb dL_republic_220 (by decide) ?_
    refine g_top (y := nI (u % 5)) (nI_rem2 u 5 (by omega) (by decide) (by decide)) ?_
    refine lv_iadd hx hb dL_republic_221 ?_
    refine g_top (y := nI (10 + u % 5)) (nI_add 10 (u % 5)) ?_
    refine lr_cell C0 hP hD hS hl.1 (cwc_L_republic hts) (by rw [ti_n (by omega)]; omega) (Nat.le_of_ble_eq_true rfl) dL_republic_222 ⟨by omega, by omega⟩ (fun x0 H locs hP hD hS => ?_)
    refine lv_iload hx hb dL_republic_225 (lv_at hl 0 rfl) ?_
    refine lv_iconst (v := nI 5) hx hb dL_republic_227 (by decide) ?_
    refine lv_idiv hx hb dL_republic_228 (by decide) ?_
    refine lv_bipush (v := nI 9) hx hb dL_republic_229 (by decide) ?_
    refine lv_imul hx hb dL_republic_231 ?_
    refine lv_ishr hx hb dL_republic_232 ?_
    refine lv_topi (fun x ex => ?_)
    refine lv_istore (lv' := [(5, .int (x)), (4, .int (nI u)), (3, .int (nI M)), (2, .int (nI N)), (1, .ref (ax 0)), (0, .ref (b))]) hx hb dL_republic_233 hl (by decide) rfl (fun ls hl => ?_)
    refine lv_iload hx hb dL_republic_235 (lv_at hl 0 rfl) ?_
    refine lv_iload_n hx hb dL_republic_237 rfl (lv_at hl 3 rfl) ?_
    refine lr_below C0 hP hD hS hl.1 (cwb_L_republic hts) (by rw [ti_n (by omega)]; omega) (Nat.le_of_ble_eq_true rfl) dL_republic_238 ⟨by omega, by omega⟩ (fun r1 r1a r1b H locs hP hD hS => ?_)
    rw [ti_n (by omega)] at r1b
    obtain ⟨hm, hhm, ehm, -⟩ := of_rng (n := N) r1a r1b
    refine g_top (y := nI hm) ehm ?_
    refine lv_istore (lv' := [(6, .int (nI hm)), (5, .int (x)), (4, .int (nI u)), (3, .int (nI M)), (2, .int (nI N)), (1, .ref (ax 0)), (0, .ref (b))]) hx hb dL_republic_241 hl (by decide) rfl (fun ls hl => ?_)
    refine lv_iload hx hb dL_republic_243 (lv_at hl 1 rfl) ?_
    refine lv_iconst (v := nI 5) hx hb dL_republic_245 (by decide) ?_
    refine lv_ishr hx hb dL_republic_246 ?_
    refine lv_topi (fun y1 ey1 => ?_)
    refine lv_bipush (v := nI 24) hx hb dL_republic_247 (by decide) ?_
    refine lr_below C0 hP hD hS hl.1 (cwb_L_republic hts) (by rw [ti_n (by decide)]; omega) (Nat.le_of_ble_eq_true rfl) dL_republic_249 ⟨by omega, by omega⟩ (fun r2 r2a r2b H locs hP hD hS => ?_)
    rw [ti_n (by decide)] at r2b
    obtain ⟨lv9, hlv, elv, -⟩ := of_rng (n := 24) r2a r2b
    refine g_top (y := nI lv9) elv ?_
    refine lv_istore (lv' := [(7, .int (nI lv9)), (6, .int (nI hm)), (5, .int (x)), (4, .int (nI u)), (3, .int (nI M)), (2, .int (nI N)), (1, .ref (ax 0)), (0, .ref (b))]) hx hb dL_republic_252 hl (by decide) rfl (fun ls hl => ?_)
    refine lv_aload_n hx hb dL_republic_254 rfl (lv_at hl 6 rfl) ?_
    refine lv_iload hx hb dL_republic_255 (lv_at hl 1 rfl) ?_
    refine lv_iload hx hb dL_republic_257 (lv_at hl 1 rfl) ?_
    refine lv_iconst (v := nI 1) hx hb dL_republic_259 (by decide) ?_
    refine lv_iadd hx hb dL_republic_260 ?_
    refine g_top (y := nI (hm + 1)) (nI_add hm 1) ?_
    refine lv_iload hx hb dL_republic_261 (lv_at hl 2 rfl) ?_
    refine lv_iconst (v := nI 3) hx hb dL_republic_263 (by decide) ?_
    refine lv_ishr hx hb dL_republic_264 ?_
    refine lv_topi (fun y2 ey2 => ?_)
    refine lv_iload_n hx hb dL_republic_265 rfl (lv_at hl 5 rfl) ?_
    refine lv_iconst (v := nI 1) hx hb dL_republic_266 (by decide) ?_
    refine lv_isub hx hb dL_republic_267 ?_
    refine g_top (y := nI (N - 1)) (nI_sub1 (by omega)) ?_
    refine lr_below C0 hP hD hS hl.1 (cwb_L_republic hts) (by rw [ti_n (by omega)]; omega) (Nat.le_of_ble_eq_true rfl) dL_republic_268 ⟨by omega, by omega⟩ (fun r3 r3a r3b H locs hP hD hS => ?_)
    rw [ti_n (by omega)] at r3b
    obtain ⟨d3, hd3, ed3, -⟩ := of_rng (n := N - 1) r3a r3b
    refine g_top (y := nI d3) ed3 ?_
    refine lv_iadd hx hb dL_republic_271 ?_
    refine g_top (y := nI (hm + 1 + d3)) (nI_add (hm + 1) d3) ?_
    refine lv_iload_n hx hb dL_republic_272 rfl (lv_at hl 5 rfl) ?_
    refine lv_irem hx hb dL_republic_273 (nI_ne0 (by omega) (by omega)) ?_
    refine g_top (y := nI ((hm + 1 + d3) % N)) (nI_rem2 _ N (by omega) (by omega) (by omega)) ?_
    refine lv_iload hx hb dL_republic_274 (lv_at hl 0 rfl) ?_
    refine lv_iload hx hb dL_republic_276 (lv_at hl 0 rfl) ?_
    refine lv_iconst (v := nI 1) hx hb dL_republic_278 (by decide) ?_
    refine lv_iadd hx hb dL_republic_279 ?_
    refine g_top (y := nI (lv9 + 1)) (nI_add lv9 1) ?_
    refine lv_iload hx hb dL_republic_280 (lv_at hl 2 rfl) ?_
    refine lv_bipush (v := nI 8) hx hb dL_republic_282 (by decide) ?_
    refine lv_ishr hx hb dL_republic_284 ?_
    refine lv_topi (fun y3 ey3 => ?_)
    refine lv_bipush (v := nI 23) hx hb dL_republic_285 (by decide) ?_
    refine lr_below C0 hP hD hS hl.1 (cwb_L_republic hts) (by rw [ti_n (by decide)]; omega) (Nat.le_of_ble_eq_true rfl) dL_republic_287 ⟨by omega, by omega⟩ (fun r4 r4a r4b H locs hP hD hS => ?_)
    rw [ti_n (by decide)] at r4b
    obtain ⟨d4, hd4, ed4, -⟩ := of_rng (n := 23) r4a r4b
    refine g_top (y := nI d4) ed4 ?_
    refine lv_iadd hx hb dL_republic_290 ?_
    refine g_top (y := nI (lv9 + 1 + d4)) (nI_add (lv9 + 1) d4) ?_
    refine lv_bipush (v := nI 24) hx hb dL_republic_291 (by decide) ?_
    refine lv_irem hx hb dL_republic_293 (by decide) ?_
    refine g_top (y := nI ((lv9 + 1 + d4) % 24)) (nI_rem2 _ 24 (by omega) (by decide) (by decide)) ?_
    refine lv_iconst (v := nI 1) hx hb dL_republic_294 (by decide) ?_
    refine lv_iload hx hb dL_republic_295 (lv_at hl 2 rfl) ?_
    refine lv_bipush (v := nI 6) hx hb dL_republic_297 (by decide) ?_
    refine lv_ishr hx hb dL_republic_299 ?_
    refine lv_topi (fun y4 ey4 => ?_)
    refine lv_bipush (v := nI 9) hx hb dL_republic_300 (by decide) ?_
    refine lr_below C0 hP hD hS hl.1 (cwb_L_republic hts) (by rw [ti_n (by decide)]; omega) (Nat.le_of_ble_eq_true rfl) dL_republic_302 ⟨by omega, by omega⟩ (fun r5 r5a r5b H locs hP hD hS => ?_)
    rw [ti_n (by decide)] at r5b
    refine lv_iadd hx hb dL_republic_305 ?_
    refine lv_topi (fun fg efg => ?_)
    have hfg : 1 ≤ fg.toInt ∧ fg.toInt ≤ 9 := by rw [efg, ti_add (by rw [k_1]; omega), k_1]; omega
    obtain ⟨w1, w2⟩ := wrap9 (a := hm) (r := d3) (N := N) hhm (by omega)
    obtain ⟨w3, w4⟩ := wrap9 (a := lv9) (r := d4) (N := 24) hlv (by omega)
    have i1 : (nI hm).toInt = (hm : Int) := ti_n (by omega)
    have i2 : (nI ((hm + 1 + d3) % N)).toInt = (((hm + 1 + d3) % N : Nat) : Int) := ti_n (by omega)
    have i3 : (nI lv9).toInt = (lv9 : Int) := ti_n (by omega)
    have i4 : (nI ((lv9 + 1 + d4) % 24)).toInt = (((lv9 + 1 + d4) % 24 : Nat) : Int) := ti_n (by omega)
    obtain ⟨rv, τ, eB, hI2, hF2⟩ := op_addC hI hF (by omega) (x := nI hm) (y := nI ((hm + 1 + d3) % N)) (z := nI lv9) (w := nI ((lv9 + 1 + d4) % 24)) (v := fg) (by rw [i1]; omega) (by rw [i2]; omega) (fun q => w2 ((nI_eq (by omega) (by omega)).mp q).symm) (by rw [i3]; omega) (by rw [i4]; omega) (fun q => w4 ((nI_eq (by omega) (by omega)).mp q).symm) hfg
    refine lr_call (τ := τ) (cells2 := cells + 3 * u + 3) (slots2 := slots + 18 * u + 18) C0 hP hD hS hl.1 [.int (nI hm), .int (nI ((hm + 1 + d3) % N)), .int (nI lv9), .int (nI ((lv9 + 1 + d4) % 24)), .int (fg)] (c_X4_addCitizen l D cy ax ad ad2 σ (nI hm) (nI ((hm + 1 + d3) % N)) (nI lv9) (nI ((lv9 + 1 + d4) % 24)) fg (inv_okR hI)) (cw_L_republic_addCitizen hts) eB rfl rfl (Nat.le_of_ble_eq_true rfl) dL_republic_306 ⟨by omega, by omega⟩ (by omega) (by omega) (fun H locs hP hD hS => ?_)
    refine lv_pop hx hb dL_republic_309 rfl ?_
    refine lv_iinc (v := nI (u + 1)) (lv' := [(4, .int (nI (u + 1))), (7, .int (nI lv9)), (6, .int (nI hm)), (5, .int (x)), (3, .int (nI M)), (2, .int (nI N)), (1, .ref (ax 0)), (0, .ref (b))]) hx hb dL_republic_310 hl (k := 3) rfl (nI_1 _) (by decide) rfl (fun ls hl => ?_)
    refine lv_goto (tgt := 208) hx hb dL_republic_313 (by decide) ?_
    exact ih (u + 1) τ H locs ls (by omega) hI2 hF2 hP hD hS (lv_sub hl [0, 4, 5, 6, 7] rfl)
set_option maxHeartbeats 4000000 in
set_option maxRecDepth 100000 in
theorem rAll {p : Program} {l : Launch} {e : Env} {s : State} {m : MethodId} {args : Array Value} {below : List Frame} {meth : Method} {c : Code} {Q : State → Prop} {A : Nat → Prop} {D : va_G} {cy : Nat → ClassId} {b L : Nat} {xs : Nat → Int32} {ax ad ad2 : Nat → Nat} (C0 : LCC p l s m c args A D cy b L xs cL_republic 8 wsL_republic) (cells slots : Nat) (hr : cells + 100 ≤ rm_L_republic.cells ∧ slots + 600 ≤ rm_L_republic.slots)
    (K : ∀ (N nU M : Nat) (σ : Sg × Sg) (H : Heap) (locs : List Loc) (ls : Array Slot), 2 ≤ N → 1 ≤ M → Inv 0 N nU M σ.1 → va_P D vwCl (CW cy ax ad ad2 σ ++ ([] : va_W)) H → va_D A (CW cy ax ad ad2 σ ++ ([] : va_W)) → va_S A s.heap H locs → lv_has ls 8 [(1, .ref (ax 0)), (0, .ref (b))] → W p l e rm_L_republic s m args below meth c H locs (cells + 100) (slots + 600) Q (F0 m 316 ls [])) :
    ∀ (σ : Sg × Sg) (H : Heap) (locs : List Loc) (ls : Array Slot), Inv 0 0 0 0 σ.1 → Fr 0 0 σ.1 → va_P D vwCl (CW cy ax ad ad2 σ ++ ([] : va_W)) H → va_D A (CW cy ax ad ad2 σ ++ ([] : va_W)) → va_S A s.heap H locs → lv_has ls 8 [(2, .int (nI 0)), (1, .ref (ax 0)), (0, .ref (b))] → W p l e rm_L_republic s m args below meth c H locs (cells) (slots) Q (F0 m 10 ls []) := by
  have C9 := C0
  obtain ⟨hx, hb, hml, hown, hts, hK, hXX, hA, hst, htx, hl0⟩ := C9
  intro σ H locs ls hI hF hP hD hS hl
  refine rB1 C0 cells slots ⟨by omega, by omega⟩ (fun σ H locs ls hI hF hP hD hS hl => ?_) 24 0 σ H locs ls rfl hI hF hP hD hS hl
  refine lv_iconst (v := nI 2) hx hb dL_republic_72 (by decide) ?_
  refine lv_aload_n hx hb dL_republic_73 rfl (lv_at hl 1 rfl) ?_
  refine lv_bipush (v := nI 6) hx hb dL_republic_74 (by decide) ?_
  refine lr_cell C0 hP hD hS hl.1 (cwc_L_republic hts) (by rw [ti_n (by decide)]; omega) (Nat.le_of_ble_eq_true rfl) dL_republic_76 ⟨by omega, by omega⟩ (fun x0 H locs hP hD hS => ?_)
  refine lv_bipush (v := nI 6) hx hb dL_republic_79 (by decide) ?_
  refine lr_below C0 hP hD hS hl.1 (cwb_L_republic hts) (by rw [ti_n (by decide)]; omega) (Nat.le_of_ble_eq_true rfl) dL_republic_81 ⟨by omega, by omega⟩ (fun r0 r0a r0b H locs hP hD hS => ?_)
  rw [ti_n (by decide)] at r0b
  refine lv_iadd hx hb dL_republic_84 ?_
  refine lv_topi (fun nn enn => ?_)
  have hnn : 2 ≤ nn.toInt ∧ nn.toInt ≤ 7 := by rw [enn, ti_add (by rw [k_2]; omega), k_2]; omega
  obtain ⟨N, hN8, eN, eNi⟩ := of_rng (x := nn) (n := 8) (by omega) (by omega)
  refine g_top (y := nI N) eN ?_
  refine lv_istore_n (lv' := [(2, .int (nI N)), (1, .ref (ax 0)), (0, .ref (b))]) hx hb dL_republic_85 rfl hl (by decide) rfl (fun ls hl => ?_)
  refine lv_iconst (v := nI 0) hx hb dL_republic_86 (by decide) ?_
  refine lv_istore_n (lv' := [(3, .int (nI 0)), (2, .int (nI N)), (1, .ref (ax 0)), (0, .ref (b))]) hx hb dL_republic_87 rfl hl (by decide) rfl (fun ls hl => ?_)
  refine rB2 C0 (N := N) (by omega) (cells + 48) (slots + 288) ⟨by omega, by omega⟩ (fun σ H locs ls hI hF hP hD hS hl => ?_) N 0 σ H locs ls (by omega) hI hF (fun i hi => by omega) hP hD hS (lv_sub hl [0, 1, 2, 3] rfl)
  refine lv_iconst (v := nI 0) hx hb dL_republic_139 (by decide) ?_
  refine lv_istore_n (lv' := [(3, .int (nI 0)), (2, .int (nI N)), (1, .ref (ax 0)), (0, .ref (b))]) hx hb dL_republic_140 rfl hl (by decide) rfl (fun ls hl => ?_)
  refine rB3 C0 (N := N) (by omega) (cells + 56) (slots + 336) ⟨by omega, by omega⟩ (fun σ nU H locs ls hI hF hP hD hS hl => ?_) N 0 σ 0 H locs ls (by omega) (by omega) hI hF hP hD hS (lv_sub hl [0, 1, 2, 3] rfl)
  refine lv_iconst (v := nI 1) hx hb dL_republic_191 (by decide) ?_
  refine lv_aload_n hx hb dL_republic_192 rfl (lv_at hl 2 rfl) ?_
  refine lv_bipush (v := nI 9) hx hb dL_republic_193 (by decide) ?_
  refine lr_cell C0 hP hD hS hl.1 (cwc_L_republic hts) (by rw [ti_n (by decide)]; omega) (Nat.le_of_ble_eq_true rfl) dL_republic_195 ⟨by omega, by omega⟩ (fun x1 H locs hP hD hS => ?_)
  refine lv_bipush (v := nI 10) hx hb dL_republic_198 (by decide) ?_
  refine lr_below C0 hP hD hS hl.1 (cwb_L_republic hts) (by rw [ti_n (by decide)]; omega) (Nat.le_of_ble_eq_true rfl) dL_republic_200 ⟨by omega, by omega⟩ (fun r1 r1a r1b H locs hP hD hS => ?_)
  rw [ti_n (by decide)] at r1b
  refine lv_iadd hx hb dL_republic_203 ?_
  refine lv_topi (fun mm emm => ?_)
  have hmm : 1 ≤ mm.toInt ∧ mm.toInt ≤ 10 := by rw [emm, ti_add (by rw [k_1]; omega), k_1]; omega
  obtain ⟨M, hM11, eM, eMi⟩ := of_rng (x := mm) (n := 11) (by omega) (by omega)
  refine g_top (y := nI M) eM ?_
  refine lv_istore_n (lv' := [(3, .int (nI M)), (2, .int (nI N)), (1, .ref (ax 0)), (0, .ref (b))]) hx hb dL_republic_204 rfl hl (by decide) rfl (fun ls hl => ?_)
  refine lv_iconst (v := nI 0) hx hb dL_republic_205 (by decide) ?_
  refine lv_istore (lv' := [(4, .int (nI 0)), (3, .int (nI M)), (2, .int (nI N)), (1, .ref (ax 0)), (0, .ref (b))]) hx hb dL_republic_206 hl (by decide) rfl (fun ls hl => ?_)
  refine rB4 C0 (N := N) (M := M) (nU := nU) (by omega) (by omega) (by omega) (cells + 70) (slots + 420) ⟨by omega, by omega⟩ (fun σ H locs ls hI hP hD hS hl => ?_) M 0 σ H locs ls (by omega) hI hF hP hD hS (lv_sub hl [0, 1, 2, 3, 4] rfl)
  exact K N nU M σ H locs ls (by omega) (by omega) hI hP hD hS hl
