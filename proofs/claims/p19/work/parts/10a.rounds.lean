set_option maxHeartbeats 4000000 in
set_option maxRecDepth 100000 in
theorem bA1 {p : Program} {l : Launch} {e : Env} {s : State} {m : MethodId} {args : Array Value} {below : List Frame} {meth : Method} {c : Code} {Q : State → Prop} {A : Nat → Prop} {D : va_G} {cy : Nat → ClassId} {b L : Nat} {xs : Nat → Int32} {ax ad ad2 : Nat → Nat} (C0 : LCC p l s m c args A D cy b L xs cL_law 18 wsL_law) {B nS nU nC t : Nat} {σ : Sg × Sg} (ht : t < 60) (h1 : 1 ≤ nS) (hI : Inv B nS nU nC σ.1) (cells slots : Nat) (hr : cells + 50 ≤ room_1.cells ∧ slots + 400 ≤ room_1.slots)
    (K : ∀ (x : Int32) (τ : Sg × Sg) (nU2 : Nat) (H : Heap) (locs : List Loc) (ls : Array Slot), Inv B nS nU2 nC τ.1 → va_P D vwCl (CW cy ax ad ad2 τ ++ ([] : va_W)) H → va_D A (CW cy ax ad ad2 τ ++ ([] : va_W)) → va_S A s.heap H locs → lv_has ls 18 [(0, .ref (b)), (1, .ref (ax 0)), (2, .int (nI nS)), (3, .int (nI t)), (4, .int (x))] → W p l e room_1 s m args below meth c H locs (cells + 3) (slots + 18) Q (F0 m 80 ls [])) :
    ∀ (H : Heap) (locs : List Loc) (ls : Array Slot), va_P D vwCl (CW cy ax ad ad2 σ ++ ([] : va_W)) H → va_D A (CW cy ax ad ad2 σ ++ ([] : va_W)) → va_S A s.heap H locs → lv_has ls 18 [(0, .ref (b)), (1, .ref (ax 0)), (2, .int (nI nS)), (3, .int (nI t))] → W p l e room_1 s m args below meth c H locs (cells) (slots) Q (F0 m 19 ls []) := by
  intro H locs ls hP hD hS hl
  have C9 := C0
  obtain ⟨hx, hb, hml, hown, hts, hK, hXX, hA, hst, htx, hl0⟩ := C9
  have n8 := hI.1.2.2.1
  have n40 := hI.1.2.2.2.1
  have n10 := hI.1.2.2.2.2.1
  refine lv_aload_n hx hb dL_law_19 rfl (lv_at hl 0 rfl) ?_
  refine lv_iload_n hx hb dL_law_20 rfl (lv_at hl 3 rfl) ?_
  refine lv_bipush (v := nI 16) hx hb dL_law_21 (by decide) ?_
  refine lv_irem hx hb dL_law_23 (by decide) ?_
  refine g_top (y := nI (t % 16)) (nI_rem2 t 16 (by omega) (by decide) (by decide)) ?_
  refine lr_cell C0 hP hD hS hl.1 (cwc_L_law hts) (by rw [ti_n (by omega)]; omega) (Nat.le_of_ble_eq_true rfl) dL_law_24 ⟨by omega, by omega⟩ (fun x0 H locs hP hD hS => ?_)
  refine lv_iload_n hx hb dL_law_27 rfl (lv_at hl 3 rfl) ?_
  refine lv_bipush (v := nI 16) hx hb dL_law_28 (by decide) ?_
  refine lv_idiv hx hb dL_law_30 (by decide) ?_
  refine lv_iconst (v := nI 5) hx hb dL_law_31 (by decide) ?_
  refine lv_imul hx hb dL_law_32 ?_
  refine lv_ishr hx hb dL_law_33 ?_
  refine lv_topi (fun x ex => ?_)
  refine lv_istore (lv' := [(4, .int (x)), (0, .ref (b)), (1, .ref (ax 0)), (2, .int (nI nS)), (3, .int (nI t))]) hx hb dL_law_34 hl (by decide) rfl (fun ls hl => ?_)
  refine lv_iload hx hb dL_law_36 (lv_at hl 0 rfl) ?_
  refine lv_bipush (v := nI 11) hx hb dL_law_38 (by decide) ?_
  refine lr_below C0 hP hD hS hl.1 (cwb_L_law hts) (by rw [ti_n (by decide)]; omega) (Nat.le_of_ble_eq_true rfl) dL_law_40 ⟨by omega, by omega⟩ (fun r0 r0a r0b H locs hP hD hS => ?_)
  rw [ti_n (by decide)] at r0b
  refine lv_if_ne (tgt := 80) hx hb dL_law_43 (by decide) (fun c1 => ?_) (fun c1 => ?_)
  · refine W.widen (k := cells + 3) (n := slots + 18) (by omega) (by omega) ?_
    exact K x σ _ H locs ls hI hP hD hS (lv_sub hl [1, 2, 3, 4, 0] rfl)
  · refine lv_aload_n hx hb dL_law_46 rfl (lv_at hl 2 rfl) ?_
    refine lv_iconst (v := nI 2) hx hb dL_law_47 (by decide) ?_
    refine lr_call (τ := σ) (cells2 := cells + 1) (slots2 := slots + 6) C0 hP hD hS hl.1 [.int (nI 2)] (c_X4_count l D cy ax ad ad2 σ (nI 2) (inv_okR hI)) (cw_L_law_count hts) ((oc_2 hI)) rfl rfl (Nat.le_of_ble_eq_true rfl) dL_law_48 ⟨by omega, by omega⟩ (by omega) (by omega) (fun H locs hP hD hS => ?_)
    refine lv_bipush (v := nI 38) hx hb dL_law_51 (by decide) ?_
    refine lv_icmp_ge (tgt := 80) hx hb dL_law_53 (by decide) (fun c2 => ?_) (fun c2 => ?_)
    · refine W.widen (k := cells + 3) (n := slots + 18) (by omega) (by omega) ?_
      exact K x σ _ H locs ls hI hP hD hS (lv_sub hl [1, 2, 3, 4, 0] rfl)
    · have hU38 : nU < 38 := by rw [nI_leI (by decide) (by omega)] at c2; omega
      refine lv_aload_n hx hb dL_law_56 rfl (lv_at hl 2 rfl) ?_
      refine lv_iload hx hb dL_law_57 (lv_at hl 0 rfl) ?_
      refine lv_iconst (v := nI 3) hx hb dL_law_59 (by decide) ?_
      refine lv_ishr hx hb dL_law_60 ?_
      refine lv_iload_n hx hb dL_law_61 rfl (lv_at hl 3 rfl) ?_
      refine lr_below C0 hP hD hS hl.1 (cwb_L_law hts) (by rw [ti_n (by omega)]; omega) (Nat.le_of_ble_eq_true rfl) dL_law_62 ⟨by omega, by omega⟩ (fun r1 r1a r1b H locs hP hD hS => ?_)
      rw [ti_n (by omega)] at r1b
      refine lv_iconst (v := nI 1) hx hb dL_law_65 (by decide) ?_
      refine lv_iload hx hb dL_law_66 (lv_at hl 0 rfl) ?_
      refine lv_bipush (v := nI 6) hx hb dL_law_68 (by decide) ?_
      refine lv_ishr hx hb dL_law_70 ?_
      refine lv_iconst (v := nI 3) hx hb dL_law_71 (by decide) ?_
      refine lr_below C0 hP hD hS hl.1 (cwb_L_law hts) (by rw [ti_n (by decide)]; omega) (Nat.le_of_ble_eq_true rfl) dL_law_72 ⟨by omega, by omega⟩ (fun r2 r2a r2b H locs hP hD hS => ?_)
      rw [ti_n (by decide)] at r2b
      refine lv_iadd hx hb dL_law_75 ?_
      refine lv_topi (fun y ey => ?_)
      have hy : 1 ≤ y.toInt ∧ y.toInt ≤ 3 := by rw [ey, ti_add (by rw [k_1]; omega), k_1]; omega
      obtain ⟨rv, τ, eB, hI2, -⟩ := op_bring hI (x := r1) (y := y) ⟨r1a, r1b⟩ (by omega) (by omega)
      refine lr_call (τ := τ) (cells2 := cells + 3) (slots2 := slots + 18) C0 hP hD hS hl.1 [.int (r1), .int (y)] (c_X4_bring l D cy ax ad ad2 σ r1 y (inv_okR hI)) (cw_L_law_bring hts) eB rfl rfl (Nat.le_of_ble_eq_true rfl) dL_law_76 ⟨by omega, by omega⟩ (by omega) (by omega) (fun H locs hP hD hS => ?_)
      refine lv_pop hx hb dL_law_79 rfl ?_
      refine W.widen (k := cells + 3) (n := slots + 18) (by omega) (by omega) ?_
      exact K x τ _ H locs ls hI2 hP hD hS (lv_sub hl [1, 2, 3, 4, 0] rfl)
set_option maxHeartbeats 4000000 in
set_option maxRecDepth 100000 in
theorem bA2 {p : Program} {l : Launch} {e : Env} {s : State} {m : MethodId} {args : Array Value} {below : List Frame} {meth : Method} {c : Code} {Q : State → Prop} {A : Nat → Prop} {D : va_G} {cy : Nat → ClassId} {b L : Nat} {xs : Nat → Int32} {ax ad ad2 : Nat → Nat} (C0 : LCC p l s m c args A D cy b L xs cL_law 18 wsL_law) {B nS nU nC t : Nat} {σ : Sg × Sg} {x : Int32} (hI : Inv B nS nU nC σ.1) (cells slots : Nat) (hr : cells + 50 ≤ room_1.cells ∧ slots + 400 ≤ room_1.slots)
    (K : ∀ (x : Int32) (τ : Sg × Sg) (nU2 : Nat) (H : Heap) (locs : List Loc) (ls : Array Slot), Inv B nS nU2 nC τ.1 → va_P D vwCl (CW cy ax ad ad2 τ ++ ([] : va_W)) H → va_D A (CW cy ax ad ad2 τ ++ ([] : va_W)) → va_S A s.heap H locs → lv_has ls 18 [(0, .ref (b)), (1, .ref (ax 0)), (2, .int (nI nS)), (3, .int (nI t)), (4, .int (x))] → W p l e room_1 s m args below meth c H locs (cells + 2) (slots + 12) Q (F0 m 115 ls [])) :
    ∀ (H : Heap) (locs : List Loc) (ls : Array Slot), va_P D vwCl (CW cy ax ad ad2 σ ++ ([] : va_W)) H → va_D A (CW cy ax ad ad2 σ ++ ([] : va_W)) → va_S A s.heap H locs → lv_has ls 18 [(0, .ref (b)), (1, .ref (ax 0)), (2, .int (nI nS)), (3, .int (nI t)), (4, .int (x))] → W p l e room_1 s m args below meth c H locs (cells) (slots) Q (F0 m 80 ls []) := by
  intro H locs ls hP hD hS hl
  have C9 := C0
  obtain ⟨hx, hb, hml, hown, hts, hK, hXX, hA, hst, htx, hl0⟩ := C9
  have n8 := hI.1.2.2.1
  have n40 := hI.1.2.2.2.1
  have n10 := hI.1.2.2.2.2.1
  refine lv_iload hx hb dL_law_80 (lv_at hl 4 rfl) ?_
  refine lv_bipush (v := nI 11) hx hb dL_law_82 (by decide) ?_
  refine lr_below C0 hP hD hS hl.1 (cwb_L_law hts) (by rw [ti_n (by decide)]; omega) (Nat.le_of_ble_eq_true rfl) dL_law_84 ⟨by omega, by omega⟩ (fun r0 r0a r0b H locs hP hD hS => ?_)
  rw [ti_n (by decide)] at r0b
  refine lv_iconst (v := nI 1) hx hb dL_law_87 (by decide) ?_
  refine lv_icmp_ne (tgt := 115) hx hb dL_law_88 (by decide) (fun c3 => ?_) (fun c3 => ?_)
  · refine W.widen (k := cells + 2) (n := slots + 12) (by omega) (by omega) ?_
    exact K x σ _ H locs ls hI hP hD hS (lv_sub hl [0, 1, 2, 3, 4] rfl)
  · refine lv_aload_n hx hb dL_law_91 rfl (lv_at hl 1 rfl) ?_
    refine lv_iload hx hb dL_law_92 (lv_at hl 4 rfl) ?_
    refine lv_iconst (v := nI 3) hx hb dL_law_94 (by decide) ?_
    refine lv_ishr hx hb dL_law_95 ?_
    refine lv_bipush (v := nI 24) hx hb dL_law_96 (by decide) ?_
    refine lr_below C0 hP hD hS hl.1 (cwb_L_law hts) (by rw [ti_n (by decide)]; omega) (Nat.le_of_ble_eq_true rfl) dL_law_98 ⟨by omega, by omega⟩ (fun r1 r1a r1b H locs hP hD hS => ?_)
    rw [ti_n (by decide)] at r1b
    refine lv_iload hx hb dL_law_101 (lv_at hl 4 rfl) ?_
    refine lv_bipush (v := nI 8) hx hb dL_law_103 (by decide) ?_
    refine lv_ishr hx hb dL_law_105 ?_
    refine lv_bipush (v := nI 10) hx hb dL_law_106 (by decide) ?_
    refine lr_below C0 hP hD hS hl.1 (cwb_L_law hts) (by rw [ti_n (by decide)]; omega) (Nat.le_of_ble_eq_true rfl) dL_law_108 ⟨by omega, by omega⟩ (fun r2 r2a r2b H locs hP hD hS => ?_)
    rw [ti_n (by decide)] at r2b
    refine lr_call (τ := (up σ.1 1 (tn r1) r2, σ.2)) (cells2 := cells + 2) (slots2 := slots + 12) C0 hP hD hS hl.1 [.int (r1), .int (r2)] (c_X4_setRain l D cy ax ad ad2 σ r1 r2 (inv_okR hI)) (cw_L_law_setRain hts) ((op_rain (σ := σ) (x := r1) (y := r2) (by omega) (by omega))) rfl rfl (Nat.le_of_ble_eq_true rfl) dL_law_111 ⟨by omega, by omega⟩ (by omega) (by omega) (fun H locs hP hD hS => ?_)
    refine lv_pop hx hb dL_law_114 rfl ?_
    refine W.widen (k := cells + 2) (n := slots + 12) (by omega) (by omega) ?_
    exact K x (up σ.1 1 (tn r1) r2, σ.2) _ H locs ls (inv_setR hI (tn r1) (by omega)) hP hD hS (lv_sub hl [0, 1, 2, 3, 4] rfl)
set_option maxHeartbeats 4000000 in
set_option maxRecDepth 100000 in
theorem bA3 {p : Program} {l : Launch} {e : Env} {s : State} {m : MethodId} {args : Array Value} {below : List Frame} {meth : Method} {c : Code} {Q : State → Prop} {A : Nat → Prop} {D : va_G} {cy : Nat → ClassId} {b L : Nat} {xs : Nat → Int32} {ax ad ad2 : Nat → Nat} (C0 : LCC p l s m c args A D cy b L xs cL_law 18 wsL_law) {B nS nU nC t : Nat} {σ : Sg × Sg} {x : Int32} (h1 : 1 ≤ nS) (hI : Inv B nS nU nC σ.1) (cells slots : Nat) (hr : cells + 50 ≤ room_1.cells ∧ slots + 400 ≤ room_1.slots)
    (K : ∀ (x : Int32) (τ : Sg × Sg) (nU2 : Nat) (H : Heap) (locs : List Loc) (ls : Array Slot), Inv B nS nU2 nC τ.1 → va_P D vwCl (CW cy ax ad ad2 τ ++ ([] : va_W)) H → va_D A (CW cy ax ad ad2 τ ++ ([] : va_W)) → va_S A s.heap H locs → lv_has ls 18 [(0, .ref (b)), (1, .ref (ax 0)), (2, .int (nI nS)), (3, .int (nI t)), (4, .int (x))] → W p l e room_1 s m args below meth c H locs (cells + 2) (slots + 12) Q (F0 m 149 ls [])) :
    ∀ (H : Heap) (locs : List Loc) (ls : Array Slot), va_P D vwCl (CW cy ax ad ad2 σ ++ ([] : va_W)) H → va_D A (CW cy ax ad ad2 σ ++ ([] : va_W)) → va_S A s.heap H locs → lv_has ls 18 [(0, .ref (b)), (1, .ref (ax 0)), (2, .int (nI nS)), (3, .int (nI t)), (4, .int (x))] → W p l e room_1 s m args below meth c H locs (cells) (slots) Q (F0 m 115 ls []) := by
  intro H locs ls hP hD hS hl
  have C9 := C0
  obtain ⟨hx, hb, hml, hown, hts, hK, hXX, hA, hst, htx, hl0⟩ := C9
  have n8 := hI.1.2.2.1
  have n40 := hI.1.2.2.2.1
  have n10 := hI.1.2.2.2.2.1
  refine lv_iload hx hb dL_law_115 (lv_at hl 4 rfl) ?_
  refine lv_bipush (v := nI 11) hx hb dL_law_117 (by decide) ?_
  refine lr_below C0 hP hD hS hl.1 (cwb_L_law hts) (by rw [ti_n (by decide)]; omega) (Nat.le_of_ble_eq_true rfl) dL_law_119 ⟨by omega, by omega⟩ (fun r0 r0a r0b H locs hP hD hS => ?_)
  rw [ti_n (by decide)] at r0b
  refine lv_iconst (v := nI 2) hx hb dL_law_122 (by decide) ?_
  refine lv_icmp_ne (tgt := 149) hx hb dL_law_123 (by decide) (fun c4 => ?_) (fun c4 => ?_)
  · refine W.widen (k := cells + 2) (n := slots + 12) (by omega) (by omega) ?_
    exact K x σ _ H locs ls hI hP hD hS (lv_sub hl [0, 1, 2, 3, 4] rfl)
  · refine lv_aload_n hx hb dL_law_126 rfl (lv_at hl 1 rfl) ?_
    refine lv_iload hx hb dL_law_127 (lv_at hl 4 rfl) ?_
    refine lv_iconst (v := nI 3) hx hb dL_law_129 (by decide) ?_
    refine lv_ishr hx hb dL_law_130 ?_
    refine lv_iload_n hx hb dL_law_131 rfl (lv_at hl 2 rfl) ?_
    refine lr_below C0 hP hD hS hl.1 (cwb_L_law hts) (by rw [ti_n (by omega)]; omega) (Nat.le_of_ble_eq_true rfl) dL_law_132 ⟨by omega, by omega⟩ (fun r1 r1a r1b H locs hP hD hS => ?_)
    rw [ti_n (by omega)] at r1b
    refine lv_iload hx hb dL_law_135 (lv_at hl 4 rfl) ?_
    refine lv_bipush (v := nI 6) hx hb dL_law_137 (by decide) ?_
    refine lv_ishr hx hb dL_law_139 ?_
    refine lv_bipush (v := nI 11) hx hb dL_law_140 (by decide) ?_
    refine lr_below C0 hP hD hS hl.1 (cwb_L_law hts) (by rw [ti_n (by decide)]; omega) (Nat.le_of_ble_eq_true rfl) dL_law_142 ⟨by omega, by omega⟩ (fun r2 r2a r2b H locs hP hD hS => ?_)
    rw [ti_n (by decide)] at r2b
    obtain ⟨rv, τ, eB, hI2⟩ := op_dem hI (x := r1) (y := r2) ⟨r1a, r1b⟩ (by omega)
    refine lr_call (τ := τ) (cells2 := cells + 2) (slots2 := slots + 12) C0 hP hD hS hl.1 [.int (r1), .int (r2)] (c_X4_setDemand l D cy ax ad ad2 σ r1 r2 (inv_okR hI)) (cw_L_law_setDemand hts) eB rfl rfl (Nat.le_of_ble_eq_true rfl) dL_law_145 ⟨by omega, by omega⟩ (by omega) (by omega) (fun H locs hP hD hS => ?_)
    refine lv_pop hx hb dL_law_148 rfl ?_
    refine W.widen (k := cells + 2) (n := slots + 12) (by omega) (by omega) ?_
    exact K x τ _ H locs ls hI2 hP hD hS (lv_sub hl [0, 1, 2, 3, 4] rfl)
