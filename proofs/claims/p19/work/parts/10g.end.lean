theorem nan_ok : ∀ s, s < 101 → ∀ n, n < 11 → n = 0 ∨ (FP.ddiv (FP.i2d (nI s)) (FP.i2d (nI n)) &&& 0x7fffffffffffffff ≤ 0x7ff0000000000000 ∧ Op.cmpValue (FP.dcmp (FP.ddiv (FP.i2d (nI s)) (FP.i2d (nI n))) (FP.ddiv (FP.i2d (nI s)) (FP.i2d (nI n)))) .l = 0) := by decide +kernel
set_option maxHeartbeats 4000000 in
set_option maxRecDepth 100000 in
theorem bF {p : Program} {l : Launch} {e : Env} {s : State} {m : MethodId} {args : Array Value} {below : List Frame} {meth : Method} {c : Code} {Q : State → Prop} {A : Nat → Prop} {D : va_G} {cy : Nat → ClassId} {b L : Nat} {xs : Nat → Int32} {ax ad ad2 : Nat → Nat} (C0 : LCC p l s m c args A D cy b L xs cL_law 18 wsL_law) {B nS nU nC t : Nat} {σ : Sg × Sg} {qa qb qc : Nat} {ts hr9 : Int32} {f g h : Nat → Int32} (hI : Inv B nS nU nC σ.1) (hAC : AC σ.1 nU f g h) (h1C : 1 ≤ nC) (ht : t < 60) (hts9 : ts.toInt = cn (tI σ.1) nC) (hrr : hr9.toInt = cn (fun i : Nat => cn (cI σ.1 (i : Int)) nC) nS) (cells slots : Nat) (hr : cells + 8 ≤ room_1.cells ∧ slots + 48 ≤ room_1.slots)
    (K : ∀ (H : Heap) (locs : List Loc) (ls : Array Slot), va_P D vwCl (CW cy ax ad ad2 σ ++ ([] : va_W)) H → va_D A (CW cy ax ad ad2 σ ++ ([] : va_W)) → va_S A s.heap H locs → lv_has ls 18 [(0, .ref (b)), (1, .ref (ax 0)), (2, .int (nI nS)), (3, .int (nI (t + 1)))] → W p l e room_1 s m args below meth c H locs (cells + 8) (slots + 48) Q (F0 m 13 ls [])) :
    ∀ (H : Heap) (locs : List Loc) (ls : Array Slot), va_P D vwCl (CW cy ax ad ad2 σ ++ AW cy qa qb qc f g h) H → va_D A (CW cy ax ad ad2 σ ++ AW cy qa qb qc f g h) → va_S A s.heap H locs → lv_has ls 18 [(16, .int (hr9)), (15, .int (ts)), (14, .ref (qc)), (13, .ref (qb)), (12, .ref (qa)), (0, .ref (b)), (1, .ref (ax 0)), (2, .int (nI nS)), (3, .int (nI t))] → W p l e room_1 s m args below meth c H locs (cells) (slots) Q (F0 m 742 ls []) := by
  intro H locs ls hP hD hS hl
  have C9 := C0
  obtain ⟨hx, hb, hml, hown, hts, hK, hXX, hA, hst, htx, hl0⟩ := C9
  have n8 := hI.1.2.2.1
  have n40 := hI.1.2.2.2.1
  have n10 := hI.1.2.2.2.2.1
  have nB := hI.1.2.2.2.2.2
  have hall := sm_all hI
  obtain ⟨st1, st2, st3⟩ := sm_trust hI
  have ets : ts = s_X1_trustOfAll σ.1 := te.mpr (by rw [hts9, st1])
  obtain ⟨bb, hb1, hb2, hb3⟩ := of_rng (x := s_X1_trustOfAll σ.1) (n := 101) (by omega) (by omega)
  obtain ⟨nn1, nn2⟩ := (nan_ok bb hb1 nC (by omega)).resolve_left (by omega)
  rw [← hb2] at nn1 nn2
  have hnan : vf_n64 (FP.ddiv (FP.i2d (s_X1_trustOfAll σ.1)) (FP.i2d (nI nC))) := nn1
  have q0 : s_X1_umbrellasThatAre σ.1 (nI 0) = h 0 := te.mpr (by rw [sm_that hI (by decide), hAC.2.2 0 (by decide)])
  have q1 : s_X1_umbrellasThatAre σ.1 (nI 1) = h 1 := te.mpr (by rw [sm_that hI (by decide), hAC.2.2 1 (by decide)])
  have q2 : s_X1_umbrellasThatAre σ.1 (nI 2) = h 2 := te.mpr (by rw [sm_that hI (by decide), hAC.2.2 2 (by decide)])
  have q3 : s_X1_umbrellasThatAre σ.1 (nI 3) = h 3 := te.mpr (by rw [sm_that hI (by decide), hAC.2.2 3 (by decide)])
  have hct := sm_cit hI (x := (-1 : Int32))
  rw [ti_m1] at hct
  have hcb := cn_rg (f := cI σ.1 (-1)) 1 nC (fun x _ => ite01 _)
  have qs : hr9 + s_X1_citizensIn σ.1 (-1 : Int32) = nI nC := te.mpr (by rw [ti_add (by rw [hrr, hct]; omega), hrr, hct, ti_n (by omega)]; omega)
  refine lv_aload_n hx hb dL_law_742 rfl (lv_at hl 6 rfl) ?_
  refine lv_iconst (v := nI 4) hx hb dL_law_743 (by decide) ?_
  refine lr_call (τ := σ) (cells2 := cells + 1) (slots2 := slots + 6) C0 hP hD hS hl.1 [.int (nI 4)] (c_X4_count l D cy ax ad ad2 σ (nI 4) (inv_okR hI)) (cw_L_law_count hts) oc_4 rfl rfl (Nat.le_of_ble_eq_true rfl) dL_law_744 ⟨by omega, by omega⟩ (by omega) (by omega) (fun H locs hP hD hS => ?_)
  refine lv_aload hx hb dL_law_747 (lv_at hl 2 rfl) ?_
  refine lv_iconst (v := nI 0) hx hb dL_law_749 (by decide) ?_
  refine lr_iald (X := (AW cy qa qb qc f g h)) C0 hP 2 rfl 0 (tn_nI (by decide)) (vp_in_nI (by decide) (by decide)) dL_law_750 ?_
  refine lv_icmp_ne (tgt := 827) hx hb dL_law_751 (by decide) (fun c87 => False.elim (c87 q0)) (fun c87 => ?_)
  refine lv_aload_n hx hb dL_law_754 rfl (lv_at hl 6 rfl) ?_
  refine lv_iconst (v := nI 5) hx hb dL_law_755 (by decide) ?_
  refine lr_call (τ := σ) (cells2 := cells + 2) (slots2 := slots + 12) C0 hP hD hS hl.1 [.int (nI 5)] (c_X4_count l D cy ax ad ad2 σ (nI 5) (inv_okR hI)) (cw_L_law_count hts) oc_5 rfl rfl (Nat.le_of_ble_eq_true rfl) dL_law_756 ⟨by omega, by omega⟩ (by omega) (by omega) (fun H locs hP hD hS => ?_)
  refine lv_aload hx hb dL_law_759 (lv_at hl 2 rfl) ?_
  refine lv_iconst (v := nI 1) hx hb dL_law_761 (by decide) ?_
  refine lr_iald (X := (AW cy qa qb qc f g h)) C0 hP 2 rfl 1 (tn_nI (by decide)) (vp_in_nI (by decide) (by decide)) dL_law_762 ?_
  refine lv_icmp_ne (tgt := 827) hx hb dL_law_763 (by decide) (fun c88 => False.elim (c88 q1)) (fun c88 => ?_)
  refine lv_aload_n hx hb dL_law_766 rfl (lv_at hl 6 rfl) ?_
  refine lv_bipush (v := nI 6) hx hb dL_law_767 (by decide) ?_
  refine lr_call (τ := σ) (cells2 := cells + 3) (slots2 := slots + 18) C0 hP hD hS hl.1 [.int (nI 6)] (c_X4_count l D cy ax ad ad2 σ (nI 6) (inv_okR hI)) (cw_L_law_count hts) oc_6 rfl rfl (Nat.le_of_ble_eq_true rfl) dL_law_769 ⟨by omega, by omega⟩ (by omega) (by omega) (fun H locs hP hD hS => ?_)
  refine lv_aload hx hb dL_law_772 (lv_at hl 2 rfl) ?_
  refine lv_iconst (v := nI 2) hx hb dL_law_774 (by decide) ?_
  refine lr_iald (X := (AW cy qa qb qc f g h)) C0 hP 2 rfl 2 (tn_nI (by decide)) (vp_in_nI (by decide) (by decide)) dL_law_775 ?_
  refine lv_icmp_ne (tgt := 827) hx hb dL_law_776 (by decide) (fun c89 => False.elim (c89 q2)) (fun c89 => ?_)
  refine lv_aload_n hx hb dL_law_779 rfl (lv_at hl 6 rfl) ?_
  refine lv_bipush (v := nI 7) hx hb dL_law_780 (by decide) ?_
  refine lr_call (τ := σ) (cells2 := cells + 4) (slots2 := slots + 24) C0 hP hD hS hl.1 [.int (nI 7)] (c_X4_count l D cy ax ad ad2 σ (nI 7) (inv_okR hI)) (cw_L_law_count hts) oc_7 rfl rfl (Nat.le_of_ble_eq_true rfl) dL_law_782 ⟨by omega, by omega⟩ (by omega) (by omega) (fun H locs hP hD hS => ?_)
  refine lv_aload hx hb dL_law_785 (lv_at hl 2 rfl) ?_
  refine lv_iconst (v := nI 3) hx hb dL_law_787 (by decide) ?_
  refine lr_iald (X := (AW cy qa qb qc f g h)) C0 hP 2 rfl 3 (tn_nI (by decide)) (vp_in_nI (by decide) (by decide)) dL_law_788 ?_
  refine lv_icmp_ne (tgt := 827) hx hb dL_law_789 (by decide) (fun c90 => False.elim (c90 q3)) (fun c90 => ?_)
  refine lv_iload hx hb dL_law_792 (lv_at hl 0 rfl) ?_
  refine lv_aload_n hx hb dL_law_794 rfl (lv_at hl 6 rfl) ?_
  refine lv_bipush (v := nI 8) hx hb dL_law_795 (by decide) ?_
  refine lr_call (τ := σ) (cells2 := cells + 5) (slots2 := slots + 30) C0 hP hD hS hl.1 [.int (nI 8)] (c_X4_count l D cy ax ad ad2 σ (nI 8) (inv_okR hI)) (cw_L_law_count hts) oc_8 rfl rfl (Nat.le_of_ble_eq_true rfl) dL_law_797 ⟨by omega, by omega⟩ (by omega) (by omega) (fun H locs hP hD hS => ?_)
  refine lv_iadd hx hb dL_law_800 ?_
  refine lv_aload_n hx hb dL_law_801 rfl (lv_at hl 6 rfl) ?_
  refine lv_iconst (v := nI 3) hx hb dL_law_802 (by decide) ?_
  refine lr_call (τ := σ) (cells2 := cells + 6) (slots2 := slots + 36) C0 hP hD hS hl.1 [.int (nI 3)] (c_X4_count l D cy ax ad ad2 σ (nI 3) (inv_okR hI)) (cw_L_law_count hts) ((oc_3 hI)) rfl rfl (Nat.le_of_ble_eq_true rfl) dL_law_803 ⟨by omega, by omega⟩ (by omega) (by omega) (fun H locs hP hD hS => ?_)
  refine lv_icmp_ne (tgt := 827) hx hb dL_law_806 (by decide) (fun c91 => False.elim (c91 qs)) (fun c91 => ?_)
  refine lv_aload_n hx hb dL_law_809 rfl (lv_at hl 6 rfl) ?_
  refine lr_trust C0 (σ := σ) (inv_okR hI) (fun _ => by rw [hI.1.1.2.2]; exact hnan) (op_trust hI h1C) hP hD hS hl.1 (cw_L_law_trust hts) rfl (Nat.le_of_ble_eq_true rfl) dL_law_810 ⟨by omega, by omega⟩ (fun H locs hP hD hS => ?_)
  refine lv_iload hx hb dL_law_813 (lv_at hl 1 rfl) ?_
  refine g_top (y := s_X1_trustOfAll σ.1) (ets) ?_
  refine lv_i2d hx hb dL_law_815 ?_
  refine lv_aload_n hx hb dL_law_816 rfl (lv_at hl 6 rfl) ?_
  refine lv_iconst (v := nI 3) hx hb dL_law_817 (by decide) ?_
  refine lr_call (τ := σ) (cells2 := cells + 7) (slots2 := slots + 42) C0 hP hD hS hl.1 [.int (nI 3)] (c_X4_count l D cy ax ad ad2 σ (nI 3) (inv_okR hI)) (cw_L_law_count hts) ((oc_3 hI)) rfl rfl (Nat.le_of_ble_eq_true rfl) dL_law_818 ⟨by omega, by omega⟩ (by omega) (by omega) (fun H locs hP hD hS => ?_)
  refine lv_i2d hx hb dL_law_821 ?_
  refine lv_ddiv hx hb dL_law_822 hnan ?_
  refine lv_dcmp hx hb dL_law_823 ?_
  refine lv_if_eq (tgt := 829) hx hb dL_law_824 (by decide) (fun c92 => ?_) (fun c92 => False.elim (c92 nn2))
  refine lv_iinc (v := nI (t + 1)) (lv' := [(3, .int (nI (t + 1))), (16, .int (hr9)), (15, .int (ts)), (14, .ref (qc)), (13, .ref (qb)), (12, .ref (qa)), (0, .ref (b)), (1, .ref (ax 0)), (2, .int (nI nS))]) hx hb dL_law_829 hl (k := 8) rfl (nI_1 _) (by decide) rfl (fun ls hl => ?_)
  refine lv_goto (tgt := 13) hx hb dL_law_832 (by decide) ?_
  refine W.widen (k := cells + 8) (n := slots + 48) (by omega) (by omega) ?_
  exact K H locs ls (by rw [List.append_nil]; exact va_P_l hP) (by rw [List.append_nil]; exact va_D_l hD) hS (lv_sub hl [6, 7, 8, 0] rfl)
