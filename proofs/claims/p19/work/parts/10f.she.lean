set_option maxHeartbeats 4000000 in
set_option maxRecDepth 100000 in
theorem bE {p : Program} {l : Launch} {e : Env} {s : State} {m : MethodId} {args : Array Value} {below : List Frame} {meth : Method} {c : Code} {Q : State → Prop} {A : Nat → Prop} {D : va_G} {cy : Nat → ClassId} {b L : Nat} {xs : Nat → Int32} {ax ad ad2 : Nat → Nat} (C0 : LCC p l s m c args A D cy b L xs cL_law 18 wsL_law) {B nS nU nC t : Nat} {σ : Sg × Sg} {qa qb qc : Nat} {ts : Int32} {f g h : Nat → Int32} (hI : Inv B nS nU nC σ.1) (hAC : AC σ.1 nU f g h) (cells slots : Nat) (hr : cells + 150 ≤ room_1.cells ∧ slots + 900 ≤ room_1.slots)
    (K : ∀ (hr9 : Int32) (H : Heap) (locs : List Loc) (ls : Array Slot), hr9.toInt = cn (fun i : Nat => cn (cI σ.1 (i : Int)) nC) nS → va_P D vwCl (CW cy ax ad ad2 σ ++ AW cy qa qb qc f g h) H → va_D A (CW cy ax ad ad2 σ ++ AW cy qa qb qc f g h) → va_S A s.heap H locs → lv_has ls 18 [(16, .int (hr9)), (15, .int (ts)), (14, .ref (qc)), (13, .ref (qb)), (12, .ref (qa)), (0, .ref (b)), (1, .ref (ax 0)), (2, .int (nI nS)), (3, .int (nI t))] → W p l e room_1 s m args below meth c H locs (cells + 150) (slots + 900) Q (F0 m 742 ls [])) :
    ∀ (n u : Nat) (hr9 : Int32) (H : Heap) (locs : List Loc) (ls : Array Slot), u + n = nS → hr9.toInt = cn (fun i : Nat => cn (cI σ.1 (i : Int)) nC) u → va_P D vwCl (CW cy ax ad ad2 σ ++ AW cy qa qb qc f g h) H → va_D A (CW cy ax ad ad2 σ ++ AW cy qa qb qc f g h) → va_S A s.heap H locs → lv_has ls 18 [(17, .int (nI u)), (16, .int (hr9)), (15, .int (ts)), (14, .ref (qc)), (13, .ref (qb)), (12, .ref (qa)), (0, .ref (b)), (1, .ref (ax 0)), (2, .int (nI nS)), (3, .int (nI t))] → W p l e room_1 s m args below meth c H locs (cells + 17 * u) (slots + 102 * u) Q (F0 m 630 ls []) := by
  have C9 := C0
  obtain ⟨hx, hb, hml, hown, hts, hK, hXX, hA, hst, htx, hl0⟩ := C9
  have n8 := hI.1.2.2.1
  have n40 := hI.1.2.2.2.1
  have n10 := hI.1.2.2.2.2.1
  have nB := hI.1.2.2.2.2.2
  intro n
  induction n with
  | zero =>
    intro u hr9 H locs ls hu hts9 hP hD hS hl
    refine lv_iload hx hb dL_law_630 (lv_at hl 0 rfl) ?_
    refine lv_iload_n hx hb dL_law_632 rfl (lv_at hl 8 rfl) ?_
    refine lv_icmp_ge (tgt := 742) hx hb dL_law_633 (by decide) (fun c71 => ?_) (fun c71 => False.elim (c71 ((nI_leI (by omega) (by omega)).mpr (by omega))))
    refine W.widen (k := cells + 150) (n := slots + 900) (by omega) (by omega) ?_
    exact K hr9 H locs ls (by rw [show nS = u by omega]; exact hts9) hP hD hS (lv_sub hl [1, 2, 3, 4, 5, 6, 7, 8, 9] rfl)
  | succ n ih =>
    intro u hr9 H locs ls hu hts9 hP hD hS hl
    have huS : u < nS := by omega
    have hSS := hI.2.2.1 u huS
    have hcn := cn_nn (f := fH σ.1 u) nU (fun x _ => (fH_nn σ.1 u x).1)
    have hg := hAC.2.1 u (by omega)
    have hin := sm_in hI huS
    have hfst := sm_first hI huS
    have hct := sm_cit hI (x := nI u)
    rw [ti_n (by omega)] at hct
    have hcb := cn_rg (f := cI σ.1 (u : Int)) 1 nC (fun x _ => ite01 _)
    have hb9 := cn_rg (f := fun i : Nat => cn (cI σ.1 (i : Int)) nC) 10 u (fun x _ => by have q := cn_rg (f := cI σ.1 (x : Int)) 1 nC (fun x _ => ite01 _); exact ⟨q.1, by omega⟩)
    have eg : s_X1_umbrellasIn σ.1 (nI u) = g u := te.mpr (by rw [hin, hg])
    unfold SI at hSS
    refine lv_iload hx hb dL_law_630 (lv_at hl 0 rfl) ?_
    refine lv_iload_n hx hb dL_law_632 rfl (lv_at hl 8 rfl) ?_
    refine lv_icmp_ge (tgt := 742) hx hb dL_law_633 (by decide) (fun c72 => False.elim (absurd ((nI_leI (by omega) (by omega)).mp c72) (by omega))) (fun c72 => ?_)
    by_cases hz : cn (wI σ.1 u) nU = 0
    · have hf1 := hfst.mpr hz
      have g0 : g u = 0 := te_0.mpr (by rw [hg, hz])
      refine lv_aload_n hx hb dL_law_636 rfl (lv_at hl 7 rfl) ?_
      refine lv_iload hx hb dL_law_637 (lv_at hl 0 rfl) ?_
      refine lv_iconst (v := nI 2) hx hb dL_law_639 (by decide) ?_
      refine lr_call (τ := σ) (cells2 := cells + 17 * u + 2) (slots2 := slots + 102 * u + 12) C0 hP hD hS hl.1 [.int (nI u), .int (nI 2)] (c_X4_shelter l D cy ax ad ad2 σ (nI u) (nI 2) (inv_okR hI)) (cw_L_law_shelter hts) ((os_2 hI huS)) rfl rfl (Nat.le_of_ble_eq_true rfl) dL_law_640 ⟨by omega, by omega⟩ (by omega) (by omega) (fun H locs hP hD hS => ?_)
      refine lv_aload hx hb dL_law_643 (lv_at hl 4 rfl) ?_
      refine lv_iload hx hb dL_law_645 (lv_at hl 0 rfl) ?_
      refine lr_iald (X := (AW cy qa qb qc f g h)) C0 hP 1 rfl u (tn_nI (by omega)) (vp_in_nI (by omega) (by decide)) dL_law_647 ?_
      refine lv_icmp_ne (tgt := 722) hx hb dL_law_648 (by decide) (fun c73 => False.elim (c73 eg)) (fun c73 => ?_)
      refine lv_aload_n hx hb dL_law_651 rfl (lv_at hl 7 rfl) ?_
      refine lv_iload hx hb dL_law_652 (lv_at hl 0 rfl) ?_
      refine lv_iconst (v := nI 1) hx hb dL_law_654 (by decide) ?_
      refine lr_call (τ := σ) (cells2 := cells + 17 * u + 4) (slots2 := slots + 102 * u + 24) C0 hP hD hS hl.1 [.int (nI u), .int (nI 1)] (c_X4_shelter l D cy ax ad ad2 σ (nI u) (nI 1) (inv_okR hI)) (cw_L_law_shelter hts) ((os_1 hI huS)) rfl rfl (Nat.le_of_ble_eq_true rfl) dL_law_655 ⟨by omega, by omega⟩ (by omega) (by omega) (fun H locs hP hD hS => ?_)
      refine lv_if_lt (tgt := 722) hx hb dL_law_658 (by decide) (fun c74 => False.elim (absurd (tl.mp c74) (by rw [ti_0]; omega))) (fun c74 => ?_)
      refine lv_aload_n hx hb dL_law_661 rfl (lv_at hl 7 rfl) ?_
      refine lv_iload hx hb dL_law_662 (lv_at hl 0 rfl) ?_
      refine lv_iconst (v := nI 1) hx hb dL_law_664 (by decide) ?_
      refine lr_call (τ := σ) (cells2 := cells + 17 * u + 6) (slots2 := slots + 102 * u + 36) C0 hP hD hS hl.1 [.int (nI u), .int (nI 1)] (c_X4_shelter l D cy ax ad ad2 σ (nI u) (nI 1) (inv_okR hI)) (cw_L_law_shelter hts) ((os_1 hI huS)) rfl rfl (Nat.le_of_ble_eq_true rfl) dL_law_665 ⟨by omega, by omega⟩ (by omega) (by omega) (fun H locs hP hD hS => ?_)
      refine lv_bipush (v := nI 10) hx hb dL_law_668 (by decide) ?_
      refine lv_icmp_gt (tgt := 722) hx hb dL_law_670 (by decide) (fun c75 => False.elim (absurd (tl.mp c75) (by rw [k_10]; omega))) (fun c75 => ?_)
      refine lv_aload_n hx hb dL_law_673 rfl (lv_at hl 7 rfl) ?_
      refine lv_iload hx hb dL_law_674 (lv_at hl 0 rfl) ?_
      refine lv_bipush (v := nI 7) hx hb dL_law_676 (by decide) ?_
      refine lr_call (τ := σ) (cells2 := cells + 17 * u + 8) (slots2 := slots + 102 * u + 48) C0 hP hD hS hl.1 [.int (nI u), .int (nI 7)] (c_X4_shelter l D cy ax ad ad2 σ (nI u) (nI 7) (inv_okR hI)) (cw_L_law_shelter hts) ((os_7 hI huS)) rfl rfl (Nat.le_of_ble_eq_true rfl) dL_law_678 ⟨by omega, by omega⟩ (by omega) (by omega) (fun H locs hP hD hS => ?_)
      refine lv_if_ge (tgt := 688) hx hb dL_law_681 (by decide) (fun c76 => False.elim (absurd (tle.mp c76) (by rw [ti_0]; omega))) (fun c76 => ?_)
      refine lv_iconst (v := nI 1) hx hb dL_law_684 (by decide) ?_
      refine lv_goto (tgt := 689) hx hb dL_law_685 (by decide) ?_
      refine lv_aload hx hb dL_law_689 (lv_at hl 4 rfl) ?_
      refine lv_iload hx hb dL_law_691 (lv_at hl 0 rfl) ?_
      refine lr_iald (X := (AW cy qa qb qc f g h)) C0 hP 1 rfl u (tn_nI (by omega)) (vp_in_nI (by omega) (by decide)) dL_law_693 ?_
      refine lv_if_ne (tgt := 701) hx hb dL_law_694 (by decide) (fun c77 => False.elim (c77 g0)) (fun c77 => ?_)
      refine lv_iconst (v := nI 1) hx hb dL_law_697 (by decide) ?_
      refine lv_goto (tgt := 702) hx hb dL_law_698 (by decide) ?_
      refine lv_icmp_ne (tgt := 722) hx hb dL_law_702 (by decide) (fun c78 => False.elim (c78 rfl)) (fun c78 => ?_)
      refine lv_aload_n hx hb dL_law_705 rfl (lv_at hl 7 rfl) ?_
      refine lv_iload hx hb dL_law_706 (lv_at hl 0 rfl) ?_
      refine lv_iconst (v := nI 5) hx hb dL_law_708 (by decide) ?_
      refine lr_call (τ := σ) (cells2 := cells + 17 * u + 10) (slots2 := slots + 102 * u + 60) C0 hP hD hS hl.1 [.int (nI u), .int (nI 5)] (c_X4_shelter l D cy ax ad ad2 σ (nI u) (nI 5) (inv_okR hI)) (cw_L_law_shelter hts) ((os_5 hI huS)) rfl rfl (Nat.le_of_ble_eq_true rfl) dL_law_709 ⟨by omega, by omega⟩ (by omega) (by omega) (fun H locs hP hD hS => ?_)
      refine lv_aload_n hx hb dL_law_712 rfl (lv_at hl 7 rfl) ?_
      refine lv_iload hx hb dL_law_713 (lv_at hl 0 rfl) ?_
      refine lv_iconst (v := nI 4) hx hb dL_law_715 (by decide) ?_
      refine lr_call (τ := σ) (cells2 := cells + 17 * u + 12) (slots2 := slots + 102 * u + 72) C0 hP hD hS hl.1 [.int (nI u), .int (nI 4)] (c_X4_shelter l D cy ax ad ad2 σ (nI u) (nI 4) (inv_okR hI)) (cw_L_law_shelter hts) ((os_4 hI huS)) rfl rfl (Nat.le_of_ble_eq_true rfl) dL_law_716 ⟨by omega, by omega⟩ (by omega) (by omega) (fun H locs hP hD hS => ?_)
      refine lv_icmp_le (tgt := 724) hx hb dL_law_719 (by decide) (fun c79 => ?_) (fun c79 => False.elim (c79 (tle.mpr (by omega))))
      refine lv_iload hx hb dL_law_724 (lv_at hl 1 rfl) ?_
      refine lv_aload_n hx hb dL_law_726 rfl (lv_at hl 7 rfl) ?_
      refine lv_iload hx hb dL_law_727 (lv_at hl 0 rfl) ?_
      refine lv_iconst (v := nI 3) hx hb dL_law_729 (by decide) ?_
      refine lr_call (τ := σ) (cells2 := cells + 17 * u + 14) (slots2 := slots + 102 * u + 84) C0 hP hD hS hl.1 [.int (nI u), .int (nI 3)] (c_X4_shelter l D cy ax ad ad2 σ (nI u) (nI 3) (inv_okR hI)) (cw_L_law_shelter hts) ((os_3 hI huS)) rfl rfl (Nat.le_of_ble_eq_true rfl) dL_law_730 ⟨by omega, by omega⟩ (by omega) (by omega) (fun H locs hP hD hS => ?_)
      refine lv_iadd hx hb dL_law_733 ?_
      refine lv_topi (fun hr2 ehr2 => ?_)
      refine lv_istore (lv' := [(16, .int (hr2)), (17, .int (nI u)), (15, .int (ts)), (14, .ref (qc)), (13, .ref (qb)), (12, .ref (qa)), (0, .ref (b)), (1, .ref (ax 0)), (2, .int (nI nS)), (3, .int (nI t))]) hx hb dL_law_734 hl (by decide) rfl (fun ls hl => ?_)
      refine lv_iinc (v := nI (u + 1)) (lv' := [(17, .int (nI (u + 1))), (16, .int (hr2)), (15, .int (ts)), (14, .ref (qc)), (13, .ref (qb)), (12, .ref (qa)), (0, .ref (b)), (1, .ref (ax 0)), (2, .int (nI nS)), (3, .int (nI t))]) hx hb dL_law_736 hl (k := 1) rfl (nI_1 _) (by decide) rfl (fun ls hl => ?_)
      refine lv_goto (tgt := 630) hx hb dL_law_739 (by decide) ?_
      refine W.widen (k := cells + 17 * (u + 1)) (n := slots + 102 * (u + 1)) (by omega) (by omega) ?_
      exact ih (u + 1) hr2 H locs ls (by omega) (by rw [ehr2, ti_add (by rw [hct, hts9]; omega), hct, hts9]; rfl) hP hD hS (lv_sub hl [0, 1, 2, 3, 4, 5, 6, 7, 8, 9] rfl)
    · have hf1 : ¬ (s_X1_firstUmbrellaIn σ.1 (nI u)).toInt < 0 := fun q => hz (hfst.mp q)
      have g0 : ¬ g u = 0 := fun q => hz (by rw [← hg]; exact te_0.mp q)
      refine lv_aload_n hx hb dL_law_636 rfl (lv_at hl 7 rfl) ?_
      refine lv_iload hx hb dL_law_637 (lv_at hl 0 rfl) ?_
      refine lv_iconst (v := nI 2) hx hb dL_law_639 (by decide) ?_
      refine lr_call (τ := σ) (cells2 := cells + 17 * u + 2) (slots2 := slots + 102 * u + 12) C0 hP hD hS hl.1 [.int (nI u), .int (nI 2)] (c_X4_shelter l D cy ax ad ad2 σ (nI u) (nI 2) (inv_okR hI)) (cw_L_law_shelter hts) ((os_2 hI huS)) rfl rfl (Nat.le_of_ble_eq_true rfl) dL_law_640 ⟨by omega, by omega⟩ (by omega) (by omega) (fun H locs hP hD hS => ?_)
      refine lv_aload hx hb dL_law_643 (lv_at hl 4 rfl) ?_
      refine lv_iload hx hb dL_law_645 (lv_at hl 0 rfl) ?_
      refine lr_iald (X := (AW cy qa qb qc f g h)) C0 hP 1 rfl u (tn_nI (by omega)) (vp_in_nI (by omega) (by decide)) dL_law_647 ?_
      refine lv_icmp_ne (tgt := 722) hx hb dL_law_648 (by decide) (fun c80 => False.elim (c80 eg)) (fun c80 => ?_)
      refine lv_aload_n hx hb dL_law_651 rfl (lv_at hl 7 rfl) ?_
      refine lv_iload hx hb dL_law_652 (lv_at hl 0 rfl) ?_
      refine lv_iconst (v := nI 1) hx hb dL_law_654 (by decide) ?_
      refine lr_call (τ := σ) (cells2 := cells + 17 * u + 4) (slots2 := slots + 102 * u + 24) C0 hP hD hS hl.1 [.int (nI u), .int (nI 1)] (c_X4_shelter l D cy ax ad ad2 σ (nI u) (nI 1) (inv_okR hI)) (cw_L_law_shelter hts) ((os_1 hI huS)) rfl rfl (Nat.le_of_ble_eq_true rfl) dL_law_655 ⟨by omega, by omega⟩ (by omega) (by omega) (fun H locs hP hD hS => ?_)
      refine lv_if_lt (tgt := 722) hx hb dL_law_658 (by decide) (fun c81 => False.elim (absurd (tl.mp c81) (by rw [ti_0]; omega))) (fun c81 => ?_)
      refine lv_aload_n hx hb dL_law_661 rfl (lv_at hl 7 rfl) ?_
      refine lv_iload hx hb dL_law_662 (lv_at hl 0 rfl) ?_
      refine lv_iconst (v := nI 1) hx hb dL_law_664 (by decide) ?_
      refine lr_call (τ := σ) (cells2 := cells + 17 * u + 6) (slots2 := slots + 102 * u + 36) C0 hP hD hS hl.1 [.int (nI u), .int (nI 1)] (c_X4_shelter l D cy ax ad ad2 σ (nI u) (nI 1) (inv_okR hI)) (cw_L_law_shelter hts) ((os_1 hI huS)) rfl rfl (Nat.le_of_ble_eq_true rfl) dL_law_665 ⟨by omega, by omega⟩ (by omega) (by omega) (fun H locs hP hD hS => ?_)
      refine lv_bipush (v := nI 10) hx hb dL_law_668 (by decide) ?_
      refine lv_icmp_gt (tgt := 722) hx hb dL_law_670 (by decide) (fun c82 => False.elim (absurd (tl.mp c82) (by rw [k_10]; omega))) (fun c82 => ?_)
      refine lv_aload_n hx hb dL_law_673 rfl (lv_at hl 7 rfl) ?_
      refine lv_iload hx hb dL_law_674 (lv_at hl 0 rfl) ?_
      refine lv_bipush (v := nI 7) hx hb dL_law_676 (by decide) ?_
      refine lr_call (τ := σ) (cells2 := cells + 17 * u + 8) (slots2 := slots + 102 * u + 48) C0 hP hD hS hl.1 [.int (nI u), .int (nI 7)] (c_X4_shelter l D cy ax ad ad2 σ (nI u) (nI 7) (inv_okR hI)) (cw_L_law_shelter hts) ((os_7 hI huS)) rfl rfl (Nat.le_of_ble_eq_true rfl) dL_law_678 ⟨by omega, by omega⟩ (by omega) (by omega) (fun H locs hP hD hS => ?_)
      refine lv_if_ge (tgt := 688) hx hb dL_law_681 (by decide) (fun c83 => ?_) (fun c83 => False.elim (c83 (tle.mpr (by rw [ti_0]; omega))))
      refine lv_iconst (v := nI 0) hx hb dL_law_688 (by decide) ?_
      refine lv_aload hx hb dL_law_689 (lv_at hl 4 rfl) ?_
      refine lv_iload hx hb dL_law_691 (lv_at hl 0 rfl) ?_
      refine lr_iald (X := (AW cy qa qb qc f g h)) C0 hP 1 rfl u (tn_nI (by omega)) (vp_in_nI (by omega) (by decide)) dL_law_693 ?_
      refine lv_if_ne (tgt := 701) hx hb dL_law_694 (by decide) (fun c84 => ?_) (fun c84 => False.elim (g0 c84))
      refine lv_iconst (v := nI 0) hx hb dL_law_701 (by decide) ?_
      refine lv_icmp_ne (tgt := 722) hx hb dL_law_702 (by decide) (fun c85 => False.elim (c85 rfl)) (fun c85 => ?_)
      refine lv_aload_n hx hb dL_law_705 rfl (lv_at hl 7 rfl) ?_
      refine lv_iload hx hb dL_law_706 (lv_at hl 0 rfl) ?_
      refine lv_iconst (v := nI 5) hx hb dL_law_708 (by decide) ?_
      refine lr_call (τ := σ) (cells2 := cells + 17 * u + 10) (slots2 := slots + 102 * u + 60) C0 hP hD hS hl.1 [.int (nI u), .int (nI 5)] (c_X4_shelter l D cy ax ad ad2 σ (nI u) (nI 5) (inv_okR hI)) (cw_L_law_shelter hts) ((os_5 hI huS)) rfl rfl (Nat.le_of_ble_eq_true rfl) dL_law_709 ⟨by omega, by omega⟩ (by omega) (by omega) (fun H locs hP hD hS => ?_)
      refine lv_aload_n hx hb dL_law_712 rfl (lv_at hl 7 rfl) ?_
      refine lv_iload hx hb dL_law_713 (lv_at hl 0 rfl) ?_
      refine lv_iconst (v := nI 4) hx hb dL_law_715 (by decide) ?_
      refine lr_call (τ := σ) (cells2 := cells + 17 * u + 12) (slots2 := slots + 102 * u + 72) C0 hP hD hS hl.1 [.int (nI u), .int (nI 4)] (c_X4_shelter l D cy ax ad ad2 σ (nI u) (nI 4) (inv_okR hI)) (cw_L_law_shelter hts) ((os_4 hI huS)) rfl rfl (Nat.le_of_ble_eq_true rfl) dL_law_716 ⟨by omega, by omega⟩ (by omega) (by omega) (fun H locs hP hD hS => ?_)
      refine lv_icmp_le (tgt := 724) hx hb dL_law_719 (by decide) (fun c86 => ?_) (fun c86 => False.elim (c86 (tle.mpr (by omega))))
      refine lv_iload hx hb dL_law_724 (lv_at hl 1 rfl) ?_
      refine lv_aload_n hx hb dL_law_726 rfl (lv_at hl 7 rfl) ?_
      refine lv_iload hx hb dL_law_727 (lv_at hl 0 rfl) ?_
      refine lv_iconst (v := nI 3) hx hb dL_law_729 (by decide) ?_
      refine lr_call (τ := σ) (cells2 := cells + 17 * u + 14) (slots2 := slots + 102 * u + 84) C0 hP hD hS hl.1 [.int (nI u), .int (nI 3)] (c_X4_shelter l D cy ax ad ad2 σ (nI u) (nI 3) (inv_okR hI)) (cw_L_law_shelter hts) ((os_3 hI huS)) rfl rfl (Nat.le_of_ble_eq_true rfl) dL_law_730 ⟨by omega, by omega⟩ (by omega) (by omega) (fun H locs hP hD hS => ?_)
      refine lv_iadd hx hb dL_law_733 ?_
      refine lv_topi (fun hr2 ehr2 => ?_)
      refine lv_istore (lv' := [(16, .int (hr2)), (17, .int (nI u)), (15, .int (ts)), (14, .ref (qc)), (13, .ref (qb)), (12, .ref (qa)), (0, .ref (b)), (1, .ref (ax 0)), (2, .int (nI nS)), (3, .int (nI t))]) hx hb dL_law_734 hl (by decide) rfl (fun ls hl => ?_)
      refine lv_iinc (v := nI (u + 1)) (lv' := [(17, .int (nI (u + 1))), (16, .int (hr2)), (15, .int (ts)), (14, .ref (qc)), (13, .ref (qb)), (12, .ref (qa)), (0, .ref (b)), (1, .ref (ax 0)), (2, .int (nI nS)), (3, .int (nI t))]) hx hb dL_law_736 hl (k := 1) rfl (nI_1 _) (by decide) rfl (fun ls hl => ?_)
      refine lv_goto (tgt := 630) hx hb dL_law_739 (by decide) ?_
      refine W.widen (k := cells + 17 * (u + 1)) (n := slots + 102 * (u + 1)) (by omega) (by omega) ?_
      exact ih (u + 1) hr2 H locs ls (by omega) (by rw [ehr2, ti_add (by rw [hct, hts9]; omega), hct, hts9]; rfl) hP hD hS (lv_sub hl [0, 1, 2, 3, 4, 5, 6, 7, 8, 9] rfl)
