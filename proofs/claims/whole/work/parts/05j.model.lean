def lp_X6_build_52 (σ : Sg × Sg × Sg) (x : Int32) (y : Int32)  : Nat → Nat → Int32 → Sg × Sg × Sg → Int32 × (Sg × Sg × Sg)
  | 0, k, fr, τ => (fr, τ)
  | n + 1, k, fr, τ => if fr = 0 then lp_X6_build_52 σ x y n (k + 1) (nI 0) τ else if (τ.2.1 1 k) = x then lp_X6_build_52 σ x y n (k + 1) (nI 0) τ else lp_X6_build_52 σ x y n (k + 1) (nI 1) τ
def s_X6_build (σ : Sg × Sg × Sg) (x : Int32) (y : Int32) : Int32 × (Sg × Sg × Sg) := ltt ((up σ.1 0 0 (nI 0), σ.2)) (fun u6 => ltt (s_X6_isIn x (nI 0) (nI 99)) (fun r7 => if r7 = 0 then ltt (s_X6_no u6 (nI 1)) (fun r9 => (r9.1, r9.2)) else ltt (s_X6_isIn y (nI 0) (nI 10)) (fun r10 => if r10 = 0 then ltt (s_X6_no u6 (nI 1)) (fun r29 => (r29.1, r29.2)) else if (nI 8) ≤ (nI (tn (σ.2.1 0 1))) then ltt (lp_X6_build_52 σ x y (tn (σ.2.1 0 1)) 0 (nI 0) u6) (fun q13 => if q13.1 = 0 then ltt (s_X6_no q13.2 (nI 2)) (fun r20 => (r20.1, r20.2)) else ltt ((q13.2.1, (up q13.2.2.1 1 (tn (σ.2.1 0 1)) x, q13.2.2.2))) (fun u16 => ltt ((u16.1, (up u16.2.1 2 (tn (σ.2.1 0 1)) y, u16.2.2))) (fun u18 => ltt ((u18.1, (up u18.2.1 0 1 (nI ((tn (σ.2.1 0 1)) + 1)), u18.2.2))) (fun u19 => ((u19.2.1 0 1) - (nI 1), u19))))) else ltt (lp_X6_build_52 σ x y (tn (σ.2.1 0 1)) 0 (nI 1) u6) (fun q21 => if q21.1 = 0 then ltt (s_X6_no q21.2 (nI 2)) (fun r28 => (r28.1, r28.2)) else ltt ((q21.2.1, (up q21.2.2.1 1 (tn (σ.2.1 0 1)) x, q21.2.2.2))) (fun u24 => ltt ((u24.1, (up u24.2.1 2 (tn (σ.2.1 0 1)) y, u24.2.2))) (fun u26 => ltt ((u26.1, (up u26.2.1 0 1 (nI ((tn (σ.2.1 0 1)) + 1)), u26.2.2))) (fun u27 => ((u27.2.1 0 1) - (nI 1), u27))))))))
abbrev rm_X6_build : Room := { frames := 1, cells := 0, slots := 0, locals := 22 }
set_option maxHeartbeats 4000000 in
set_option maxRecDepth 100000 in
theorem c_X6_build (l : Launch) (D : va_G) (cy : Nat → ClassId) (ax ad ad2 : Nat → Nat) (σ : Sg × Sg × Sg) (x : Int32) (y : Int32) (hI : OkN σ.2.1) : gMiN l yX6_build wsX6_build rm_X6_build D (Ty cy) (MW cy ax ad ad2) [.ref (ax 0), .int (x), .int (y)] σ (s_X6_build σ x y) 0 0 := by
  refine gstartiN cX6_build 5 RX6 (by decide) rfl rfl (Nat.le_of_ble_eq_true rfl) ?_
  intro p e s m below meth c A ls hx hb hml hown hts hr hlocks hK hP hD hA hS hl hnw
  have hl : lv_has ls 5 [(0, .ref (ax 0)), (1, .int (x)), (2, .int (y))] := hl
  have hf : s_X6_build σ x y = s_X6_build σ x y := rfl
  have hz : σ.2.1 0 = σ.2.1 0 := rfl
  have hin6 : ∀ w ∈ wsX60, w ∈ wsX6_build := by decide +kernel
  have hin5 : ∀ w ∈ wsX50, w ∈ wsX6_build := by decide +kernel
  have wd0 := hts (.fieldLink RX6 18 "UmbrellaLandModel" "s" "LUmbrellaLandModel$State;") (by decide +kernel)
  have wd1 := hts (.fieldLink RX6 25 "UmbrellaLandModel" "thrown" "I") (by decide +kernel)
  have n1 := hI.n1
  have loop52 : ∀  (n k : Nat) (fr : Int32) (τ : Sg × Sg × Sg) (H : Heap) (locs : List Loc) (ls : Array Slot), n = tn (σ.2.1 0 1) - k ∧ k ≤ tn (σ.2.1 0 1) + 1 → τ.2.1 0 = σ.2.1 0 → (¬ fr = 0 → tn (σ.2.1 0 1) < 8) → va_P D vwCl ((MW cy ax ad ad2) τ) H → va_D A ((MW cy ax ad ad2) τ) → va_S A s.heap H locs → lv_has ls 5 [(0, .ref (ax 0)), (1, .int (x)), (2, .int (y)), (3, .int (fr)), (4, .int (nI k))] → (∀ u : Int32 × (Sg × Sg × Sg), u = lp_X6_build_52 σ x y n k fr τ → u.2.2.1 0 = σ.2.1 0 → (¬ u.1 = 0 → tn (σ.2.1 0 1) < 8) → ∀ (H : Heap) (locs : List Loc) (ls : Array Slot), va_P D vwCl ((MW cy ax ad ad2) u.2) H → va_D A ((MW cy ax ad ad2) u.2) → va_S A s.heap H locs → lv_has ls 5 [(0, .ref (ax 0)), (1, .int (x)), (2, .int (y)), (3, .int (u.1))] → W p l e rm_X6_build s m [.ref (ax 0), .int (x), .int (y)].toArray below meth c H locs 0 0 (MQ below (va_Qi (fun r u => (r, u) = s_X6_build σ x y) (gPost D (MW cy ax ad ad2) A) A) [.ref (ax 0), .int (x), .int (y)].toArray s 0 0 A) (F0 m 94 ls [])) → W p l e rm_X6_build s m [.ref (ax 0), .int (x), .int (y)].toArray below meth c H locs 0 0 (MQ below (va_Qi (fun r u => (r, u) = s_X6_build σ x y) (gPost D (MW cy ax ad ad2) A) A) [.ref (ax 0), .int (x), .int (y)].toArray s 0 0 A) (F0 m 52 ls []) := by
    intro n
    induction n with
    | zero =>
      intro k fr τ H locs ls hN hz hi0 hP hD hS hl K
      have hf : lp_X6_build_52 σ x y 0 k fr τ = lp_X6_build_52 σ x y 0 k fr τ := rfl
      refine lv_iload hx hb dX6_build_52 (lv_at hl 4 rfl) ?_
      refine lv_aload_n hx hb dX6_build_54 rfl (lv_at hl 0 rfl) ?_
      refine va_get (D := D) (ci := 6) (v := .ref (ad 0)) (C := RX6) (T := TX6) (N := 4) hx hb hts hin6 hown hK hP (0) (gx_l (OW_ob cy ax (ad 0) (ad2 0) τ.1)) rfl 2 (by decide) wd0 (fun _ h9 => h9) rfl dX6_build_55 ?_
      refine va_getN (D := D) (ci := 5) (v := .int (τ.2.1 0 1)) (C := RX5) (T := TX5) (N := 22) hx hb hts hin5 hown hK hP (2 + (0)) (gx_r (WD_len _ _ _ _) (gx_l (SW_ob cy (ax 0) ad τ.2.1))) rfl 1 (by decide) (nl_29 hnw) (fun _ h9 => h9) rfl dX6_build_58 ?_
      refine g_top ((congrFun hz 1).trans hI.c1) ?_
      refine lv_icmp_ge (tgt := 94) hx hb dX6_build_61 (by decide) (fun c1 => ?_) (fun c1 => absurd (nI_le (by omega) (by omega)) c1)
      exact K (fr, τ) hf.symm hz hi0 _ _ _ hP hD hS (lv_sub hl [0, 1, 2, 3] rfl)
    | succ n ih =>
      intro k fr τ H locs ls hN hz hi0 hP hD hS hl K
      have hf : lp_X6_build_52 σ x y (n + 1) k fr τ = lp_X6_build_52 σ x y (n + 1) k fr τ := rfl
      refine lv_iload hx hb dX6_build_52 (lv_at hl 4 rfl) ?_
      refine lv_aload_n hx hb dX6_build_54 rfl (lv_at hl 0 rfl) ?_
      refine va_get (D := D) (ci := 6) (v := .ref (ad 0)) (C := RX6) (T := TX6) (N := 4) hx hb hts hin6 hown hK hP (0) (gx_l (OW_ob cy ax (ad 0) (ad2 0) τ.1)) rfl 2 (by decide) wd0 (fun _ h9 => h9) rfl dX6_build_55 ?_
      refine va_getN (D := D) (ci := 5) (v := .int (τ.2.1 0 1)) (C := RX5) (T := TX5) (N := 22) hx hb hts hin5 hown hK hP (2 + (0)) (gx_r (WD_len _ _ _ _) (gx_l (SW_ob cy (ax 0) ad τ.2.1))) rfl 1 (by decide) (nl_29 hnw) (fun _ h9 => h9) rfl dX6_build_58 ?_
      refine g_top ((congrFun hz 1).trans hI.c1) ?_
      refine lv_icmp_ge (tgt := 94) hx hb dX6_build_61 (by decide) (fun c2 => absurd c2 (nI_ge (by omega) (by omega))) (fun c2 => ?_)
      refine lv_iload_n hx hb dX6_build_64 rfl (lv_at hl 3 rfl) ?_
      refine lv_if_eq (tgt := 86) hx hb dX6_build_65 (by decide) (fun c3 => ?_) (fun c3 => ?_)
      · replace hf := hf.trans (if_pos c3)
        refine lv_iconst (v := nI 0) hx hb dX6_build_86 (by decide) ?_
        refine lv_istore_n (lv' := [(3, .int (nI 0)), (0, .ref (ax 0)), (1, .int (x)), (2, .int (y)), (4, .int (nI k))]) hx hb dX6_build_87 rfl hl (by decide) rfl (fun ls hl => ?_)
        refine lv_iinc (v := nI (k + 1)) (lv' := [(4, .int (nI (k + 1))), (3, .int (nI 0)), (0, .ref (ax 0)), (1, .int (x)), (2, .int (y))]) hx hb dX6_build_88 hl (k := 4) rfl (nI_1 _) (by decide) rfl (fun ls hl => ?_)
        refine lv_goto (tgt := 52) hx hb dX6_build_91 (by decide) ?_
        exact ih (k + 1) (nI 0) τ _ _ _ (by omega) hz (by first | exact fun h9 => absurd nI_0 h9 | exact fun _ => hi0 c3) hP hD hS (lv_sub hl [2, 3, 4, 1, 0] rfl) (fun u eu => K u (eu.trans hf.symm))
      · replace hf := hf.trans (if_neg c3)
        refine lv_aload_n hx hb dX6_build_68 rfl (lv_at hl 0 rfl) ?_
        refine va_get (D := D) (ci := 6) (v := .ref (ad 0)) (C := RX6) (T := TX6) (N := 4) hx hb hts hin6 hown hK hP (0) (gx_l (OW_ob cy ax (ad 0) (ad2 0) τ.1)) rfl 2 (by decide) wd0 (fun _ h9 => h9) rfl dX6_build_69 ?_
        refine va_getN (D := D) (ci := 5) (v := .ref (ad 1)) (C := RX5) (T := TX5) (N := 22) hx hb hts hin5 hown hK hP (2 + (0)) (gx_r (WD_len _ _ _ _) (gx_l (SW_ob cy (ax 0) ad τ.2.1))) rfl 2 (by decide) (nl_43 hnw) (fun _ h9 => h9) rfl dX6_build_72 ?_
        refine lv_iload hx hb dX6_build_75 (lv_at hl 4 rfl) ?_
        have h4 : k < 8 := by omega
        refine g_iald hx hb hK hP (2 + (1)) 0 k (gx_r (WD_len _ _ _ _) (gx_l (SW_1 cy (ax 0) ad τ.2.1))) rfl (nI_clamp (by omega)) (vp_in_nI h4 (by decide)) dX6_build_77 ?_
        refine lv_iload_n hx hb dX6_build_78 rfl (lv_at hl 1 rfl) ?_
        refine lv_icmp_eq (tgt := 86) hx hb dX6_build_79 (by decide) (fun c5 => ?_) (fun c5 => ?_)
        · replace hf := hf.trans (if_pos c5)
          refine lv_iconst (v := nI 0) hx hb dX6_build_86 (by decide) ?_
          refine lv_istore_n (lv' := [(3, .int (nI 0)), (0, .ref (ax 0)), (1, .int (x)), (2, .int (y)), (4, .int (nI k))]) hx hb dX6_build_87 rfl hl (by decide) rfl (fun ls hl => ?_)
          refine lv_iinc (v := nI (k + 1)) (lv' := [(4, .int (nI (k + 1))), (3, .int (nI 0)), (0, .ref (ax 0)), (1, .int (x)), (2, .int (y))]) hx hb dX6_build_88 hl (k := 4) rfl (nI_1 _) (by decide) rfl (fun ls hl => ?_)
          refine lv_goto (tgt := 52) hx hb dX6_build_91 (by decide) ?_
          exact ih (k + 1) (nI 0) τ _ _ _ (by omega) hz (by first | exact fun h9 => absurd nI_0 h9 | exact fun _ => hi0 c3) hP hD hS (lv_sub hl [2, 3, 4, 1, 0] rfl) (fun u eu => K u (eu.trans hf.symm))
        · replace hf := hf.trans (if_neg c5)
          refine lv_iconst (v := nI 1) hx hb dX6_build_82 (by decide) ?_
          refine lv_goto (tgt := 87) hx hb dX6_build_83 (by decide) ?_
          refine lv_istore_n (lv' := [(3, .int (nI 1)), (0, .ref (ax 0)), (1, .int (x)), (2, .int (y)), (4, .int (nI k))]) hx hb dX6_build_87 rfl hl (by decide) rfl (fun ls hl => ?_)
          refine lv_iinc (v := nI (k + 1)) (lv' := [(4, .int (nI (k + 1))), (3, .int (nI 1)), (0, .ref (ax 0)), (1, .int (x)), (2, .int (y))]) hx hb dX6_build_88 hl (k := 4) rfl (nI_1 _) (by decide) rfl (fun ls hl => ?_)
          refine lv_goto (tgt := 52) hx hb dX6_build_91 (by decide) ?_
          exact ih (k + 1) (nI 1) τ _ _ _ (by omega) hz (by first | exact fun h9 => absurd nI_0 h9 | exact fun _ => hi0 c3) hP hD hS (lv_sub hl [2, 3, 4, 1, 0] rfl) (fun u eu => K u (eu.trans hf.symm))
  refine lv_aload_n hx hb dX6_build_0 rfl (lv_at hl 0 rfl) ?_
  refine lv_iconst (v := nI 0) hx hb dX6_build_1 (by decide) ?_
  refine g_put (σ1 := (up σ.1 0 0 (nI 0), σ.2)) (fs := moF ax (ad 0) (ad2 0) (σ.1 0)) (C := RX6) (T := TX6) (N := 4) hx hb hts hin6 tyX6_ok nmX6 hown hK hP hD hS (0) (gx_l (OW_ob cy ax (ad 0) (ad2 0) σ.1)) rfl 0 (by decide) wd1 rfl rfl (Nat.le_of_ble_eq_true rfl) (gx_setl (by rw [WD_len]; omega) (OW_ob_set cy ax (ad 0) (ad2 0) σ.1 0 (by decide) _)) dX6_build_2 ?_
  intro u6 eu6 H locs hP hD hS
  replace hf := hf.trans (ltt_r eu6)
  have hz : u6.2.1 0 = σ.2.1 0 := by rw [eu6]; first | done | exact hz
  refine lv_iload_n hx hb dX6_build_5 rfl (lv_at hl 1 rfl) ?_
  refine lv_iconst (v := nI 0) hx hb dX6_build_6 (by decide) ?_
  refine lv_bipush (v := nI 99) hx hb dX6_build_7 (by decide) ?_
  refine g_callsr (wf := (MW cy ax ad ad2)) (σ := u6) (wfc := w0) (σc := ()) hx hb hml hown hts hK hP hD hS hA hl.1 ((MW cy ax ad ad2) u6) (List.Perm.refl _) [.int (x), .int (nI 0), .int (nI 99)] (c_X6_isIn l D cy x (nI 0) (nI 99) ) (va_cwS 3 hts gX6_build_X6_isIn rfl rfl rfl (by decide +kernel) ⟨Nat.le_of_ble_eq_true rfl, Nat.le_of_ble_eq_true rfl⟩) rfl rfl (Nat.le_of_ble_eq_true rfl) dX6_build_9 ⟨Nat.le_of_ble_eq_true rfl, Nat.le_of_ble_eq_true rfl⟩ rfl rfl ?_
  intro r7 er7 H locs hP hD hS
  replace hf := hf.trans (ltt_r er7)
  refine lv_if_eq (tgt := 25) hx hb dX6_build_12 (by decide) (fun c8 => ?_) (fun c8 => ?_)
  · replace hf := hf.trans (if_pos c8)
    refine lv_aload_n hx hb dX6_build_25 rfl (lv_at hl 0 rfl) ?_
    refine lv_iconst (v := nI 1) hx hb dX6_build_26 (by decide) ?_
    refine g_calliN (q0 := 0) hnw (wf := (MW cy ax ad ad2)) (σ := u6) (wfc := (MW cy ax ad ad2)) (σc := u6) hx hb hml hown hts hK hP hD hS hA hl.1 [] pm_0 (fun u => u) (fun _ => pm_0b) [.int (nI 1)] (c_X6_no l D cy ax ad ad2 u6 (nI 1) ) (cwV 1 hts gX6_build_X6_no rfl rfl rfl (by decide +kernel) ⟨Nat.le_of_ble_eq_true rfl, Nat.le_of_ble_eq_true rfl⟩) (gx_l (OW_ob cy ax (ad 0) (ad2 0) u6.1)) rfl rfl rfl rfl (Nat.le_of_ble_eq_true rfl) dX6_build_27 ⟨Nat.le_of_ble_eq_true rfl, Nat.le_of_ble_eq_true rfl⟩ rfl rfl ?_
    intro r9 er9 H locs hP hD hS
    replace hf := hf.trans (ltt_r er9)
    exact g_endi hx hb hr hlocks rfl hf hP hD hS (Nat.le_of_ble_eq_true rfl) (Nat.le_of_ble_eq_true rfl) dX6_build_30
  · replace hf := hf.trans (if_neg c8)
    refine lv_iload_n hx hb dX6_build_15 rfl (lv_at hl 2 rfl) ?_
    refine lv_iconst (v := nI 0) hx hb dX6_build_16 (by decide) ?_
    refine lv_bipush (v := nI 10) hx hb dX6_build_17 (by decide) ?_
    refine g_callsr (wf := (MW cy ax ad ad2)) (σ := u6) (wfc := w0) (σc := ()) hx hb hml hown hts hK hP hD hS hA hl.1 ((MW cy ax ad ad2) u6) (List.Perm.refl _) [.int (y), .int (nI 0), .int (nI 10)] (c_X6_isIn l D cy y (nI 0) (nI 10) ) (va_cwS 3 hts gX6_build_X6_isIn rfl rfl rfl (by decide +kernel) ⟨Nat.le_of_ble_eq_true rfl, Nat.le_of_ble_eq_true rfl⟩) rfl rfl (Nat.le_of_ble_eq_true rfl) dX6_build_19 ⟨Nat.le_of_ble_eq_true rfl, Nat.le_of_ble_eq_true rfl⟩ rfl rfl ?_
    intro r10 er10 H locs hP hD hS
    replace hf := hf.trans (ltt_r er10)
    refine lv_if_ne (tgt := 31) hx hb dX6_build_22 (by decide) (fun c11 => ?_) (fun c11 => ?_)
    · replace hf := hf.trans (if_neg c11)
      refine lv_aload_n hx hb dX6_build_31 rfl (lv_at hl 0 rfl) ?_
      refine va_get (D := D) (ci := 6) (v := .ref (ad 0)) (C := RX6) (T := TX6) (N := 4) hx hb hts hin6 hown hK hP (0) (gx_l (OW_ob cy ax (ad 0) (ad2 0) u6.1)) rfl 2 (by decide) wd0 (fun _ h9 => h9) rfl dX6_build_32 ?_
      refine va_getN (D := D) (ci := 5) (v := .int (u6.2.1 0 1)) (C := RX5) (T := TX5) (N := 22) hx hb hts hin5 hown hK hP (2 + (0)) (gx_r (WD_len _ _ _ _) (gx_l (SW_ob cy (ax 0) ad u6.2.1))) rfl 1 (by decide) (nl_29 hnw) (fun _ h9 => h9) rfl dX6_build_35 ?_
      refine g_top ((congrFun hz 1).trans hI.c1) ?_
      refine lv_bipush (v := nI 8) hx hb dX6_build_38 (by decide) ?_
      refine lv_icmp_ge (tgt := 47) hx hb dX6_build_40 (by decide) (fun c12 => ?_) (fun c12 => ?_)
      · replace hf := hf.trans (if_pos c12)
        refine lv_iconst (v := nI 0) hx hb dX6_build_47 (by decide) ?_
        refine lv_istore_n (lv' := [(3, .int (nI 0)), (0, .ref (ax 0)), (1, .int (x)), (2, .int (y))]) hx hb dX6_build_48 rfl hl (by decide) rfl (fun ls hl => ?_)
        refine lv_iconst (v := nI 0) hx hb dX6_build_49 (by decide) ?_
        refine lv_istore (lv' := [(4, .int (nI 0)), (3, .int (nI 0)), (0, .ref (ax 0)), (1, .int (x)), (2, .int (y))]) hx hb dX6_build_50 hl (by decide) rfl (fun ls hl => ?_)
        refine loop52  (tn (σ.2.1 0 1)) 0 (nI 0) u6 _ _ _ (by omega) hz (by first | exact fun h9 => absurd nI_0 h9 | (intro _; have h9 := c12; rw [nI_leI (by omega) (by omega)] at h9; omega)) hP hD hS (lv_sub hl [2, 3, 4, 1, 0] rfl) ?_
        intro q13 eq13 hz hk1 H locs ls hP hD hS hl
        replace hf := hf.trans (ltt_r eq13)
        refine lv_iload_n hx hb dX6_build_94 rfl (lv_at hl 3 rfl) ?_
        refine lv_if_ne (tgt := 104) hx hb dX6_build_95 (by decide) (fun c14 => ?_) (fun c14 => ?_)
        · replace hf := hf.trans (if_neg c14)
          refine lv_aload_n hx hb dX6_build_104 rfl (lv_at hl 0 rfl) ?_
          refine va_get (D := D) (ci := 6) (v := .ref (ad 0)) (C := RX6) (T := TX6) (N := 4) hx hb hts hin6 hown hK hP (0) (gx_l (OW_ob cy ax (ad 0) (ad2 0) q13.2.1)) rfl 2 (by decide) wd0 (fun _ h9 => h9) rfl dX6_build_105 ?_
          refine va_getN (D := D) (ci := 5) (v := .ref (ad 1)) (C := RX5) (T := TX5) (N := 22) hx hb hts hin5 hown hK hP (2 + (0)) (gx_r (WD_len _ _ _ _) (gx_l (SW_ob cy (ax 0) ad q13.2.2.1))) rfl 2 (by decide) (nl_43 hnw) (fun _ h9 => h9) rfl dX6_build_108 ?_
          refine lv_aload_n hx hb dX6_build_111 rfl (lv_at hl 0 rfl) ?_
          refine va_get (D := D) (ci := 6) (v := .ref (ad 0)) (C := RX6) (T := TX6) (N := 4) hx hb hts hin6 hown hK hP (0) (gx_l (OW_ob cy ax (ad 0) (ad2 0) q13.2.1)) rfl 2 (by decide) wd0 (fun _ h9 => h9) rfl dX6_build_112 ?_
          refine va_getN (D := D) (ci := 5) (v := .int (q13.2.2.1 0 1)) (C := RX5) (T := TX5) (N := 22) hx hb hts hin5 hown hK hP (2 + (0)) (gx_r (WD_len _ _ _ _) (gx_l (SW_ob cy (ax 0) ad q13.2.2.1))) rfl 1 (by decide) (nl_29 hnw) (fun _ h9 => h9) rfl dX6_build_115 ?_
          refine g_top ((congrFun hz 1).trans hI.c1) ?_
          refine lv_iload_n hx hb dX6_build_118 rfl (lv_at hl 1 rfl) ?_
          have h15 : tn (σ.2.1 0 1) < 8 := hk1 c14
          refine g_iast (σ1 := (q13.2.1, (up q13.2.2.1 1 (tn (σ.2.1 0 1)) x, q13.2.2.2))) hx hb hK hP hD hS (2 + (1)) 0 (tn (σ.2.1 0 1)) (gx_r (WD_len _ _ _ _) (gx_l (SW_1 cy (ax 0) ad q13.2.2.1))) rfl (nI_clamp (by omega)) (vp_in_nI h15 (by decide)) (gx_setr (WD_len _ _ _ _) (gx_setl (by rw [WD_len]; omega) (SW_1_set cy (ax 0) ad q13.2.2.1 (tn (σ.2.1 0 1)) _))) dX6_build_119 ?_
          intro u16 eu16 H locs hP hD hS
          replace hf := hf.trans (ltt_r eu16)
          have hz : u16.2.1 0 = σ.2.1 0 := by rw [eu16]; exact keep_up rfl (by decide) hz
          refine lv_aload_n hx hb dX6_build_120 rfl (lv_at hl 0 rfl) ?_
          refine va_get (D := D) (ci := 6) (v := .ref (ad 0)) (C := RX6) (T := TX6) (N := 4) hx hb hts hin6 hown hK hP (0) (gx_l (OW_ob cy ax (ad 0) (ad2 0) u16.1)) rfl 2 (by decide) wd0 (fun _ h9 => h9) rfl dX6_build_121 ?_
          refine va_getN (D := D) (ci := 5) (v := .ref (ad 2)) (C := RX5) (T := TX5) (N := 22) hx hb hts hin5 hown hK hP (2 + (0)) (gx_r (WD_len _ _ _ _) (gx_l (SW_ob cy (ax 0) ad u16.2.1))) rfl 3 (by decide) (nl_46 hnw) (fun _ h9 => h9) rfl dX6_build_124 ?_
          refine lv_aload_n hx hb dX6_build_127 rfl (lv_at hl 0 rfl) ?_
          refine va_get (D := D) (ci := 6) (v := .ref (ad 0)) (C := RX6) (T := TX6) (N := 4) hx hb hts hin6 hown hK hP (0) (gx_l (OW_ob cy ax (ad 0) (ad2 0) u16.1)) rfl 2 (by decide) wd0 (fun _ h9 => h9) rfl dX6_build_128 ?_
          refine va_getN (D := D) (ci := 5) (v := .int (u16.2.1 0 1)) (C := RX5) (T := TX5) (N := 22) hx hb hts hin5 hown hK hP (2 + (0)) (gx_r (WD_len _ _ _ _) (gx_l (SW_ob cy (ax 0) ad u16.2.1))) rfl 1 (by decide) (nl_29 hnw) (fun _ h9 => h9) rfl dX6_build_131 ?_
          refine g_top ((congrFun hz 1).trans hI.c1) ?_
          refine lv_iload_n hx hb dX6_build_134 rfl (lv_at hl 2 rfl) ?_
          have h17 : tn (σ.2.1 0 1) < 8 := hk1 c14
          refine g_iast (σ1 := (u16.1, (up u16.2.1 2 (tn (σ.2.1 0 1)) y, u16.2.2))) hx hb hK hP hD hS (2 + (2)) 0 (tn (σ.2.1 0 1)) (gx_r (WD_len _ _ _ _) (gx_l (SW_2 cy (ax 0) ad u16.2.1))) rfl (nI_clamp (by omega)) (vp_in_nI h17 (by decide)) (gx_setr (WD_len _ _ _ _) (gx_setl (by rw [WD_len]; omega) (SW_2_set cy (ax 0) ad u16.2.1 (tn (σ.2.1 0 1)) _))) dX6_build_135 ?_
          intro u18 eu18 H locs hP hD hS
          replace hf := hf.trans (ltt_r eu18)
          have hz : u18.2.1 0 = σ.2.1 0 := by rw [eu18]; exact keep_up rfl (by decide) hz
          refine lv_aload_n hx hb dX6_build_136 rfl (lv_at hl 0 rfl) ?_
          refine va_get (D := D) (ci := 6) (v := .ref (ad 0)) (C := RX6) (T := TX6) (N := 4) hx hb hts hin6 hown hK hP (0) (gx_l (OW_ob cy ax (ad 0) (ad2 0) u18.1)) rfl 2 (by decide) wd0 (fun _ h9 => h9) rfl dX6_build_137 ?_
          refine lv_dup hx hb dX6_build_140 rfl ?_
          refine va_getN (D := D) (ci := 5) (v := .int (u18.2.1 0 1)) (C := RX5) (T := TX5) (N := 22) hx hb hts hin5 hown hK hP (2 + (0)) (gx_r (WD_len _ _ _ _) (gx_l (SW_ob cy (ax 0) ad u18.2.1))) rfl 1 (by decide) (nl_29 hnw) (fun _ h9 => h9) rfl dX6_build_141 ?_
          refine g_top ((congrFun hz 1).trans hI.c1) ?_
          refine lv_iconst (v := nI 1) hx hb dX6_build_144 (by decide) ?_
          refine lv_iadd hx hb dX6_build_145 ?_
          refine g_top (nI_add _ _) ?_
          refine g_putN (σ1 := (u18.1, (up u18.2.1 0 1 (nI ((tn (σ.2.1 0 1)) + 1)), u18.2.2))) (fs := stF (ax 0) ad (u18.2.1 0)) (C := RX5) (T := TX5) (N := 22) hx hb hts hin5 tyX5_ok nmX5 hown hK hP hD hS (2 + (0)) (gx_r (WD_len _ _ _ _) (gx_l (SW_ob cy (ax 0) ad u18.2.1))) rfl 1 (by decide) (nl_29 hnw) rfl rfl (Nat.le_of_ble_eq_true rfl) (gx_setr (WD_len _ _ _ _) (gx_setl (by rw [WD_len]; omega) (SW_ob_set cy (ax 0) ad u18.2.1 1 (by decide) _))) dX6_build_146 ?_
          intro u19 eu19 H locs hP hD hS
          replace hf := hf.trans (ltt_r eu19)
          refine lv_aload_n hx hb dX6_build_149 rfl (lv_at hl 0 rfl) ?_
          refine va_get (D := D) (ci := 6) (v := .ref (ad 0)) (C := RX6) (T := TX6) (N := 4) hx hb hts hin6 hown hK hP (0) (gx_l (OW_ob cy ax (ad 0) (ad2 0) u19.1)) rfl 2 (by decide) wd0 (fun _ h9 => h9) rfl dX6_build_150 ?_
          refine va_getN (D := D) (ci := 5) (v := .int (u19.2.1 0 1)) (C := RX5) (T := TX5) (N := 22) hx hb hts hin5 hown hK hP (2 + (0)) (gx_r (WD_len _ _ _ _) (gx_l (SW_ob cy (ax 0) ad u19.2.1))) rfl 1 (by decide) (nl_29 hnw) (fun _ h9 => h9) rfl dX6_build_153 ?_
          refine lv_iconst (v := nI 1) hx hb dX6_build_156 (by decide) ?_
          refine lv_isub hx hb dX6_build_157 ?_
          exact g_endi hx hb hr hlocks rfl hf hP hD hS (Nat.le_of_ble_eq_true rfl) (Nat.le_of_ble_eq_true rfl) dX6_build_158
        · replace hf := hf.trans (if_pos c14)
          refine lv_aload_n hx hb dX6_build_98 rfl (lv_at hl 0 rfl) ?_
          refine lv_iconst (v := nI 2) hx hb dX6_build_99 (by decide) ?_
          refine g_calliN (q0 := 0) hnw (wf := (MW cy ax ad ad2)) (σ := q13.2) (wfc := (MW cy ax ad ad2)) (σc := q13.2) hx hb hml hown hts hK hP hD hS hA hl.1 [] pm_0 (fun u => u) (fun _ => pm_0b) [.int (nI 2)] (c_X6_no l D cy ax ad ad2 q13.2 (nI 2) ) (cwV 1 hts gX6_build_X6_no rfl rfl rfl (by decide +kernel) ⟨Nat.le_of_ble_eq_true rfl, Nat.le_of_ble_eq_true rfl⟩) (gx_l (OW_ob cy ax (ad 0) (ad2 0) q13.2.1)) rfl rfl rfl rfl (Nat.le_of_ble_eq_true rfl) dX6_build_100 ⟨Nat.le_of_ble_eq_true rfl, Nat.le_of_ble_eq_true rfl⟩ rfl rfl ?_
          intro r20 er20 H locs hP hD hS
          replace hf := hf.trans (ltt_r er20)
          exact g_endi hx hb hr hlocks rfl hf hP hD hS (Nat.le_of_ble_eq_true rfl) (Nat.le_of_ble_eq_true rfl) dX6_build_103
      · replace hf := hf.trans (if_neg c12)
        refine lv_iconst (v := nI 1) hx hb dX6_build_43 (by decide) ?_
        refine lv_goto (tgt := 48) hx hb dX6_build_44 (by decide) ?_
        refine lv_istore_n (lv' := [(3, .int (nI 1)), (0, .ref (ax 0)), (1, .int (x)), (2, .int (y))]) hx hb dX6_build_48 rfl hl (by decide) rfl (fun ls hl => ?_)
        refine lv_iconst (v := nI 0) hx hb dX6_build_49 (by decide) ?_
        refine lv_istore (lv' := [(4, .int (nI 0)), (3, .int (nI 1)), (0, .ref (ax 0)), (1, .int (x)), (2, .int (y))]) hx hb dX6_build_50 hl (by decide) rfl (fun ls hl => ?_)
        refine loop52  (tn (σ.2.1 0 1)) 0 (nI 1) u6 _ _ _ (by omega) hz (by first | exact fun h9 => absurd nI_0 h9 | (intro _; have h9 := c12; rw [nI_leI (by omega) (by omega)] at h9; omega)) hP hD hS (lv_sub hl [2, 3, 4, 1, 0] rfl) ?_
        intro q21 eq21 hz hk1 H locs ls hP hD hS hl
        replace hf := hf.trans (ltt_r eq21)
        refine lv_iload_n hx hb dX6_build_94 rfl (lv_at hl 3 rfl) ?_
        refine lv_if_ne (tgt := 104) hx hb dX6_build_95 (by decide) (fun c22 => ?_) (fun c22 => ?_)
        · replace hf := hf.trans (if_neg c22)
          refine lv_aload_n hx hb dX6_build_104 rfl (lv_at hl 0 rfl) ?_
          refine va_get (D := D) (ci := 6) (v := .ref (ad 0)) (C := RX6) (T := TX6) (N := 4) hx hb hts hin6 hown hK hP (0) (gx_l (OW_ob cy ax (ad 0) (ad2 0) q21.2.1)) rfl 2 (by decide) wd0 (fun _ h9 => h9) rfl dX6_build_105 ?_
          refine va_getN (D := D) (ci := 5) (v := .ref (ad 1)) (C := RX5) (T := TX5) (N := 22) hx hb hts hin5 hown hK hP (2 + (0)) (gx_r (WD_len _ _ _ _) (gx_l (SW_ob cy (ax 0) ad q21.2.2.1))) rfl 2 (by decide) (nl_43 hnw) (fun _ h9 => h9) rfl dX6_build_108 ?_
          refine lv_aload_n hx hb dX6_build_111 rfl (lv_at hl 0 rfl) ?_
          refine va_get (D := D) (ci := 6) (v := .ref (ad 0)) (C := RX6) (T := TX6) (N := 4) hx hb hts hin6 hown hK hP (0) (gx_l (OW_ob cy ax (ad 0) (ad2 0) q21.2.1)) rfl 2 (by decide) wd0 (fun _ h9 => h9) rfl dX6_build_112 ?_
          refine va_getN (D := D) (ci := 5) (v := .int (q21.2.2.1 0 1)) (C := RX5) (T := TX5) (N := 22) hx hb hts hin5 hown hK hP (2 + (0)) (gx_r (WD_len _ _ _ _) (gx_l (SW_ob cy (ax 0) ad q21.2.2.1))) rfl 1 (by decide) (nl_29 hnw) (fun _ h9 => h9) rfl dX6_build_115 ?_
          refine g_top ((congrFun hz 1).trans hI.c1) ?_
          refine lv_iload_n hx hb dX6_build_118 rfl (lv_at hl 1 rfl) ?_
          have h23 : tn (σ.2.1 0 1) < 8 := hk1 c22
          refine g_iast (σ1 := (q21.2.1, (up q21.2.2.1 1 (tn (σ.2.1 0 1)) x, q21.2.2.2))) hx hb hK hP hD hS (2 + (1)) 0 (tn (σ.2.1 0 1)) (gx_r (WD_len _ _ _ _) (gx_l (SW_1 cy (ax 0) ad q21.2.2.1))) rfl (nI_clamp (by omega)) (vp_in_nI h23 (by decide)) (gx_setr (WD_len _ _ _ _) (gx_setl (by rw [WD_len]; omega) (SW_1_set cy (ax 0) ad q21.2.2.1 (tn (σ.2.1 0 1)) _))) dX6_build_119 ?_
          intro u24 eu24 H locs hP hD hS
          replace hf := hf.trans (ltt_r eu24)
          have hz : u24.2.1 0 = σ.2.1 0 := by rw [eu24]; exact keep_up rfl (by decide) hz
          refine lv_aload_n hx hb dX6_build_120 rfl (lv_at hl 0 rfl) ?_
          refine va_get (D := D) (ci := 6) (v := .ref (ad 0)) (C := RX6) (T := TX6) (N := 4) hx hb hts hin6 hown hK hP (0) (gx_l (OW_ob cy ax (ad 0) (ad2 0) u24.1)) rfl 2 (by decide) wd0 (fun _ h9 => h9) rfl dX6_build_121 ?_
          refine va_getN (D := D) (ci := 5) (v := .ref (ad 2)) (C := RX5) (T := TX5) (N := 22) hx hb hts hin5 hown hK hP (2 + (0)) (gx_r (WD_len _ _ _ _) (gx_l (SW_ob cy (ax 0) ad u24.2.1))) rfl 3 (by decide) (nl_46 hnw) (fun _ h9 => h9) rfl dX6_build_124 ?_
          refine lv_aload_n hx hb dX6_build_127 rfl (lv_at hl 0 rfl) ?_
          refine va_get (D := D) (ci := 6) (v := .ref (ad 0)) (C := RX6) (T := TX6) (N := 4) hx hb hts hin6 hown hK hP (0) (gx_l (OW_ob cy ax (ad 0) (ad2 0) u24.1)) rfl 2 (by decide) wd0 (fun _ h9 => h9) rfl dX6_build_128 ?_
          refine va_getN (D := D) (ci := 5) (v := .int (u24.2.1 0 1)) (C := RX5) (T := TX5) (N := 22) hx hb hts hin5 hown hK hP (2 + (0)) (gx_r (WD_len _ _ _ _) (gx_l (SW_ob cy (ax 0) ad u24.2.1))) rfl 1 (by decide) (nl_29 hnw) (fun _ h9 => h9) rfl dX6_build_131 ?_
          refine g_top ((congrFun hz 1).trans hI.c1) ?_
          refine lv_iload_n hx hb dX6_build_134 rfl (lv_at hl 2 rfl) ?_
          have h25 : tn (σ.2.1 0 1) < 8 := hk1 c22
          refine g_iast (σ1 := (u24.1, (up u24.2.1 2 (tn (σ.2.1 0 1)) y, u24.2.2))) hx hb hK hP hD hS (2 + (2)) 0 (tn (σ.2.1 0 1)) (gx_r (WD_len _ _ _ _) (gx_l (SW_2 cy (ax 0) ad u24.2.1))) rfl (nI_clamp (by omega)) (vp_in_nI h25 (by decide)) (gx_setr (WD_len _ _ _ _) (gx_setl (by rw [WD_len]; omega) (SW_2_set cy (ax 0) ad u24.2.1 (tn (σ.2.1 0 1)) _))) dX6_build_135 ?_
          intro u26 eu26 H locs hP hD hS
          replace hf := hf.trans (ltt_r eu26)
          have hz : u26.2.1 0 = σ.2.1 0 := by rw [eu26]; exact keep_up rfl (by decide) hz
          refine lv_aload_n hx hb dX6_build_136 rfl (lv_at hl 0 rfl) ?_
          refine va_get (D := D) (ci := 6) (v := .ref (ad 0)) (C := RX6) (T := TX6) (N := 4) hx hb hts hin6 hown hK hP (0) (gx_l (OW_ob cy ax (ad 0) (ad2 0) u26.1)) rfl 2 (by decide) wd0 (fun _ h9 => h9) rfl dX6_build_137 ?_
          refine lv_dup hx hb dX6_build_140 rfl ?_
          refine va_getN (D := D) (ci := 5) (v := .int (u26.2.1 0 1)) (C := RX5) (T := TX5) (N := 22) hx hb hts hin5 hown hK hP (2 + (0)) (gx_r (WD_len _ _ _ _) (gx_l (SW_ob cy (ax 0) ad u26.2.1))) rfl 1 (by decide) (nl_29 hnw) (fun _ h9 => h9) rfl dX6_build_141 ?_
          refine g_top ((congrFun hz 1).trans hI.c1) ?_
          refine lv_iconst (v := nI 1) hx hb dX6_build_144 (by decide) ?_
          refine lv_iadd hx hb dX6_build_145 ?_
          refine g_top (nI_add _ _) ?_
          refine g_putN (σ1 := (u26.1, (up u26.2.1 0 1 (nI ((tn (σ.2.1 0 1)) + 1)), u26.2.2))) (fs := stF (ax 0) ad (u26.2.1 0)) (C := RX5) (T := TX5) (N := 22) hx hb hts hin5 tyX5_ok nmX5 hown hK hP hD hS (2 + (0)) (gx_r (WD_len _ _ _ _) (gx_l (SW_ob cy (ax 0) ad u26.2.1))) rfl 1 (by decide) (nl_29 hnw) rfl rfl (Nat.le_of_ble_eq_true rfl) (gx_setr (WD_len _ _ _ _) (gx_setl (by rw [WD_len]; omega) (SW_ob_set cy (ax 0) ad u26.2.1 1 (by decide) _))) dX6_build_146 ?_
          intro u27 eu27 H locs hP hD hS
          replace hf := hf.trans (ltt_r eu27)
          refine lv_aload_n hx hb dX6_build_149 rfl (lv_at hl 0 rfl) ?_
          refine va_get (D := D) (ci := 6) (v := .ref (ad 0)) (C := RX6) (T := TX6) (N := 4) hx hb hts hin6 hown hK hP (0) (gx_l (OW_ob cy ax (ad 0) (ad2 0) u27.1)) rfl 2 (by decide) wd0 (fun _ h9 => h9) rfl dX6_build_150 ?_
          refine va_getN (D := D) (ci := 5) (v := .int (u27.2.1 0 1)) (C := RX5) (T := TX5) (N := 22) hx hb hts hin5 hown hK hP (2 + (0)) (gx_r (WD_len _ _ _ _) (gx_l (SW_ob cy (ax 0) ad u27.2.1))) rfl 1 (by decide) (nl_29 hnw) (fun _ h9 => h9) rfl dX6_build_153 ?_
          refine lv_iconst (v := nI 1) hx hb dX6_build_156 (by decide) ?_
          refine lv_isub hx hb dX6_build_157 ?_
          exact g_endi hx hb hr hlocks rfl hf hP hD hS (Nat.le_of_ble_eq_true rfl) (Nat.le_of_ble_eq_true rfl) dX6_build_158
        · replace hf := hf.trans (if_pos c22)
          refine lv_aload_n hx hb dX6_build_98 rfl (lv_at hl 0 rfl) ?_
          refine lv_iconst (v := nI 2) hx hb dX6_build_99 (by decide) ?_
          refine g_calliN (q0 := 0) hnw (wf := (MW cy ax ad ad2)) (σ := q21.2) (wfc := (MW cy ax ad ad2)) (σc := q21.2) hx hb hml hown hts hK hP hD hS hA hl.1 [] pm_0 (fun u => u) (fun _ => pm_0b) [.int (nI 2)] (c_X6_no l D cy ax ad ad2 q21.2 (nI 2) ) (cwV 1 hts gX6_build_X6_no rfl rfl rfl (by decide +kernel) ⟨Nat.le_of_ble_eq_true rfl, Nat.le_of_ble_eq_true rfl⟩) (gx_l (OW_ob cy ax (ad 0) (ad2 0) q21.2.1)) rfl rfl rfl rfl (Nat.le_of_ble_eq_true rfl) dX6_build_100 ⟨Nat.le_of_ble_eq_true rfl, Nat.le_of_ble_eq_true rfl⟩ rfl rfl ?_
          intro r28 er28 H locs hP hD hS
          replace hf := hf.trans (ltt_r er28)
          exact g_endi hx hb hr hlocks rfl hf hP hD hS (Nat.le_of_ble_eq_true rfl) (Nat.le_of_ble_eq_true rfl) dX6_build_103
    · replace hf := hf.trans (if_pos c11)
      refine lv_aload_n hx hb dX6_build_25 rfl (lv_at hl 0 rfl) ?_
      refine lv_iconst (v := nI 1) hx hb dX6_build_26 (by decide) ?_
      refine g_calliN (q0 := 0) hnw (wf := (MW cy ax ad ad2)) (σ := u6) (wfc := (MW cy ax ad ad2)) (σc := u6) hx hb hml hown hts hK hP hD hS hA hl.1 [] pm_0 (fun u => u) (fun _ => pm_0b) [.int (nI 1)] (c_X6_no l D cy ax ad ad2 u6 (nI 1) ) (cwV 1 hts gX6_build_X6_no rfl rfl rfl (by decide +kernel) ⟨Nat.le_of_ble_eq_true rfl, Nat.le_of_ble_eq_true rfl⟩) (gx_l (OW_ob cy ax (ad 0) (ad2 0) u6.1)) rfl rfl rfl rfl (Nat.le_of_ble_eq_true rfl) dX6_build_27 ⟨Nat.le_of_ble_eq_true rfl, Nat.le_of_ble_eq_true rfl⟩ rfl rfl ?_
      intro r29 er29 H locs hP hD hS
      replace hf := hf.trans (ltt_r er29)
      exact g_endi hx hb hr hlocks rfl hf hP hD hS (Nat.le_of_ble_eq_true rfl) (Nat.le_of_ble_eq_true rfl) dX6_build_30
def lp_X6_bring_57 (σ : Sg × Sg × Sg) (x : Int32) (y : Int32)  : Nat → Nat → Sg × Sg × Sg → (Sg × Sg × Sg)
  | 0, k, τ => τ
  | n + 1, k, τ => ltt (s_X5_bring τ.2.1 x) (fun u3 => lp_X6_bring_57 σ x y n (k + 1) (τ.1, (u3, τ.2.2)))
def s_X6_bring (σ : Sg × Sg × Sg) (x : Int32) (y : Int32) : Int32 × (Sg × Sg × Sg) := ltt ((up σ.1 0 0 (nI 0), σ.2)) (fun u4 => ltt (s_X6_isShelter u4 x) (fun r5 => if r5 = 0 then ltt (s_X6_no u4 (nI 1)) (fun r14 => (r14.1, r14.2)) else ltt (s_X6_isIn y (nI 1) (nI 10)) (fun r7 => if r7 = 0 then ltt (s_X6_no u4 (nI 2)) (fun r13 => (r13.1, r13.2)) else if (nI ((tn (σ.2.1 0 5)) + (tn y))) ≤ (nI 40) then ltt (lp_X6_bring_57 σ x y (tn y) 0 u4) (fun q11 => (q11.2.1 0 5, q11)) else ltt (s_X6_no u4 (nI 3)) (fun r12 => (r12.1, r12.2)))))
abbrev rm_X6_bring : Room := { frames := 2, cells := 0, slots := 0, locals := 43 }
set_option maxHeartbeats 4000000 in
set_option maxRecDepth 100000 in
theorem c_X6_bring (l : Launch) (D : va_G) (cy : Nat → ClassId) (ax ad ad2 : Nat → Nat) (σ : Sg × Sg × Sg) (x : Int32) (y : Int32) (hI : OkN σ.2.1) : gMiN l yX6_bring wsX6_bring rm_X6_bring D (Ty cy) (MW cy ax ad ad2) [.ref (ax 0), .int (x), .int (y)] σ (s_X6_bring σ x y) 0 0 := by
  refine gstartiN cX6_bring 4 RX6 (by decide) rfl rfl (Nat.le_of_ble_eq_true rfl) ?_
  intro p e s m below meth c A ls hx hb hml hown hts hr hlocks hK hP hD hA hS hl hnw
  have hl : lv_has ls 4 [(0, .ref (ax 0)), (1, .int (x)), (2, .int (y))] := hl
  have hf : s_X6_bring σ x y = s_X6_bring σ x y := rfl
  have hz : σ.2.1 0 = σ.2.1 0 := rfl
  have hin6 : ∀ w ∈ wsX60, w ∈ wsX6_bring := by decide +kernel
  have hin5 : ∀ w ∈ wsX50, w ∈ wsX6_bring := by decide +kernel
  have wd0 := hts (.fieldLink RX6 18 "UmbrellaLandModel" "s" "LUmbrellaLandModel$State;") (by decide +kernel)
  have wd1 := hts (.fieldLink RX6 25 "UmbrellaLandModel" "thrown" "I") (by decide +kernel)
  have n5 := hI.n5
  have loop57 : ∀  (n k : Nat)  (τ : Sg × Sg × Sg) (H : Heap) (locs : List Loc) (ls : Array Slot), n = tn y - k ∧ k ≤ tn y + 1 → (y = nI (tn y)) → (tn y < 11) → (OkN (τ).2.1) → (tn ((τ).2.1 0 5) + (tn y - k) ≤ 40) → va_P D vwCl ((MW cy ax ad ad2) τ) H → va_D A ((MW cy ax ad ad2) τ) → va_S A s.heap H locs → lv_has ls 4 [(0, .ref (ax 0)), (1, .int (x)), (2, .int (y)), (3, .int (nI k))] → (∀ u : (Sg × Sg × Sg), u = lp_X6_bring_57 σ x y n k τ → ∀ (H : Heap) (locs : List Loc) (ls : Array Slot), va_P D vwCl ((MW cy ax ad ad2) u) H → va_D A ((MW cy ax ad ad2) u) → va_S A s.heap H locs → lv_has ls 4 [(0, .ref (ax 0)), (1, .int (x)), (2, .int (y))] → W p l e rm_X6_bring s m [.ref (ax 0), .int (x), .int (y)].toArray below meth c H locs 0 0 (MQ below (va_Qi (fun r u => (r, u) = s_X6_bring σ x y) (gPost D (MW cy ax ad ad2) A) A) [.ref (ax 0), .int (x), .int (y)].toArray s 0 0 A) (F0 m 76 ls [])) → W p l e rm_X6_bring s m [.ref (ax 0), .int (x), .int (y)].toArray below meth c H locs 0 0 (MQ below (va_Qi (fun r u => (r, u) = s_X6_bring σ x y) (gPost D (MW cy ax ad ad2) A) A) [.ref (ax 0), .int (x), .int (y)].toArray s 0 0 A) (F0 m 57 ls []) := by
    intro n
    induction n with
    | zero =>
      intro k τ H locs ls hN hi0 hi1 hi2 hi3 hP hD hS hl K
      have hf : lp_X6_bring_57 σ x y 0 k τ = lp_X6_bring_57 σ x y 0 k τ := rfl
      refine lv_iload_n hx hb dX6_bring_57 rfl (lv_at hl 3 rfl) ?_
      refine lv_iload_n hx hb dX6_bring_58 rfl (lv_at hl 2 rfl) ?_
      refine g_top (y := nI (tn y)) (hi0) ?_
      refine lv_icmp_ge (tgt := 76) hx hb dX6_bring_59 (by decide) (fun c1 => ?_) (fun c1 => absurd (nI_le (by omega) (by omega)) c1)
      exact K τ hf.symm _ _ _ hP hD hS (lv_sub hl [0, 1, 2] rfl)
    | succ n ih =>
      intro k τ H locs ls hN hi0 hi1 hi2 hi3 hP hD hS hl K
      have hf : lp_X6_bring_57 σ x y (n + 1) k τ = lp_X6_bring_57 σ x y (n + 1) k τ := rfl
      refine lv_iload_n hx hb dX6_bring_57 rfl (lv_at hl 3 rfl) ?_
      refine lv_iload_n hx hb dX6_bring_58 rfl (lv_at hl 2 rfl) ?_
      refine g_top (y := nI (tn y)) (hi0) ?_
      refine lv_icmp_ge (tgt := 76) hx hb dX6_bring_59 (by decide) (fun c2 => absurd c2 (nI_ge (by omega) (by omega))) (fun c2 => ?_)
      refine lv_aload_n hx hb dX6_bring_62 rfl (lv_at hl 0 rfl) ?_
      refine va_get (D := D) (ci := 6) (v := .ref (ad 0)) (C := RX6) (T := TX6) (N := 4) hx hb hts hin6 hown hK hP (0) (gx_l (OW_ob cy ax (ad 0) (ad2 0) τ.1)) rfl 2 (by decide) wd0 (fun _ h9 => h9) rfl dX6_bring_63 ?_
      refine lv_iload_n hx hb dX6_bring_66 rfl (lv_at hl 1 rfl) ?_
      refine g_callv (q0 := 2 + (0)) (wf := (MW cy ax ad ad2)) (σ := τ) (wfc := (SW cy (ax 0) ad)) (σc := τ.2.1) hx hb hml hown hts hK hP hD hS hA hl.1 (OW cy ax (ad 0) (ad2 0) (τ.1) ++ SW cy (ax 0) ad2 (τ.2.2)) pm_n (fun u => (τ.1, (u, τ.2.2))) (fun _ => pm_n.symm) [.int (x)] (c_X5_bring l D cy (ax 0) ad τ.2.1 x hi2 (by omega)) (cwV 1 hts gX6_bring_X5_bring rfl rfl rfl (by decide +kernel) ⟨Nat.le_of_ble_eq_true rfl, Nat.le_of_ble_eq_true rfl⟩) (gx_r (WD_len _ _ _ _) (gx_l (SW_ob cy (ax 0) ad τ.2.1))) rfl rfl rfl rfl (Nat.le_of_ble_eq_true rfl) dX6_bring_67 ⟨Nat.le_of_ble_eq_true rfl, Nat.le_of_ble_eq_true rfl⟩ rfl rfl ?_
      intro u3 eu3 H locs hP hD hS
      replace hf := hf.trans (ltt_r eu3)
      refine lv_iinc (v := nI (k + 1)) (lv' := [(3, .int (nI (k + 1))), (0, .ref (ax 0)), (1, .int (x)), (2, .int (y))]) hx hb dX6_bring_70 hl (k := 3) rfl (nI_1 _) (by decide) rfl (fun ls hl => ?_)
      refine lv_goto (tgt := 57) hx hb dX6_bring_73 (by decide) ?_
      exact ih (k + 1)  (τ.1, (u3, τ.2.2)) _ _ _ (by omega) hi0 hi1 (by rw [eu3]; exact (bring_5 _ _ hi2 (by omega)).1) (by rw [eu3]; have h9 := (bring_5 _ (x) hi2 (by omega)).2; show tn (s_X5_bring τ.2.1 x 0 5) + _ ≤ 40; omega) hP hD hS (lv_sub hl [1, 2, 3, 0] rfl) (fun u eu => K u (eu.trans hf.symm))
  refine lv_aload_n hx hb dX6_bring_0 rfl (lv_at hl 0 rfl) ?_
  refine lv_iconst (v := nI 0) hx hb dX6_bring_1 (by decide) ?_
  refine g_put (σ1 := (up σ.1 0 0 (nI 0), σ.2)) (fs := moF ax (ad 0) (ad2 0) (σ.1 0)) (C := RX6) (T := TX6) (N := 4) hx hb hts hin6 tyX6_ok nmX6 hown hK hP hD hS (0) (gx_l (OW_ob cy ax (ad 0) (ad2 0) σ.1)) rfl 0 (by decide) wd1 rfl rfl (Nat.le_of_ble_eq_true rfl) (gx_setl (by rw [WD_len]; omega) (OW_ob_set cy ax (ad 0) (ad2 0) σ.1 0 (by decide) _)) dX6_bring_2 ?_
  intro u4 eu4 H locs hP hD hS
  replace hf := hf.trans (ltt_r eu4)
  have hz : u4.2.1 0 = σ.2.1 0 := by rw [eu4]; first | done | exact hz
  refine lv_aload_n hx hb dX6_bring_5 rfl (lv_at hl 0 rfl) ?_
  refine lv_iload_n hx hb dX6_bring_6 rfl (lv_at hl 1 rfl) ?_
  refine g_callrN (q0 := 0) hnw (wf := (MW cy ax ad ad2)) (σ := u4) (wfc := (MW cy ax ad ad2)) (σc := u4) hx hb hml hown hts hK hP hD hS hA hl.1 [] pm_0 [.int (x)] (c_X6_isShelter l D cy ax ad ad2 u4 x ) (cwV 1 hts gX6_bring_X6_isShelter rfl rfl rfl (by decide +kernel) ⟨Nat.le_of_ble_eq_true rfl, Nat.le_of_ble_eq_true rfl⟩) (gx_l (OW_ob cy ax (ad 0) (ad2 0) u4.1)) rfl rfl rfl rfl (Nat.le_of_ble_eq_true rfl) dX6_bring_7 ⟨Nat.le_of_ble_eq_true rfl, Nat.le_of_ble_eq_true rfl⟩ rfl rfl ?_
  intro r5 er5 H locs hP hD hS
  replace hf := hf.trans (ltt_r er5)
  refine lv_if_ne (tgt := 19) hx hb dX6_bring_10 (by decide) (fun c6 => ?_) (fun c6 => ?_)
  · replace hf := hf.trans (if_neg c6)
    refine lv_iload_n hx hb dX6_bring_19 rfl (lv_at hl 2 rfl) ?_
    refine lv_iconst (v := nI 1) hx hb dX6_bring_20 (by decide) ?_
    refine lv_bipush (v := nI 10) hx hb dX6_bring_21 (by decide) ?_
    refine g_callsr (wf := (MW cy ax ad ad2)) (σ := u4) (wfc := w0) (σc := ()) hx hb hml hown hts hK hP hD hS hA hl.1 ((MW cy ax ad ad2) u4) (List.Perm.refl _) [.int (y), .int (nI 1), .int (nI 10)] (c_X6_isIn l D cy y (nI 1) (nI 10) ) (va_cwS 3 hts gX6_bring_X6_isIn rfl rfl rfl (by decide +kernel) ⟨Nat.le_of_ble_eq_true rfl, Nat.le_of_ble_eq_true rfl⟩) rfl rfl (Nat.le_of_ble_eq_true rfl) dX6_bring_23 ⟨Nat.le_of_ble_eq_true rfl, Nat.le_of_ble_eq_true rfl⟩ rfl rfl ?_
    intro r7 er7 H locs hP hD hS
    replace hf := hf.trans (ltt_r er7)
    refine lv_if_ne (tgt := 35) hx hb dX6_bring_26 (by decide) (fun c8 => ?_) (fun c8 => ?_)
    · replace hf := hf.trans (if_neg c8)
      refine lv_aload_n hx hb dX6_bring_35 rfl (lv_at hl 0 rfl) ?_
      refine va_get (D := D) (ci := 6) (v := .ref (ad 0)) (C := RX6) (T := TX6) (N := 4) hx hb hts hin6 hown hK hP (0) (gx_l (OW_ob cy ax (ad 0) (ad2 0) u4.1)) rfl 2 (by decide) wd0 (fun _ h9 => h9) rfl dX6_bring_36 ?_
      refine va_getN (D := D) (ci := 5) (v := .int (u4.2.1 0 5)) (C := RX5) (T := TX5) (N := 22) hx hb hts hin5 hown hK hP (2 + (0)) (gx_r (WD_len _ _ _ _) (gx_l (SW_ob cy (ax 0) ad u4.2.1))) rfl 5 (by decide) (nl_53 hnw) (fun _ h9 => h9) rfl dX6_bring_39 ?_
      refine g_top ((congrFun hz 5).trans hI.c5) ?_
      refine lv_iload_n hx hb dX6_bring_42 rfl (lv_at hl 2 rfl) ?_
      have h9 : vp_in y 11 := isIn_1 (fun h9 => c8 (er7.trans h9)) (by decide)
      have h9b : tn y < 11 := tn_in h9
      refine g_top (tn_eq h9 (by decide)) ?_
      refine lv_iadd hx hb dX6_bring_43 ?_
      refine g_top (nI_add _ _) ?_
      refine lv_bipush (v := nI 40) hx hb dX6_bring_44 (by decide) ?_
      refine lv_icmp_le (tgt := 55) hx hb dX6_bring_46 (by decide) (fun c10 => ?_) (fun c10 => ?_)
      · replace hf := hf.trans (if_pos c10)
        refine lv_iconst (v := nI 0) hx hb dX6_bring_55 (by decide) ?_
        refine lv_istore_n (lv' := [(3, .int (nI 0)), (0, .ref (ax 0)), (1, .int (x)), (2, .int (y))]) hx hb dX6_bring_56 rfl hl (by decide) rfl (fun ls hl => ?_)
        refine loop57  (tn y) 0  u4 _ _ _ (by omega) (tn_eq (isIn_1 (fun h9 => c8 (er7.trans h9)) (by decide)) (by decide)) (tn_in (isIn_1 (fun h9 => c8 (er7.trans h9)) (by decide))) (hI.mv hz) (by have h9 := c10; rw [nI_leI (by omega) (by omega)] at h9; rw [congrFun hz 5]; omega) hP hD hS (lv_sub hl [1, 2, 3, 0] rfl) ?_
        intro q11 eq11 H locs ls hP hD hS hl
        replace hf := hf.trans (ltt_r eq11)
        refine lv_aload_n hx hb dX6_bring_76 rfl (lv_at hl 0 rfl) ?_
        refine va_get (D := D) (ci := 6) (v := .ref (ad 0)) (C := RX6) (T := TX6) (N := 4) hx hb hts hin6 hown hK hP (0) (gx_l (OW_ob cy ax (ad 0) (ad2 0) q11.1)) rfl 2 (by decide) wd0 (fun _ h9 => h9) rfl dX6_bring_77 ?_
        refine va_getN (D := D) (ci := 5) (v := .int (q11.2.1 0 5)) (C := RX5) (T := TX5) (N := 22) hx hb hts hin5 hown hK hP (2 + (0)) (gx_r (WD_len _ _ _ _) (gx_l (SW_ob cy (ax 0) ad q11.2.1))) rfl 5 (by decide) (nl_53 hnw) (fun _ h9 => h9) rfl dX6_bring_80 ?_
        exact g_endi hx hb hr hlocks rfl hf hP hD hS (Nat.le_of_ble_eq_true rfl) (Nat.le_of_ble_eq_true rfl) dX6_bring_83
      · replace hf := hf.trans (if_neg c10)
        refine lv_aload_n hx hb dX6_bring_49 rfl (lv_at hl 0 rfl) ?_
        refine lv_iconst (v := nI 3) hx hb dX6_bring_50 (by decide) ?_
        refine g_calliN (q0 := 0) hnw (wf := (MW cy ax ad ad2)) (σ := u4) (wfc := (MW cy ax ad ad2)) (σc := u4) hx hb hml hown hts hK hP hD hS hA hl.1 [] pm_0 (fun u => u) (fun _ => pm_0b) [.int (nI 3)] (c_X6_no l D cy ax ad ad2 u4 (nI 3) ) (cwV 1 hts gX6_bring_X6_no rfl rfl rfl (by decide +kernel) ⟨Nat.le_of_ble_eq_true rfl, Nat.le_of_ble_eq_true rfl⟩) (gx_l (OW_ob cy ax (ad 0) (ad2 0) u4.1)) rfl rfl rfl rfl (Nat.le_of_ble_eq_true rfl) dX6_bring_51 ⟨Nat.le_of_ble_eq_true rfl, Nat.le_of_ble_eq_true rfl⟩ rfl rfl ?_
        intro r12 er12 H locs hP hD hS
        replace hf := hf.trans (ltt_r er12)
        exact g_endi hx hb hr hlocks rfl hf hP hD hS (Nat.le_of_ble_eq_true rfl) (Nat.le_of_ble_eq_true rfl) dX6_bring_54
    · replace hf := hf.trans (if_pos c8)
      refine lv_aload_n hx hb dX6_bring_29 rfl (lv_at hl 0 rfl) ?_
      refine lv_iconst (v := nI 2) hx hb dX6_bring_30 (by decide) ?_
      refine g_calliN (q0 := 0) hnw (wf := (MW cy ax ad ad2)) (σ := u4) (wfc := (MW cy ax ad ad2)) (σc := u4) hx hb hml hown hts hK hP hD hS hA hl.1 [] pm_0 (fun u => u) (fun _ => pm_0b) [.int (nI 2)] (c_X6_no l D cy ax ad ad2 u4 (nI 2) ) (cwV 1 hts gX6_bring_X6_no rfl rfl rfl (by decide +kernel) ⟨Nat.le_of_ble_eq_true rfl, Nat.le_of_ble_eq_true rfl⟩) (gx_l (OW_ob cy ax (ad 0) (ad2 0) u4.1)) rfl rfl rfl rfl (Nat.le_of_ble_eq_true rfl) dX6_bring_31 ⟨Nat.le_of_ble_eq_true rfl, Nat.le_of_ble_eq_true rfl⟩ rfl rfl ?_
      intro r13 er13 H locs hP hD hS
      replace hf := hf.trans (ltt_r er13)
      exact g_endi hx hb hr hlocks rfl hf hP hD hS (Nat.le_of_ble_eq_true rfl) (Nat.le_of_ble_eq_true rfl) dX6_bring_34
  · replace hf := hf.trans (if_pos c6)
    refine lv_aload_n hx hb dX6_bring_13 rfl (lv_at hl 0 rfl) ?_
    refine lv_iconst (v := nI 1) hx hb dX6_bring_14 (by decide) ?_
    refine g_calliN (q0 := 0) hnw (wf := (MW cy ax ad ad2)) (σ := u4) (wfc := (MW cy ax ad ad2)) (σc := u4) hx hb hml hown hts hK hP hD hS hA hl.1 [] pm_0 (fun u => u) (fun _ => pm_0b) [.int (nI 1)] (c_X6_no l D cy ax ad ad2 u4 (nI 1) ) (cwV 1 hts gX6_bring_X6_no rfl rfl rfl (by decide +kernel) ⟨Nat.le_of_ble_eq_true rfl, Nat.le_of_ble_eq_true rfl⟩) (gx_l (OW_ob cy ax (ad 0) (ad2 0) u4.1)) rfl rfl rfl rfl (Nat.le_of_ble_eq_true rfl) dX6_bring_15 ⟨Nat.le_of_ble_eq_true rfl, Nat.le_of_ble_eq_true rfl⟩ rfl rfl ?_
    intro r14 er14 H locs hP hD hS
    replace hf := hf.trans (ltt_r er14)
    exact g_endi hx hb hr hlocks rfl hf hP hD hS (Nat.le_of_ble_eq_true rfl) (Nat.le_of_ble_eq_true rfl) dX6_bring_18
def s_X6_setRain (σ : Sg × Sg × Sg) (x : Int32) (y : Int32) : Int32 × (Sg × Sg × Sg) := ltt ((up σ.1 0 0 (nI 0), σ.2)) (fun u1 => ltt (s_X6_isIn x (nI 0) (nI 23)) (fun r2 => if r2 = 0 then ltt (s_X6_no u1 (nI 1)) (fun r10 => (r10.1, r10.2)) else ltt (s_X6_isIn y (nI 0) (nI 9)) (fun r4 => if r4 = 0 then ltt (s_X6_no u1 (nI 2)) (fun r9 => (r9.1, r9.2)) else ltt ((up u1.1 1 (tn x) y, u1.2)) (fun u8 => (u1.1 1 (tn x), u8)))))
abbrev rm_X6_setRain : Room := { frames := 1, cells := 0, slots := 0, locals := 22 }
set_option maxHeartbeats 4000000 in
set_option maxRecDepth 100000 in
theorem c_X6_setRain (l : Launch) (D : va_G) (cy : Nat → ClassId) (ax ad ad2 : Nat → Nat) (σ : Sg × Sg × Sg) (x : Int32) (y : Int32)  : gMiN l yX6_setRain wsX6_setRain rm_X6_setRain D (Ty cy) (MW cy ax ad ad2) [.ref (ax 0), .int (x), .int (y)] σ (s_X6_setRain σ x y) 0 0 := by
  refine gstartiN cX6_setRain 4 RX6 (by decide) rfl rfl (Nat.le_of_ble_eq_true rfl) ?_
  intro p e s m below meth c A ls hx hb hml hown hts hr hlocks hK hP hD hA hS hl hnw
  have hl : lv_has ls 4 [(0, .ref (ax 0)), (1, .int (x)), (2, .int (y))] := hl
  have hf : s_X6_setRain σ x y = s_X6_setRain σ x y := rfl
  have hz : σ.2.1 0 = σ.2.1 0 := rfl
  have hin6 : ∀ w ∈ wsX60, w ∈ wsX6_setRain := by decide +kernel
  have wd0 := hts (.fieldLink RX6 25 "UmbrellaLandModel" "thrown" "I") (by decide +kernel)
  have wd1 := hts (.fieldLink RX6 9 "UmbrellaLandModel" "rain" "[I") (by decide +kernel)
  refine lv_aload_n hx hb dX6_setRain_0 rfl (lv_at hl 0 rfl) ?_
  refine lv_iconst (v := nI 0) hx hb dX6_setRain_1 (by decide) ?_
  refine g_put (σ1 := (up σ.1 0 0 (nI 0), σ.2)) (fs := moF ax (ad 0) (ad2 0) (σ.1 0)) (C := RX6) (T := TX6) (N := 4) hx hb hts hin6 tyX6_ok nmX6 hown hK hP hD hS (0) (gx_l (OW_ob cy ax (ad 0) (ad2 0) σ.1)) rfl 0 (by decide) wd0 rfl rfl (Nat.le_of_ble_eq_true rfl) (gx_setl (by rw [WD_len]; omega) (OW_ob_set cy ax (ad 0) (ad2 0) σ.1 0 (by decide) _)) dX6_setRain_2 ?_
  intro u1 eu1 H locs hP hD hS
  replace hf := hf.trans (ltt_r eu1)
  have hz : u1.2.1 0 = σ.2.1 0 := by rw [eu1]; first | done | exact hz
  refine lv_iload_n hx hb dX6_setRain_5 rfl (lv_at hl 1 rfl) ?_
  refine lv_iconst (v := nI 0) hx hb dX6_setRain_6 (by decide) ?_
  refine lv_bipush (v := nI 23) hx hb dX6_setRain_7 (by decide) ?_
  refine g_callsr (wf := (MW cy ax ad ad2)) (σ := u1) (wfc := w0) (σc := ()) hx hb hml hown hts hK hP hD hS hA hl.1 ((MW cy ax ad ad2) u1) (List.Perm.refl _) [.int (x), .int (nI 0), .int (nI 23)] (c_X6_isIn l D cy x (nI 0) (nI 23) ) (va_cwS 3 hts gX6_setRain_X6_isIn rfl rfl rfl (by decide +kernel) ⟨Nat.le_of_ble_eq_true rfl, Nat.le_of_ble_eq_true rfl⟩) rfl rfl (Nat.le_of_ble_eq_true rfl) dX6_setRain_9 ⟨Nat.le_of_ble_eq_true rfl, Nat.le_of_ble_eq_true rfl⟩ rfl rfl ?_
  intro r2 er2 H locs hP hD hS
  replace hf := hf.trans (ltt_r er2)
  refine lv_if_ne (tgt := 21) hx hb dX6_setRain_12 (by decide) (fun c3 => ?_) (fun c3 => ?_)
  · replace hf := hf.trans (if_neg c3)
    refine lv_iload_n hx hb dX6_setRain_21 rfl (lv_at hl 2 rfl) ?_
    refine lv_iconst (v := nI 0) hx hb dX6_setRain_22 (by decide) ?_
    refine lv_bipush (v := nI 9) hx hb dX6_setRain_23 (by decide) ?_
    refine g_callsr (wf := (MW cy ax ad ad2)) (σ := u1) (wfc := w0) (σc := ()) hx hb hml hown hts hK hP hD hS hA hl.1 ((MW cy ax ad ad2) u1) (List.Perm.refl _) [.int (y), .int (nI 0), .int (nI 9)] (c_X6_isIn l D cy y (nI 0) (nI 9) ) (va_cwS 3 hts gX6_setRain_X6_isIn rfl rfl rfl (by decide +kernel) ⟨Nat.le_of_ble_eq_true rfl, Nat.le_of_ble_eq_true rfl⟩) rfl rfl (Nat.le_of_ble_eq_true rfl) dX6_setRain_25 ⟨Nat.le_of_ble_eq_true rfl, Nat.le_of_ble_eq_true rfl⟩ rfl rfl ?_
    intro r4 er4 H locs hP hD hS
    replace hf := hf.trans (ltt_r er4)
    refine lv_if_ne (tgt := 37) hx hb dX6_setRain_28 (by decide) (fun c5 => ?_) (fun c5 => ?_)
    · replace hf := hf.trans (if_neg c5)
      refine lv_aload_n hx hb dX6_setRain_37 rfl (lv_at hl 0 rfl) ?_
      refine va_get (D := D) (ci := 6) (v := .ref (ax 1)) (C := RX6) (T := TX6) (N := 4) hx hb hts hin6 hown hK hP (0) (gx_l (OW_ob cy ax (ad 0) (ad2 0) u1.1)) rfl 1 (by decide) wd1 (fun _ h9 => h9) rfl dX6_setRain_38 ?_
      refine lv_iload_n hx hb dX6_setRain_41 rfl (lv_at hl 1 rfl) ?_
      have h6 : vp_in (x) 24 := isIn_0 (fun h9 => c3 (er2.trans h9)) (by decide)
      have h6b : tn x < 24 := tn_in h6
      refine g_iald hx hb hK hP (1) 0 (tn x) (gx_l (OW_rn cy ax (ad 0) (ad2 0) u1.1)) rfl rfl h6 dX6_setRain_42 ?_
      refine lv_istore_n (lv' := [(3, .int (u1.1 1 (tn x))), (0, .ref (ax 0)), (1, .int (x)), (2, .int (y))]) hx hb dX6_setRain_43 rfl hl (by decide) rfl (fun ls hl => ?_)
      refine lv_aload_n hx hb dX6_setRain_44 rfl (lv_at hl 1 rfl) ?_
      refine va_get (D := D) (ci := 6) (v := .ref (ax 1)) (C := RX6) (T := TX6) (N := 4) hx hb hts hin6 hown hK hP (0) (gx_l (OW_ob cy ax (ad 0) (ad2 0) u1.1)) rfl 1 (by decide) wd1 (fun _ h9 => h9) rfl dX6_setRain_45 ?_
      refine lv_iload_n hx hb dX6_setRain_48 rfl (lv_at hl 2 rfl) ?_
      refine lv_iload_n hx hb dX6_setRain_49 rfl (lv_at hl 3 rfl) ?_
      have h7 : vp_in (x) 24 := isIn_0 (fun h9 => c3 (er2.trans h9)) (by decide)
      have h7b : tn x < 24 := tn_in h7
      refine g_iast (σ1 := (up u1.1 1 (tn x) y, u1.2)) hx hb hK hP hD hS (1) 0 (tn x) (gx_l (OW_rn cy ax (ad 0) (ad2 0) u1.1)) rfl rfl h7 (gx_setl (by rw [WD_len]; omega) (OW_rn_set cy ax (ad 0) (ad2 0) u1.1 (tn x) _)) dX6_setRain_50 ?_
      intro u8 eu8 H locs hP hD hS
      replace hf := hf.trans (ltt_r eu8)
      have hz : u8.2.1 0 = σ.2.1 0 := by rw [eu8]; first | done | exact hz
      refine lv_iload_n hx hb dX6_setRain_51 rfl (lv_at hl 0 rfl) ?_
      exact g_endi hx hb hr hlocks rfl hf hP hD hS (Nat.le_of_ble_eq_true rfl) (Nat.le_of_ble_eq_true rfl) dX6_setRain_52
    · replace hf := hf.trans (if_pos c5)
      refine lv_aload_n hx hb dX6_setRain_31 rfl (lv_at hl 0 rfl) ?_
      refine lv_iconst (v := nI 2) hx hb dX6_setRain_32 (by decide) ?_
      refine g_calliN (q0 := 0) hnw (wf := (MW cy ax ad ad2)) (σ := u1) (wfc := (MW cy ax ad ad2)) (σc := u1) hx hb hml hown hts hK hP hD hS hA hl.1 [] pm_0 (fun u => u) (fun _ => pm_0b) [.int (nI 2)] (c_X6_no l D cy ax ad ad2 u1 (nI 2) ) (cwV 1 hts gX6_setRain_X6_no rfl rfl rfl (by decide +kernel) ⟨Nat.le_of_ble_eq_true rfl, Nat.le_of_ble_eq_true rfl⟩) (gx_l (OW_ob cy ax (ad 0) (ad2 0) u1.1)) rfl rfl rfl rfl (Nat.le_of_ble_eq_true rfl) dX6_setRain_33 ⟨Nat.le_of_ble_eq_true rfl, Nat.le_of_ble_eq_true rfl⟩ rfl rfl ?_
      intro r9 er9 H locs hP hD hS
      replace hf := hf.trans (ltt_r er9)
      exact g_endi hx hb hr hlocks rfl hf hP hD hS (Nat.le_of_ble_eq_true rfl) (Nat.le_of_ble_eq_true rfl) dX6_setRain_36
  · replace hf := hf.trans (if_pos c3)
    refine lv_aload_n hx hb dX6_setRain_15 rfl (lv_at hl 0 rfl) ?_
    refine lv_iconst (v := nI 1) hx hb dX6_setRain_16 (by decide) ?_
    refine g_calliN (q0 := 0) hnw (wf := (MW cy ax ad ad2)) (σ := u1) (wfc := (MW cy ax ad ad2)) (σc := u1) hx hb hml hown hts hK hP hD hS hA hl.1 [] pm_0 (fun u => u) (fun _ => pm_0b) [.int (nI 1)] (c_X6_no l D cy ax ad ad2 u1 (nI 1) ) (cwV 1 hts gX6_setRain_X6_no rfl rfl rfl (by decide +kernel) ⟨Nat.le_of_ble_eq_true rfl, Nat.le_of_ble_eq_true rfl⟩) (gx_l (OW_ob cy ax (ad 0) (ad2 0) u1.1)) rfl rfl rfl rfl (Nat.le_of_ble_eq_true rfl) dX6_setRain_17 ⟨Nat.le_of_ble_eq_true rfl, Nat.le_of_ble_eq_true rfl⟩ rfl rfl ?_
    intro r10 er10 H locs hP hD hS
    replace hf := hf.trans (ltt_r er10)
    exact g_endi hx hb hr hlocks rfl hf hP hD hS (Nat.le_of_ble_eq_true rfl) (Nat.le_of_ble_eq_true rfl) dX6_setRain_20
def s_X6_setDemand (σ : Sg × Sg × Sg) (x : Int32) (y : Int32) : Int32 × (Sg × Sg × Sg) := ltt ((up σ.1 0 0 (nI 0), σ.2)) (fun u1 => ltt (s_X6_isShelter u1 x) (fun r2 => if r2 = 0 then ltt (s_X6_no u1 (nI 1)) (fun r10 => (r10.1, r10.2)) else ltt (s_X6_isIn y (nI 0) (nI 10)) (fun r4 => if r4 = 0 then ltt (s_X6_no u1 (nI 2)) (fun r9 => (r9.1, r9.2)) else ltt ((u1.1, (up u1.2.1 2 (tn x) y, u1.2.2))) (fun u8 => (u1.2.1 2 (tn x), u8)))))
abbrev rm_X6_setDemand : Room := { frames := 2, cells := 0, slots := 0, locals := 43 }
set_option maxHeartbeats 4000000 in
set_option maxRecDepth 100000 in
theorem c_X6_setDemand (l : Launch) (D : va_G) (cy : Nat → ClassId) (ax ad ad2 : Nat → Nat) (σ : Sg × Sg × Sg) (x : Int32) (y : Int32) (hI : OkN σ.2.1) : gMiN l yX6_setDemand wsX6_setDemand rm_X6_setDemand D (Ty cy) (MW cy ax ad ad2) [.ref (ax 0), .int (x), .int (y)] σ (s_X6_setDemand σ x y) 0 0 := by
  refine gstartiN cX6_setDemand 4 RX6 (by decide) rfl rfl (Nat.le_of_ble_eq_true rfl) ?_
  intro p e s m below meth c A ls hx hb hml hown hts hr hlocks hK hP hD hA hS hl hnw
  have hl : lv_has ls 4 [(0, .ref (ax 0)), (1, .int (x)), (2, .int (y))] := hl
  have hf : s_X6_setDemand σ x y = s_X6_setDemand σ x y := rfl
  have hz : σ.2.1 0 = σ.2.1 0 := rfl
  have hin6 : ∀ w ∈ wsX60, w ∈ wsX6_setDemand := by decide +kernel
  have hin5 : ∀ w ∈ wsX50, w ∈ wsX6_setDemand := by decide +kernel
  have wd0 := hts (.fieldLink RX6 25 "UmbrellaLandModel" "thrown" "I") (by decide +kernel)
  have wd1 := hts (.fieldLink RX6 18 "UmbrellaLandModel" "s" "LUmbrellaLandModel$State;") (by decide +kernel)
  refine lv_aload_n hx hb dX6_setDemand_0 rfl (lv_at hl 0 rfl) ?_
  refine lv_iconst (v := nI 0) hx hb dX6_setDemand_1 (by decide) ?_
  refine g_put (σ1 := (up σ.1 0 0 (nI 0), σ.2)) (fs := moF ax (ad 0) (ad2 0) (σ.1 0)) (C := RX6) (T := TX6) (N := 4) hx hb hts hin6 tyX6_ok nmX6 hown hK hP hD hS (0) (gx_l (OW_ob cy ax (ad 0) (ad2 0) σ.1)) rfl 0 (by decide) wd0 rfl rfl (Nat.le_of_ble_eq_true rfl) (gx_setl (by rw [WD_len]; omega) (OW_ob_set cy ax (ad 0) (ad2 0) σ.1 0 (by decide) _)) dX6_setDemand_2 ?_
  intro u1 eu1 H locs hP hD hS
  replace hf := hf.trans (ltt_r eu1)
  have hz : u1.2.1 0 = σ.2.1 0 := by rw [eu1]; first | done | exact hz
  refine lv_aload_n hx hb dX6_setDemand_5 rfl (lv_at hl 0 rfl) ?_
  refine lv_iload_n hx hb dX6_setDemand_6 rfl (lv_at hl 1 rfl) ?_
  refine g_callrN (q0 := 0) hnw (wf := (MW cy ax ad ad2)) (σ := u1) (wfc := (MW cy ax ad ad2)) (σc := u1) hx hb hml hown hts hK hP hD hS hA hl.1 [] pm_0 [.int (x)] (c_X6_isShelter l D cy ax ad ad2 u1 x ) (cwV 1 hts gX6_setDemand_X6_isShelter rfl rfl rfl (by decide +kernel) ⟨Nat.le_of_ble_eq_true rfl, Nat.le_of_ble_eq_true rfl⟩) (gx_l (OW_ob cy ax (ad 0) (ad2 0) u1.1)) rfl rfl rfl rfl (Nat.le_of_ble_eq_true rfl) dX6_setDemand_7 ⟨Nat.le_of_ble_eq_true rfl, Nat.le_of_ble_eq_true rfl⟩ rfl rfl ?_
  intro r2 er2 H locs hP hD hS
  replace hf := hf.trans (ltt_r er2)
  refine lv_if_ne (tgt := 19) hx hb dX6_setDemand_10 (by decide) (fun c3 => ?_) (fun c3 => ?_)
  · replace hf := hf.trans (if_neg c3)
    refine lv_iload_n hx hb dX6_setDemand_19 rfl (lv_at hl 2 rfl) ?_
    refine lv_iconst (v := nI 0) hx hb dX6_setDemand_20 (by decide) ?_
    refine lv_bipush (v := nI 10) hx hb dX6_setDemand_21 (by decide) ?_
    refine g_callsr (wf := (MW cy ax ad ad2)) (σ := u1) (wfc := w0) (σc := ()) hx hb hml hown hts hK hP hD hS hA hl.1 ((MW cy ax ad ad2) u1) (List.Perm.refl _) [.int (y), .int (nI 0), .int (nI 10)] (c_X6_isIn l D cy y (nI 0) (nI 10) ) (va_cwS 3 hts gX6_setDemand_X6_isIn rfl rfl rfl (by decide +kernel) ⟨Nat.le_of_ble_eq_true rfl, Nat.le_of_ble_eq_true rfl⟩) rfl rfl (Nat.le_of_ble_eq_true rfl) dX6_setDemand_23 ⟨Nat.le_of_ble_eq_true rfl, Nat.le_of_ble_eq_true rfl⟩ rfl rfl ?_
    intro r4 er4 H locs hP hD hS
    replace hf := hf.trans (ltt_r er4)
    refine lv_if_ne (tgt := 35) hx hb dX6_setDemand_26 (by decide) (fun c5 => ?_) (fun c5 => ?_)
    · replace hf := hf.trans (if_neg c5)
      refine lv_aload_n hx hb dX6_setDemand_35 rfl (lv_at hl 0 rfl) ?_
      refine va_get (D := D) (ci := 6) (v := .ref (ad 0)) (C := RX6) (T := TX6) (N := 4) hx hb hts hin6 hown hK hP (0) (gx_l (OW_ob cy ax (ad 0) (ad2 0) u1.1)) rfl 2 (by decide) wd1 (fun _ h9 => h9) rfl dX6_setDemand_36 ?_
      refine va_getN (D := D) (ci := 5) (v := .ref (ad 2)) (C := RX5) (T := TX5) (N := 22) hx hb hts hin5 hown hK hP (2 + (0)) (gx_r (WD_len _ _ _ _) (gx_l (SW_ob cy (ax 0) ad u1.2.1))) rfl 3 (by decide) (nl_46 hnw) (fun _ h9 => h9) rfl dX6_setDemand_39 ?_
      refine lv_iload_n hx hb dX6_setDemand_42 rfl (lv_at hl 1 rfl) ?_
      have h6 : vp_in (x) 8 := in6_sh (hI.mv hz) (fun h9 => c3 (er2.trans h9))
      have h6b : tn x < 8 := tn_in h6
      refine g_iald hx hb hK hP (2 + (2)) 0 (tn x) (gx_r (WD_len _ _ _ _) (gx_l (SW_2 cy (ax 0) ad u1.2.1))) rfl rfl h6 dX6_setDemand_43 ?_
      refine lv_istore_n (lv' := [(3, .int (u1.2.1 2 (tn x))), (0, .ref (ax 0)), (1, .int (x)), (2, .int (y))]) hx hb dX6_setDemand_44 rfl hl (by decide) rfl (fun ls hl => ?_)
      refine lv_aload_n hx hb dX6_setDemand_45 rfl (lv_at hl 1 rfl) ?_
      refine va_get (D := D) (ci := 6) (v := .ref (ad 0)) (C := RX6) (T := TX6) (N := 4) hx hb hts hin6 hown hK hP (0) (gx_l (OW_ob cy ax (ad 0) (ad2 0) u1.1)) rfl 2 (by decide) wd1 (fun _ h9 => h9) rfl dX6_setDemand_46 ?_
      refine va_getN (D := D) (ci := 5) (v := .ref (ad 2)) (C := RX5) (T := TX5) (N := 22) hx hb hts hin5 hown hK hP (2 + (0)) (gx_r (WD_len _ _ _ _) (gx_l (SW_ob cy (ax 0) ad u1.2.1))) rfl 3 (by decide) (nl_46 hnw) (fun _ h9 => h9) rfl dX6_setDemand_49 ?_
      refine lv_iload_n hx hb dX6_setDemand_52 rfl (lv_at hl 2 rfl) ?_
      refine lv_iload_n hx hb dX6_setDemand_53 rfl (lv_at hl 3 rfl) ?_
      have h7 : vp_in (x) 8 := in6_sh (hI.mv hz) (fun h9 => c3 (er2.trans h9))
      have h7b : tn x < 8 := tn_in h7
      refine g_iast (σ1 := (u1.1, (up u1.2.1 2 (tn x) y, u1.2.2))) hx hb hK hP hD hS (2 + (2)) 0 (tn x) (gx_r (WD_len _ _ _ _) (gx_l (SW_2 cy (ax 0) ad u1.2.1))) rfl rfl h7 (gx_setr (WD_len _ _ _ _) (gx_setl (by rw [WD_len]; omega) (SW_2_set cy (ax 0) ad u1.2.1 (tn x) _))) dX6_setDemand_54 ?_
      intro u8 eu8 H locs hP hD hS
      replace hf := hf.trans (ltt_r eu8)
      have hz : u8.2.1 0 = σ.2.1 0 := by rw [eu8]; exact keep_up rfl (by decide) hz
      refine lv_iload_n hx hb dX6_setDemand_55 rfl (lv_at hl 0 rfl) ?_
      exact g_endi hx hb hr hlocks rfl hf hP hD hS (Nat.le_of_ble_eq_true rfl) (Nat.le_of_ble_eq_true rfl) dX6_setDemand_56
    · replace hf := hf.trans (if_pos c5)
      refine lv_aload_n hx hb dX6_setDemand_29 rfl (lv_at hl 0 rfl) ?_
      refine lv_iconst (v := nI 2) hx hb dX6_setDemand_30 (by decide) ?_
      refine g_calliN (q0 := 0) hnw (wf := (MW cy ax ad ad2)) (σ := u1) (wfc := (MW cy ax ad ad2)) (σc := u1) hx hb hml hown hts hK hP hD hS hA hl.1 [] pm_0 (fun u => u) (fun _ => pm_0b) [.int (nI 2)] (c_X6_no l D cy ax ad ad2 u1 (nI 2) ) (cwV 1 hts gX6_setDemand_X6_no rfl rfl rfl (by decide +kernel) ⟨Nat.le_of_ble_eq_true rfl, Nat.le_of_ble_eq_true rfl⟩) (gx_l (OW_ob cy ax (ad 0) (ad2 0) u1.1)) rfl rfl rfl rfl (Nat.le_of_ble_eq_true rfl) dX6_setDemand_31 ⟨Nat.le_of_ble_eq_true rfl, Nat.le_of_ble_eq_true rfl⟩ rfl rfl ?_
      intro r9 er9 H locs hP hD hS
      replace hf := hf.trans (ltt_r er9)
      exact g_endi hx hb hr hlocks rfl hf hP hD hS (Nat.le_of_ble_eq_true rfl) (Nat.le_of_ble_eq_true rfl) dX6_setDemand_34
  · replace hf := hf.trans (if_pos c3)
    refine lv_aload_n hx hb dX6_setDemand_13 rfl (lv_at hl 0 rfl) ?_
    refine lv_iconst (v := nI 1) hx hb dX6_setDemand_14 (by decide) ?_
    refine g_calliN (q0 := 0) hnw (wf := (MW cy ax ad ad2)) (σ := u1) (wfc := (MW cy ax ad ad2)) (σc := u1) hx hb hml hown hts hK hP hD hS hA hl.1 [] pm_0 (fun u => u) (fun _ => pm_0b) [.int (nI 1)] (c_X6_no l D cy ax ad ad2 u1 (nI 1) ) (cwV 1 hts gX6_setDemand_X6_no rfl rfl rfl (by decide +kernel) ⟨Nat.le_of_ble_eq_true rfl, Nat.le_of_ble_eq_true rfl⟩) (gx_l (OW_ob cy ax (ad 0) (ad2 0) u1.1)) rfl rfl rfl rfl (Nat.le_of_ble_eq_true rfl) dX6_setDemand_15 ⟨Nat.le_of_ble_eq_true rfl, Nat.le_of_ble_eq_true rfl⟩ rfl rfl ?_
    intro r10 er10 H locs hP hD hS
    replace hf := hf.trans (ltt_r er10)
    exact g_endi hx hb hr hlocks rfl hf hP hD hS (Nat.le_of_ble_eq_true rfl) (Nat.le_of_ble_eq_true rfl) dX6_setDemand_18
def lp_X6_shelterTold_5 (σ : Sg × Sg × Sg) (i : Nat) (y : Int32)  : Nat → Nat → Int32 → Int32
  | 0, k, here => here
  | n + 1, k, here => if (σ.2.1 11 k) = (nI i) then lp_X6_shelterTold_5 σ i y n (k + 1) (here + (nI 1)) else lp_X6_shelterTold_5 σ i y n (k + 1) (here + (nI 0))
def s_X6_shelterTold (σ : Sg × Sg × Sg) (i : Nat) (y : Int32) : Int32 := ltt (lp_X6_shelterTold_5 σ i y (tn (σ.2.1 0 12)) 0 (nI 0)) (fun q5 => ltt (s_X5_there σ.2.1 (nI i)) (fun r12 => ltt (s_X5_first σ.2.1 (nI i)) (fun r26 => (upd (upd (upd (upd (upd (upd (upd (upd (fun _ => (0 : Int32)) 0 (σ.2.1 1 i)) 1 (σ.2.1 2 i)) 2 r12) 3 q5) 4 (σ.2.1 3 (5 * i))) 5 (σ.2.1 3 ((5 * i) + 1))) 6 (σ.2.1 3 ((5 * i) + 2))) 7 r26) (tn y))))
abbrev rm_X6_shelterTold : Room := { frames := 1, cells := 1, slots := 8, locals := 23 }
set_option maxHeartbeats 4000000 in
set_option maxRecDepth 100000 in
theorem c_X6_shelterTold (l : Launch) (D : va_G) (cy : Nat → ClassId) (ax ad ad2 : Nat → Nat) (σ : Sg × Sg × Sg) (i : Nat) (y : Int32) (hk : i < 8) (hw : vp_in y 8) (hI : OkN σ.2.1) : gMrN l yX6_shelterTold wsX6_shelterTold rm_X6_shelterTold D (Ty cy) (MW cy ax ad ad2) [.ref (ax 0), .int (nI i), .int (y)] σ (s_X6_shelterTold σ i y) 1 8 := by
  refine gstartiN cX6_shelterTold 5 RX6 (by decide) rfl rfl (Nat.le_of_ble_eq_true rfl) ?_
  intro p e s m below meth c A ls hx hb hml hown hts hr hlocks hK hP hD hA hS hl hnw
  have hl : lv_has ls 5 [(0, .ref (ax 0)), (1, .int (nI i)), (2, .int (y))] := hl
  have hf : s_X6_shelterTold σ i y = s_X6_shelterTold σ i y := rfl
  have hz : σ.2.1 0 = σ.2.1 0 := rfl
  have hin6 : ∀ w ∈ wsX60, w ∈ wsX6_shelterTold := by decide +kernel
  have hin5 : ∀ w ∈ wsX50, w ∈ wsX6_shelterTold := by decide +kernel
  have wd0 := hts (.fieldLink RX6 18 "UmbrellaLandModel" "s" "LUmbrellaLandModel$State;") (by decide +kernel)
  have wd1 := hts (.arrayClass .int) (by decide +kernel)
  have n12 := hI.n12
  have loop5 : ∀  (n k : Nat) (here : Int32) (H : Heap) (locs : List Loc) (ls : Array Slot), n = tn (σ.2.1 0 12) - k ∧ k ≤ tn (σ.2.1 0 12) + 1 → va_P D vwCl ((MW cy ax ad ad2) σ) H → va_D A ((MW cy ax ad ad2) σ) → va_S A s.heap H locs → lv_has ls 5 [(0, .ref (ax 0)), (1, .int (nI i)), (2, .int (y)), (3, .int (here)), (4, .int (nI k))] → (∀ u : Int32, u = lp_X6_shelterTold_5 σ i y n k here → ∀ (H : Heap) (locs : List Loc) (ls : Array Slot), va_P D vwCl ((MW cy ax ad ad2) σ) H → va_D A ((MW cy ax ad ad2) σ) → va_S A s.heap H locs → lv_has ls 5 [(0, .ref (ax 0)), (1, .int (nI i)), (2, .int (y)), (3, .int (u))] → W p l e rm_X6_shelterTold s m [.ref (ax 0), .int (nI i), .int (y)].toArray below meth c H locs 0 0 (MQ below (va_Qi (fun r u => (r, u) = (s_X6_shelterTold σ i y, σ)) (gPost D (MW cy ax ad ad2) A) A) [.ref (ax 0), .int (nI i), .int (y)].toArray s 1 8 A) (F0 m 45 ls [])) → W p l e rm_X6_shelterTold s m [.ref (ax 0), .int (nI i), .int (y)].toArray below meth c H locs 0 0 (MQ below (va_Qi (fun r u => (r, u) = (s_X6_shelterTold σ i y, σ)) (gPost D (MW cy ax ad ad2) A) A) [.ref (ax 0), .int (nI i), .int (y)].toArray s 1 8 A) (F0 m 5 ls []) := by
    intro n
    induction n with
    | zero =>
      intro k here H locs ls hN hP hD hS hl K
      have hf : lp_X6_shelterTold_5 σ i y 0 k here = lp_X6_shelterTold_5 σ i y 0 k here := rfl
      refine lv_iload hx hb dX6_shelterTold_5 (lv_at hl 4 rfl) ?_
      refine lv_aload_n hx hb dX6_shelterTold_7 rfl (lv_at hl 0 rfl) ?_
      refine va_get (D := D) (ci := 6) (v := .ref (ad 0)) (C := RX6) (T := TX6) (N := 4) hx hb hts hin6 hown hK hP (0) (gx_l (OW_ob cy ax (ad 0) (ad2 0) σ.1)) rfl 2 (by decide) wd0 (fun _ h9 => h9) rfl dX6_shelterTold_8 ?_
      refine va_getN (D := D) (ci := 5) (v := .int (σ.2.1 0 12)) (C := RX5) (T := TX5) (N := 22) hx hb hts hin5 hown hK hP (2 + (0)) (gx_r (WD_len _ _ _ _) (gx_l (SW_ob cy (ax 0) ad σ.2.1))) rfl 12 (by decide) (nl_36 hnw) (fun _ h9 => h9) rfl dX6_shelterTold_11 ?_
      refine g_top ((congrFun hz 12).trans hI.c12) ?_
      refine lv_icmp_ge (tgt := 45) hx hb dX6_shelterTold_14 (by decide) (fun c1 => ?_) (fun c1 => absurd (nI_le (by omega) (by omega)) c1)
      exact K here hf.symm _ _ _ hP hD hS (lv_sub hl [0, 1, 2, 3] rfl)
    | succ n ih =>
      intro k here H locs ls hN hP hD hS hl K
      have hf : lp_X6_shelterTold_5 σ i y (n + 1) k here = lp_X6_shelterTold_5 σ i y (n + 1) k here := rfl
      refine lv_iload hx hb dX6_shelterTold_5 (lv_at hl 4 rfl) ?_
      refine lv_aload_n hx hb dX6_shelterTold_7 rfl (lv_at hl 0 rfl) ?_
      refine va_get (D := D) (ci := 6) (v := .ref (ad 0)) (C := RX6) (T := TX6) (N := 4) hx hb hts hin6 hown hK hP (0) (gx_l (OW_ob cy ax (ad 0) (ad2 0) σ.1)) rfl 2 (by decide) wd0 (fun _ h9 => h9) rfl dX6_shelterTold_8 ?_
      refine va_getN (D := D) (ci := 5) (v := .int (σ.2.1 0 12)) (C := RX5) (T := TX5) (N := 22) hx hb hts hin5 hown hK hP (2 + (0)) (gx_r (WD_len _ _ _ _) (gx_l (SW_ob cy (ax 0) ad σ.2.1))) rfl 12 (by decide) (nl_36 hnw) (fun _ h9 => h9) rfl dX6_shelterTold_11 ?_
      refine g_top ((congrFun hz 12).trans hI.c12) ?_
      refine lv_icmp_ge (tgt := 45) hx hb dX6_shelterTold_14 (by decide) (fun c2 => absurd c2 (nI_ge (by omega) (by omega))) (fun c2 => ?_)
      refine lv_iload_n hx hb dX6_shelterTold_17 rfl (lv_at hl 3 rfl) ?_
      refine lv_aload_n hx hb dX6_shelterTold_18 rfl (lv_at hl 0 rfl) ?_
      refine va_get (D := D) (ci := 6) (v := .ref (ad 0)) (C := RX6) (T := TX6) (N := 4) hx hb hts hin6 hown hK hP (0) (gx_l (OW_ob cy ax (ad 0) (ad2 0) σ.1)) rfl 2 (by decide) wd0 (fun _ h9 => h9) rfl dX6_shelterTold_19 ?_
      refine va_getN (D := D) (ci := 5) (v := .ref (ad 11)) (C := RX5) (T := TX5) (N := 22) hx hb hts hin5 hown hK hP (2 + (0)) (gx_r (WD_len _ _ _ _) (gx_l (SW_ob cy (ax 0) ad σ.2.1))) rfl 14 (by decide) (nl_69 hnw) (fun _ h9 => h9) rfl dX6_shelterTold_22 ?_
      refine lv_iload hx hb dX6_shelterTold_25 (lv_at hl 4 rfl) ?_
      have h3 : k < 10 := by omega
      refine g_iald hx hb hK hP (2 + (11)) 0 k (gx_r (WD_len _ _ _ _) (gx_l (SW_11 cy (ax 0) ad σ.2.1))) rfl (nI_clamp (by omega)) (vp_in_nI h3 (by decide)) dX6_shelterTold_27 ?_
      refine lv_iload_n hx hb dX6_shelterTold_28 rfl (lv_at hl 1 rfl) ?_
      refine lv_icmp_ne (tgt := 36) hx hb dX6_shelterTold_29 (by decide) (fun c4 => ?_) (fun c4 => ?_)
      · replace hf := hf.trans (if_neg c4)
        refine lv_iconst (v := nI 0) hx hb dX6_shelterTold_36 (by decide) ?_
        refine lv_iadd hx hb dX6_shelterTold_37 ?_
        refine lv_istore_n (lv' := [(3, .int (here + (nI 0))), (0, .ref (ax 0)), (1, .int (nI i)), (2, .int (y)), (4, .int (nI k))]) hx hb dX6_shelterTold_38 rfl hl (by decide) rfl (fun ls hl => ?_)
        refine lv_iinc (v := nI (k + 1)) (lv' := [(4, .int (nI (k + 1))), (3, .int (here + (nI 0))), (0, .ref (ax 0)), (1, .int (nI i)), (2, .int (y))]) hx hb dX6_shelterTold_39 hl (k := 4) rfl (nI_1 _) (by decide) rfl (fun ls hl => ?_)
        refine lv_goto (tgt := 5) hx hb dX6_shelterTold_42 (by decide) ?_
        exact ih (k + 1) (here + (nI 0)) _ _ _ (by omega)  hP hD hS (lv_sub hl [2, 3, 4, 1, 0] rfl) (fun u eu => K u (eu.trans hf.symm))
      · replace hf := hf.trans (if_pos c4)
        refine lv_iconst (v := nI 1) hx hb dX6_shelterTold_32 (by decide) ?_
        refine lv_goto (tgt := 37) hx hb dX6_shelterTold_33 (by decide) ?_
        refine lv_iadd hx hb dX6_shelterTold_37 ?_
        refine lv_istore_n (lv' := [(3, .int (here + (nI 1))), (0, .ref (ax 0)), (1, .int (nI i)), (2, .int (y)), (4, .int (nI k))]) hx hb dX6_shelterTold_38 rfl hl (by decide) rfl (fun ls hl => ?_)
        refine lv_iinc (v := nI (k + 1)) (lv' := [(4, .int (nI (k + 1))), (3, .int (here + (nI 1))), (0, .ref (ax 0)), (1, .int (nI i)), (2, .int (y))]) hx hb dX6_shelterTold_39 hl (k := 4) rfl (nI_1 _) (by decide) rfl (fun ls hl => ?_)
        refine lv_goto (tgt := 5) hx hb dX6_shelterTold_42 (by decide) ?_
        exact ih (k + 1) (here + (nI 1)) _ _ _ (by omega)  hP hD hS (lv_sub hl [2, 3, 4, 1, 0] rfl) (fun u eu => K u (eu.trans hf.symm))
  refine lv_iconst (v := nI 0) hx hb dX6_shelterTold_0 (by decide) ?_
  refine lv_istore_n (lv' := [(3, .int (nI 0)), (0, .ref (ax 0)), (1, .int (nI i)), (2, .int (y))]) hx hb dX6_shelterTold_1 rfl hl (by decide) rfl (fun ls hl => ?_)
  refine lv_iconst (v := nI 0) hx hb dX6_shelterTold_2 (by decide) ?_
  refine lv_istore (lv' := [(4, .int (nI 0)), (3, .int (nI 0)), (0, .ref (ax 0)), (1, .int (nI i)), (2, .int (y))]) hx hb dX6_shelterTold_3 hl (by decide) rfl (fun ls hl => ?_)
  refine loop5  (tn (σ.2.1 0 12)) 0 (nI 0) _ _ _ (by omega)  hP hD hS (lv_sub hl [2, 3, 4, 1, 0] rfl) ?_
  intro q5 eq5 H locs ls hP hD hS hl
  replace hf := hf.trans (ltt_r eq5)
  refine lv_bipush (v := nI 8) hx hb dX6_shelterTold_45 (by decide) ?_
  refine g_newi (n := 8) hx hb wd1 hK hP hD hS hA (by decide) (Nat.le_of_ble_eq_true rfl) (Nat.le_of_ble_eq_true rfl) dX6_shelterTold_47 (fun qA H hP hD hS => ?_)
  have hP : va_P D vwCl ((MTW cy ax ad ad2 qA 8) (σ, (fun _ => (0 : Int32)))) H := hP
  have hD : va_D A ((MTW cy ax ad ad2 qA 8) (σ, (fun _ => (0 : Int32)))) := hD
  refine lv_dup hx hb dX6_shelterTold_49 rfl ?_
  refine lv_iconst (v := nI 0) hx hb dX6_shelterTold_50 (by decide) ?_
  refine lv_aload_n hx hb dX6_shelterTold_51 rfl (lv_at hl 0 rfl) ?_
  refine va_get (D := D) (ci := 6) (v := .ref (ad 0)) (C := RX6) (T := TX6) (N := 4) hx hb hts hin6 hown hK hP (0) (gx_l (gx_l (OW_ob cy ax (ad 0) (ad2 0) σ.1))) rfl 2 (by decide) wd0 (fun _ h9 => h9) rfl dX6_shelterTold_52 ?_
  refine va_getN (D := D) (ci := 5) (v := .ref (ad 1)) (C := RX5) (T := TX5) (N := 22) hx hb hts hin5 hown hK hP (2 + (0)) (gx_l (gx_r (WD_len _ _ _ _) (gx_l (SW_ob cy (ax 0) ad σ.2.1)))) rfl 2 (by decide) (nl_43 hnw) (fun _ h9 => h9) rfl dX6_shelterTold_55 ?_
  refine lv_iload_n hx hb dX6_shelterTold_58 rfl (lv_at hl 1 rfl) ?_
  have h6 : i < 8 := by omega
  refine g_iald hx hb hK hP (2 + (1)) 0 i (gx_l (gx_r (WD_len _ _ _ _) (gx_l (SW_1 cy (ax 0) ad σ.2.1)))) rfl (nI_clamp (by omega)) (vp_in_nI h6 (by decide)) dX6_shelterTold_59 ?_
  have h7 : 0 < 8 := by omega
  refine g_iast (σ1 := (σ, upd (fun _ => (0 : Int32)) 0 (σ.2.1 1 i))) hx hb hK hP hD hS (36) 0 0 (MT_get) rfl (nI_clamp (by omega)) (vp_in_nI h7 (by decide)) (MT_set) dX6_shelterTold_60 ?_
  intro u8 eu8 H locs hP hD hS
  subst eu8
  refine lv_dup hx hb dX6_shelterTold_61 rfl ?_
  refine lv_iconst (v := nI 1) hx hb dX6_shelterTold_62 (by decide) ?_
  refine lv_aload_n hx hb dX6_shelterTold_63 rfl (lv_at hl 0 rfl) ?_
  refine va_get (D := D) (ci := 6) (v := .ref (ad 0)) (C := RX6) (T := TX6) (N := 4) hx hb hts hin6 hown hK hP (0) (gx_l (gx_l (OW_ob cy ax (ad 0) (ad2 0) σ.1))) rfl 2 (by decide) wd0 (fun _ h9 => h9) rfl dX6_shelterTold_64 ?_
  refine va_getN (D := D) (ci := 5) (v := .ref (ad 2)) (C := RX5) (T := TX5) (N := 22) hx hb hts hin5 hown hK hP (2 + (0)) (gx_l (gx_r (WD_len _ _ _ _) (gx_l (SW_ob cy (ax 0) ad σ.2.1)))) rfl 3 (by decide) (nl_46 hnw) (fun _ h9 => h9) rfl dX6_shelterTold_67 ?_
  refine lv_iload_n hx hb dX6_shelterTold_70 rfl (lv_at hl 1 rfl) ?_
  have h9 : i < 8 := by omega
  refine g_iald hx hb hK hP (2 + (2)) 0 i (gx_l (gx_r (WD_len _ _ _ _) (gx_l (SW_2 cy (ax 0) ad σ.2.1)))) rfl (nI_clamp (by omega)) (vp_in_nI h9 (by decide)) dX6_shelterTold_71 ?_
  have h10 : 1 < 8 := by omega
  refine g_iast (σ1 := (σ, upd (upd (fun _ => (0 : Int32)) 0 (σ.2.1 1 i)) 1 (σ.2.1 2 i))) hx hb hK hP hD hS (36) 0 1 (MT_get) rfl (nI_clamp (by omega)) (vp_in_nI h10 (by decide)) (MT_set) dX6_shelterTold_72 ?_
  intro u11 eu11 H locs hP hD hS
  subst eu11
  refine lv_dup hx hb dX6_shelterTold_73 rfl ?_
  refine lv_iconst (v := nI 2) hx hb dX6_shelterTold_74 (by decide) ?_
  refine lv_aload_n hx hb dX6_shelterTold_75 rfl (lv_at hl 0 rfl) ?_
  refine va_get (D := D) (ci := 6) (v := .ref (ad 0)) (C := RX6) (T := TX6) (N := 4) hx hb hts hin6 hown hK hP (0) (gx_l (gx_l (OW_ob cy ax (ad 0) (ad2 0) σ.1))) rfl 2 (by decide) wd0 (fun _ h9 => h9) rfl dX6_shelterTold_76 ?_
  refine lv_iload_n hx hb dX6_shelterTold_79 rfl (lv_at hl 1 rfl) ?_
  refine g_callr (q0 := 2 + (0)) (wf := (MTW cy ax ad ad2 qA 8)) (σ := (σ, upd (upd (fun _ => (0 : Int32)) 0 (σ.2.1 1 i)) 1 (σ.2.1 2 i))) (wfc := (SW cy (ax 0) ad)) (σc := σ.2.1) hx hb hml hown hts hK hP hD hS hA hl.1 ((OW cy ax (ad 0) (ad2 0) (σ.1) ++ SW cy (ax 0) ad2 (σ.2.2)) ++ [(qA, .inl (cy 0, 8, .inl (upd (upd (fun _ => (0 : Int32)) 0 (σ.2.1 1 i)) 1 (σ.2.1 2 i))))]) pm_nT [.int (nI i)] (c_X5_there l D cy (ax 0) ad σ.2.1 (nI i) (hI.mv hz)) (cwV 1 hts gX6_shelterTold_X5_there rfl rfl rfl (by decide +kernel) ⟨Nat.le_of_ble_eq_true rfl, Nat.le_of_ble_eq_true rfl⟩) (gx_l (gx_r (WD_len _ _ _ _) (gx_l (SW_ob cy (ax 0) ad σ.2.1)))) rfl rfl rfl rfl (Nat.le_of_ble_eq_true rfl) dX6_shelterTold_80 ⟨Nat.le_of_ble_eq_true rfl, Nat.le_of_ble_eq_true rfl⟩ rfl rfl ?_
  intro r12 er12 H locs hP hD hS
  replace hf := hf.trans (ltt_r er12)
  have h13 : 2 < 8 := by omega
  refine g_iast (σ1 := (σ, upd (upd (upd (fun _ => (0 : Int32)) 0 (σ.2.1 1 i)) 1 (σ.2.1 2 i)) 2 r12)) hx hb hK hP hD hS (36) 0 2 (MT_get) rfl (nI_clamp (by omega)) (vp_in_nI h13 (by decide)) (MT_set) dX6_shelterTold_83 ?_
  intro u14 eu14 H locs hP hD hS
  subst eu14
  refine lv_dup hx hb dX6_shelterTold_84 rfl ?_
  refine lv_iconst (v := nI 3) hx hb dX6_shelterTold_85 (by decide) ?_
  refine lv_iload_n hx hb dX6_shelterTold_86 rfl (lv_at hl 3 rfl) ?_
  have h15 : 3 < 8 := by omega
  refine g_iast (σ1 := (σ, upd (upd (upd (upd (fun _ => (0 : Int32)) 0 (σ.2.1 1 i)) 1 (σ.2.1 2 i)) 2 r12) 3 q5)) hx hb hK hP hD hS (36) 0 3 (MT_get) rfl (nI_clamp (by omega)) (vp_in_nI h15 (by decide)) (MT_set) dX6_shelterTold_87 ?_
  intro u16 eu16 H locs hP hD hS
  subst eu16
  refine lv_dup hx hb dX6_shelterTold_88 rfl ?_
  refine lv_iconst (v := nI 4) hx hb dX6_shelterTold_89 (by decide) ?_
  refine lv_aload_n hx hb dX6_shelterTold_90 rfl (lv_at hl 0 rfl) ?_
  refine va_get (D := D) (ci := 6) (v := .ref (ad 0)) (C := RX6) (T := TX6) (N := 4) hx hb hts hin6 hown hK hP (0) (gx_l (gx_l (OW_ob cy ax (ad 0) (ad2 0) σ.1))) rfl 2 (by decide) wd0 (fun _ h9 => h9) rfl dX6_shelterTold_91 ?_
  refine va_getN (D := D) (ci := 5) (v := .ref (ad 3)) (C := RX5) (T := TX5) (N := 22) hx hb hts hin5 hown hK hP (2 + (0)) (gx_l (gx_r (WD_len _ _ _ _) (gx_l (SW_ob cy (ax 0) ad σ.2.1)))) rfl 4 (by decide) (nl_81 hnw) (fun _ h9 => h9) rfl dX6_shelterTold_94 ?_
  refine lv_iconst (v := nI 5) hx hb dX6_shelterTold_97 (by decide) ?_
  refine lv_iload_n hx hb dX6_shelterTold_98 rfl (lv_at hl 1 rfl) ?_
  refine lv_imul hx hb dX6_shelterTold_99 ?_
  refine g_top (pk_mul _ _) ?_
  have h17 : 5 * i < 40 := by omega
  refine g_iald hx hb hK hP (2 + (3)) 0 (5 * i) (gx_l (gx_r (WD_len _ _ _ _) (gx_l (SW_3 cy (ax 0) ad σ.2.1)))) rfl (nI_clamp (by omega)) (vp_in_nI h17 (by decide)) dX6_shelterTold_100 ?_
  have h18 : 4 < 8 := by omega
  refine g_iast (σ1 := (σ, upd (upd (upd (upd (upd (fun _ => (0 : Int32)) 0 (σ.2.1 1 i)) 1 (σ.2.1 2 i)) 2 r12) 3 q5) 4 (σ.2.1 3 (5 * i)))) hx hb hK hP hD hS (36) 0 4 (MT_get) rfl (nI_clamp (by omega)) (vp_in_nI h18 (by decide)) (MT_set) dX6_shelterTold_101 ?_
  intro u19 eu19 H locs hP hD hS
  subst eu19
  refine lv_dup hx hb dX6_shelterTold_102 rfl ?_
  refine lv_iconst (v := nI 5) hx hb dX6_shelterTold_103 (by decide) ?_
  refine lv_aload_n hx hb dX6_shelterTold_104 rfl (lv_at hl 0 rfl) ?_
  refine va_get (D := D) (ci := 6) (v := .ref (ad 0)) (C := RX6) (T := TX6) (N := 4) hx hb hts hin6 hown hK hP (0) (gx_l (gx_l (OW_ob cy ax (ad 0) (ad2 0) σ.1))) rfl 2 (by decide) wd0 (fun _ h9 => h9) rfl dX6_shelterTold_105 ?_
  refine va_getN (D := D) (ci := 5) (v := .ref (ad 3)) (C := RX5) (T := TX5) (N := 22) hx hb hts hin5 hown hK hP (2 + (0)) (gx_l (gx_r (WD_len _ _ _ _) (gx_l (SW_ob cy (ax 0) ad σ.2.1)))) rfl 4 (by decide) (nl_81 hnw) (fun _ h9 => h9) rfl dX6_shelterTold_108 ?_
  refine lv_iconst (v := nI 5) hx hb dX6_shelterTold_111 (by decide) ?_
  refine lv_iload_n hx hb dX6_shelterTold_112 rfl (lv_at hl 1 rfl) ?_
  refine lv_imul hx hb dX6_shelterTold_113 ?_
  refine g_top (pk_mul _ _) ?_
  refine lv_iconst (v := nI 1) hx hb dX6_shelterTold_114 (by decide) ?_
  refine lv_iadd hx hb dX6_shelterTold_115 ?_
  refine g_top (nI_add _ _) ?_
  have h20 : (5 * i) + 1 < 40 := by omega
  refine g_iald hx hb hK hP (2 + (3)) 0 ((5 * i) + 1) (gx_l (gx_r (WD_len _ _ _ _) (gx_l (SW_3 cy (ax 0) ad σ.2.1)))) rfl (nI_clamp (by omega)) (vp_in_nI h20 (by decide)) dX6_shelterTold_116 ?_
  have h21 : 5 < 8 := by omega
  refine g_iast (σ1 := (σ, upd (upd (upd (upd (upd (upd (fun _ => (0 : Int32)) 0 (σ.2.1 1 i)) 1 (σ.2.1 2 i)) 2 r12) 3 q5) 4 (σ.2.1 3 (5 * i))) 5 (σ.2.1 3 ((5 * i) + 1)))) hx hb hK hP hD hS (36) 0 5 (MT_get) rfl (nI_clamp (by omega)) (vp_in_nI h21 (by decide)) (MT_set) dX6_shelterTold_117 ?_
  intro u22 eu22 H locs hP hD hS
  subst eu22
  refine lv_dup hx hb dX6_shelterTold_118 rfl ?_
  refine lv_bipush (v := nI 6) hx hb dX6_shelterTold_119 (by decide) ?_
  refine lv_aload_n hx hb dX6_shelterTold_121 rfl (lv_at hl 0 rfl) ?_
  refine va_get (D := D) (ci := 6) (v := .ref (ad 0)) (C := RX6) (T := TX6) (N := 4) hx hb hts hin6 hown hK hP (0) (gx_l (gx_l (OW_ob cy ax (ad 0) (ad2 0) σ.1))) rfl 2 (by decide) wd0 (fun _ h9 => h9) rfl dX6_shelterTold_122 ?_
  refine va_getN (D := D) (ci := 5) (v := .ref (ad 3)) (C := RX5) (T := TX5) (N := 22) hx hb hts hin5 hown hK hP (2 + (0)) (gx_l (gx_r (WD_len _ _ _ _) (gx_l (SW_ob cy (ax 0) ad σ.2.1)))) rfl 4 (by decide) (nl_81 hnw) (fun _ h9 => h9) rfl dX6_shelterTold_125 ?_
  refine lv_iconst (v := nI 5) hx hb dX6_shelterTold_128 (by decide) ?_
  refine lv_iload_n hx hb dX6_shelterTold_129 rfl (lv_at hl 1 rfl) ?_
  refine lv_imul hx hb dX6_shelterTold_130 ?_
  refine g_top (pk_mul _ _) ?_
  refine lv_iconst (v := nI 2) hx hb dX6_shelterTold_131 (by decide) ?_
  refine lv_iadd hx hb dX6_shelterTold_132 ?_
  refine g_top (nI_add _ _) ?_
  have h23 : (5 * i) + 2 < 40 := by omega
  refine g_iald hx hb hK hP (2 + (3)) 0 ((5 * i) + 2) (gx_l (gx_r (WD_len _ _ _ _) (gx_l (SW_3 cy (ax 0) ad σ.2.1)))) rfl (nI_clamp (by omega)) (vp_in_nI h23 (by decide)) dX6_shelterTold_133 ?_
  have h24 : 6 < 8 := by omega
  refine g_iast (σ1 := (σ, upd (upd (upd (upd (upd (upd (upd (fun _ => (0 : Int32)) 0 (σ.2.1 1 i)) 1 (σ.2.1 2 i)) 2 r12) 3 q5) 4 (σ.2.1 3 (5 * i))) 5 (σ.2.1 3 ((5 * i) + 1))) 6 (σ.2.1 3 ((5 * i) + 2)))) hx hb hK hP hD hS (36) 0 6 (MT_get) rfl (nI_clamp (by omega)) (vp_in_nI h24 (by decide)) (MT_set) dX6_shelterTold_134 ?_
  intro u25 eu25 H locs hP hD hS
  subst eu25
  refine lv_dup hx hb dX6_shelterTold_135 rfl ?_
  refine lv_bipush (v := nI 7) hx hb dX6_shelterTold_136 (by decide) ?_
  refine lv_aload_n hx hb dX6_shelterTold_138 rfl (lv_at hl 0 rfl) ?_
  refine va_get (D := D) (ci := 6) (v := .ref (ad 0)) (C := RX6) (T := TX6) (N := 4) hx hb hts hin6 hown hK hP (0) (gx_l (gx_l (OW_ob cy ax (ad 0) (ad2 0) σ.1))) rfl 2 (by decide) wd0 (fun _ h9 => h9) rfl dX6_shelterTold_139 ?_
  refine lv_iload_n hx hb dX6_shelterTold_142 rfl (lv_at hl 1 rfl) ?_
  refine g_callr (q0 := 2 + (0)) (wf := (MTW cy ax ad ad2 qA 8)) (σ := (σ, upd (upd (upd (upd (upd (upd (upd (fun _ => (0 : Int32)) 0 (σ.2.1 1 i)) 1 (σ.2.1 2 i)) 2 r12) 3 q5) 4 (σ.2.1 3 (5 * i))) 5 (σ.2.1 3 ((5 * i) + 1))) 6 (σ.2.1 3 ((5 * i) + 2)))) (wfc := (SW cy (ax 0) ad)) (σc := σ.2.1) hx hb hml hown hts hK hP hD hS hA hl.1 ((OW cy ax (ad 0) (ad2 0) (σ.1) ++ SW cy (ax 0) ad2 (σ.2.2)) ++ [(qA, .inl (cy 0, 8, .inl (upd (upd (upd (upd (upd (upd (upd (fun _ => (0 : Int32)) 0 (σ.2.1 1 i)) 1 (σ.2.1 2 i)) 2 r12) 3 q5) 4 (σ.2.1 3 (5 * i))) 5 (σ.2.1 3 ((5 * i) + 1))) 6 (σ.2.1 3 ((5 * i) + 2)))))]) pm_nT [.int (nI i)] (c_X5_first l D cy (ax 0) ad σ.2.1 (nI i) (hI.mv hz)) (cwV 1 hts gX6_shelterTold_X5_first rfl rfl rfl (by decide +kernel) ⟨Nat.le_of_ble_eq_true rfl, Nat.le_of_ble_eq_true rfl⟩) (gx_l (gx_r (WD_len _ _ _ _) (gx_l (SW_ob cy (ax 0) ad σ.2.1)))) rfl rfl rfl rfl (Nat.le_of_ble_eq_true rfl) dX6_shelterTold_143 ⟨Nat.le_of_ble_eq_true rfl, Nat.le_of_ble_eq_true rfl⟩ rfl rfl ?_
  intro r26 er26 H locs hP hD hS
  replace hf := hf.trans (ltt_r er26)
  have h27 : 7 < 8 := by omega
  refine g_iast (σ1 := (σ, upd (upd (upd (upd (upd (upd (upd (upd (fun _ => (0 : Int32)) 0 (σ.2.1 1 i)) 1 (σ.2.1 2 i)) 2 r12) 3 q5) 4 (σ.2.1 3 (5 * i))) 5 (σ.2.1 3 ((5 * i) + 1))) 6 (σ.2.1 3 ((5 * i) + 2))) 7 r26)) hx hb hK hP hD hS (36) 0 7 (MT_get) rfl (nI_clamp (by omega)) (vp_in_nI h27 (by decide)) (MT_set) dX6_shelterTold_146 ?_
  intro u28 eu28 H locs hP hD hS
  subst eu28
  refine lv_astore (lv' := [(4, .ref (qA)), (0, .ref (ax 0)), (1, .int (nI i)), (2, .int (y)), (3, .int (q5))]) hx hb dX6_shelterTold_147 hl (by decide) rfl (fun ls hl => ?_)
  refine lv_aload hx hb dX6_shelterTold_149 (lv_at hl 0 rfl) ?_
  refine lv_iload_n hx hb dX6_shelterTold_151 rfl (lv_at hl 3 rfl) ?_
  have h29 : vp_in (y) 8 := hw
  have h29b : tn y < 8 := tn_in h29
  refine g_iald hx hb hK hP (36) 0 (tn y) (MT_get) rfl rfl h29 dX6_shelterTold_152 ?_
  exact g_endi hx hb hr hlocks rfl (congrArg (fun r => (r, σ)) hf) (va_P_l hP) (va_D_l hD) hS (Nat.le_of_ble_eq_true rfl) (Nat.le_of_ble_eq_true rfl) dX6_shelterTold_153
def s_X6_umbrellaTold (σ : Sg × Sg × Sg) (i : Nat) (y : Int32) : Int32 := if (σ.2.1 4 i) = 0 then (upd (upd (upd (upd (upd (upd (fun _ => (0 : Int32)) 0 (σ.2.1 4 i)) 1 (σ.2.1 5 i)) 2 (σ.2.1 6 i)) 3 (σ.2.1 7 i)) 4 (σ.2.1 8 i)) 5 (σ.2.1 9 i)) (tn y) else if (σ.2.1 4 i) = (nI 1) then (upd (upd (upd (upd (upd (upd (fun _ => (0 : Int32)) 0 (σ.2.1 4 i)) 1 (σ.2.1 5 i)) 2 (σ.2.1 6 i)) 3 (σ.2.1 7 i)) 4 (σ.2.1 8 i)) 5 (σ.2.1 9 i)) (tn y) else (upd (upd (upd (upd (upd (upd (fun _ => (0 : Int32)) 0 (σ.2.1 4 i)) 1 (-1 : Int32)) 2 (σ.2.1 6 i)) 3 (σ.2.1 7 i)) 4 (σ.2.1 8 i)) 5 (σ.2.1 9 i)) (tn y)
abbrev rm_X6_umbrellaTold : Room := { frames := 0, cells := 1, slots := 6, locals := 0 }
set_option maxHeartbeats 4000000 in
set_option maxRecDepth 100000 in
theorem c_X6_umbrellaTold (l : Launch) (D : va_G) (cy : Nat → ClassId) (ax ad ad2 : Nat → Nat) (σ : Sg × Sg × Sg) (i : Nat) (y : Int32) (hk : i < 40) (hw : vp_in y 6) : gMrN l yX6_umbrellaTold wsX6_umbrellaTold rm_X6_umbrellaTold D (Ty cy) (MW cy ax ad ad2) [.ref (ax 0), .int (nI i), .int (y)] σ (s_X6_umbrellaTold σ i y) 1 6 := by
  refine gstartiN cX6_umbrellaTold 4 RX6 (by decide) rfl rfl (Nat.le_of_ble_eq_true rfl) ?_
  intro p e s m below meth c A ls hx hb hml hown hts hr hlocks hK hP hD hA hS hl hnw
  have hl : lv_has ls 4 [(0, .ref (ax 0)), (1, .int (nI i)), (2, .int (y))] := hl
  have hf : s_X6_umbrellaTold σ i y = s_X6_umbrellaTold σ i y := rfl
  have hz : σ.2.1 0 = σ.2.1 0 := rfl
  have hin6 : ∀ w ∈ wsX60, w ∈ wsX6_umbrellaTold := by decide +kernel
  have hin5 : ∀ w ∈ wsX50, w ∈ wsX6_umbrellaTold := by decide +kernel
  have wd0 := hts (.arrayClass .int) (by decide +kernel)
  have wd1 := hts (.fieldLink RX6 18 "UmbrellaLandModel" "s" "LUmbrellaLandModel$State;") (by decide +kernel)
  refine lv_bipush (v := nI 6) hx hb dX6_umbrellaTold_0 (by decide) ?_
  refine g_newi (n := 6) hx hb wd0 hK hP hD hS hA (by decide) (Nat.le_of_ble_eq_true rfl) (Nat.le_of_ble_eq_true rfl) dX6_umbrellaTold_2 (fun qA H hP hD hS => ?_)
  have hP : va_P D vwCl ((MTW cy ax ad ad2 qA 6) (σ, (fun _ => (0 : Int32)))) H := hP
  have hD : va_D A ((MTW cy ax ad ad2 qA 6) (σ, (fun _ => (0 : Int32)))) := hD
  refine lv_dup hx hb dX6_umbrellaTold_4 rfl ?_
  refine lv_iconst (v := nI 0) hx hb dX6_umbrellaTold_5 (by decide) ?_
  refine lv_aload_n hx hb dX6_umbrellaTold_6 rfl (lv_at hl 0 rfl) ?_
  refine va_get (D := D) (ci := 6) (v := .ref (ad 0)) (C := RX6) (T := TX6) (N := 4) hx hb hts hin6 hown hK hP (0) (gx_l (gx_l (OW_ob cy ax (ad 0) (ad2 0) σ.1))) rfl 2 (by decide) wd1 (fun _ h9 => h9) rfl dX6_umbrellaTold_7 ?_
  refine va_getN (D := D) (ci := 5) (v := .ref (ad 4)) (C := RX5) (T := TX5) (N := 22) hx hb hts hin5 hown hK hP (2 + (0)) (gx_l (gx_r (WD_len _ _ _ _) (gx_l (SW_ob cy (ax 0) ad σ.2.1)))) rfl 6 (by decide) (nl_91 hnw) (fun _ h9 => h9) rfl dX6_umbrellaTold_10 ?_
  refine lv_iload_n hx hb dX6_umbrellaTold_13 rfl (lv_at hl 1 rfl) ?_
  have h1 : i < 40 := by omega
  refine g_iald hx hb hK hP (2 + (4)) 0 i (gx_l (gx_r (WD_len _ _ _ _) (gx_l (SW_4 cy (ax 0) ad σ.2.1)))) rfl (nI_clamp (by omega)) (vp_in_nI h1 (by decide)) dX6_umbrellaTold_14 ?_
  have h2 : 0 < 6 := by omega
  refine g_iast (σ1 := (σ, upd (fun _ => (0 : Int32)) 0 (σ.2.1 4 i))) hx hb hK hP hD hS (36) 0 0 (MT_get) rfl (nI_clamp (by omega)) (vp_in_nI h2 (by decide)) (MT_set) dX6_umbrellaTold_15 ?_
  intro u3 eu3 H locs hP hD hS
  subst eu3
  refine lv_dup hx hb dX6_umbrellaTold_16 rfl ?_
  refine lv_iconst (v := nI 1) hx hb dX6_umbrellaTold_17 (by decide) ?_
  refine lv_aload_n hx hb dX6_umbrellaTold_18 rfl (lv_at hl 0 rfl) ?_
  refine va_get (D := D) (ci := 6) (v := .ref (ad 0)) (C := RX6) (T := TX6) (N := 4) hx hb hts hin6 hown hK hP (0) (gx_l (gx_l (OW_ob cy ax (ad 0) (ad2 0) σ.1))) rfl 2 (by decide) wd1 (fun _ h9 => h9) rfl dX6_umbrellaTold_19 ?_
  refine va_getN (D := D) (ci := 5) (v := .ref (ad 4)) (C := RX5) (T := TX5) (N := 22) hx hb hts hin5 hown hK hP (2 + (0)) (gx_l (gx_r (WD_len _ _ _ _) (gx_l (SW_ob cy (ax 0) ad σ.2.1)))) rfl 6 (by decide) (nl_91 hnw) (fun _ h9 => h9) rfl dX6_umbrellaTold_22 ?_
  refine lv_iload_n hx hb dX6_umbrellaTold_25 rfl (lv_at hl 1 rfl) ?_
  have h4 : i < 40 := by omega
  refine g_iald hx hb hK hP (2 + (4)) 0 i (gx_l (gx_r (WD_len _ _ _ _) (gx_l (SW_4 cy (ax 0) ad σ.2.1)))) rfl (nI_clamp (by omega)) (vp_in_nI h4 (by decide)) dX6_umbrellaTold_26 ?_
  refine lv_if_eq (tgt := 43) hx hb dX6_umbrellaTold_27 (by decide) (fun c5 => ?_) (fun c5 => ?_)
  · replace hf := hf.trans (if_pos c5)
    refine lv_aload_n hx hb dX6_umbrellaTold_43 rfl (lv_at hl 0 rfl) ?_
    refine va_get (D := D) (ci := 6) (v := .ref (ad 0)) (C := RX6) (T := TX6) (N := 4) hx hb hts hin6 hown hK hP (0) (gx_l (gx_l (OW_ob cy ax (ad 0) (ad2 0) σ.1))) rfl 2 (by decide) wd1 (fun _ h9 => h9) rfl dX6_umbrellaTold_44 ?_
    refine va_getN (D := D) (ci := 5) (v := .ref (ad 5)) (C := RX5) (T := TX5) (N := 22) hx hb hts hin5 hown hK hP (2 + (0)) (gx_l (gx_r (WD_len _ _ _ _) (gx_l (SW_ob cy (ax 0) ad σ.2.1)))) rfl 7 (by decide) (nl_94 hnw) (fun _ h9 => h9) rfl dX6_umbrellaTold_47 ?_
    refine lv_iload_n hx hb dX6_umbrellaTold_50 rfl (lv_at hl 1 rfl) ?_
    have h6 : i < 40 := by omega
    refine g_iald hx hb hK hP (2 + (5)) 0 i (gx_l (gx_r (WD_len _ _ _ _) (gx_l (SW_5 cy (ax 0) ad σ.2.1)))) rfl (nI_clamp (by omega)) (vp_in_nI h6 (by decide)) dX6_umbrellaTold_51 ?_
    refine lv_goto (tgt := 56) hx hb dX6_umbrellaTold_52 (by decide) ?_
    have h7 : 1 < 6 := by omega
    refine g_iast (σ1 := (σ, upd (upd (fun _ => (0 : Int32)) 0 (σ.2.1 4 i)) 1 (σ.2.1 5 i))) hx hb hK hP hD hS (36) 0 1 (MT_get) rfl (nI_clamp (by omega)) (vp_in_nI h7 (by decide)) (MT_set) dX6_umbrellaTold_56 ?_
    intro u8 eu8 H locs hP hD hS
    subst eu8
    refine lv_dup hx hb dX6_umbrellaTold_57 rfl ?_
    refine lv_iconst (v := nI 2) hx hb dX6_umbrellaTold_58 (by decide) ?_
    refine lv_aload_n hx hb dX6_umbrellaTold_59 rfl (lv_at hl 0 rfl) ?_
    refine va_get (D := D) (ci := 6) (v := .ref (ad 0)) (C := RX6) (T := TX6) (N := 4) hx hb hts hin6 hown hK hP (0) (gx_l (gx_l (OW_ob cy ax (ad 0) (ad2 0) σ.1))) rfl 2 (by decide) wd1 (fun _ h9 => h9) rfl dX6_umbrellaTold_60 ?_
    refine va_getN (D := D) (ci := 5) (v := .ref (ad 6)) (C := RX5) (T := TX5) (N := 22) hx hb hts hin5 hown hK hP (2 + (0)) (gx_l (gx_r (WD_len _ _ _ _) (gx_l (SW_ob cy (ax 0) ad σ.2.1)))) rfl 8 (by decide) (nl_97 hnw) (fun _ h9 => h9) rfl dX6_umbrellaTold_63 ?_
    refine lv_iload_n hx hb dX6_umbrellaTold_66 rfl (lv_at hl 1 rfl) ?_
    have h9 : i < 40 := by omega
    refine g_iald hx hb hK hP (2 + (6)) 0 i (gx_l (gx_r (WD_len _ _ _ _) (gx_l (SW_6 cy (ax 0) ad σ.2.1)))) rfl (nI_clamp (by omega)) (vp_in_nI h9 (by decide)) dX6_umbrellaTold_67 ?_
    have h10 : 2 < 6 := by omega
    refine g_iast (σ1 := (σ, upd (upd (upd (fun _ => (0 : Int32)) 0 (σ.2.1 4 i)) 1 (σ.2.1 5 i)) 2 (σ.2.1 6 i))) hx hb hK hP hD hS (36) 0 2 (MT_get) rfl (nI_clamp (by omega)) (vp_in_nI h10 (by decide)) (MT_set) dX6_umbrellaTold_68 ?_
    intro u11 eu11 H locs hP hD hS
    subst eu11
    refine lv_dup hx hb dX6_umbrellaTold_69 rfl ?_
    refine lv_iconst (v := nI 3) hx hb dX6_umbrellaTold_70 (by decide) ?_
    refine lv_aload_n hx hb dX6_umbrellaTold_71 rfl (lv_at hl 0 rfl) ?_
    refine va_get (D := D) (ci := 6) (v := .ref (ad 0)) (C := RX6) (T := TX6) (N := 4) hx hb hts hin6 hown hK hP (0) (gx_l (gx_l (OW_ob cy ax (ad 0) (ad2 0) σ.1))) rfl 2 (by decide) wd1 (fun _ h9 => h9) rfl dX6_umbrellaTold_72 ?_
    refine va_getN (D := D) (ci := 5) (v := .ref (ad 7)) (C := RX5) (T := TX5) (N := 22) hx hb hts hin5 hown hK hP (2 + (0)) (gx_l (gx_r (WD_len _ _ _ _) (gx_l (SW_ob cy (ax 0) ad σ.2.1)))) rfl 9 (by decide) (nl_100 hnw) (fun _ h9 => h9) rfl dX6_umbrellaTold_75 ?_
    refine lv_iload_n hx hb dX6_umbrellaTold_78 rfl (lv_at hl 1 rfl) ?_
    have h12 : i < 40 := by omega
    refine g_iald hx hb hK hP (2 + (7)) 0 i (gx_l (gx_r (WD_len _ _ _ _) (gx_l (SW_7 cy (ax 0) ad σ.2.1)))) rfl (nI_clamp (by omega)) (vp_in_nI h12 (by decide)) dX6_umbrellaTold_79 ?_
    have h13 : 3 < 6 := by omega
    refine g_iast (σ1 := (σ, upd (upd (upd (upd (fun _ => (0 : Int32)) 0 (σ.2.1 4 i)) 1 (σ.2.1 5 i)) 2 (σ.2.1 6 i)) 3 (σ.2.1 7 i))) hx hb hK hP hD hS (36) 0 3 (MT_get) rfl (nI_clamp (by omega)) (vp_in_nI h13 (by decide)) (MT_set) dX6_umbrellaTold_80 ?_
    intro u14 eu14 H locs hP hD hS
    subst eu14
    refine lv_dup hx hb dX6_umbrellaTold_81 rfl ?_
    refine lv_iconst (v := nI 4) hx hb dX6_umbrellaTold_82 (by decide) ?_
    refine lv_aload_n hx hb dX6_umbrellaTold_83 rfl (lv_at hl 0 rfl) ?_
    refine va_get (D := D) (ci := 6) (v := .ref (ad 0)) (C := RX6) (T := TX6) (N := 4) hx hb hts hin6 hown hK hP (0) (gx_l (gx_l (OW_ob cy ax (ad 0) (ad2 0) σ.1))) rfl 2 (by decide) wd1 (fun _ h9 => h9) rfl dX6_umbrellaTold_84 ?_
    refine va_getN (D := D) (ci := 5) (v := .ref (ad 8)) (C := RX5) (T := TX5) (N := 22) hx hb hts hin5 hown hK hP (2 + (0)) (gx_l (gx_r (WD_len _ _ _ _) (gx_l (SW_ob cy (ax 0) ad σ.2.1)))) rfl 10 (by decide) (nl_103 hnw) (fun _ h9 => h9) rfl dX6_umbrellaTold_87 ?_
    refine lv_iload_n hx hb dX6_umbrellaTold_90 rfl (lv_at hl 1 rfl) ?_
    have h15 : i < 40 := by omega
    refine g_iald hx hb hK hP (2 + (8)) 0 i (gx_l (gx_r (WD_len _ _ _ _) (gx_l (SW_8 cy (ax 0) ad σ.2.1)))) rfl (nI_clamp (by omega)) (vp_in_nI h15 (by decide)) dX6_umbrellaTold_91 ?_
    have h16 : 4 < 6 := by omega
    refine g_iast (σ1 := (σ, upd (upd (upd (upd (upd (fun _ => (0 : Int32)) 0 (σ.2.1 4 i)) 1 (σ.2.1 5 i)) 2 (σ.2.1 6 i)) 3 (σ.2.1 7 i)) 4 (σ.2.1 8 i))) hx hb hK hP hD hS (36) 0 4 (MT_get) rfl (nI_clamp (by omega)) (vp_in_nI h16 (by decide)) (MT_set) dX6_umbrellaTold_92 ?_
    intro u17 eu17 H locs hP hD hS
    subst eu17
    refine lv_dup hx hb dX6_umbrellaTold_93 rfl ?_
    refine lv_iconst (v := nI 5) hx hb dX6_umbrellaTold_94 (by decide) ?_
    refine lv_aload_n hx hb dX6_umbrellaTold_95 rfl (lv_at hl 0 rfl) ?_
    refine va_get (D := D) (ci := 6) (v := .ref (ad 0)) (C := RX6) (T := TX6) (N := 4) hx hb hts hin6 hown hK hP (0) (gx_l (gx_l (OW_ob cy ax (ad 0) (ad2 0) σ.1))) rfl 2 (by decide) wd1 (fun _ h9 => h9) rfl dX6_umbrellaTold_96 ?_
    refine va_getN (D := D) (ci := 5) (v := .ref (ad 9)) (C := RX5) (T := TX5) (N := 22) hx hb hts hin5 hown hK hP (2 + (0)) (gx_l (gx_r (WD_len _ _ _ _) (gx_l (SW_ob cy (ax 0) ad σ.2.1)))) rfl 11 (by decide) (nl_106 hnw) (fun _ h9 => h9) rfl dX6_umbrellaTold_99 ?_
    refine lv_iload_n hx hb dX6_umbrellaTold_102 rfl (lv_at hl 1 rfl) ?_
    have h18 : i < 40 := by omega
    refine g_iald hx hb hK hP (2 + (9)) 0 i (gx_l (gx_r (WD_len _ _ _ _) (gx_l (SW_9 cy (ax 0) ad σ.2.1)))) rfl (nI_clamp (by omega)) (vp_in_nI h18 (by decide)) dX6_umbrellaTold_103 ?_
    have h19 : 5 < 6 := by omega
    refine g_iast (σ1 := (σ, upd (upd (upd (upd (upd (upd (fun _ => (0 : Int32)) 0 (σ.2.1 4 i)) 1 (σ.2.1 5 i)) 2 (σ.2.1 6 i)) 3 (σ.2.1 7 i)) 4 (σ.2.1 8 i)) 5 (σ.2.1 9 i))) hx hb hK hP hD hS (36) 0 5 (MT_get) rfl (nI_clamp (by omega)) (vp_in_nI h19 (by decide)) (MT_set) dX6_umbrellaTold_104 ?_
    intro u20 eu20 H locs hP hD hS
    subst eu20
    refine lv_astore_n (lv' := [(3, .ref (qA)), (0, .ref (ax 0)), (1, .int (nI i)), (2, .int (y))]) hx hb dX6_umbrellaTold_105 rfl hl (by decide) rfl (fun ls hl => ?_)
    refine lv_aload_n hx hb dX6_umbrellaTold_106 rfl (lv_at hl 0 rfl) ?_
    refine lv_iload_n hx hb dX6_umbrellaTold_107 rfl (lv_at hl 3 rfl) ?_
    have h21 : vp_in (y) 6 := hw
    have h21b : tn y < 6 := tn_in h21
    refine g_iald hx hb hK hP (36) 0 (tn y) (MT_get) rfl rfl h21 dX6_umbrellaTold_108 ?_
    exact g_endi hx hb hr hlocks rfl (congrArg (fun r => (r, σ)) hf) (va_P_l hP) (va_D_l hD) hS (Nat.le_of_ble_eq_true rfl) (Nat.le_of_ble_eq_true rfl) dX6_umbrellaTold_109
  · replace hf := hf.trans (if_neg c5)
    refine lv_aload_n hx hb dX6_umbrellaTold_30 rfl (lv_at hl 0 rfl) ?_
    refine va_get (D := D) (ci := 6) (v := .ref (ad 0)) (C := RX6) (T := TX6) (N := 4) hx hb hts hin6 hown hK hP (0) (gx_l (gx_l (OW_ob cy ax (ad 0) (ad2 0) σ.1))) rfl 2 (by decide) wd1 (fun _ h9 => h9) rfl dX6_umbrellaTold_31 ?_
    refine va_getN (D := D) (ci := 5) (v := .ref (ad 4)) (C := RX5) (T := TX5) (N := 22) hx hb hts hin5 hown hK hP (2 + (0)) (gx_l (gx_r (WD_len _ _ _ _) (gx_l (SW_ob cy (ax 0) ad σ.2.1)))) rfl 6 (by decide) (nl_91 hnw) (fun _ h9 => h9) rfl dX6_umbrellaTold_34 ?_
    refine lv_iload_n hx hb dX6_umbrellaTold_37 rfl (lv_at hl 1 rfl) ?_
    have h22 : i < 40 := by omega
    refine g_iald hx hb hK hP (2 + (4)) 0 i (gx_l (gx_r (WD_len _ _ _ _) (gx_l (SW_4 cy (ax 0) ad σ.2.1)))) rfl (nI_clamp (by omega)) (vp_in_nI h22 (by decide)) dX6_umbrellaTold_38 ?_
    refine lv_iconst (v := nI 1) hx hb dX6_umbrellaTold_39 (by decide) ?_
    refine lv_icmp_ne (tgt := 55) hx hb dX6_umbrellaTold_40 (by decide) (fun c23 => ?_) (fun c23 => ?_)
    · replace hf := hf.trans (if_neg c23)
      refine lv_iconst (v := (-1 : Int32)) hx hb dX6_umbrellaTold_55 (by decide) ?_
      have h24 : 1 < 6 := by omega
      refine g_iast (σ1 := (σ, upd (upd (fun _ => (0 : Int32)) 0 (σ.2.1 4 i)) 1 (-1 : Int32))) hx hb hK hP hD hS (36) 0 1 (MT_get) rfl (nI_clamp (by omega)) (vp_in_nI h24 (by decide)) (MT_set) dX6_umbrellaTold_56 ?_
      intro u25 eu25 H locs hP hD hS
      subst eu25
      refine lv_dup hx hb dX6_umbrellaTold_57 rfl ?_
      refine lv_iconst (v := nI 2) hx hb dX6_umbrellaTold_58 (by decide) ?_
      refine lv_aload_n hx hb dX6_umbrellaTold_59 rfl (lv_at hl 0 rfl) ?_
      refine va_get (D := D) (ci := 6) (v := .ref (ad 0)) (C := RX6) (T := TX6) (N := 4) hx hb hts hin6 hown hK hP (0) (gx_l (gx_l (OW_ob cy ax (ad 0) (ad2 0) σ.1))) rfl 2 (by decide) wd1 (fun _ h9 => h9) rfl dX6_umbrellaTold_60 ?_
      refine va_getN (D := D) (ci := 5) (v := .ref (ad 6)) (C := RX5) (T := TX5) (N := 22) hx hb hts hin5 hown hK hP (2 + (0)) (gx_l (gx_r (WD_len _ _ _ _) (gx_l (SW_ob cy (ax 0) ad σ.2.1)))) rfl 8 (by decide) (nl_97 hnw) (fun _ h9 => h9) rfl dX6_umbrellaTold_63 ?_
      refine lv_iload_n hx hb dX6_umbrellaTold_66 rfl (lv_at hl 1 rfl) ?_
      have h26 : i < 40 := by omega
      refine g_iald hx hb hK hP (2 + (6)) 0 i (gx_l (gx_r (WD_len _ _ _ _) (gx_l (SW_6 cy (ax 0) ad σ.2.1)))) rfl (nI_clamp (by omega)) (vp_in_nI h26 (by decide)) dX6_umbrellaTold_67 ?_
      have h27 : 2 < 6 := by omega
      refine g_iast (σ1 := (σ, upd (upd (upd (fun _ => (0 : Int32)) 0 (σ.2.1 4 i)) 1 (-1 : Int32)) 2 (σ.2.1 6 i))) hx hb hK hP hD hS (36) 0 2 (MT_get) rfl (nI_clamp (by omega)) (vp_in_nI h27 (by decide)) (MT_set) dX6_umbrellaTold_68 ?_
      intro u28 eu28 H locs hP hD hS
      subst eu28
      refine lv_dup hx hb dX6_umbrellaTold_69 rfl ?_
      refine lv_iconst (v := nI 3) hx hb dX6_umbrellaTold_70 (by decide) ?_
      refine lv_aload_n hx hb dX6_umbrellaTold_71 rfl (lv_at hl 0 rfl) ?_
      refine va_get (D := D) (ci := 6) (v := .ref (ad 0)) (C := RX6) (T := TX6) (N := 4) hx hb hts hin6 hown hK hP (0) (gx_l (gx_l (OW_ob cy ax (ad 0) (ad2 0) σ.1))) rfl 2 (by decide) wd1 (fun _ h9 => h9) rfl dX6_umbrellaTold_72 ?_
      refine va_getN (D := D) (ci := 5) (v := .ref (ad 7)) (C := RX5) (T := TX5) (N := 22) hx hb hts hin5 hown hK hP (2 + (0)) (gx_l (gx_r (WD_len _ _ _ _) (gx_l (SW_ob cy (ax 0) ad σ.2.1)))) rfl 9 (by decide) (nl_100 hnw) (fun _ h9 => h9) rfl dX6_umbrellaTold_75 ?_
      refine lv_iload_n hx hb dX6_umbrellaTold_78 rfl (lv_at hl 1 rfl) ?_
      have h29 : i < 40 := by omega
      refine g_iald hx hb hK hP (2 + (7)) 0 i (gx_l (gx_r (WD_len _ _ _ _) (gx_l (SW_7 cy (ax 0) ad σ.2.1)))) rfl (nI_clamp (by omega)) (vp_in_nI h29 (by decide)) dX6_umbrellaTold_79 ?_
      have h30 : 3 < 6 := by omega
      refine g_iast (σ1 := (σ, upd (upd (upd (upd (fun _ => (0 : Int32)) 0 (σ.2.1 4 i)) 1 (-1 : Int32)) 2 (σ.2.1 6 i)) 3 (σ.2.1 7 i))) hx hb hK hP hD hS (36) 0 3 (MT_get) rfl (nI_clamp (by omega)) (vp_in_nI h30 (by decide)) (MT_set) dX6_umbrellaTold_80 ?_
      intro u31 eu31 H locs hP hD hS
      subst eu31
      refine lv_dup hx hb dX6_umbrellaTold_81 rfl ?_
      refine lv_iconst (v := nI 4) hx hb dX6_umbrellaTold_82 (by decide) ?_
      refine lv_aload_n hx hb dX6_umbrellaTold_83 rfl (lv_at hl 0 rfl) ?_
      refine va_get (D := D) (ci := 6) (v := .ref (ad 0)) (C := RX6) (T := TX6) (N := 4) hx hb hts hin6 hown hK hP (0) (gx_l (gx_l (OW_ob cy ax (ad 0) (ad2 0) σ.1))) rfl 2 (by decide) wd1 (fun _ h9 => h9) rfl dX6_umbrellaTold_84 ?_
      refine va_getN (D := D) (ci := 5) (v := .ref (ad 8)) (C := RX5) (T := TX5) (N := 22) hx hb hts hin5 hown hK hP (2 + (0)) (gx_l (gx_r (WD_len _ _ _ _) (gx_l (SW_ob cy (ax 0) ad σ.2.1)))) rfl 10 (by decide) (nl_103 hnw) (fun _ h9 => h9) rfl dX6_umbrellaTold_87 ?_
      refine lv_iload_n hx hb dX6_umbrellaTold_90 rfl (lv_at hl 1 rfl) ?_
      have h32 : i < 40 := by omega
      refine g_iald hx hb hK hP (2 + (8)) 0 i (gx_l (gx_r (WD_len _ _ _ _) (gx_l (SW_8 cy (ax 0) ad σ.2.1)))) rfl (nI_clamp (by omega)) (vp_in_nI h32 (by decide)) dX6_umbrellaTold_91 ?_
      have h33 : 4 < 6 := by omega
      refine g_iast (σ1 := (σ, upd (upd (upd (upd (upd (fun _ => (0 : Int32)) 0 (σ.2.1 4 i)) 1 (-1 : Int32)) 2 (σ.2.1 6 i)) 3 (σ.2.1 7 i)) 4 (σ.2.1 8 i))) hx hb hK hP hD hS (36) 0 4 (MT_get) rfl (nI_clamp (by omega)) (vp_in_nI h33 (by decide)) (MT_set) dX6_umbrellaTold_92 ?_
      intro u34 eu34 H locs hP hD hS
      subst eu34
      refine lv_dup hx hb dX6_umbrellaTold_93 rfl ?_
      refine lv_iconst (v := nI 5) hx hb dX6_umbrellaTold_94 (by decide) ?_
      refine lv_aload_n hx hb dX6_umbrellaTold_95 rfl (lv_at hl 0 rfl) ?_
      refine va_get (D := D) (ci := 6) (v := .ref (ad 0)) (C := RX6) (T := TX6) (N := 4) hx hb hts hin6 hown hK hP (0) (gx_l (gx_l (OW_ob cy ax (ad 0) (ad2 0) σ.1))) rfl 2 (by decide) wd1 (fun _ h9 => h9) rfl dX6_umbrellaTold_96 ?_
      refine va_getN (D := D) (ci := 5) (v := .ref (ad 9)) (C := RX5) (T := TX5) (N := 22) hx hb hts hin5 hown hK hP (2 + (0)) (gx_l (gx_r (WD_len _ _ _ _) (gx_l (SW_ob cy (ax 0) ad σ.2.1)))) rfl 11 (by decide) (nl_106 hnw) (fun _ h9 => h9) rfl dX6_umbrellaTold_99 ?_
      refine lv_iload_n hx hb dX6_umbrellaTold_102 rfl (lv_at hl 1 rfl) ?_
      have h35 : i < 40 := by omega
      refine g_iald hx hb hK hP (2 + (9)) 0 i (gx_l (gx_r (WD_len _ _ _ _) (gx_l (SW_9 cy (ax 0) ad σ.2.1)))) rfl (nI_clamp (by omega)) (vp_in_nI h35 (by decide)) dX6_umbrellaTold_103 ?_
      have h36 : 5 < 6 := by omega
      refine g_iast (σ1 := (σ, upd (upd (upd (upd (upd (upd (fun _ => (0 : Int32)) 0 (σ.2.1 4 i)) 1 (-1 : Int32)) 2 (σ.2.1 6 i)) 3 (σ.2.1 7 i)) 4 (σ.2.1 8 i)) 5 (σ.2.1 9 i))) hx hb hK hP hD hS (36) 0 5 (MT_get) rfl (nI_clamp (by omega)) (vp_in_nI h36 (by decide)) (MT_set) dX6_umbrellaTold_104 ?_
      intro u37 eu37 H locs hP hD hS
      subst eu37
      refine lv_astore_n (lv' := [(3, .ref (qA)), (0, .ref (ax 0)), (1, .int (nI i)), (2, .int (y))]) hx hb dX6_umbrellaTold_105 rfl hl (by decide) rfl (fun ls hl => ?_)
      refine lv_aload_n hx hb dX6_umbrellaTold_106 rfl (lv_at hl 0 rfl) ?_
      refine lv_iload_n hx hb dX6_umbrellaTold_107 rfl (lv_at hl 3 rfl) ?_
      have h38 : vp_in (y) 6 := hw
      have h38b : tn y < 6 := tn_in h38
      refine g_iald hx hb hK hP (36) 0 (tn y) (MT_get) rfl rfl h38 dX6_umbrellaTold_108 ?_
      exact g_endi hx hb hr hlocks rfl (congrArg (fun r => (r, σ)) hf) (va_P_l hP) (va_D_l hD) hS (Nat.le_of_ble_eq_true rfl) (Nat.le_of_ble_eq_true rfl) dX6_umbrellaTold_109
    · replace hf := hf.trans (if_pos c23)
      refine lv_aload_n hx hb dX6_umbrellaTold_43 rfl (lv_at hl 0 rfl) ?_
      refine va_get (D := D) (ci := 6) (v := .ref (ad 0)) (C := RX6) (T := TX6) (N := 4) hx hb hts hin6 hown hK hP (0) (gx_l (gx_l (OW_ob cy ax (ad 0) (ad2 0) σ.1))) rfl 2 (by decide) wd1 (fun _ h9 => h9) rfl dX6_umbrellaTold_44 ?_
      refine va_getN (D := D) (ci := 5) (v := .ref (ad 5)) (C := RX5) (T := TX5) (N := 22) hx hb hts hin5 hown hK hP (2 + (0)) (gx_l (gx_r (WD_len _ _ _ _) (gx_l (SW_ob cy (ax 0) ad σ.2.1)))) rfl 7 (by decide) (nl_94 hnw) (fun _ h9 => h9) rfl dX6_umbrellaTold_47 ?_
      refine lv_iload_n hx hb dX6_umbrellaTold_50 rfl (lv_at hl 1 rfl) ?_
      have h39 : i < 40 := by omega
      refine g_iald hx hb hK hP (2 + (5)) 0 i (gx_l (gx_r (WD_len _ _ _ _) (gx_l (SW_5 cy (ax 0) ad σ.2.1)))) rfl (nI_clamp (by omega)) (vp_in_nI h39 (by decide)) dX6_umbrellaTold_51 ?_
      refine lv_goto (tgt := 56) hx hb dX6_umbrellaTold_52 (by decide) ?_
      have h40 : 1 < 6 := by omega
      refine g_iast (σ1 := (σ, upd (upd (fun _ => (0 : Int32)) 0 (σ.2.1 4 i)) 1 (σ.2.1 5 i))) hx hb hK hP hD hS (36) 0 1 (MT_get) rfl (nI_clamp (by omega)) (vp_in_nI h40 (by decide)) (MT_set) dX6_umbrellaTold_56 ?_
      intro u41 eu41 H locs hP hD hS
      subst eu41
      refine lv_dup hx hb dX6_umbrellaTold_57 rfl ?_
      refine lv_iconst (v := nI 2) hx hb dX6_umbrellaTold_58 (by decide) ?_
      refine lv_aload_n hx hb dX6_umbrellaTold_59 rfl (lv_at hl 0 rfl) ?_
      refine va_get (D := D) (ci := 6) (v := .ref (ad 0)) (C := RX6) (T := TX6) (N := 4) hx hb hts hin6 hown hK hP (0) (gx_l (gx_l (OW_ob cy ax (ad 0) (ad2 0) σ.1))) rfl 2 (by decide) wd1 (fun _ h9 => h9) rfl dX6_umbrellaTold_60 ?_
      refine va_getN (D := D) (ci := 5) (v := .ref (ad 6)) (C := RX5) (T := TX5) (N := 22) hx hb hts hin5 hown hK hP (2 + (0)) (gx_l (gx_r (WD_len _ _ _ _) (gx_l (SW_ob cy (ax 0) ad σ.2.1)))) rfl 8 (by decide) (nl_97 hnw) (fun _ h9 => h9) rfl dX6_umbrellaTold_63 ?_
      refine lv_iload_n hx hb dX6_umbrellaTold_66 rfl (lv_at hl 1 rfl) ?_
      have h42 : i < 40 := by omega
      refine g_iald hx hb hK hP (2 + (6)) 0 i (gx_l (gx_r (WD_len _ _ _ _) (gx_l (SW_6 cy (ax 0) ad σ.2.1)))) rfl (nI_clamp (by omega)) (vp_in_nI h42 (by decide)) dX6_umbrellaTold_67 ?_
      have h43 : 2 < 6 := by omega
      refine g_iast (σ1 := (σ, upd (upd (upd (fun _ => (0 : Int32)) 0 (σ.2.1 4 i)) 1 (σ.2.1 5 i)) 2 (σ.2.1 6 i))) hx hb hK hP hD hS (36) 0 2 (MT_get) rfl (nI_clamp (by omega)) (vp_in_nI h43 (by decide)) (MT_set) dX6_umbrellaTold_68 ?_
      intro u44 eu44 H locs hP hD hS
      subst eu44
      refine lv_dup hx hb dX6_umbrellaTold_69 rfl ?_
      refine lv_iconst (v := nI 3) hx hb dX6_umbrellaTold_70 (by decide) ?_
      refine lv_aload_n hx hb dX6_umbrellaTold_71 rfl (lv_at hl 0 rfl) ?_
      refine va_get (D := D) (ci := 6) (v := .ref (ad 0)) (C := RX6) (T := TX6) (N := 4) hx hb hts hin6 hown hK hP (0) (gx_l (gx_l (OW_ob cy ax (ad 0) (ad2 0) σ.1))) rfl 2 (by decide) wd1 (fun _ h9 => h9) rfl dX6_umbrellaTold_72 ?_
      refine va_getN (D := D) (ci := 5) (v := .ref (ad 7)) (C := RX5) (T := TX5) (N := 22) hx hb hts hin5 hown hK hP (2 + (0)) (gx_l (gx_r (WD_len _ _ _ _) (gx_l (SW_ob cy (ax 0) ad σ.2.1)))) rfl 9 (by decide) (nl_100 hnw) (fun _ h9 => h9) rfl dX6_umbrellaTold_75 ?_
      refine lv_iload_n hx hb dX6_umbrellaTold_78 rfl (lv_at hl 1 rfl) ?_
      have h45 : i < 40 := by omega
      refine g_iald hx hb hK hP (2 + (7)) 0 i (gx_l (gx_r (WD_len _ _ _ _) (gx_l (SW_7 cy (ax 0) ad σ.2.1)))) rfl (nI_clamp (by omega)) (vp_in_nI h45 (by decide)) dX6_umbrellaTold_79 ?_
      have h46 : 3 < 6 := by omega
      refine g_iast (σ1 := (σ, upd (upd (upd (upd (fun _ => (0 : Int32)) 0 (σ.2.1 4 i)) 1 (σ.2.1 5 i)) 2 (σ.2.1 6 i)) 3 (σ.2.1 7 i))) hx hb hK hP hD hS (36) 0 3 (MT_get) rfl (nI_clamp (by omega)) (vp_in_nI h46 (by decide)) (MT_set) dX6_umbrellaTold_80 ?_
      intro u47 eu47 H locs hP hD hS
      subst eu47
      refine lv_dup hx hb dX6_umbrellaTold_81 rfl ?_
      refine lv_iconst (v := nI 4) hx hb dX6_umbrellaTold_82 (by decide) ?_
      refine lv_aload_n hx hb dX6_umbrellaTold_83 rfl (lv_at hl 0 rfl) ?_
      refine va_get (D := D) (ci := 6) (v := .ref (ad 0)) (C := RX6) (T := TX6) (N := 4) hx hb hts hin6 hown hK hP (0) (gx_l (gx_l (OW_ob cy ax (ad 0) (ad2 0) σ.1))) rfl 2 (by decide) wd1 (fun _ h9 => h9) rfl dX6_umbrellaTold_84 ?_
      refine va_getN (D := D) (ci := 5) (v := .ref (ad 8)) (C := RX5) (T := TX5) (N := 22) hx hb hts hin5 hown hK hP (2 + (0)) (gx_l (gx_r (WD_len _ _ _ _) (gx_l (SW_ob cy (ax 0) ad σ.2.1)))) rfl 10 (by decide) (nl_103 hnw) (fun _ h9 => h9) rfl dX6_umbrellaTold_87 ?_
      refine lv_iload_n hx hb dX6_umbrellaTold_90 rfl (lv_at hl 1 rfl) ?_
      have h48 : i < 40 := by omega
      refine g_iald hx hb hK hP (2 + (8)) 0 i (gx_l (gx_r (WD_len _ _ _ _) (gx_l (SW_8 cy (ax 0) ad σ.2.1)))) rfl (nI_clamp (by omega)) (vp_in_nI h48 (by decide)) dX6_umbrellaTold_91 ?_
      have h49 : 4 < 6 := by omega
      refine g_iast (σ1 := (σ, upd (upd (upd (upd (upd (fun _ => (0 : Int32)) 0 (σ.2.1 4 i)) 1 (σ.2.1 5 i)) 2 (σ.2.1 6 i)) 3 (σ.2.1 7 i)) 4 (σ.2.1 8 i))) hx hb hK hP hD hS (36) 0 4 (MT_get) rfl (nI_clamp (by omega)) (vp_in_nI h49 (by decide)) (MT_set) dX6_umbrellaTold_92 ?_
      intro u50 eu50 H locs hP hD hS
      subst eu50
      refine lv_dup hx hb dX6_umbrellaTold_93 rfl ?_
      refine lv_iconst (v := nI 5) hx hb dX6_umbrellaTold_94 (by decide) ?_
      refine lv_aload_n hx hb dX6_umbrellaTold_95 rfl (lv_at hl 0 rfl) ?_
      refine va_get (D := D) (ci := 6) (v := .ref (ad 0)) (C := RX6) (T := TX6) (N := 4) hx hb hts hin6 hown hK hP (0) (gx_l (gx_l (OW_ob cy ax (ad 0) (ad2 0) σ.1))) rfl 2 (by decide) wd1 (fun _ h9 => h9) rfl dX6_umbrellaTold_96 ?_
      refine va_getN (D := D) (ci := 5) (v := .ref (ad 9)) (C := RX5) (T := TX5) (N := 22) hx hb hts hin5 hown hK hP (2 + (0)) (gx_l (gx_r (WD_len _ _ _ _) (gx_l (SW_ob cy (ax 0) ad σ.2.1)))) rfl 11 (by decide) (nl_106 hnw) (fun _ h9 => h9) rfl dX6_umbrellaTold_99 ?_
      refine lv_iload_n hx hb dX6_umbrellaTold_102 rfl (lv_at hl 1 rfl) ?_
      have h51 : i < 40 := by omega
      refine g_iald hx hb hK hP (2 + (9)) 0 i (gx_l (gx_r (WD_len _ _ _ _) (gx_l (SW_9 cy (ax 0) ad σ.2.1)))) rfl (nI_clamp (by omega)) (vp_in_nI h51 (by decide)) dX6_umbrellaTold_103 ?_
      have h52 : 5 < 6 := by omega
      refine g_iast (σ1 := (σ, upd (upd (upd (upd (upd (upd (fun _ => (0 : Int32)) 0 (σ.2.1 4 i)) 1 (σ.2.1 5 i)) 2 (σ.2.1 6 i)) 3 (σ.2.1 7 i)) 4 (σ.2.1 8 i)) 5 (σ.2.1 9 i))) hx hb hK hP hD hS (36) 0 5 (MT_get) rfl (nI_clamp (by omega)) (vp_in_nI h52 (by decide)) (MT_set) dX6_umbrellaTold_104 ?_
      intro u53 eu53 H locs hP hD hS
      subst eu53
      refine lv_astore_n (lv' := [(3, .ref (qA)), (0, .ref (ax 0)), (1, .int (nI i)), (2, .int (y))]) hx hb dX6_umbrellaTold_105 rfl hl (by decide) rfl (fun ls hl => ?_)
      refine lv_aload_n hx hb dX6_umbrellaTold_106 rfl (lv_at hl 0 rfl) ?_
      refine lv_iload_n hx hb dX6_umbrellaTold_107 rfl (lv_at hl 3 rfl) ?_
      have h54 : vp_in (y) 6 := hw
      have h54b : tn y < 6 := tn_in h54
      refine g_iald hx hb hK hP (36) 0 (tn y) (MT_get) rfl rfl h54 dX6_umbrellaTold_108 ?_
      exact g_endi hx hb hr hlocks rfl (congrArg (fun r => (r, σ)) hf) (va_P_l hP) (va_D_l hD) hS (Nat.le_of_ble_eq_true rfl) (Nat.le_of_ble_eq_true rfl) dX6_umbrellaTold_109
def s_X6_citizenTold (σ : Sg × Sg × Sg) (i : Nat) (y : Int32) : Int32 := if (σ.2.1 11 i) = (-1 : Int32) then (upd (upd (upd (upd (upd (upd (upd (upd (upd (upd (fun _ => (0 : Int32)) 0 (σ.2.1 10 (5 * i))) 1 (σ.2.1 10 ((5 * i) + 1))) 2 (σ.2.1 11 i)) 3 (σ.2.1 13 i)) 4 (σ.2.1 14 i)) 5 (σ.2.1 15 i)) 6 (σ.2.1 16 (4 * i))) 7 (σ.2.1 16 ((4 * i) + 1))) 8 (σ.2.1 16 ((4 * i) + 2))) 9 (σ.2.1 16 ((4 * i) + 3))) (tn y) else (upd (upd (upd (upd (upd (upd (upd (upd (upd (upd (fun _ => (0 : Int32)) 0 (σ.2.1 10 (5 * i))) 1 (σ.2.1 10 ((5 * i) + 1))) 2 (σ.2.1 11 i)) 3 (nI 0)) 4 (σ.2.1 14 i)) 5 (σ.2.1 15 i)) 6 (σ.2.1 16 (4 * i))) 7 (σ.2.1 16 ((4 * i) + 1))) 8 (σ.2.1 16 ((4 * i) + 2))) 9 (σ.2.1 16 ((4 * i) + 3))) (tn y)
abbrev rm_X6_citizenTold : Room := { frames := 0, cells := 1, slots := 10, locals := 0 }
set_option maxHeartbeats 4000000 in
set_option maxRecDepth 100000 in
theorem c_X6_citizenTold (l : Launch) (D : va_G) (cy : Nat → ClassId) (ax ad ad2 : Nat → Nat) (σ : Sg × Sg × Sg) (i : Nat) (y : Int32) (hk : i < 10) (hw : vp_in y 10) : gMrN l yX6_citizenTold wsX6_citizenTold rm_X6_citizenTold D (Ty cy) (MW cy ax ad ad2) [.ref (ax 0), .int (nI i), .int (y)] σ (s_X6_citizenTold σ i y) 1 10 := by
  refine gstartiN cX6_citizenTold 4 RX6 (by decide) rfl rfl (Nat.le_of_ble_eq_true rfl) ?_
  intro p e s m below meth c A ls hx hb hml hown hts hr hlocks hK hP hD hA hS hl hnw
  have hl : lv_has ls 4 [(0, .ref (ax 0)), (1, .int (nI i)), (2, .int (y))] := hl
  have hf : s_X6_citizenTold σ i y = s_X6_citizenTold σ i y := rfl
  have hz : σ.2.1 0 = σ.2.1 0 := rfl
  have hin6 : ∀ w ∈ wsX60, w ∈ wsX6_citizenTold := by decide +kernel
  have hin5 : ∀ w ∈ wsX50, w ∈ wsX6_citizenTold := by decide +kernel
  have wd0 := hts (.arrayClass .int) (by decide +kernel)
  have wd1 := hts (.fieldLink RX6 18 "UmbrellaLandModel" "s" "LUmbrellaLandModel$State;") (by decide +kernel)
  refine lv_bipush (v := nI 10) hx hb dX6_citizenTold_0 (by decide) ?_
  refine g_newi (n := 10) hx hb wd0 hK hP hD hS hA (by decide) (Nat.le_of_ble_eq_true rfl) (Nat.le_of_ble_eq_true rfl) dX6_citizenTold_2 (fun qA H hP hD hS => ?_)
  have hP : va_P D vwCl ((MTW cy ax ad ad2 qA 10) (σ, (fun _ => (0 : Int32)))) H := hP
  have hD : va_D A ((MTW cy ax ad ad2 qA 10) (σ, (fun _ => (0 : Int32)))) := hD
  refine lv_dup hx hb dX6_citizenTold_4 rfl ?_
  refine lv_iconst (v := nI 0) hx hb dX6_citizenTold_5 (by decide) ?_
  refine lv_aload_n hx hb dX6_citizenTold_6 rfl (lv_at hl 0 rfl) ?_
  refine va_get (D := D) (ci := 6) (v := .ref (ad 0)) (C := RX6) (T := TX6) (N := 4) hx hb hts hin6 hown hK hP (0) (gx_l (gx_l (OW_ob cy ax (ad 0) (ad2 0) σ.1))) rfl 2 (by decide) wd1 (fun _ h9 => h9) rfl dX6_citizenTold_7 ?_
  refine va_getN (D := D) (ci := 5) (v := .ref (ad 10)) (C := RX5) (T := TX5) (N := 22) hx hb hts hin5 hown hK hP (2 + (0)) (gx_l (gx_r (WD_len _ _ _ _) (gx_l (SW_ob cy (ax 0) ad σ.2.1)))) rfl 13 (by decide) (nl_60 hnw) (fun _ h9 => h9) rfl dX6_citizenTold_10 ?_
  refine lv_iconst (v := nI 5) hx hb dX6_citizenTold_13 (by decide) ?_
  refine lv_iload_n hx hb dX6_citizenTold_14 rfl (lv_at hl 1 rfl) ?_
  refine lv_imul hx hb dX6_citizenTold_15 ?_
  refine g_top (pk_mul _ _) ?_
  have h1 : 5 * i < 50 := by omega
  refine g_iald hx hb hK hP (2 + (10)) 0 (5 * i) (gx_l (gx_r (WD_len _ _ _ _) (gx_l (SW_10 cy (ax 0) ad σ.2.1)))) rfl (nI_clamp (by omega)) (vp_in_nI h1 (by decide)) dX6_citizenTold_16 ?_
  have h2 : 0 < 10 := by omega
  refine g_iast (σ1 := (σ, upd (fun _ => (0 : Int32)) 0 (σ.2.1 10 (5 * i)))) hx hb hK hP hD hS (36) 0 0 (MT_get) rfl (nI_clamp (by omega)) (vp_in_nI h2 (by decide)) (MT_set) dX6_citizenTold_17 ?_
  intro u3 eu3 H locs hP hD hS
  subst eu3
  refine lv_dup hx hb dX6_citizenTold_18 rfl ?_
  refine lv_iconst (v := nI 1) hx hb dX6_citizenTold_19 (by decide) ?_
  refine lv_aload_n hx hb dX6_citizenTold_20 rfl (lv_at hl 0 rfl) ?_
  refine va_get (D := D) (ci := 6) (v := .ref (ad 0)) (C := RX6) (T := TX6) (N := 4) hx hb hts hin6 hown hK hP (0) (gx_l (gx_l (OW_ob cy ax (ad 0) (ad2 0) σ.1))) rfl 2 (by decide) wd1 (fun _ h9 => h9) rfl dX6_citizenTold_21 ?_
  refine va_getN (D := D) (ci := 5) (v := .ref (ad 10)) (C := RX5) (T := TX5) (N := 22) hx hb hts hin5 hown hK hP (2 + (0)) (gx_l (gx_r (WD_len _ _ _ _) (gx_l (SW_ob cy (ax 0) ad σ.2.1)))) rfl 13 (by decide) (nl_60 hnw) (fun _ h9 => h9) rfl dX6_citizenTold_24 ?_
  refine lv_iconst (v := nI 5) hx hb dX6_citizenTold_27 (by decide) ?_
  refine lv_iload_n hx hb dX6_citizenTold_28 rfl (lv_at hl 1 rfl) ?_
  refine lv_imul hx hb dX6_citizenTold_29 ?_
  refine g_top (pk_mul _ _) ?_
  refine lv_iconst (v := nI 1) hx hb dX6_citizenTold_30 (by decide) ?_
  refine lv_iadd hx hb dX6_citizenTold_31 ?_
  refine g_top (nI_add _ _) ?_
  have h4 : (5 * i) + 1 < 50 := by omega
  refine g_iald hx hb hK hP (2 + (10)) 0 ((5 * i) + 1) (gx_l (gx_r (WD_len _ _ _ _) (gx_l (SW_10 cy (ax 0) ad σ.2.1)))) rfl (nI_clamp (by omega)) (vp_in_nI h4 (by decide)) dX6_citizenTold_32 ?_
  have h5 : 1 < 10 := by omega
  refine g_iast (σ1 := (σ, upd (upd (fun _ => (0 : Int32)) 0 (σ.2.1 10 (5 * i))) 1 (σ.2.1 10 ((5 * i) + 1)))) hx hb hK hP hD hS (36) 0 1 (MT_get) rfl (nI_clamp (by omega)) (vp_in_nI h5 (by decide)) (MT_set) dX6_citizenTold_33 ?_
  intro u6 eu6 H locs hP hD hS
  subst eu6
  refine lv_dup hx hb dX6_citizenTold_34 rfl ?_
  refine lv_iconst (v := nI 2) hx hb dX6_citizenTold_35 (by decide) ?_
  refine lv_aload_n hx hb dX6_citizenTold_36 rfl (lv_at hl 0 rfl) ?_
  refine va_get (D := D) (ci := 6) (v := .ref (ad 0)) (C := RX6) (T := TX6) (N := 4) hx hb hts hin6 hown hK hP (0) (gx_l (gx_l (OW_ob cy ax (ad 0) (ad2 0) σ.1))) rfl 2 (by decide) wd1 (fun _ h9 => h9) rfl dX6_citizenTold_37 ?_
  refine va_getN (D := D) (ci := 5) (v := .ref (ad 11)) (C := RX5) (T := TX5) (N := 22) hx hb hts hin5 hown hK hP (2 + (0)) (gx_l (gx_r (WD_len _ _ _ _) (gx_l (SW_ob cy (ax 0) ad σ.2.1)))) rfl 14 (by decide) (nl_69 hnw) (fun _ h9 => h9) rfl dX6_citizenTold_40 ?_
  refine lv_iload_n hx hb dX6_citizenTold_43 rfl (lv_at hl 1 rfl) ?_
  have h7 : i < 10 := by omega
  refine g_iald hx hb hK hP (2 + (11)) 0 i (gx_l (gx_r (WD_len _ _ _ _) (gx_l (SW_11 cy (ax 0) ad σ.2.1)))) rfl (nI_clamp (by omega)) (vp_in_nI h7 (by decide)) dX6_citizenTold_44 ?_
  have h8 : 2 < 10 := by omega
  refine g_iast (σ1 := (σ, upd (upd (upd (fun _ => (0 : Int32)) 0 (σ.2.1 10 (5 * i))) 1 (σ.2.1 10 ((5 * i) + 1))) 2 (σ.2.1 11 i))) hx hb hK hP hD hS (36) 0 2 (MT_get) rfl (nI_clamp (by omega)) (vp_in_nI h8 (by decide)) (MT_set) dX6_citizenTold_45 ?_
  intro u9 eu9 H locs hP hD hS
  subst eu9
  refine lv_dup hx hb dX6_citizenTold_46 rfl ?_
  refine lv_iconst (v := nI 3) hx hb dX6_citizenTold_47 (by decide) ?_
  refine lv_aload_n hx hb dX6_citizenTold_48 rfl (lv_at hl 0 rfl) ?_
  refine va_get (D := D) (ci := 6) (v := .ref (ad 0)) (C := RX6) (T := TX6) (N := 4) hx hb hts hin6 hown hK hP (0) (gx_l (gx_l (OW_ob cy ax (ad 0) (ad2 0) σ.1))) rfl 2 (by decide) wd1 (fun _ h9 => h9) rfl dX6_citizenTold_49 ?_
  refine va_getN (D := D) (ci := 5) (v := .ref (ad 11)) (C := RX5) (T := TX5) (N := 22) hx hb hts hin5 hown hK hP (2 + (0)) (gx_l (gx_r (WD_len _ _ _ _) (gx_l (SW_ob cy (ax 0) ad σ.2.1)))) rfl 14 (by decide) (nl_69 hnw) (fun _ h9 => h9) rfl dX6_citizenTold_52 ?_
  refine lv_iload_n hx hb dX6_citizenTold_55 rfl (lv_at hl 1 rfl) ?_
  have h10 : i < 10 := by omega
  refine g_iald hx hb hK hP (2 + (11)) 0 i (gx_l (gx_r (WD_len _ _ _ _) (gx_l (SW_11 cy (ax 0) ad σ.2.1)))) rfl (nI_clamp (by omega)) (vp_in_nI h10 (by decide)) dX6_citizenTold_56 ?_
  refine lv_iconst (v := (-1 : Int32)) hx hb dX6_citizenTold_57 (by decide) ?_
  refine lv_icmp_ne (tgt := 73) hx hb dX6_citizenTold_58 (by decide) (fun c11 => ?_) (fun c11 => ?_)
  · replace hf := hf.trans (if_neg c11)
    refine lv_iconst (v := nI 0) hx hb dX6_citizenTold_73 (by decide) ?_
    have h12 : 3 < 10 := by omega
    refine g_iast (σ1 := (σ, upd (upd (upd (upd (fun _ => (0 : Int32)) 0 (σ.2.1 10 (5 * i))) 1 (σ.2.1 10 ((5 * i) + 1))) 2 (σ.2.1 11 i)) 3 (nI 0))) hx hb hK hP hD hS (36) 0 3 (MT_get) rfl (nI_clamp (by omega)) (vp_in_nI h12 (by decide)) (MT_set) dX6_citizenTold_74 ?_
    intro u13 eu13 H locs hP hD hS
    subst eu13
    refine lv_dup hx hb dX6_citizenTold_75 rfl ?_
    refine lv_iconst (v := nI 4) hx hb dX6_citizenTold_76 (by decide) ?_
    refine lv_aload_n hx hb dX6_citizenTold_77 rfl (lv_at hl 0 rfl) ?_
    refine va_get (D := D) (ci := 6) (v := .ref (ad 0)) (C := RX6) (T := TX6) (N := 4) hx hb hts hin6 hown hK hP (0) (gx_l (gx_l (OW_ob cy ax (ad 0) (ad2 0) σ.1))) rfl 2 (by decide) wd1 (fun _ h9 => h9) rfl dX6_citizenTold_78 ?_
    refine va_getN (D := D) (ci := 5) (v := .ref (ad 14)) (C := RX5) (T := TX5) (N := 22) hx hb hts hin5 hown hK hP (2 + (0)) (gx_l (gx_r (WD_len _ _ _ _) (gx_l (SW_ob cy (ax 0) ad σ.2.1)))) rfl 17 (by decide) (nl_72 hnw) (fun _ h9 => h9) rfl dX6_citizenTold_81 ?_
    refine lv_iload_n hx hb dX6_citizenTold_84 rfl (lv_at hl 1 rfl) ?_
    have h14 : i < 10 := by omega
    refine g_iald hx hb hK hP (2 + (14)) 0 i (gx_l (gx_r (WD_len _ _ _ _) (gx_l (SW_14 cy (ax 0) ad σ.2.1)))) rfl (nI_clamp (by omega)) (vp_in_nI h14 (by decide)) dX6_citizenTold_85 ?_
    have h15 : 4 < 10 := by omega
    refine g_iast (σ1 := (σ, upd (upd (upd (upd (upd (fun _ => (0 : Int32)) 0 (σ.2.1 10 (5 * i))) 1 (σ.2.1 10 ((5 * i) + 1))) 2 (σ.2.1 11 i)) 3 (nI 0)) 4 (σ.2.1 14 i))) hx hb hK hP hD hS (36) 0 4 (MT_get) rfl (nI_clamp (by omega)) (vp_in_nI h15 (by decide)) (MT_set) dX6_citizenTold_86 ?_
    intro u16 eu16 H locs hP hD hS
    subst eu16
    refine lv_dup hx hb dX6_citizenTold_87 rfl ?_
    refine lv_iconst (v := nI 5) hx hb dX6_citizenTold_88 (by decide) ?_
    refine lv_aload_n hx hb dX6_citizenTold_89 rfl (lv_at hl 0 rfl) ?_
    refine va_get (D := D) (ci := 6) (v := .ref (ad 0)) (C := RX6) (T := TX6) (N := 4) hx hb hts hin6 hown hK hP (0) (gx_l (gx_l (OW_ob cy ax (ad 0) (ad2 0) σ.1))) rfl 2 (by decide) wd1 (fun _ h9 => h9) rfl dX6_citizenTold_90 ?_
    refine va_getN (D := D) (ci := 5) (v := .ref (ad 15)) (C := RX5) (T := TX5) (N := 22) hx hb hts hin5 hown hK hP (2 + (0)) (gx_l (gx_r (WD_len _ _ _ _) (gx_l (SW_ob cy (ax 0) ad σ.2.1)))) rfl 18 (by decide) (nl_75 hnw) (fun _ h9 => h9) rfl dX6_citizenTold_93 ?_
    refine lv_iload_n hx hb dX6_citizenTold_96 rfl (lv_at hl 1 rfl) ?_
    have h17 : i < 10 := by omega
    refine g_iald hx hb hK hP (2 + (15)) 0 i (gx_l (gx_r (WD_len _ _ _ _) (gx_l (SW_15 cy (ax 0) ad σ.2.1)))) rfl (nI_clamp (by omega)) (vp_in_nI h17 (by decide)) dX6_citizenTold_97 ?_
    have h18 : 5 < 10 := by omega
    refine g_iast (σ1 := (σ, upd (upd (upd (upd (upd (upd (fun _ => (0 : Int32)) 0 (σ.2.1 10 (5 * i))) 1 (σ.2.1 10 ((5 * i) + 1))) 2 (σ.2.1 11 i)) 3 (nI 0)) 4 (σ.2.1 14 i)) 5 (σ.2.1 15 i))) hx hb hK hP hD hS (36) 0 5 (MT_get) rfl (nI_clamp (by omega)) (vp_in_nI h18 (by decide)) (MT_set) dX6_citizenTold_98 ?_
    intro u19 eu19 H locs hP hD hS
    subst eu19
    refine lv_dup hx hb dX6_citizenTold_99 rfl ?_
    refine lv_bipush (v := nI 6) hx hb dX6_citizenTold_100 (by decide) ?_
    refine lv_aload_n hx hb dX6_citizenTold_102 rfl (lv_at hl 0 rfl) ?_
    refine va_get (D := D) (ci := 6) (v := .ref (ad 0)) (C := RX6) (T := TX6) (N := 4) hx hb hts hin6 hown hK hP (0) (gx_l (gx_l (OW_ob cy ax (ad 0) (ad2 0) σ.1))) rfl 2 (by decide) wd1 (fun _ h9 => h9) rfl dX6_citizenTold_103 ?_
    refine va_getN (D := D) (ci := 5) (v := .ref (ad 16)) (C := RX5) (T := TX5) (N := 22) hx hb hts hin5 hown hK hP (2 + (0)) (gx_l (gx_r (WD_len _ _ _ _) (gx_l (SW_ob cy (ax 0) ad σ.2.1)))) rfl 19 (by decide) (nl_115 hnw) (fun _ h9 => h9) rfl dX6_citizenTold_106 ?_
    refine lv_iconst (v := nI 4) hx hb dX6_citizenTold_109 (by decide) ?_
    refine lv_iload_n hx hb dX6_citizenTold_110 rfl (lv_at hl 1 rfl) ?_
    refine lv_imul hx hb dX6_citizenTold_111 ?_
    refine g_top (pk_mul _ _) ?_
    have h20 : 4 * i < 40 := by omega
    refine g_iald hx hb hK hP (2 + (16)) 0 (4 * i) (gx_l (gx_r (WD_len _ _ _ _) (gx_l (SW_16 cy (ax 0) ad σ.2.1)))) rfl (nI_clamp (by omega)) (vp_in_nI h20 (by decide)) dX6_citizenTold_112 ?_
    have h21 : 6 < 10 := by omega
    refine g_iast (σ1 := (σ, upd (upd (upd (upd (upd (upd (upd (fun _ => (0 : Int32)) 0 (σ.2.1 10 (5 * i))) 1 (σ.2.1 10 ((5 * i) + 1))) 2 (σ.2.1 11 i)) 3 (nI 0)) 4 (σ.2.1 14 i)) 5 (σ.2.1 15 i)) 6 (σ.2.1 16 (4 * i)))) hx hb hK hP hD hS (36) 0 6 (MT_get) rfl (nI_clamp (by omega)) (vp_in_nI h21 (by decide)) (MT_set) dX6_citizenTold_113 ?_
    intro u22 eu22 H locs hP hD hS
    subst eu22
    refine lv_dup hx hb dX6_citizenTold_114 rfl ?_
    refine lv_bipush (v := nI 7) hx hb dX6_citizenTold_115 (by decide) ?_
    refine lv_aload_n hx hb dX6_citizenTold_117 rfl (lv_at hl 0 rfl) ?_
    refine va_get (D := D) (ci := 6) (v := .ref (ad 0)) (C := RX6) (T := TX6) (N := 4) hx hb hts hin6 hown hK hP (0) (gx_l (gx_l (OW_ob cy ax (ad 0) (ad2 0) σ.1))) rfl 2 (by decide) wd1 (fun _ h9 => h9) rfl dX6_citizenTold_118 ?_
    refine va_getN (D := D) (ci := 5) (v := .ref (ad 16)) (C := RX5) (T := TX5) (N := 22) hx hb hts hin5 hown hK hP (2 + (0)) (gx_l (gx_r (WD_len _ _ _ _) (gx_l (SW_ob cy (ax 0) ad σ.2.1)))) rfl 19 (by decide) (nl_115 hnw) (fun _ h9 => h9) rfl dX6_citizenTold_121 ?_
    refine lv_iconst (v := nI 4) hx hb dX6_citizenTold_124 (by decide) ?_
    refine lv_iload_n hx hb dX6_citizenTold_125 rfl (lv_at hl 1 rfl) ?_
    refine lv_imul hx hb dX6_citizenTold_126 ?_
    refine g_top (pk_mul _ _) ?_
    refine lv_iconst (v := nI 1) hx hb dX6_citizenTold_127 (by decide) ?_
    refine lv_iadd hx hb dX6_citizenTold_128 ?_
    refine g_top (nI_add _ _) ?_
    have h23 : (4 * i) + 1 < 40 := by omega
    refine g_iald hx hb hK hP (2 + (16)) 0 ((4 * i) + 1) (gx_l (gx_r (WD_len _ _ _ _) (gx_l (SW_16 cy (ax 0) ad σ.2.1)))) rfl (nI_clamp (by omega)) (vp_in_nI h23 (by decide)) dX6_citizenTold_129 ?_
    have h24 : 7 < 10 := by omega
    refine g_iast (σ1 := (σ, upd (upd (upd (upd (upd (upd (upd (upd (fun _ => (0 : Int32)) 0 (σ.2.1 10 (5 * i))) 1 (σ.2.1 10 ((5 * i) + 1))) 2 (σ.2.1 11 i)) 3 (nI 0)) 4 (σ.2.1 14 i)) 5 (σ.2.1 15 i)) 6 (σ.2.1 16 (4 * i))) 7 (σ.2.1 16 ((4 * i) + 1)))) hx hb hK hP hD hS (36) 0 7 (MT_get) rfl (nI_clamp (by omega)) (vp_in_nI h24 (by decide)) (MT_set) dX6_citizenTold_130 ?_
    intro u25 eu25 H locs hP hD hS
    subst eu25
    refine lv_dup hx hb dX6_citizenTold_131 rfl ?_
    refine lv_bipush (v := nI 8) hx hb dX6_citizenTold_132 (by decide) ?_
    refine lv_aload_n hx hb dX6_citizenTold_134 rfl (lv_at hl 0 rfl) ?_
    refine va_get (D := D) (ci := 6) (v := .ref (ad 0)) (C := RX6) (T := TX6) (N := 4) hx hb hts hin6 hown hK hP (0) (gx_l (gx_l (OW_ob cy ax (ad 0) (ad2 0) σ.1))) rfl 2 (by decide) wd1 (fun _ h9 => h9) rfl dX6_citizenTold_135 ?_
    refine va_getN (D := D) (ci := 5) (v := .ref (ad 16)) (C := RX5) (T := TX5) (N := 22) hx hb hts hin5 hown hK hP (2 + (0)) (gx_l (gx_r (WD_len _ _ _ _) (gx_l (SW_ob cy (ax 0) ad σ.2.1)))) rfl 19 (by decide) (nl_115 hnw) (fun _ h9 => h9) rfl dX6_citizenTold_138 ?_
    refine lv_iconst (v := nI 4) hx hb dX6_citizenTold_141 (by decide) ?_
    refine lv_iload_n hx hb dX6_citizenTold_142 rfl (lv_at hl 1 rfl) ?_
    refine lv_imul hx hb dX6_citizenTold_143 ?_
    refine g_top (pk_mul _ _) ?_
    refine lv_iconst (v := nI 2) hx hb dX6_citizenTold_144 (by decide) ?_
    refine lv_iadd hx hb dX6_citizenTold_145 ?_
    refine g_top (nI_add _ _) ?_
    have h26 : (4 * i) + 2 < 40 := by omega
    refine g_iald hx hb hK hP (2 + (16)) 0 ((4 * i) + 2) (gx_l (gx_r (WD_len _ _ _ _) (gx_l (SW_16 cy (ax 0) ad σ.2.1)))) rfl (nI_clamp (by omega)) (vp_in_nI h26 (by decide)) dX6_citizenTold_146 ?_
    have h27 : 8 < 10 := by omega
    refine g_iast (σ1 := (σ, upd (upd (upd (upd (upd (upd (upd (upd (upd (fun _ => (0 : Int32)) 0 (σ.2.1 10 (5 * i))) 1 (σ.2.1 10 ((5 * i) + 1))) 2 (σ.2.1 11 i)) 3 (nI 0)) 4 (σ.2.1 14 i)) 5 (σ.2.1 15 i)) 6 (σ.2.1 16 (4 * i))) 7 (σ.2.1 16 ((4 * i) + 1))) 8 (σ.2.1 16 ((4 * i) + 2)))) hx hb hK hP hD hS (36) 0 8 (MT_get) rfl (nI_clamp (by omega)) (vp_in_nI h27 (by decide)) (MT_set) dX6_citizenTold_147 ?_
    intro u28 eu28 H locs hP hD hS
    subst eu28
    refine lv_dup hx hb dX6_citizenTold_148 rfl ?_
    refine lv_bipush (v := nI 9) hx hb dX6_citizenTold_149 (by decide) ?_
    refine lv_aload_n hx hb dX6_citizenTold_151 rfl (lv_at hl 0 rfl) ?_
    refine va_get (D := D) (ci := 6) (v := .ref (ad 0)) (C := RX6) (T := TX6) (N := 4) hx hb hts hin6 hown hK hP (0) (gx_l (gx_l (OW_ob cy ax (ad 0) (ad2 0) σ.1))) rfl 2 (by decide) wd1 (fun _ h9 => h9) rfl dX6_citizenTold_152 ?_
    refine va_getN (D := D) (ci := 5) (v := .ref (ad 16)) (C := RX5) (T := TX5) (N := 22) hx hb hts hin5 hown hK hP (2 + (0)) (gx_l (gx_r (WD_len _ _ _ _) (gx_l (SW_ob cy (ax 0) ad σ.2.1)))) rfl 19 (by decide) (nl_115 hnw) (fun _ h9 => h9) rfl dX6_citizenTold_155 ?_
    refine lv_iconst (v := nI 4) hx hb dX6_citizenTold_158 (by decide) ?_
    refine lv_iload_n hx hb dX6_citizenTold_159 rfl (lv_at hl 1 rfl) ?_
    refine lv_imul hx hb dX6_citizenTold_160 ?_
    refine g_top (pk_mul _ _) ?_
    refine lv_iconst (v := nI 3) hx hb dX6_citizenTold_161 (by decide) ?_
    refine lv_iadd hx hb dX6_citizenTold_162 ?_
    refine g_top (nI_add _ _) ?_
    have h29 : (4 * i) + 3 < 40 := by omega
    refine g_iald hx hb hK hP (2 + (16)) 0 ((4 * i) + 3) (gx_l (gx_r (WD_len _ _ _ _) (gx_l (SW_16 cy (ax 0) ad σ.2.1)))) rfl (nI_clamp (by omega)) (vp_in_nI h29 (by decide)) dX6_citizenTold_163 ?_
    have h30 : 9 < 10 := by omega
    refine g_iast (σ1 := (σ, upd (upd (upd (upd (upd (upd (upd (upd (upd (upd (fun _ => (0 : Int32)) 0 (σ.2.1 10 (5 * i))) 1 (σ.2.1 10 ((5 * i) + 1))) 2 (σ.2.1 11 i)) 3 (nI 0)) 4 (σ.2.1 14 i)) 5 (σ.2.1 15 i)) 6 (σ.2.1 16 (4 * i))) 7 (σ.2.1 16 ((4 * i) + 1))) 8 (σ.2.1 16 ((4 * i) + 2))) 9 (σ.2.1 16 ((4 * i) + 3)))) hx hb hK hP hD hS (36) 0 9 (MT_get) rfl (nI_clamp (by omega)) (vp_in_nI h30 (by decide)) (MT_set) dX6_citizenTold_164 ?_
    intro u31 eu31 H locs hP hD hS
    subst eu31
    refine lv_astore_n (lv' := [(3, .ref (qA)), (0, .ref (ax 0)), (1, .int (nI i)), (2, .int (y))]) hx hb dX6_citizenTold_165 rfl hl (by decide) rfl (fun ls hl => ?_)
    refine lv_aload_n hx hb dX6_citizenTold_166 rfl (lv_at hl 0 rfl) ?_
    refine lv_iload_n hx hb dX6_citizenTold_167 rfl (lv_at hl 3 rfl) ?_
    have h32 : vp_in (y) 10 := hw
    have h32b : tn y < 10 := tn_in h32
    refine g_iald hx hb hK hP (36) 0 (tn y) (MT_get) rfl rfl h32 dX6_citizenTold_168 ?_
    exact g_endi hx hb hr hlocks rfl (congrArg (fun r => (r, σ)) hf) (va_P_l hP) (va_D_l hD) hS (Nat.le_of_ble_eq_true rfl) (Nat.le_of_ble_eq_true rfl) dX6_citizenTold_169
  · replace hf := hf.trans (if_pos c11)
    refine lv_aload_n hx hb dX6_citizenTold_61 rfl (lv_at hl 0 rfl) ?_
    refine va_get (D := D) (ci := 6) (v := .ref (ad 0)) (C := RX6) (T := TX6) (N := 4) hx hb hts hin6 hown hK hP (0) (gx_l (gx_l (OW_ob cy ax (ad 0) (ad2 0) σ.1))) rfl 2 (by decide) wd1 (fun _ h9 => h9) rfl dX6_citizenTold_62 ?_
    refine va_getN (D := D) (ci := 5) (v := .ref (ad 13)) (C := RX5) (T := TX5) (N := 22) hx hb hts hin5 hown hK hP (2 + (0)) (gx_l (gx_r (WD_len _ _ _ _) (gx_l (SW_ob cy (ax 0) ad σ.2.1)))) rfl 16 (by decide) (nl_112 hnw) (fun _ h9 => h9) rfl dX6_citizenTold_65 ?_
    refine lv_iload_n hx hb dX6_citizenTold_68 rfl (lv_at hl 1 rfl) ?_
    have h33 : i < 10 := by omega
    refine g_iald hx hb hK hP (2 + (13)) 0 i (gx_l (gx_r (WD_len _ _ _ _) (gx_l (SW_13 cy (ax 0) ad σ.2.1)))) rfl (nI_clamp (by omega)) (vp_in_nI h33 (by decide)) dX6_citizenTold_69 ?_
    refine lv_goto (tgt := 74) hx hb dX6_citizenTold_70 (by decide) ?_
    have h34 : 3 < 10 := by omega
    refine g_iast (σ1 := (σ, upd (upd (upd (upd (fun _ => (0 : Int32)) 0 (σ.2.1 10 (5 * i))) 1 (σ.2.1 10 ((5 * i) + 1))) 2 (σ.2.1 11 i)) 3 (σ.2.1 13 i))) hx hb hK hP hD hS (36) 0 3 (MT_get) rfl (nI_clamp (by omega)) (vp_in_nI h34 (by decide)) (MT_set) dX6_citizenTold_74 ?_
    intro u35 eu35 H locs hP hD hS
    subst eu35
    refine lv_dup hx hb dX6_citizenTold_75 rfl ?_
    refine lv_iconst (v := nI 4) hx hb dX6_citizenTold_76 (by decide) ?_
    refine lv_aload_n hx hb dX6_citizenTold_77 rfl (lv_at hl 0 rfl) ?_
    refine va_get (D := D) (ci := 6) (v := .ref (ad 0)) (C := RX6) (T := TX6) (N := 4) hx hb hts hin6 hown hK hP (0) (gx_l (gx_l (OW_ob cy ax (ad 0) (ad2 0) σ.1))) rfl 2 (by decide) wd1 (fun _ h9 => h9) rfl dX6_citizenTold_78 ?_
    refine va_getN (D := D) (ci := 5) (v := .ref (ad 14)) (C := RX5) (T := TX5) (N := 22) hx hb hts hin5 hown hK hP (2 + (0)) (gx_l (gx_r (WD_len _ _ _ _) (gx_l (SW_ob cy (ax 0) ad σ.2.1)))) rfl 17 (by decide) (nl_72 hnw) (fun _ h9 => h9) rfl dX6_citizenTold_81 ?_
    refine lv_iload_n hx hb dX6_citizenTold_84 rfl (lv_at hl 1 rfl) ?_
    have h36 : i < 10 := by omega
    refine g_iald hx hb hK hP (2 + (14)) 0 i (gx_l (gx_r (WD_len _ _ _ _) (gx_l (SW_14 cy (ax 0) ad σ.2.1)))) rfl (nI_clamp (by omega)) (vp_in_nI h36 (by decide)) dX6_citizenTold_85 ?_
    have h37 : 4 < 10 := by omega
    refine g_iast (σ1 := (σ, upd (upd (upd (upd (upd (fun _ => (0 : Int32)) 0 (σ.2.1 10 (5 * i))) 1 (σ.2.1 10 ((5 * i) + 1))) 2 (σ.2.1 11 i)) 3 (σ.2.1 13 i)) 4 (σ.2.1 14 i))) hx hb hK hP hD hS (36) 0 4 (MT_get) rfl (nI_clamp (by omega)) (vp_in_nI h37 (by decide)) (MT_set) dX6_citizenTold_86 ?_
    intro u38 eu38 H locs hP hD hS
    subst eu38
    refine lv_dup hx hb dX6_citizenTold_87 rfl ?_
    refine lv_iconst (v := nI 5) hx hb dX6_citizenTold_88 (by decide) ?_
    refine lv_aload_n hx hb dX6_citizenTold_89 rfl (lv_at hl 0 rfl) ?_
    refine va_get (D := D) (ci := 6) (v := .ref (ad 0)) (C := RX6) (T := TX6) (N := 4) hx hb hts hin6 hown hK hP (0) (gx_l (gx_l (OW_ob cy ax (ad 0) (ad2 0) σ.1))) rfl 2 (by decide) wd1 (fun _ h9 => h9) rfl dX6_citizenTold_90 ?_
    refine va_getN (D := D) (ci := 5) (v := .ref (ad 15)) (C := RX5) (T := TX5) (N := 22) hx hb hts hin5 hown hK hP (2 + (0)) (gx_l (gx_r (WD_len _ _ _ _) (gx_l (SW_ob cy (ax 0) ad σ.2.1)))) rfl 18 (by decide) (nl_75 hnw) (fun _ h9 => h9) rfl dX6_citizenTold_93 ?_
    refine lv_iload_n hx hb dX6_citizenTold_96 rfl (lv_at hl 1 rfl) ?_
    have h39 : i < 10 := by omega
    refine g_iald hx hb hK hP (2 + (15)) 0 i (gx_l (gx_r (WD_len _ _ _ _) (gx_l (SW_15 cy (ax 0) ad σ.2.1)))) rfl (nI_clamp (by omega)) (vp_in_nI h39 (by decide)) dX6_citizenTold_97 ?_
    have h40 : 5 < 10 := by omega
    refine g_iast (σ1 := (σ, upd (upd (upd (upd (upd (upd (fun _ => (0 : Int32)) 0 (σ.2.1 10 (5 * i))) 1 (σ.2.1 10 ((5 * i) + 1))) 2 (σ.2.1 11 i)) 3 (σ.2.1 13 i)) 4 (σ.2.1 14 i)) 5 (σ.2.1 15 i))) hx hb hK hP hD hS (36) 0 5 (MT_get) rfl (nI_clamp (by omega)) (vp_in_nI h40 (by decide)) (MT_set) dX6_citizenTold_98 ?_
    intro u41 eu41 H locs hP hD hS
    subst eu41
    refine lv_dup hx hb dX6_citizenTold_99 rfl ?_
    refine lv_bipush (v := nI 6) hx hb dX6_citizenTold_100 (by decide) ?_
    refine lv_aload_n hx hb dX6_citizenTold_102 rfl (lv_at hl 0 rfl) ?_
    refine va_get (D := D) (ci := 6) (v := .ref (ad 0)) (C := RX6) (T := TX6) (N := 4) hx hb hts hin6 hown hK hP (0) (gx_l (gx_l (OW_ob cy ax (ad 0) (ad2 0) σ.1))) rfl 2 (by decide) wd1 (fun _ h9 => h9) rfl dX6_citizenTold_103 ?_
    refine va_getN (D := D) (ci := 5) (v := .ref (ad 16)) (C := RX5) (T := TX5) (N := 22) hx hb hts hin5 hown hK hP (2 + (0)) (gx_l (gx_r (WD_len _ _ _ _) (gx_l (SW_ob cy (ax 0) ad σ.2.1)))) rfl 19 (by decide) (nl_115 hnw) (fun _ h9 => h9) rfl dX6_citizenTold_106 ?_
    refine lv_iconst (v := nI 4) hx hb dX6_citizenTold_109 (by decide) ?_
    refine lv_iload_n hx hb dX6_citizenTold_110 rfl (lv_at hl 1 rfl) ?_
    refine lv_imul hx hb dX6_citizenTold_111 ?_
    refine g_top (pk_mul _ _) ?_
    have h42 : 4 * i < 40 := by omega
    refine g_iald hx hb hK hP (2 + (16)) 0 (4 * i) (gx_l (gx_r (WD_len _ _ _ _) (gx_l (SW_16 cy (ax 0) ad σ.2.1)))) rfl (nI_clamp (by omega)) (vp_in_nI h42 (by decide)) dX6_citizenTold_112 ?_
    have h43 : 6 < 10 := by omega
    refine g_iast (σ1 := (σ, upd (upd (upd (upd (upd (upd (upd (fun _ => (0 : Int32)) 0 (σ.2.1 10 (5 * i))) 1 (σ.2.1 10 ((5 * i) + 1))) 2 (σ.2.1 11 i)) 3 (σ.2.1 13 i)) 4 (σ.2.1 14 i)) 5 (σ.2.1 15 i)) 6 (σ.2.1 16 (4 * i)))) hx hb hK hP hD hS (36) 0 6 (MT_get) rfl (nI_clamp (by omega)) (vp_in_nI h43 (by decide)) (MT_set) dX6_citizenTold_113 ?_
    intro u44 eu44 H locs hP hD hS
    subst eu44
    refine lv_dup hx hb dX6_citizenTold_114 rfl ?_
    refine lv_bipush (v := nI 7) hx hb dX6_citizenTold_115 (by decide) ?_
    refine lv_aload_n hx hb dX6_citizenTold_117 rfl (lv_at hl 0 rfl) ?_
    refine va_get (D := D) (ci := 6) (v := .ref (ad 0)) (C := RX6) (T := TX6) (N := 4) hx hb hts hin6 hown hK hP (0) (gx_l (gx_l (OW_ob cy ax (ad 0) (ad2 0) σ.1))) rfl 2 (by decide) wd1 (fun _ h9 => h9) rfl dX6_citizenTold_118 ?_
    refine va_getN (D := D) (ci := 5) (v := .ref (ad 16)) (C := RX5) (T := TX5) (N := 22) hx hb hts hin5 hown hK hP (2 + (0)) (gx_l (gx_r (WD_len _ _ _ _) (gx_l (SW_ob cy (ax 0) ad σ.2.1)))) rfl 19 (by decide) (nl_115 hnw) (fun _ h9 => h9) rfl dX6_citizenTold_121 ?_
    refine lv_iconst (v := nI 4) hx hb dX6_citizenTold_124 (by decide) ?_
    refine lv_iload_n hx hb dX6_citizenTold_125 rfl (lv_at hl 1 rfl) ?_
    refine lv_imul hx hb dX6_citizenTold_126 ?_
    refine g_top (pk_mul _ _) ?_
    refine lv_iconst (v := nI 1) hx hb dX6_citizenTold_127 (by decide) ?_
    refine lv_iadd hx hb dX6_citizenTold_128 ?_
    refine g_top (nI_add _ _) ?_
    have h45 : (4 * i) + 1 < 40 := by omega
    refine g_iald hx hb hK hP (2 + (16)) 0 ((4 * i) + 1) (gx_l (gx_r (WD_len _ _ _ _) (gx_l (SW_16 cy (ax 0) ad σ.2.1)))) rfl (nI_clamp (by omega)) (vp_in_nI h45 (by decide)) dX6_citizenTold_129 ?_
    have h46 : 7 < 10 := by omega
    refine g_iast (σ1 := (σ, upd (upd (upd (upd (upd (upd (upd (upd (fun _ => (0 : Int32)) 0 (σ.2.1 10 (5 * i))) 1 (σ.2.1 10 ((5 * i) + 1))) 2 (σ.2.1 11 i)) 3 (σ.2.1 13 i)) 4 (σ.2.1 14 i)) 5 (σ.2.1 15 i)) 6 (σ.2.1 16 (4 * i))) 7 (σ.2.1 16 ((4 * i) + 1)))) hx hb hK hP hD hS (36) 0 7 (MT_get) rfl (nI_clamp (by omega)) (vp_in_nI h46 (by decide)) (MT_set) dX6_citizenTold_130 ?_
    intro u47 eu47 H locs hP hD hS
    subst eu47
    refine lv_dup hx hb dX6_citizenTold_131 rfl ?_
    refine lv_bipush (v := nI 8) hx hb dX6_citizenTold_132 (by decide) ?_
    refine lv_aload_n hx hb dX6_citizenTold_134 rfl (lv_at hl 0 rfl) ?_
    refine va_get (D := D) (ci := 6) (v := .ref (ad 0)) (C := RX6) (T := TX6) (N := 4) hx hb hts hin6 hown hK hP (0) (gx_l (gx_l (OW_ob cy ax (ad 0) (ad2 0) σ.1))) rfl 2 (by decide) wd1 (fun _ h9 => h9) rfl dX6_citizenTold_135 ?_
    refine va_getN (D := D) (ci := 5) (v := .ref (ad 16)) (C := RX5) (T := TX5) (N := 22) hx hb hts hin5 hown hK hP (2 + (0)) (gx_l (gx_r (WD_len _ _ _ _) (gx_l (SW_ob cy (ax 0) ad σ.2.1)))) rfl 19 (by decide) (nl_115 hnw) (fun _ h9 => h9) rfl dX6_citizenTold_138 ?_
    refine lv_iconst (v := nI 4) hx hb dX6_citizenTold_141 (by decide) ?_
    refine lv_iload_n hx hb dX6_citizenTold_142 rfl (lv_at hl 1 rfl) ?_
    refine lv_imul hx hb dX6_citizenTold_143 ?_
    refine g_top (pk_mul _ _) ?_
    refine lv_iconst (v := nI 2) hx hb dX6_citizenTold_144 (by decide) ?_
    refine lv_iadd hx hb dX6_citizenTold_145 ?_
    refine g_top (nI_add _ _) ?_
    have h48 : (4 * i) + 2 < 40 := by omega
    refine g_iald hx hb hK hP (2 + (16)) 0 ((4 * i) + 2) (gx_l (gx_r (WD_len _ _ _ _) (gx_l (SW_16 cy (ax 0) ad σ.2.1)))) rfl (nI_clamp (by omega)) (vp_in_nI h48 (by decide)) dX6_citizenTold_146 ?_
    have h49 : 8 < 10 := by omega
    refine g_iast (σ1 := (σ, upd (upd (upd (upd (upd (upd (upd (upd (upd (fun _ => (0 : Int32)) 0 (σ.2.1 10 (5 * i))) 1 (σ.2.1 10 ((5 * i) + 1))) 2 (σ.2.1 11 i)) 3 (σ.2.1 13 i)) 4 (σ.2.1 14 i)) 5 (σ.2.1 15 i)) 6 (σ.2.1 16 (4 * i))) 7 (σ.2.1 16 ((4 * i) + 1))) 8 (σ.2.1 16 ((4 * i) + 2)))) hx hb hK hP hD hS (36) 0 8 (MT_get) rfl (nI_clamp (by omega)) (vp_in_nI h49 (by decide)) (MT_set) dX6_citizenTold_147 ?_
    intro u50 eu50 H locs hP hD hS
    subst eu50
    refine lv_dup hx hb dX6_citizenTold_148 rfl ?_
    refine lv_bipush (v := nI 9) hx hb dX6_citizenTold_149 (by decide) ?_
    refine lv_aload_n hx hb dX6_citizenTold_151 rfl (lv_at hl 0 rfl) ?_
    refine va_get (D := D) (ci := 6) (v := .ref (ad 0)) (C := RX6) (T := TX6) (N := 4) hx hb hts hin6 hown hK hP (0) (gx_l (gx_l (OW_ob cy ax (ad 0) (ad2 0) σ.1))) rfl 2 (by decide) wd1 (fun _ h9 => h9) rfl dX6_citizenTold_152 ?_
    refine va_getN (D := D) (ci := 5) (v := .ref (ad 16)) (C := RX5) (T := TX5) (N := 22) hx hb hts hin5 hown hK hP (2 + (0)) (gx_l (gx_r (WD_len _ _ _ _) (gx_l (SW_ob cy (ax 0) ad σ.2.1)))) rfl 19 (by decide) (nl_115 hnw) (fun _ h9 => h9) rfl dX6_citizenTold_155 ?_
    refine lv_iconst (v := nI 4) hx hb dX6_citizenTold_158 (by decide) ?_
    refine lv_iload_n hx hb dX6_citizenTold_159 rfl (lv_at hl 1 rfl) ?_
    refine lv_imul hx hb dX6_citizenTold_160 ?_
    refine g_top (pk_mul _ _) ?_
    refine lv_iconst (v := nI 3) hx hb dX6_citizenTold_161 (by decide) ?_
    refine lv_iadd hx hb dX6_citizenTold_162 ?_
    refine g_top (nI_add _ _) ?_
    have h51 : (4 * i) + 3 < 40 := by omega
    refine g_iald hx hb hK hP (2 + (16)) 0 ((4 * i) + 3) (gx_l (gx_r (WD_len _ _ _ _) (gx_l (SW_16 cy (ax 0) ad σ.2.1)))) rfl (nI_clamp (by omega)) (vp_in_nI h51 (by decide)) dX6_citizenTold_163 ?_
    have h52 : 9 < 10 := by omega
    refine g_iast (σ1 := (σ, upd (upd (upd (upd (upd (upd (upd (upd (upd (upd (fun _ => (0 : Int32)) 0 (σ.2.1 10 (5 * i))) 1 (σ.2.1 10 ((5 * i) + 1))) 2 (σ.2.1 11 i)) 3 (σ.2.1 13 i)) 4 (σ.2.1 14 i)) 5 (σ.2.1 15 i)) 6 (σ.2.1 16 (4 * i))) 7 (σ.2.1 16 ((4 * i) + 1))) 8 (σ.2.1 16 ((4 * i) + 2))) 9 (σ.2.1 16 ((4 * i) + 3)))) hx hb hK hP hD hS (36) 0 9 (MT_get) rfl (nI_clamp (by omega)) (vp_in_nI h52 (by decide)) (MT_set) dX6_citizenTold_164 ?_
    intro u53 eu53 H locs hP hD hS
    subst eu53
    refine lv_astore_n (lv' := [(3, .ref (qA)), (0, .ref (ax 0)), (1, .int (nI i)), (2, .int (y))]) hx hb dX6_citizenTold_165 rfl hl (by decide) rfl (fun ls hl => ?_)
    refine lv_aload_n hx hb dX6_citizenTold_166 rfl (lv_at hl 0 rfl) ?_
    refine lv_iload_n hx hb dX6_citizenTold_167 rfl (lv_at hl 3 rfl) ?_
    have h54 : vp_in (y) 10 := hw
    have h54b : tn y < 10 := tn_in h54
    refine g_iald hx hb hK hP (36) 0 (tn y) (MT_get) rfl rfl h54 dX6_citizenTold_168 ?_
    exact g_endi hx hb hr hlocks rfl (congrArg (fun r => (r, σ)) hf) (va_P_l hP) (va_D_l hD) hS (Nat.le_of_ble_eq_true rfl) (Nat.le_of_ble_eq_true rfl) dX6_citizenTold_169
def s_X6_counted (σ : Sg × Sg × Sg) (x : Int32) : Int32 := ltt (s_X5_of σ.2.1 (nI 0)) (fun r9 => ltt (s_X5_of σ.2.1 (nI 1)) (fun r12 => ltt (s_X5_of σ.2.1 (nI 2)) (fun r15 => ltt (s_X5_of σ.2.1 (nI 3)) (fun r18 => ltt (s_X5_over σ.2.1 (nI 2)) (fun r21 => ltt (s_X5_over σ.2.1 (nI 0)) (fun r24 => (upd (upd (upd (upd (upd (upd (upd (upd (upd (upd (upd (fun _ => (0 : Int32)) 0 (σ.2.1 0 0)) 1 (nI (tn (σ.2.1 0 1)))) 2 (nI (tn (σ.2.1 0 5)))) 3 (nI (tn (σ.2.1 0 12)))) 4 r9) 5 r12) 6 r15) 7 r18) 8 r21) 9 r24) 10 (σ.2.1 0 20)) (tn x)))))))
abbrev rm_X6_counted : Room := { frames := 1, cells := 1, slots := 11, locals := 23 }
set_option maxHeartbeats 4000000 in
set_option maxRecDepth 100000 in
theorem c_X6_counted (l : Launch) (D : va_G) (cy : Nat → ClassId) (ax ad ad2 : Nat → Nat) (σ : Sg × Sg × Sg) (x : Int32) (hw : vp_in x 11) (hI : OkN σ.2.1) : gMrN l yX6_counted wsX6_counted rm_X6_counted D (Ty cy) (MW cy ax ad ad2) [.ref (ax 0), .int (x)] σ (s_X6_counted σ x) 1 11 := by
  refine gstartiN cX6_counted 3 RX6 (by decide) rfl rfl (Nat.le_of_ble_eq_true rfl) ?_
  intro p e s m below meth c A ls hx hb hml hown hts hr hlocks hK hP hD hA hS hl hnw
  have hl : lv_has ls 3 [(0, .ref (ax 0)), (1, .int (x))] := hl
  have hf : s_X6_counted σ x = s_X6_counted σ x := rfl
  have hz : σ.2.1 0 = σ.2.1 0 := rfl
  have hin6 : ∀ w ∈ wsX60, w ∈ wsX6_counted := by decide +kernel
  have hin5 : ∀ w ∈ wsX50, w ∈ wsX6_counted := by decide +kernel
  have wd0 := hts (.arrayClass .int) (by decide +kernel)
  have wd1 := hts (.fieldLink RX6 18 "UmbrellaLandModel" "s" "LUmbrellaLandModel$State;") (by decide +kernel)
  refine lv_bipush (v := nI 11) hx hb dX6_counted_0 (by decide) ?_
  refine g_newi (n := 11) hx hb wd0 hK hP hD hS hA (by decide) (Nat.le_of_ble_eq_true rfl) (Nat.le_of_ble_eq_true rfl) dX6_counted_2 (fun qA H hP hD hS => ?_)
  have hP : va_P D vwCl ((MTW cy ax ad ad2 qA 11) (σ, (fun _ => (0 : Int32)))) H := hP
  have hD : va_D A ((MTW cy ax ad ad2 qA 11) (σ, (fun _ => (0 : Int32)))) := hD
  refine lv_dup hx hb dX6_counted_4 rfl ?_
  refine lv_iconst (v := nI 0) hx hb dX6_counted_5 (by decide) ?_
  refine lv_aload_n hx hb dX6_counted_6 rfl (lv_at hl 0 rfl) ?_
  refine va_get (D := D) (ci := 6) (v := .ref (ad 0)) (C := RX6) (T := TX6) (N := 4) hx hb hts hin6 hown hK hP (0) (gx_l (gx_l (OW_ob cy ax (ad 0) (ad2 0) σ.1))) rfl 2 (by decide) wd1 (fun _ h9 => h9) rfl dX6_counted_7 ?_
  refine va_getN (D := D) (ci := 5) (v := .int (σ.2.1 0 0)) (C := RX5) (T := TX5) (N := 22) hx hb hts hin5 hown hK hP (2 + (0)) (gx_l (gx_r (WD_len _ _ _ _) (gx_l (SW_ob cy (ax 0) ad σ.2.1)))) rfl 0 (by decide) (nl_124 hnw) (fun _ h9 => h9) rfl dX6_counted_10 ?_
  have h1 : 0 < 11 := by omega
  refine g_iast (σ1 := (σ, upd (fun _ => (0 : Int32)) 0 (σ.2.1 0 0))) hx hb hK hP hD hS (36) 0 0 (MT_get) rfl (nI_clamp (by omega)) (vp_in_nI h1 (by decide)) (MT_set) dX6_counted_13 ?_
  intro u2 eu2 H locs hP hD hS
  subst eu2
  refine lv_dup hx hb dX6_counted_14 rfl ?_
  refine lv_iconst (v := nI 1) hx hb dX6_counted_15 (by decide) ?_
  refine lv_aload_n hx hb dX6_counted_16 rfl (lv_at hl 0 rfl) ?_
  refine va_get (D := D) (ci := 6) (v := .ref (ad 0)) (C := RX6) (T := TX6) (N := 4) hx hb hts hin6 hown hK hP (0) (gx_l (gx_l (OW_ob cy ax (ad 0) (ad2 0) σ.1))) rfl 2 (by decide) wd1 (fun _ h9 => h9) rfl dX6_counted_17 ?_
  refine va_getN (D := D) (ci := 5) (v := .int (σ.2.1 0 1)) (C := RX5) (T := TX5) (N := 22) hx hb hts hin5 hown hK hP (2 + (0)) (gx_l (gx_r (WD_len _ _ _ _) (gx_l (SW_ob cy (ax 0) ad σ.2.1)))) rfl 1 (by decide) (nl_29 hnw) (fun _ h9 => h9) rfl dX6_counted_20 ?_
  refine g_top ((congrFun hz 1).trans hI.c1) ?_
  have h3 : 1 < 11 := by omega
  refine g_iast (σ1 := (σ, upd (upd (fun _ => (0 : Int32)) 0 (σ.2.1 0 0)) 1 (nI (tn (σ.2.1 0 1))))) hx hb hK hP hD hS (36) 0 1 (MT_get) rfl (nI_clamp (by omega)) (vp_in_nI h3 (by decide)) (MT_set) dX6_counted_23 ?_
  intro u4 eu4 H locs hP hD hS
  subst eu4
  refine lv_dup hx hb dX6_counted_24 rfl ?_
  refine lv_iconst (v := nI 2) hx hb dX6_counted_25 (by decide) ?_
  refine lv_aload_n hx hb dX6_counted_26 rfl (lv_at hl 0 rfl) ?_
  refine va_get (D := D) (ci := 6) (v := .ref (ad 0)) (C := RX6) (T := TX6) (N := 4) hx hb hts hin6 hown hK hP (0) (gx_l (gx_l (OW_ob cy ax (ad 0) (ad2 0) σ.1))) rfl 2 (by decide) wd1 (fun _ h9 => h9) rfl dX6_counted_27 ?_
  refine va_getN (D := D) (ci := 5) (v := .int (σ.2.1 0 5)) (C := RX5) (T := TX5) (N := 22) hx hb hts hin5 hown hK hP (2 + (0)) (gx_l (gx_r (WD_len _ _ _ _) (gx_l (SW_ob cy (ax 0) ad σ.2.1)))) rfl 5 (by decide) (nl_53 hnw) (fun _ h9 => h9) rfl dX6_counted_30 ?_
  refine g_top ((congrFun hz 5).trans hI.c5) ?_
  have h5 : 2 < 11 := by omega
  refine g_iast (σ1 := (σ, upd (upd (upd (fun _ => (0 : Int32)) 0 (σ.2.1 0 0)) 1 (nI (tn (σ.2.1 0 1)))) 2 (nI (tn (σ.2.1 0 5))))) hx hb hK hP hD hS (36) 0 2 (MT_get) rfl (nI_clamp (by omega)) (vp_in_nI h5 (by decide)) (MT_set) dX6_counted_33 ?_
  intro u6 eu6 H locs hP hD hS
  subst eu6
  refine lv_dup hx hb dX6_counted_34 rfl ?_
  refine lv_iconst (v := nI 3) hx hb dX6_counted_35 (by decide) ?_
  refine lv_aload_n hx hb dX6_counted_36 rfl (lv_at hl 0 rfl) ?_
  refine va_get (D := D) (ci := 6) (v := .ref (ad 0)) (C := RX6) (T := TX6) (N := 4) hx hb hts hin6 hown hK hP (0) (gx_l (gx_l (OW_ob cy ax (ad 0) (ad2 0) σ.1))) rfl 2 (by decide) wd1 (fun _ h9 => h9) rfl dX6_counted_37 ?_
  refine va_getN (D := D) (ci := 5) (v := .int (σ.2.1 0 12)) (C := RX5) (T := TX5) (N := 22) hx hb hts hin5 hown hK hP (2 + (0)) (gx_l (gx_r (WD_len _ _ _ _) (gx_l (SW_ob cy (ax 0) ad σ.2.1)))) rfl 12 (by decide) (nl_36 hnw) (fun _ h9 => h9) rfl dX6_counted_40 ?_
  refine g_top ((congrFun hz 12).trans hI.c12) ?_
  have h7 : 3 < 11 := by omega
  refine g_iast (σ1 := (σ, upd (upd (upd (upd (fun _ => (0 : Int32)) 0 (σ.2.1 0 0)) 1 (nI (tn (σ.2.1 0 1)))) 2 (nI (tn (σ.2.1 0 5)))) 3 (nI (tn (σ.2.1 0 12))))) hx hb hK hP hD hS (36) 0 3 (MT_get) rfl (nI_clamp (by omega)) (vp_in_nI h7 (by decide)) (MT_set) dX6_counted_43 ?_
  intro u8 eu8 H locs hP hD hS
  subst eu8
  refine lv_dup hx hb dX6_counted_44 rfl ?_
  refine lv_iconst (v := nI 4) hx hb dX6_counted_45 (by decide) ?_
  refine lv_aload_n hx hb dX6_counted_46 rfl (lv_at hl 0 rfl) ?_
  refine va_get (D := D) (ci := 6) (v := .ref (ad 0)) (C := RX6) (T := TX6) (N := 4) hx hb hts hin6 hown hK hP (0) (gx_l (gx_l (OW_ob cy ax (ad 0) (ad2 0) σ.1))) rfl 2 (by decide) wd1 (fun _ h9 => h9) rfl dX6_counted_47 ?_
  refine lv_iconst (v := nI 0) hx hb dX6_counted_50 (by decide) ?_
  refine g_callr (q0 := 2 + (0)) (wf := (MTW cy ax ad ad2 qA 11)) (σ := (σ, upd (upd (upd (upd (fun _ => (0 : Int32)) 0 (σ.2.1 0 0)) 1 (nI (tn (σ.2.1 0 1)))) 2 (nI (tn (σ.2.1 0 5)))) 3 (nI (tn (σ.2.1 0 12))))) (wfc := (SW cy (ax 0) ad)) (σc := σ.2.1) hx hb hml hown hts hK hP hD hS hA hl.1 ((OW cy ax (ad 0) (ad2 0) (σ.1) ++ SW cy (ax 0) ad2 (σ.2.2)) ++ [(qA, .inl (cy 0, 11, .inl (upd (upd (upd (upd (fun _ => (0 : Int32)) 0 (σ.2.1 0 0)) 1 (nI (tn (σ.2.1 0 1)))) 2 (nI (tn (σ.2.1 0 5)))) 3 (nI (tn (σ.2.1 0 12))))))]) pm_nT [.int (nI 0)] (c_X5_of l D cy (ax 0) ad σ.2.1 (nI 0) (hI.mv hz)) (cwV 1 hts gX6_counted_X5_of rfl rfl rfl (by decide +kernel) ⟨Nat.le_of_ble_eq_true rfl, Nat.le_of_ble_eq_true rfl⟩) (gx_l (gx_r (WD_len _ _ _ _) (gx_l (SW_ob cy (ax 0) ad σ.2.1)))) rfl rfl rfl rfl (Nat.le_of_ble_eq_true rfl) dX6_counted_51 ⟨Nat.le_of_ble_eq_true rfl, Nat.le_of_ble_eq_true rfl⟩ rfl rfl ?_
  intro r9 er9 H locs hP hD hS
  replace hf := hf.trans (ltt_r er9)
  have h10 : 4 < 11 := by omega
  refine g_iast (σ1 := (σ, upd (upd (upd (upd (upd (fun _ => (0 : Int32)) 0 (σ.2.1 0 0)) 1 (nI (tn (σ.2.1 0 1)))) 2 (nI (tn (σ.2.1 0 5)))) 3 (nI (tn (σ.2.1 0 12)))) 4 r9)) hx hb hK hP hD hS (36) 0 4 (MT_get) rfl (nI_clamp (by omega)) (vp_in_nI h10 (by decide)) (MT_set) dX6_counted_54 ?_
  intro u11 eu11 H locs hP hD hS
  subst eu11
  refine lv_dup hx hb dX6_counted_55 rfl ?_
  refine lv_iconst (v := nI 5) hx hb dX6_counted_56 (by decide) ?_
  refine lv_aload_n hx hb dX6_counted_57 rfl (lv_at hl 0 rfl) ?_
  refine va_get (D := D) (ci := 6) (v := .ref (ad 0)) (C := RX6) (T := TX6) (N := 4) hx hb hts hin6 hown hK hP (0) (gx_l (gx_l (OW_ob cy ax (ad 0) (ad2 0) σ.1))) rfl 2 (by decide) wd1 (fun _ h9 => h9) rfl dX6_counted_58 ?_
  refine lv_iconst (v := nI 1) hx hb dX6_counted_61 (by decide) ?_
  refine g_callr (q0 := 2 + (0)) (wf := (MTW cy ax ad ad2 qA 11)) (σ := (σ, upd (upd (upd (upd (upd (fun _ => (0 : Int32)) 0 (σ.2.1 0 0)) 1 (nI (tn (σ.2.1 0 1)))) 2 (nI (tn (σ.2.1 0 5)))) 3 (nI (tn (σ.2.1 0 12)))) 4 r9)) (wfc := (SW cy (ax 0) ad)) (σc := σ.2.1) hx hb hml hown hts hK hP hD hS hA hl.1 ((OW cy ax (ad 0) (ad2 0) (σ.1) ++ SW cy (ax 0) ad2 (σ.2.2)) ++ [(qA, .inl (cy 0, 11, .inl (upd (upd (upd (upd (upd (fun _ => (0 : Int32)) 0 (σ.2.1 0 0)) 1 (nI (tn (σ.2.1 0 1)))) 2 (nI (tn (σ.2.1 0 5)))) 3 (nI (tn (σ.2.1 0 12)))) 4 r9)))]) pm_nT [.int (nI 1)] (c_X5_of l D cy (ax 0) ad σ.2.1 (nI 1) (hI.mv hz)) (cwV 1 hts gX6_counted_X5_of rfl rfl rfl (by decide +kernel) ⟨Nat.le_of_ble_eq_true rfl, Nat.le_of_ble_eq_true rfl⟩) (gx_l (gx_r (WD_len _ _ _ _) (gx_l (SW_ob cy (ax 0) ad σ.2.1)))) rfl rfl rfl rfl (Nat.le_of_ble_eq_true rfl) dX6_counted_62 ⟨Nat.le_of_ble_eq_true rfl, Nat.le_of_ble_eq_true rfl⟩ rfl rfl ?_
  intro r12 er12 H locs hP hD hS
  replace hf := hf.trans (ltt_r er12)
  have h13 : 5 < 11 := by omega
  refine g_iast (σ1 := (σ, upd (upd (upd (upd (upd (upd (fun _ => (0 : Int32)) 0 (σ.2.1 0 0)) 1 (nI (tn (σ.2.1 0 1)))) 2 (nI (tn (σ.2.1 0 5)))) 3 (nI (tn (σ.2.1 0 12)))) 4 r9) 5 r12)) hx hb hK hP hD hS (36) 0 5 (MT_get) rfl (nI_clamp (by omega)) (vp_in_nI h13 (by decide)) (MT_set) dX6_counted_65 ?_
  intro u14 eu14 H locs hP hD hS
  subst eu14
  refine lv_dup hx hb dX6_counted_66 rfl ?_
  refine lv_bipush (v := nI 6) hx hb dX6_counted_67 (by decide) ?_
  refine lv_aload_n hx hb dX6_counted_69 rfl (lv_at hl 0 rfl) ?_
  refine va_get (D := D) (ci := 6) (v := .ref (ad 0)) (C := RX6) (T := TX6) (N := 4) hx hb hts hin6 hown hK hP (0) (gx_l (gx_l (OW_ob cy ax (ad 0) (ad2 0) σ.1))) rfl 2 (by decide) wd1 (fun _ h9 => h9) rfl dX6_counted_70 ?_
  refine lv_iconst (v := nI 2) hx hb dX6_counted_73 (by decide) ?_
  refine g_callr (q0 := 2 + (0)) (wf := (MTW cy ax ad ad2 qA 11)) (σ := (σ, upd (upd (upd (upd (upd (upd (fun _ => (0 : Int32)) 0 (σ.2.1 0 0)) 1 (nI (tn (σ.2.1 0 1)))) 2 (nI (tn (σ.2.1 0 5)))) 3 (nI (tn (σ.2.1 0 12)))) 4 r9) 5 r12)) (wfc := (SW cy (ax 0) ad)) (σc := σ.2.1) hx hb hml hown hts hK hP hD hS hA hl.1 ((OW cy ax (ad 0) (ad2 0) (σ.1) ++ SW cy (ax 0) ad2 (σ.2.2)) ++ [(qA, .inl (cy 0, 11, .inl (upd (upd (upd (upd (upd (upd (fun _ => (0 : Int32)) 0 (σ.2.1 0 0)) 1 (nI (tn (σ.2.1 0 1)))) 2 (nI (tn (σ.2.1 0 5)))) 3 (nI (tn (σ.2.1 0 12)))) 4 r9) 5 r12)))]) pm_nT [.int (nI 2)] (c_X5_of l D cy (ax 0) ad σ.2.1 (nI 2) (hI.mv hz)) (cwV 1 hts gX6_counted_X5_of rfl rfl rfl (by decide +kernel) ⟨Nat.le_of_ble_eq_true rfl, Nat.le_of_ble_eq_true rfl⟩) (gx_l (gx_r (WD_len _ _ _ _) (gx_l (SW_ob cy (ax 0) ad σ.2.1)))) rfl rfl rfl rfl (Nat.le_of_ble_eq_true rfl) dX6_counted_74 ⟨Nat.le_of_ble_eq_true rfl, Nat.le_of_ble_eq_true rfl⟩ rfl rfl ?_
  intro r15 er15 H locs hP hD hS
  replace hf := hf.trans (ltt_r er15)
  have h16 : 6 < 11 := by omega
  refine g_iast (σ1 := (σ, upd (upd (upd (upd (upd (upd (upd (fun _ => (0 : Int32)) 0 (σ.2.1 0 0)) 1 (nI (tn (σ.2.1 0 1)))) 2 (nI (tn (σ.2.1 0 5)))) 3 (nI (tn (σ.2.1 0 12)))) 4 r9) 5 r12) 6 r15)) hx hb hK hP hD hS (36) 0 6 (MT_get) rfl (nI_clamp (by omega)) (vp_in_nI h16 (by decide)) (MT_set) dX6_counted_77 ?_
  intro u17 eu17 H locs hP hD hS
  subst eu17
  refine lv_dup hx hb dX6_counted_78 rfl ?_
  refine lv_bipush (v := nI 7) hx hb dX6_counted_79 (by decide) ?_
  refine lv_aload_n hx hb dX6_counted_81 rfl (lv_at hl 0 rfl) ?_
  refine va_get (D := D) (ci := 6) (v := .ref (ad 0)) (C := RX6) (T := TX6) (N := 4) hx hb hts hin6 hown hK hP (0) (gx_l (gx_l (OW_ob cy ax (ad 0) (ad2 0) σ.1))) rfl 2 (by decide) wd1 (fun _ h9 => h9) rfl dX6_counted_82 ?_
  refine lv_iconst (v := nI 3) hx hb dX6_counted_85 (by decide) ?_
  refine g_callr (q0 := 2 + (0)) (wf := (MTW cy ax ad ad2 qA 11)) (σ := (σ, upd (upd (upd (upd (upd (upd (upd (fun _ => (0 : Int32)) 0 (σ.2.1 0 0)) 1 (nI (tn (σ.2.1 0 1)))) 2 (nI (tn (σ.2.1 0 5)))) 3 (nI (tn (σ.2.1 0 12)))) 4 r9) 5 r12) 6 r15)) (wfc := (SW cy (ax 0) ad)) (σc := σ.2.1) hx hb hml hown hts hK hP hD hS hA hl.1 ((OW cy ax (ad 0) (ad2 0) (σ.1) ++ SW cy (ax 0) ad2 (σ.2.2)) ++ [(qA, .inl (cy 0, 11, .inl (upd (upd (upd (upd (upd (upd (upd (fun _ => (0 : Int32)) 0 (σ.2.1 0 0)) 1 (nI (tn (σ.2.1 0 1)))) 2 (nI (tn (σ.2.1 0 5)))) 3 (nI (tn (σ.2.1 0 12)))) 4 r9) 5 r12) 6 r15)))]) pm_nT [.int (nI 3)] (c_X5_of l D cy (ax 0) ad σ.2.1 (nI 3) (hI.mv hz)) (cwV 1 hts gX6_counted_X5_of rfl rfl rfl (by decide +kernel) ⟨Nat.le_of_ble_eq_true rfl, Nat.le_of_ble_eq_true rfl⟩) (gx_l (gx_r (WD_len _ _ _ _) (gx_l (SW_ob cy (ax 0) ad σ.2.1)))) rfl rfl rfl rfl (Nat.le_of_ble_eq_true rfl) dX6_counted_86 ⟨Nat.le_of_ble_eq_true rfl, Nat.le_of_ble_eq_true rfl⟩ rfl rfl ?_
  intro r18 er18 H locs hP hD hS
  replace hf := hf.trans (ltt_r er18)
  have h19 : 7 < 11 := by omega
  refine g_iast (σ1 := (σ, upd (upd (upd (upd (upd (upd (upd (upd (fun _ => (0 : Int32)) 0 (σ.2.1 0 0)) 1 (nI (tn (σ.2.1 0 1)))) 2 (nI (tn (σ.2.1 0 5)))) 3 (nI (tn (σ.2.1 0 12)))) 4 r9) 5 r12) 6 r15) 7 r18)) hx hb hK hP hD hS (36) 0 7 (MT_get) rfl (nI_clamp (by omega)) (vp_in_nI h19 (by decide)) (MT_set) dX6_counted_89 ?_
  intro u20 eu20 H locs hP hD hS
  subst eu20
  refine lv_dup hx hb dX6_counted_90 rfl ?_
  refine lv_bipush (v := nI 8) hx hb dX6_counted_91 (by decide) ?_
  refine lv_aload_n hx hb dX6_counted_93 rfl (lv_at hl 0 rfl) ?_
  refine va_get (D := D) (ci := 6) (v := .ref (ad 0)) (C := RX6) (T := TX6) (N := 4) hx hb hts hin6 hown hK hP (0) (gx_l (gx_l (OW_ob cy ax (ad 0) (ad2 0) σ.1))) rfl 2 (by decide) wd1 (fun _ h9 => h9) rfl dX6_counted_94 ?_
  refine lv_iconst (v := nI 2) hx hb dX6_counted_97 (by decide) ?_
  refine g_callr (q0 := 2 + (0)) (wf := (MTW cy ax ad ad2 qA 11)) (σ := (σ, upd (upd (upd (upd (upd (upd (upd (upd (fun _ => (0 : Int32)) 0 (σ.2.1 0 0)) 1 (nI (tn (σ.2.1 0 1)))) 2 (nI (tn (σ.2.1 0 5)))) 3 (nI (tn (σ.2.1 0 12)))) 4 r9) 5 r12) 6 r15) 7 r18)) (wfc := (SW cy (ax 0) ad)) (σc := σ.2.1) hx hb hml hown hts hK hP hD hS hA hl.1 ((OW cy ax (ad 0) (ad2 0) (σ.1) ++ SW cy (ax 0) ad2 (σ.2.2)) ++ [(qA, .inl (cy 0, 11, .inl (upd (upd (upd (upd (upd (upd (upd (upd (fun _ => (0 : Int32)) 0 (σ.2.1 0 0)) 1 (nI (tn (σ.2.1 0 1)))) 2 (nI (tn (σ.2.1 0 5)))) 3 (nI (tn (σ.2.1 0 12)))) 4 r9) 5 r12) 6 r15) 7 r18)))]) pm_nT [.int (nI 2)] (c_X5_over l D cy (ax 0) ad σ.2.1 (nI 2) (hI.mv hz)) (cwV 1 hts gX6_counted_X5_over rfl rfl rfl (by decide +kernel) ⟨Nat.le_of_ble_eq_true rfl, Nat.le_of_ble_eq_true rfl⟩) (gx_l (gx_r (WD_len _ _ _ _) (gx_l (SW_ob cy (ax 0) ad σ.2.1)))) rfl rfl rfl rfl (Nat.le_of_ble_eq_true rfl) dX6_counted_98 ⟨Nat.le_of_ble_eq_true rfl, Nat.le_of_ble_eq_true rfl⟩ rfl rfl ?_
  intro r21 er21 H locs hP hD hS
  replace hf := hf.trans (ltt_r er21)
  have h22 : 8 < 11 := by omega
  refine g_iast (σ1 := (σ, upd (upd (upd (upd (upd (upd (upd (upd (upd (fun _ => (0 : Int32)) 0 (σ.2.1 0 0)) 1 (nI (tn (σ.2.1 0 1)))) 2 (nI (tn (σ.2.1 0 5)))) 3 (nI (tn (σ.2.1 0 12)))) 4 r9) 5 r12) 6 r15) 7 r18) 8 r21)) hx hb hK hP hD hS (36) 0 8 (MT_get) rfl (nI_clamp (by omega)) (vp_in_nI h22 (by decide)) (MT_set) dX6_counted_101 ?_
  intro u23 eu23 H locs hP hD hS
  subst eu23
  refine lv_dup hx hb dX6_counted_102 rfl ?_
  refine lv_bipush (v := nI 9) hx hb dX6_counted_103 (by decide) ?_
  refine lv_aload_n hx hb dX6_counted_105 rfl (lv_at hl 0 rfl) ?_
  refine va_get (D := D) (ci := 6) (v := .ref (ad 0)) (C := RX6) (T := TX6) (N := 4) hx hb hts hin6 hown hK hP (0) (gx_l (gx_l (OW_ob cy ax (ad 0) (ad2 0) σ.1))) rfl 2 (by decide) wd1 (fun _ h9 => h9) rfl dX6_counted_106 ?_
  refine lv_iconst (v := nI 0) hx hb dX6_counted_109 (by decide) ?_
  refine g_callr (q0 := 2 + (0)) (wf := (MTW cy ax ad ad2 qA 11)) (σ := (σ, upd (upd (upd (upd (upd (upd (upd (upd (upd (fun _ => (0 : Int32)) 0 (σ.2.1 0 0)) 1 (nI (tn (σ.2.1 0 1)))) 2 (nI (tn (σ.2.1 0 5)))) 3 (nI (tn (σ.2.1 0 12)))) 4 r9) 5 r12) 6 r15) 7 r18) 8 r21)) (wfc := (SW cy (ax 0) ad)) (σc := σ.2.1) hx hb hml hown hts hK hP hD hS hA hl.1 ((OW cy ax (ad 0) (ad2 0) (σ.1) ++ SW cy (ax 0) ad2 (σ.2.2)) ++ [(qA, .inl (cy 0, 11, .inl (upd (upd (upd (upd (upd (upd (upd (upd (upd (fun _ => (0 : Int32)) 0 (σ.2.1 0 0)) 1 (nI (tn (σ.2.1 0 1)))) 2 (nI (tn (σ.2.1 0 5)))) 3 (nI (tn (σ.2.1 0 12)))) 4 r9) 5 r12) 6 r15) 7 r18) 8 r21)))]) pm_nT [.int (nI 0)] (c_X5_over l D cy (ax 0) ad σ.2.1 (nI 0) (hI.mv hz)) (cwV 1 hts gX6_counted_X5_over rfl rfl rfl (by decide +kernel) ⟨Nat.le_of_ble_eq_true rfl, Nat.le_of_ble_eq_true rfl⟩) (gx_l (gx_r (WD_len _ _ _ _) (gx_l (SW_ob cy (ax 0) ad σ.2.1)))) rfl rfl rfl rfl (Nat.le_of_ble_eq_true rfl) dX6_counted_110 ⟨Nat.le_of_ble_eq_true rfl, Nat.le_of_ble_eq_true rfl⟩ rfl rfl ?_
  intro r24 er24 H locs hP hD hS
  replace hf := hf.trans (ltt_r er24)
  have h25 : 9 < 11 := by omega
  refine g_iast (σ1 := (σ, upd (upd (upd (upd (upd (upd (upd (upd (upd (upd (fun _ => (0 : Int32)) 0 (σ.2.1 0 0)) 1 (nI (tn (σ.2.1 0 1)))) 2 (nI (tn (σ.2.1 0 5)))) 3 (nI (tn (σ.2.1 0 12)))) 4 r9) 5 r12) 6 r15) 7 r18) 8 r21) 9 r24)) hx hb hK hP hD hS (36) 0 9 (MT_get) rfl (nI_clamp (by omega)) (vp_in_nI h25 (by decide)) (MT_set) dX6_counted_113 ?_
  intro u26 eu26 H locs hP hD hS
  subst eu26
  refine lv_dup hx hb dX6_counted_114 rfl ?_
  refine lv_bipush (v := nI 10) hx hb dX6_counted_115 (by decide) ?_
  refine lv_aload_n hx hb dX6_counted_117 rfl (lv_at hl 0 rfl) ?_
  refine va_get (D := D) (ci := 6) (v := .ref (ad 0)) (C := RX6) (T := TX6) (N := 4) hx hb hts hin6 hown hK hP (0) (gx_l (gx_l (OW_ob cy ax (ad 0) (ad2 0) σ.1))) rfl 2 (by decide) wd1 (fun _ h9 => h9) rfl dX6_counted_118 ?_
  refine va_getN (D := D) (ci := 5) (v := .int (σ.2.1 0 20)) (C := RX5) (T := TX5) (N := 22) hx hb hts hin5 hown hK hP (2 + (0)) (gx_l (gx_r (WD_len _ _ _ _) (gx_l (SW_ob cy (ax 0) ad σ.2.1)))) rfl 20 (by decide) (nl_133 hnw) (fun _ h9 => h9) rfl dX6_counted_121 ?_
  have h27 : 10 < 11 := by omega
  refine g_iast (σ1 := (σ, upd (upd (upd (upd (upd (upd (upd (upd (upd (upd (upd (fun _ => (0 : Int32)) 0 (σ.2.1 0 0)) 1 (nI (tn (σ.2.1 0 1)))) 2 (nI (tn (σ.2.1 0 5)))) 3 (nI (tn (σ.2.1 0 12)))) 4 r9) 5 r12) 6 r15) 7 r18) 8 r21) 9 r24) 10 (σ.2.1 0 20))) hx hb hK hP hD hS (36) 0 10 (MT_get) rfl (nI_clamp (by omega)) (vp_in_nI h27 (by decide)) (MT_set) dX6_counted_124 ?_
  intro u28 eu28 H locs hP hD hS
  subst eu28
  refine lv_astore_n (lv' := [(2, .ref (qA)), (0, .ref (ax 0)), (1, .int (x))]) hx hb dX6_counted_125 rfl hl (by decide) rfl (fun ls hl => ?_)
  refine lv_aload_n hx hb dX6_counted_126 rfl (lv_at hl 0 rfl) ?_
  refine lv_iload_n hx hb dX6_counted_127 rfl (lv_at hl 2 rfl) ?_
  have h29 : vp_in (x) 11 := hw
  have h29b : tn x < 11 := tn_in h29
  refine g_iald hx hb hK hP (36) 0 (tn x) (MT_get) rfl rfl h29 dX6_counted_128 ?_
  exact g_endi hx hb hr hlocks rfl (congrArg (fun r => (r, σ)) hf) (va_P_l hP) (va_D_l hD) hS (Nat.le_of_ble_eq_true rfl) (Nat.le_of_ble_eq_true rfl) dX6_counted_129
def s_X6_shelter (σ : Sg × Sg × Sg) (x : Int32) (y : Int32) : Int32 × (Sg × Sg × Sg) := ltt ((up σ.1 0 0 (nI 0), σ.2)) (fun u1 => ltt (s_X6_isShelter u1 x) (fun r2 => if r2 = 0 then ltt (s_X6_no u1 (nI 1)) (fun r4 => (r4.1, r4.2)) else ltt (s_X6_isIn y (nI 0) (nI 7)) (fun r5 => if r5 = 0 then ltt (s_X6_no u1 (nI 1)) (fun r7 => (r7.1, r7.2)) else ltt (s_X6_shelterTold u1 (tn x) y) (fun r9 => (r9, u1)))))
abbrev rm_X6_shelter : Room := { frames := 2, cells := 1, slots := 8, locals := 47 }
set_option maxHeartbeats 4000000 in
set_option maxRecDepth 100000 in
theorem c_X6_shelter (l : Launch) (D : va_G) (cy : Nat → ClassId) (ax ad ad2 : Nat → Nat) (σ : Sg × Sg × Sg) (x : Int32) (y : Int32) (hI : OkN σ.2.1) : gMiN l yX6_shelter wsX6_shelter rm_X6_shelter D (Ty cy) (MW cy ax ad ad2) [.ref (ax 0), .int (x), .int (y)] σ (s_X6_shelter σ x y) 1 8 := by
  refine gstartiN cX6_shelter 3 RX6 (by decide) rfl rfl (Nat.le_of_ble_eq_true rfl) ?_
  intro p e s m below meth c A ls hx hb hml hown hts hr hlocks hK hP hD hA hS hl hnw
  have hl : lv_has ls 3 [(0, .ref (ax 0)), (1, .int (x)), (2, .int (y))] := hl
  have hf : s_X6_shelter σ x y = s_X6_shelter σ x y := rfl
  have hz : σ.2.1 0 = σ.2.1 0 := rfl
  have hin6 : ∀ w ∈ wsX60, w ∈ wsX6_shelter := by decide +kernel
  have wd0 := hts (.fieldLink RX6 25 "UmbrellaLandModel" "thrown" "I") (by decide +kernel)
  refine lv_aload_n hx hb dX6_shelter_0 rfl (lv_at hl 0 rfl) ?_
  refine lv_iconst (v := nI 0) hx hb dX6_shelter_1 (by decide) ?_
  refine g_put (σ1 := (up σ.1 0 0 (nI 0), σ.2)) (fs := moF ax (ad 0) (ad2 0) (σ.1 0)) (C := RX6) (T := TX6) (N := 4) hx hb hts hin6 tyX6_ok nmX6 hown hK hP hD hS (0) (gx_l (OW_ob cy ax (ad 0) (ad2 0) σ.1)) rfl 0 (by decide) wd0 rfl rfl (Nat.le_of_ble_eq_true rfl) (gx_setl (by rw [WD_len]; omega) (OW_ob_set cy ax (ad 0) (ad2 0) σ.1 0 (by decide) _)) dX6_shelter_2 ?_
  intro u1 eu1 H locs hP hD hS
  replace hf := hf.trans (ltt_r eu1)
  have hz : u1.2.1 0 = σ.2.1 0 := by rw [eu1]; first | done | exact hz
  refine lv_aload_n hx hb dX6_shelter_5 rfl (lv_at hl 0 rfl) ?_
  refine lv_iload_n hx hb dX6_shelter_6 rfl (lv_at hl 1 rfl) ?_
  refine g_callrN (q0 := 0) hnw (wf := (MW cy ax ad ad2)) (σ := u1) (wfc := (MW cy ax ad ad2)) (σc := u1) hx hb hml hown hts hK hP hD hS hA hl.1 [] pm_0 [.int (x)] (c_X6_isShelter l D cy ax ad ad2 u1 x ) (cwV 1 hts gX6_shelter_X6_isShelter rfl rfl rfl (by decide +kernel) ⟨Nat.le_of_ble_eq_true rfl, Nat.le_of_ble_eq_true rfl⟩) (gx_l (OW_ob cy ax (ad 0) (ad2 0) u1.1)) rfl rfl rfl rfl (Nat.le_of_ble_eq_true rfl) dX6_shelter_7 ⟨Nat.le_of_ble_eq_true rfl, Nat.le_of_ble_eq_true rfl⟩ rfl rfl ?_
  intro r2 er2 H locs hP hD hS
  replace hf := hf.trans (ltt_r er2)
  refine lv_if_eq (tgt := 32) hx hb dX6_shelter_10 (by decide) (fun c3 => ?_) (fun c3 => ?_)
  · replace hf := hf.trans (if_pos c3)
    refine lv_aload_n hx hb dX6_shelter_32 rfl (lv_at hl 0 rfl) ?_
    refine lv_iconst (v := nI 1) hx hb dX6_shelter_33 (by decide) ?_
    refine g_calliN (q0 := 0) hnw (wf := (MW cy ax ad ad2)) (σ := u1) (wfc := (MW cy ax ad ad2)) (σc := u1) hx hb hml hown hts hK hP hD hS hA hl.1 [] pm_0 (fun u => u) (fun _ => pm_0b) [.int (nI 1)] (c_X6_no l D cy ax ad ad2 u1 (nI 1) ) (cwV 1 hts gX6_shelter_X6_no rfl rfl rfl (by decide +kernel) ⟨Nat.le_of_ble_eq_true rfl, Nat.le_of_ble_eq_true rfl⟩) (gx_l (OW_ob cy ax (ad 0) (ad2 0) u1.1)) rfl rfl rfl rfl (Nat.le_of_ble_eq_true rfl) dX6_shelter_34 ⟨Nat.le_of_ble_eq_true rfl, Nat.le_of_ble_eq_true rfl⟩ rfl rfl ?_
    intro r4 er4 H locs hP hD hS
    replace hf := hf.trans (ltt_r er4)
    exact g_endi hx hb hr hlocks rfl hf hP hD hS (Nat.le_of_ble_eq_true rfl) (Nat.le_of_ble_eq_true rfl) dX6_shelter_37
  · replace hf := hf.trans (if_neg c3)
    refine lv_iload_n hx hb dX6_shelter_13 rfl (lv_at hl 2 rfl) ?_
    refine lv_iconst (v := nI 0) hx hb dX6_shelter_14 (by decide) ?_
    refine lv_bipush (v := nI 7) hx hb dX6_shelter_15 (by decide) ?_
    refine g_callsr (wf := (MW cy ax ad ad2)) (σ := u1) (wfc := w0) (σc := ()) hx hb hml hown hts hK hP hD hS hA hl.1 ((MW cy ax ad ad2) u1) (List.Perm.refl _) [.int (y), .int (nI 0), .int (nI 7)] (c_X6_isIn l D cy y (nI 0) (nI 7) ) (va_cwS 3 hts gX6_shelter_X6_isIn rfl rfl rfl (by decide +kernel) ⟨Nat.le_of_ble_eq_true rfl, Nat.le_of_ble_eq_true rfl⟩) rfl rfl (Nat.le_of_ble_eq_true rfl) dX6_shelter_17 ⟨Nat.le_of_ble_eq_true rfl, Nat.le_of_ble_eq_true rfl⟩ rfl rfl ?_
    intro r5 er5 H locs hP hD hS
    replace hf := hf.trans (ltt_r er5)
    refine lv_if_eq (tgt := 32) hx hb dX6_shelter_20 (by decide) (fun c6 => ?_) (fun c6 => ?_)
    · replace hf := hf.trans (if_pos c6)
      refine lv_aload_n hx hb dX6_shelter_32 rfl (lv_at hl 0 rfl) ?_
      refine lv_iconst (v := nI 1) hx hb dX6_shelter_33 (by decide) ?_
      refine g_calliN (q0 := 0) hnw (wf := (MW cy ax ad ad2)) (σ := u1) (wfc := (MW cy ax ad ad2)) (σc := u1) hx hb hml hown hts hK hP hD hS hA hl.1 [] pm_0 (fun u => u) (fun _ => pm_0b) [.int (nI 1)] (c_X6_no l D cy ax ad ad2 u1 (nI 1) ) (cwV 1 hts gX6_shelter_X6_no rfl rfl rfl (by decide +kernel) ⟨Nat.le_of_ble_eq_true rfl, Nat.le_of_ble_eq_true rfl⟩) (gx_l (OW_ob cy ax (ad 0) (ad2 0) u1.1)) rfl rfl rfl rfl (Nat.le_of_ble_eq_true rfl) dX6_shelter_34 ⟨Nat.le_of_ble_eq_true rfl, Nat.le_of_ble_eq_true rfl⟩ rfl rfl ?_
      intro r7 er7 H locs hP hD hS
      replace hf := hf.trans (ltt_r er7)
      exact g_endi hx hb hr hlocks rfl hf hP hD hS (Nat.le_of_ble_eq_true rfl) (Nat.le_of_ble_eq_true rfl) dX6_shelter_37
    · replace hf := hf.trans (if_neg c6)
      refine lv_aload_n hx hb dX6_shelter_23 rfl (lv_at hl 0 rfl) ?_
      refine lv_iload_n hx hb dX6_shelter_24 rfl (lv_at hl 1 rfl) ?_
      have h8 : vp_in x 8 := in6_sh (hI.mv hz) (fun h9 => c3 (er2.trans h9))
      have h8b : tn x < 8 := tn_in h8
      refine g_top (tn_eq h8 (by decide)) ?_
      refine lv_iload_n hx hb dX6_shelter_25 rfl (lv_at hl 2 rfl) ?_
      refine g_callrN (q0 := 0) hnw (wf := (MW cy ax ad ad2)) (σ := u1) (wfc := (MW cy ax ad ad2)) (σc := u1) hx hb hml hown hts hK hP hD hS hA hl.1 [] pm_0 [.int (nI (tn x)), .int (y)] (c_X6_shelterTold l D cy ax ad ad2 u1 (tn x) y (by omega) (isIn_0 (fun h9 => c6 (er5.trans h9)) (by decide)) (hI.mv hz)) (cwV 2 hts gX6_shelter_X6_shelterTold rfl rfl rfl (by decide +kernel) ⟨Nat.le_of_ble_eq_true rfl, Nat.le_of_ble_eq_true rfl⟩) (gx_l (OW_ob cy ax (ad 0) (ad2 0) u1.1)) rfl rfl rfl rfl (Nat.le_of_ble_eq_true rfl) dX6_shelter_26 ⟨Nat.le_of_ble_eq_true rfl, Nat.le_of_ble_eq_true rfl⟩ (cells2 := 1) (slots2 := 8) rfl rfl ?_
      intro r9 er9 H locs hP hD hS
      replace hf := hf.trans (ltt_r er9)
      refine lv_goto (tgt := 37) hx hb dX6_shelter_29 (by decide) ?_
      exact g_endi hx hb hr hlocks rfl hf hP hD hS (Nat.le_of_ble_eq_true rfl) (Nat.le_of_ble_eq_true rfl) dX6_shelter_37
def s_X6_umbrella (σ : Sg × Sg × Sg) (x : Int32) (y : Int32) : Int32 × (Sg × Sg × Sg) := ltt ((up σ.1 0 0 (nI 0), σ.2)) (fun u1 => ltt (s_X6_isIn x (nI 0) ((nI (tn (σ.2.1 0 5))) - (nI 1))) (fun r2 => if r2 = 0 then ltt (s_X6_no u1 (nI 1)) (fun r4 => (r4.1, r4.2)) else ltt (s_X6_isIn y (nI 0) (nI 5)) (fun r5 => if r5 = 0 then ltt (s_X6_no u1 (nI 1)) (fun r7 => (r7.1, r7.2)) else ltt (s_X6_umbrellaTold u1 (tn x) y) (fun r9 => (r9, u1)))))
abbrev rm_X6_umbrella : Room := { frames := 1, cells := 1, slots := 6, locals := 23 }
set_option maxHeartbeats 4000000 in
set_option maxRecDepth 100000 in
theorem c_X6_umbrella (l : Launch) (D : va_G) (cy : Nat → ClassId) (ax ad ad2 : Nat → Nat) (σ : Sg × Sg × Sg) (x : Int32) (y : Int32) (hI : OkN σ.2.1) : gMiN l yX6_umbrella wsX6_umbrella rm_X6_umbrella D (Ty cy) (MW cy ax ad ad2) [.ref (ax 0), .int (x), .int (y)] σ (s_X6_umbrella σ x y) 1 6 := by
  refine gstartiN cX6_umbrella 3 RX6 (by decide) rfl rfl (Nat.le_of_ble_eq_true rfl) ?_
  intro p e s m below meth c A ls hx hb hml hown hts hr hlocks hK hP hD hA hS hl hnw
  have hl : lv_has ls 3 [(0, .ref (ax 0)), (1, .int (x)), (2, .int (y))] := hl
  have hf : s_X6_umbrella σ x y = s_X6_umbrella σ x y := rfl
  have hz : σ.2.1 0 = σ.2.1 0 := rfl
  have hin6 : ∀ w ∈ wsX60, w ∈ wsX6_umbrella := by decide +kernel
  have hin5 : ∀ w ∈ wsX50, w ∈ wsX6_umbrella := by decide +kernel
  have wd0 := hts (.fieldLink RX6 25 "UmbrellaLandModel" "thrown" "I") (by decide +kernel)
  have wd1 := hts (.fieldLink RX6 18 "UmbrellaLandModel" "s" "LUmbrellaLandModel$State;") (by decide +kernel)
  have n5 := hI.n5
  refine lv_aload_n hx hb dX6_umbrella_0 rfl (lv_at hl 0 rfl) ?_
  refine lv_iconst (v := nI 0) hx hb dX6_umbrella_1 (by decide) ?_
  refine g_put (σ1 := (up σ.1 0 0 (nI 0), σ.2)) (fs := moF ax (ad 0) (ad2 0) (σ.1 0)) (C := RX6) (T := TX6) (N := 4) hx hb hts hin6 tyX6_ok nmX6 hown hK hP hD hS (0) (gx_l (OW_ob cy ax (ad 0) (ad2 0) σ.1)) rfl 0 (by decide) wd0 rfl rfl (Nat.le_of_ble_eq_true rfl) (gx_setl (by rw [WD_len]; omega) (OW_ob_set cy ax (ad 0) (ad2 0) σ.1 0 (by decide) _)) dX6_umbrella_2 ?_
  intro u1 eu1 H locs hP hD hS
  replace hf := hf.trans (ltt_r eu1)
  have hz : u1.2.1 0 = σ.2.1 0 := by rw [eu1]; first | done | exact hz
  refine lv_iload_n hx hb dX6_umbrella_5 rfl (lv_at hl 1 rfl) ?_
  refine lv_iconst (v := nI 0) hx hb dX6_umbrella_6 (by decide) ?_
  refine lv_aload_n hx hb dX6_umbrella_7 rfl (lv_at hl 0 rfl) ?_
  refine va_get (D := D) (ci := 6) (v := .ref (ad 0)) (C := RX6) (T := TX6) (N := 4) hx hb hts hin6 hown hK hP (0) (gx_l (OW_ob cy ax (ad 0) (ad2 0) u1.1)) rfl 2 (by decide) wd1 (fun _ h9 => h9) rfl dX6_umbrella_8 ?_
  refine va_getN (D := D) (ci := 5) (v := .int (u1.2.1 0 5)) (C := RX5) (T := TX5) (N := 22) hx hb hts hin5 hown hK hP (2 + (0)) (gx_r (WD_len _ _ _ _) (gx_l (SW_ob cy (ax 0) ad u1.2.1))) rfl 5 (by decide) (nl_53 hnw) (fun _ h9 => h9) rfl dX6_umbrella_11 ?_
  refine g_top ((congrFun hz 5).trans hI.c5) ?_
  refine lv_iconst (v := nI 1) hx hb dX6_umbrella_14 (by decide) ?_
  refine lv_isub hx hb dX6_umbrella_15 ?_
  refine g_callsr (wf := (MW cy ax ad ad2)) (σ := u1) (wfc := w0) (σc := ()) hx hb hml hown hts hK hP hD hS hA hl.1 ((MW cy ax ad ad2) u1) (List.Perm.refl _) [.int (x), .int (nI 0), .int ((nI (tn (σ.2.1 0 5))) - (nI 1))] (c_X6_isIn l D cy x (nI 0) ((nI (tn (σ.2.1 0 5))) - (nI 1)) ) (va_cwS 3 hts gX6_umbrella_X6_isIn rfl rfl rfl (by decide +kernel) ⟨Nat.le_of_ble_eq_true rfl, Nat.le_of_ble_eq_true rfl⟩) rfl rfl (Nat.le_of_ble_eq_true rfl) dX6_umbrella_16 ⟨Nat.le_of_ble_eq_true rfl, Nat.le_of_ble_eq_true rfl⟩ rfl rfl ?_
  intro r2 er2 H locs hP hD hS
  replace hf := hf.trans (ltt_r er2)
  refine lv_if_eq (tgt := 40) hx hb dX6_umbrella_19 (by decide) (fun c3 => ?_) (fun c3 => ?_)
  · replace hf := hf.trans (if_pos c3)
    refine lv_aload_n hx hb dX6_umbrella_40 rfl (lv_at hl 0 rfl) ?_
    refine lv_iconst (v := nI 1) hx hb dX6_umbrella_41 (by decide) ?_
    refine g_calliN (q0 := 0) hnw (wf := (MW cy ax ad ad2)) (σ := u1) (wfc := (MW cy ax ad ad2)) (σc := u1) hx hb hml hown hts hK hP hD hS hA hl.1 [] pm_0 (fun u => u) (fun _ => pm_0b) [.int (nI 1)] (c_X6_no l D cy ax ad ad2 u1 (nI 1) ) (cwV 1 hts gX6_umbrella_X6_no rfl rfl rfl (by decide +kernel) ⟨Nat.le_of_ble_eq_true rfl, Nat.le_of_ble_eq_true rfl⟩) (gx_l (OW_ob cy ax (ad 0) (ad2 0) u1.1)) rfl rfl rfl rfl (Nat.le_of_ble_eq_true rfl) dX6_umbrella_42 ⟨Nat.le_of_ble_eq_true rfl, Nat.le_of_ble_eq_true rfl⟩ rfl rfl ?_
    intro r4 er4 H locs hP hD hS
    replace hf := hf.trans (ltt_r er4)
    exact g_endi hx hb hr hlocks rfl hf hP hD hS (Nat.le_of_ble_eq_true rfl) (Nat.le_of_ble_eq_true rfl) dX6_umbrella_45
  · replace hf := hf.trans (if_neg c3)
    refine lv_iload_n hx hb dX6_umbrella_22 rfl (lv_at hl 2 rfl) ?_
    refine lv_iconst (v := nI 0) hx hb dX6_umbrella_23 (by decide) ?_
    refine lv_iconst (v := nI 5) hx hb dX6_umbrella_24 (by decide) ?_
    refine g_callsr (wf := (MW cy ax ad ad2)) (σ := u1) (wfc := w0) (σc := ()) hx hb hml hown hts hK hP hD hS hA hl.1 ((MW cy ax ad ad2) u1) (List.Perm.refl _) [.int (y), .int (nI 0), .int (nI 5)] (c_X6_isIn l D cy y (nI 0) (nI 5) ) (va_cwS 3 hts gX6_umbrella_X6_isIn rfl rfl rfl (by decide +kernel) ⟨Nat.le_of_ble_eq_true rfl, Nat.le_of_ble_eq_true rfl⟩) rfl rfl (Nat.le_of_ble_eq_true rfl) dX6_umbrella_25 ⟨Nat.le_of_ble_eq_true rfl, Nat.le_of_ble_eq_true rfl⟩ rfl rfl ?_
    intro r5 er5 H locs hP hD hS
    replace hf := hf.trans (ltt_r er5)
    refine lv_if_eq (tgt := 40) hx hb dX6_umbrella_28 (by decide) (fun c6 => ?_) (fun c6 => ?_)
    · replace hf := hf.trans (if_pos c6)
      refine lv_aload_n hx hb dX6_umbrella_40 rfl (lv_at hl 0 rfl) ?_
      refine lv_iconst (v := nI 1) hx hb dX6_umbrella_41 (by decide) ?_
      refine g_calliN (q0 := 0) hnw (wf := (MW cy ax ad ad2)) (σ := u1) (wfc := (MW cy ax ad ad2)) (σc := u1) hx hb hml hown hts hK hP hD hS hA hl.1 [] pm_0 (fun u => u) (fun _ => pm_0b) [.int (nI 1)] (c_X6_no l D cy ax ad ad2 u1 (nI 1) ) (cwV 1 hts gX6_umbrella_X6_no rfl rfl rfl (by decide +kernel) ⟨Nat.le_of_ble_eq_true rfl, Nat.le_of_ble_eq_true rfl⟩) (gx_l (OW_ob cy ax (ad 0) (ad2 0) u1.1)) rfl rfl rfl rfl (Nat.le_of_ble_eq_true rfl) dX6_umbrella_42 ⟨Nat.le_of_ble_eq_true rfl, Nat.le_of_ble_eq_true rfl⟩ rfl rfl ?_
      intro r7 er7 H locs hP hD hS
      replace hf := hf.trans (ltt_r er7)
      exact g_endi hx hb hr hlocks rfl hf hP hD hS (Nat.le_of_ble_eq_true rfl) (Nat.le_of_ble_eq_true rfl) dX6_umbrella_45
    · replace hf := hf.trans (if_neg c6)
      refine lv_aload_n hx hb dX6_umbrella_31 rfl (lv_at hl 0 rfl) ?_
      refine lv_iload_n hx hb dX6_umbrella_32 rfl (lv_at hl 1 rfl) ?_
      have h8 : vp_in x 40 := vp_mono (isIn_n rfl (by omega) (fun h9 => c3 (er2.trans h9))) n5
      have h8b : tn x < 40 := tn_in h8
      refine g_top (tn_eq h8 (by decide)) ?_
      refine lv_iload_n hx hb dX6_umbrella_33 rfl (lv_at hl 2 rfl) ?_
      refine g_callrN (q0 := 0) hnw (wf := (MW cy ax ad ad2)) (σ := u1) (wfc := (MW cy ax ad ad2)) (σc := u1) hx hb hml hown hts hK hP hD hS hA hl.1 [] pm_0 [.int (nI (tn x)), .int (y)] (c_X6_umbrellaTold l D cy ax ad ad2 u1 (tn x) y (by omega) (isIn_0 (fun h9 => c6 (er5.trans h9)) (by decide))) (cwV 2 hts gX6_umbrella_X6_umbrellaTold rfl rfl rfl (by decide +kernel) ⟨Nat.le_of_ble_eq_true rfl, Nat.le_of_ble_eq_true rfl⟩) (gx_l (OW_ob cy ax (ad 0) (ad2 0) u1.1)) rfl rfl rfl rfl (Nat.le_of_ble_eq_true rfl) dX6_umbrella_34 ⟨Nat.le_of_ble_eq_true rfl, Nat.le_of_ble_eq_true rfl⟩ (cells2 := 1) (slots2 := 6) rfl rfl ?_
      intro r9 er9 H locs hP hD hS
      replace hf := hf.trans (ltt_r er9)
      refine lv_goto (tgt := 45) hx hb dX6_umbrella_37 (by decide) ?_
      exact g_endi hx hb hr hlocks rfl hf hP hD hS (Nat.le_of_ble_eq_true rfl) (Nat.le_of_ble_eq_true rfl) dX6_umbrella_45
def s_X6_citizen (σ : Sg × Sg × Sg) (x : Int32) (y : Int32) : Int32 × (Sg × Sg × Sg) := ltt ((up σ.1 0 0 (nI 0), σ.2)) (fun u1 => ltt (s_X6_isCitizen u1 x) (fun r2 => if r2 = 0 then ltt (s_X6_no u1 (nI 1)) (fun r4 => (r4.1, r4.2)) else ltt (s_X6_isIn y (nI 0) (nI 9)) (fun r5 => if r5 = 0 then ltt (s_X6_no u1 (nI 1)) (fun r7 => (r7.1, r7.2)) else ltt (s_X6_citizenTold u1 (tn x) y) (fun r9 => (r9, u1)))))
abbrev rm_X6_citizen : Room := { frames := 2, cells := 1, slots := 10, locals := 43 }
set_option maxHeartbeats 4000000 in
set_option maxRecDepth 100000 in
theorem c_X6_citizen (l : Launch) (D : va_G) (cy : Nat → ClassId) (ax ad ad2 : Nat → Nat) (σ : Sg × Sg × Sg) (x : Int32) (y : Int32) (hI : OkN σ.2.1) : gMiN l yX6_citizen wsX6_citizen rm_X6_citizen D (Ty cy) (MW cy ax ad ad2) [.ref (ax 0), .int (x), .int (y)] σ (s_X6_citizen σ x y) 1 10 := by
  refine gstartiN cX6_citizen 3 RX6 (by decide) rfl rfl (Nat.le_of_ble_eq_true rfl) ?_
  intro p e s m below meth c A ls hx hb hml hown hts hr hlocks hK hP hD hA hS hl hnw
  have hl : lv_has ls 3 [(0, .ref (ax 0)), (1, .int (x)), (2, .int (y))] := hl
  have hf : s_X6_citizen σ x y = s_X6_citizen σ x y := rfl
  have hz : σ.2.1 0 = σ.2.1 0 := rfl
  have hin6 : ∀ w ∈ wsX60, w ∈ wsX6_citizen := by decide +kernel
  have wd0 := hts (.fieldLink RX6 25 "UmbrellaLandModel" "thrown" "I") (by decide +kernel)
  refine lv_aload_n hx hb dX6_citizen_0 rfl (lv_at hl 0 rfl) ?_
  refine lv_iconst (v := nI 0) hx hb dX6_citizen_1 (by decide) ?_
  refine g_put (σ1 := (up σ.1 0 0 (nI 0), σ.2)) (fs := moF ax (ad 0) (ad2 0) (σ.1 0)) (C := RX6) (T := TX6) (N := 4) hx hb hts hin6 tyX6_ok nmX6 hown hK hP hD hS (0) (gx_l (OW_ob cy ax (ad 0) (ad2 0) σ.1)) rfl 0 (by decide) wd0 rfl rfl (Nat.le_of_ble_eq_true rfl) (gx_setl (by rw [WD_len]; omega) (OW_ob_set cy ax (ad 0) (ad2 0) σ.1 0 (by decide) _)) dX6_citizen_2 ?_
  intro u1 eu1 H locs hP hD hS
  replace hf := hf.trans (ltt_r eu1)
  have hz : u1.2.1 0 = σ.2.1 0 := by rw [eu1]; first | done | exact hz
  refine lv_aload_n hx hb dX6_citizen_5 rfl (lv_at hl 0 rfl) ?_
  refine lv_iload_n hx hb dX6_citizen_6 rfl (lv_at hl 1 rfl) ?_
  refine g_callrN (q0 := 0) hnw (wf := (MW cy ax ad ad2)) (σ := u1) (wfc := (MW cy ax ad ad2)) (σc := u1) hx hb hml hown hts hK hP hD hS hA hl.1 [] pm_0 [.int (x)] (c_X6_isCitizen l D cy ax ad ad2 u1 x ) (cwV 1 hts gX6_citizen_X6_isCitizen rfl rfl rfl (by decide +kernel) ⟨Nat.le_of_ble_eq_true rfl, Nat.le_of_ble_eq_true rfl⟩) (gx_l (OW_ob cy ax (ad 0) (ad2 0) u1.1)) rfl rfl rfl rfl (Nat.le_of_ble_eq_true rfl) dX6_citizen_7 ⟨Nat.le_of_ble_eq_true rfl, Nat.le_of_ble_eq_true rfl⟩ rfl rfl ?_
  intro r2 er2 H locs hP hD hS
  replace hf := hf.trans (ltt_r er2)
  refine lv_if_eq (tgt := 32) hx hb dX6_citizen_10 (by decide) (fun c3 => ?_) (fun c3 => ?_)
  · replace hf := hf.trans (if_pos c3)
    refine lv_aload_n hx hb dX6_citizen_32 rfl (lv_at hl 0 rfl) ?_
    refine lv_iconst (v := nI 1) hx hb dX6_citizen_33 (by decide) ?_
    refine g_calliN (q0 := 0) hnw (wf := (MW cy ax ad ad2)) (σ := u1) (wfc := (MW cy ax ad ad2)) (σc := u1) hx hb hml hown hts hK hP hD hS hA hl.1 [] pm_0 (fun u => u) (fun _ => pm_0b) [.int (nI 1)] (c_X6_no l D cy ax ad ad2 u1 (nI 1) ) (cwV 1 hts gX6_citizen_X6_no rfl rfl rfl (by decide +kernel) ⟨Nat.le_of_ble_eq_true rfl, Nat.le_of_ble_eq_true rfl⟩) (gx_l (OW_ob cy ax (ad 0) (ad2 0) u1.1)) rfl rfl rfl rfl (Nat.le_of_ble_eq_true rfl) dX6_citizen_34 ⟨Nat.le_of_ble_eq_true rfl, Nat.le_of_ble_eq_true rfl⟩ rfl rfl ?_
    intro r4 er4 H locs hP hD hS
    replace hf := hf.trans (ltt_r er4)
    exact g_endi hx hb hr hlocks rfl hf hP hD hS (Nat.le_of_ble_eq_true rfl) (Nat.le_of_ble_eq_true rfl) dX6_citizen_37
  · replace hf := hf.trans (if_neg c3)
    refine lv_iload_n hx hb dX6_citizen_13 rfl (lv_at hl 2 rfl) ?_
    refine lv_iconst (v := nI 0) hx hb dX6_citizen_14 (by decide) ?_
    refine lv_bipush (v := nI 9) hx hb dX6_citizen_15 (by decide) ?_
    refine g_callsr (wf := (MW cy ax ad ad2)) (σ := u1) (wfc := w0) (σc := ()) hx hb hml hown hts hK hP hD hS hA hl.1 ((MW cy ax ad ad2) u1) (List.Perm.refl _) [.int (y), .int (nI 0), .int (nI 9)] (c_X6_isIn l D cy y (nI 0) (nI 9) ) (va_cwS 3 hts gX6_citizen_X6_isIn rfl rfl rfl (by decide +kernel) ⟨Nat.le_of_ble_eq_true rfl, Nat.le_of_ble_eq_true rfl⟩) rfl rfl (Nat.le_of_ble_eq_true rfl) dX6_citizen_17 ⟨Nat.le_of_ble_eq_true rfl, Nat.le_of_ble_eq_true rfl⟩ rfl rfl ?_
    intro r5 er5 H locs hP hD hS
    replace hf := hf.trans (ltt_r er5)
    refine lv_if_eq (tgt := 32) hx hb dX6_citizen_20 (by decide) (fun c6 => ?_) (fun c6 => ?_)
    · replace hf := hf.trans (if_pos c6)
      refine lv_aload_n hx hb dX6_citizen_32 rfl (lv_at hl 0 rfl) ?_
      refine lv_iconst (v := nI 1) hx hb dX6_citizen_33 (by decide) ?_
      refine g_calliN (q0 := 0) hnw (wf := (MW cy ax ad ad2)) (σ := u1) (wfc := (MW cy ax ad ad2)) (σc := u1) hx hb hml hown hts hK hP hD hS hA hl.1 [] pm_0 (fun u => u) (fun _ => pm_0b) [.int (nI 1)] (c_X6_no l D cy ax ad ad2 u1 (nI 1) ) (cwV 1 hts gX6_citizen_X6_no rfl rfl rfl (by decide +kernel) ⟨Nat.le_of_ble_eq_true rfl, Nat.le_of_ble_eq_true rfl⟩) (gx_l (OW_ob cy ax (ad 0) (ad2 0) u1.1)) rfl rfl rfl rfl (Nat.le_of_ble_eq_true rfl) dX6_citizen_34 ⟨Nat.le_of_ble_eq_true rfl, Nat.le_of_ble_eq_true rfl⟩ rfl rfl ?_
      intro r7 er7 H locs hP hD hS
      replace hf := hf.trans (ltt_r er7)
      exact g_endi hx hb hr hlocks rfl hf hP hD hS (Nat.le_of_ble_eq_true rfl) (Nat.le_of_ble_eq_true rfl) dX6_citizen_37
    · replace hf := hf.trans (if_neg c6)
      refine lv_aload_n hx hb dX6_citizen_23 rfl (lv_at hl 0 rfl) ?_
      refine lv_iload_n hx hb dX6_citizen_24 rfl (lv_at hl 1 rfl) ?_
      have h8 : vp_in x 10 := in6_ci (hI.mv hz) (fun h9 => c3 (er2.trans h9))
      have h8b : tn x < 10 := tn_in h8
      refine g_top (tn_eq h8 (by decide)) ?_
      refine lv_iload_n hx hb dX6_citizen_25 rfl (lv_at hl 2 rfl) ?_
      refine g_callrN (q0 := 0) hnw (wf := (MW cy ax ad ad2)) (σ := u1) (wfc := (MW cy ax ad ad2)) (σc := u1) hx hb hml hown hts hK hP hD hS hA hl.1 [] pm_0 [.int (nI (tn x)), .int (y)] (c_X6_citizenTold l D cy ax ad ad2 u1 (tn x) y (by omega) (isIn_0 (fun h9 => c6 (er5.trans h9)) (by decide))) (cwV 2 hts gX6_citizen_X6_citizenTold rfl rfl rfl (by decide +kernel) ⟨Nat.le_of_ble_eq_true rfl, Nat.le_of_ble_eq_true rfl⟩) (gx_l (OW_ob cy ax (ad 0) (ad2 0) u1.1)) rfl rfl rfl rfl (Nat.le_of_ble_eq_true rfl) dX6_citizen_26 ⟨Nat.le_of_ble_eq_true rfl, Nat.le_of_ble_eq_true rfl⟩ (cells2 := 1) (slots2 := 10) rfl rfl ?_
      intro r9 er9 H locs hP hD hS
      replace hf := hf.trans (ltt_r er9)
      refine lv_goto (tgt := 37) hx hb dX6_citizen_29 (by decide) ?_
      exact g_endi hx hb hr hlocks rfl hf hP hD hS (Nat.le_of_ble_eq_true rfl) (Nat.le_of_ble_eq_true rfl) dX6_citizen_37
def s_X6_count (σ : Sg × Sg × Sg) (x : Int32) : Int32 × (Sg × Sg × Sg) := ltt ((up σ.1 0 0 (nI 0), σ.2)) (fun u1 => ltt (s_X6_isIn x (nI 0) (nI 10)) (fun r2 => if r2 = 0 then ltt (s_X6_no u1 (nI 1)) (fun r4 => (r4.1, r4.2)) else ltt (s_X6_counted u1 x) (fun r5 => (r5, u1))))
abbrev rm_X6_count : Room := { frames := 2, cells := 1, slots := 11, locals := 45 }
set_option maxHeartbeats 4000000 in
set_option maxRecDepth 100000 in
theorem c_X6_count (l : Launch) (D : va_G) (cy : Nat → ClassId) (ax ad ad2 : Nat → Nat) (σ : Sg × Sg × Sg) (x : Int32) (hI : OkN σ.2.1) : gMiN l yX6_count wsX6_count rm_X6_count D (Ty cy) (MW cy ax ad ad2) [.ref (ax 0), .int (x)] σ (s_X6_count σ x) 1 11 := by
  refine gstartiN cX6_count 2 RX6 (by decide) rfl rfl (Nat.le_of_ble_eq_true rfl) ?_
  intro p e s m below meth c A ls hx hb hml hown hts hr hlocks hK hP hD hA hS hl hnw
  have hl : lv_has ls 2 [(0, .ref (ax 0)), (1, .int (x))] := hl
  have hf : s_X6_count σ x = s_X6_count σ x := rfl
  have hz : σ.2.1 0 = σ.2.1 0 := rfl
  have hin6 : ∀ w ∈ wsX60, w ∈ wsX6_count := by decide +kernel
  have wd0 := hts (.fieldLink RX6 25 "UmbrellaLandModel" "thrown" "I") (by decide +kernel)
  refine lv_aload_n hx hb dX6_count_0 rfl (lv_at hl 0 rfl) ?_
  refine lv_iconst (v := nI 0) hx hb dX6_count_1 (by decide) ?_
  refine g_put (σ1 := (up σ.1 0 0 (nI 0), σ.2)) (fs := moF ax (ad 0) (ad2 0) (σ.1 0)) (C := RX6) (T := TX6) (N := 4) hx hb hts hin6 tyX6_ok nmX6 hown hK hP hD hS (0) (gx_l (OW_ob cy ax (ad 0) (ad2 0) σ.1)) rfl 0 (by decide) wd0 rfl rfl (Nat.le_of_ble_eq_true rfl) (gx_setl (by rw [WD_len]; omega) (OW_ob_set cy ax (ad 0) (ad2 0) σ.1 0 (by decide) _)) dX6_count_2 ?_
  intro u1 eu1 H locs hP hD hS
  replace hf := hf.trans (ltt_r eu1)
  have hz : u1.2.1 0 = σ.2.1 0 := by rw [eu1]; first | done | exact hz
  refine lv_iload_n hx hb dX6_count_5 rfl (lv_at hl 1 rfl) ?_
  refine lv_iconst (v := nI 0) hx hb dX6_count_6 (by decide) ?_
  refine lv_bipush (v := nI 10) hx hb dX6_count_7 (by decide) ?_
  refine g_callsr (wf := (MW cy ax ad ad2)) (σ := u1) (wfc := w0) (σc := ()) hx hb hml hown hts hK hP hD hS hA hl.1 ((MW cy ax ad ad2) u1) (List.Perm.refl _) [.int (x), .int (nI 0), .int (nI 10)] (c_X6_isIn l D cy x (nI 0) (nI 10) ) (va_cwS 3 hts gX6_count_X6_isIn rfl rfl rfl (by decide +kernel) ⟨Nat.le_of_ble_eq_true rfl, Nat.le_of_ble_eq_true rfl⟩) rfl rfl (Nat.le_of_ble_eq_true rfl) dX6_count_9 ⟨Nat.le_of_ble_eq_true rfl, Nat.le_of_ble_eq_true rfl⟩ rfl rfl ?_
  intro r2 er2 H locs hP hD hS
  replace hf := hf.trans (ltt_r er2)
  refine lv_if_eq (tgt := 23) hx hb dX6_count_12 (by decide) (fun c3 => ?_) (fun c3 => ?_)
  · replace hf := hf.trans (if_pos c3)
    refine lv_aload_n hx hb dX6_count_23 rfl (lv_at hl 0 rfl) ?_
    refine lv_iconst (v := nI 1) hx hb dX6_count_24 (by decide) ?_
    refine g_calliN (q0 := 0) hnw (wf := (MW cy ax ad ad2)) (σ := u1) (wfc := (MW cy ax ad ad2)) (σc := u1) hx hb hml hown hts hK hP hD hS hA hl.1 [] pm_0 (fun u => u) (fun _ => pm_0b) [.int (nI 1)] (c_X6_no l D cy ax ad ad2 u1 (nI 1) ) (cwV 1 hts gX6_count_X6_no rfl rfl rfl (by decide +kernel) ⟨Nat.le_of_ble_eq_true rfl, Nat.le_of_ble_eq_true rfl⟩) (gx_l (OW_ob cy ax (ad 0) (ad2 0) u1.1)) rfl rfl rfl rfl (Nat.le_of_ble_eq_true rfl) dX6_count_25 ⟨Nat.le_of_ble_eq_true rfl, Nat.le_of_ble_eq_true rfl⟩ rfl rfl ?_
    intro r4 er4 H locs hP hD hS
    replace hf := hf.trans (ltt_r er4)
    exact g_endi hx hb hr hlocks rfl hf hP hD hS (Nat.le_of_ble_eq_true rfl) (Nat.le_of_ble_eq_true rfl) dX6_count_28
  · replace hf := hf.trans (if_neg c3)
    refine lv_aload_n hx hb dX6_count_15 rfl (lv_at hl 0 rfl) ?_
    refine lv_iload_n hx hb dX6_count_16 rfl (lv_at hl 1 rfl) ?_
    refine g_callrN (q0 := 0) hnw (wf := (MW cy ax ad ad2)) (σ := u1) (wfc := (MW cy ax ad ad2)) (σc := u1) hx hb hml hown hts hK hP hD hS hA hl.1 [] pm_0 [.int (x)] (c_X6_counted l D cy ax ad ad2 u1 x (isIn_0 (fun h9 => c3 (er2.trans h9)) (by decide)) (hI.mv hz)) (cwV 1 hts gX6_count_X6_counted rfl rfl rfl (by decide +kernel) ⟨Nat.le_of_ble_eq_true rfl, Nat.le_of_ble_eq_true rfl⟩) (gx_l (OW_ob cy ax (ad 0) (ad2 0) u1.1)) rfl rfl rfl rfl (Nat.le_of_ble_eq_true rfl) dX6_count_17 ⟨Nat.le_of_ble_eq_true rfl, Nat.le_of_ble_eq_true rfl⟩ (cells2 := 1) (slots2 := 11) rfl rfl ?_
    intro r5 er5 H locs hP hD hS
    replace hf := hf.trans (ltt_r er5)
    refine lv_goto (tgt := 28) hx hb dX6_count_20 (by decide) ?_
    exact g_endi hx hb hr hlocks rfl hf hP hD hS (Nat.le_of_ble_eq_true rfl) (Nat.le_of_ble_eq_true rfl) dX6_count_28
def s_X6_pass_ (σ : Sg × Sg × Sg) (x : Int32) : Int32 × (Sg × Sg × Sg) := ltt ((up σ.1 0 0 (nI 0), σ.2)) (fun u1 => ltt (s_X6_isIn x (nI 1) (nI 100)) (fun r2 => if r2 = 0 then ltt (s_X6_no u1 (nI 1)) (fun r4 => (r4.1, r4.2)) else ltt (s_X6_pass (u1.2.1, u1.1) (tn x)) (fun r6 => (r6.1, (r6.2.2, (r6.2.1, u1.2.2))))))
abbrev rm_X6_pass_ : Room := { frames := 5, cells := 0, slots := 0, locals := 117 }
set_option maxHeartbeats 4000000 in
set_option maxRecDepth 100000 in
theorem c_X6_pass_ (l : Launch) (D : va_G) (cy : Nat → ClassId) (ax ad ad2 : Nat → Nat) (σ : Sg × Sg × Sg) (x : Int32) (IV : Nat → Sg × Sg → Prop) (hQ : QInv IV) (h0 : Nat) (hh0 : h0 + 101 < 100000) (hi : IV h0 (σ.2.1, σ.1)) : gMiN l yX6_pass_ wsX6_pass_ rm_X6_pass_ D (Ty cy) (MW cy ax ad ad2) [.ref (ax 0), .int (x)] σ (s_X6_pass_ σ x) 0 0 := by
  refine gstartiN cX6_pass_ 2 RX6 (by decide) rfl rfl (Nat.le_of_ble_eq_true rfl) ?_
  intro p e s m below meth c A ls hx hb hml hown hts hr hlocks hK hP hD hA hS hl hnw
  have hl : lv_has ls 2 [(0, .ref (ax 0)), (1, .int (x))] := hl
  have hf : s_X6_pass_ σ x = s_X6_pass_ σ x := rfl
  have hz : σ.2.1 0 = σ.2.1 0 := rfl
  have hin6 : ∀ w ∈ wsX60, w ∈ wsX6_pass_ := by decide +kernel
  have wd0 := hts (.fieldLink RX6 25 "UmbrellaLandModel" "thrown" "I") (by decide +kernel)
  have wd1 := hts (.fieldLink RX6 18 "UmbrellaLandModel" "s" "LUmbrellaLandModel$State;") (by decide +kernel)
  have hI : OkN σ.2.1 := (hQ.1 _).1 (σ.2.1, σ.1) hi
  refine lv_aload_n hx hb dX6_pass__0 rfl (lv_at hl 0 rfl) ?_
  refine lv_iconst (v := nI 0) hx hb dX6_pass__1 (by decide) ?_
  refine g_put (σ1 := (up σ.1 0 0 (nI 0), σ.2)) (fs := moF ax (ad 0) (ad2 0) (σ.1 0)) (C := RX6) (T := TX6) (N := 4) hx hb hts hin6 tyX6_ok nmX6 hown hK hP hD hS (0) (gx_l (OW_ob cy ax (ad 0) (ad2 0) σ.1)) rfl 0 (by decide) wd0 rfl rfl (Nat.le_of_ble_eq_true rfl) (gx_setl (by rw [WD_len]; omega) (OW_ob_set cy ax (ad 0) (ad2 0) σ.1 0 (by decide) _)) dX6_pass__2 ?_
  intro u1 eu1 H locs hP hD hS
  replace hf := hf.trans (ltt_r eu1)
  have hz : u1.2.1 0 = σ.2.1 0 := by rw [eu1]; first | done | exact hz
  refine lv_iload_n hx hb dX6_pass__5 rfl (lv_at hl 1 rfl) ?_
  refine lv_iconst (v := nI 1) hx hb dX6_pass__6 (by decide) ?_
  refine lv_bipush (v := nI 100) hx hb dX6_pass__7 (by decide) ?_
  refine g_callsr (wf := (MW cy ax ad ad2)) (σ := u1) (wfc := w0) (σc := ()) hx hb hml hown hts hK hP hD hS hA hl.1 ((MW cy ax ad ad2) u1) (List.Perm.refl _) [.int (x), .int (nI 1), .int (nI 100)] (c_X6_isIn l D cy x (nI 1) (nI 100) ) (va_cwS 3 hts gX6_pass__X6_isIn rfl rfl rfl (by decide +kernel) ⟨Nat.le_of_ble_eq_true rfl, Nat.le_of_ble_eq_true rfl⟩) rfl rfl (Nat.le_of_ble_eq_true rfl) dX6_pass__9 ⟨Nat.le_of_ble_eq_true rfl, Nat.le_of_ble_eq_true rfl⟩ rfl rfl ?_
  intro r2 er2 H locs hP hD hS
  replace hf := hf.trans (ltt_r er2)
  refine lv_if_eq (tgt := 26) hx hb dX6_pass__12 (by decide) (fun c3 => ?_) (fun c3 => ?_)
  · replace hf := hf.trans (if_pos c3)
    refine lv_aload_n hx hb dX6_pass__26 rfl (lv_at hl 0 rfl) ?_
    refine lv_iconst (v := nI 1) hx hb dX6_pass__27 (by decide) ?_
    refine g_calliN (q0 := 0) hnw (wf := (MW cy ax ad ad2)) (σ := u1) (wfc := (MW cy ax ad ad2)) (σc := u1) hx hb hml hown hts hK hP hD hS hA hl.1 [] pm_0 (fun u => u) (fun _ => pm_0b) [.int (nI 1)] (c_X6_no l D cy ax ad ad2 u1 (nI 1) ) (cwV 1 hts gX6_pass__X6_no rfl rfl rfl (by decide +kernel) ⟨Nat.le_of_ble_eq_true rfl, Nat.le_of_ble_eq_true rfl⟩) (gx_l (OW_ob cy ax (ad 0) (ad2 0) u1.1)) rfl rfl rfl rfl (Nat.le_of_ble_eq_true rfl) dX6_pass__28 ⟨Nat.le_of_ble_eq_true rfl, Nat.le_of_ble_eq_true rfl⟩ rfl rfl ?_
    intro r4 er4 H locs hP hD hS
    replace hf := hf.trans (ltt_r er4)
    exact g_endi hx hb hr hlocks rfl hf hP hD hS (Nat.le_of_ble_eq_true rfl) (Nat.le_of_ble_eq_true rfl) dX6_pass__31
  · replace hf := hf.trans (if_neg c3)
    refine lv_aload_n hx hb dX6_pass__15 rfl (lv_at hl 0 rfl) ?_
    refine va_get (D := D) (ci := 6) (v := .ref (ad 0)) (C := RX6) (T := TX6) (N := 4) hx hb hts hin6 hown hK hP (0) (gx_l (OW_ob cy ax (ad 0) (ad2 0) u1.1)) rfl 2 (by decide) wd1 (fun _ h9 => h9) rfl dX6_pass__16 ?_
    refine lv_iload_n hx hb dX6_pass__19 rfl (lv_at hl 1 rfl) ?_
    have h5 : vp_in x 101 := isIn_1 (fun h9 => c3 (er2.trans h9)) (by decide)
    have h5b : tn x < 101 := tn_in h5
    refine g_top (tn_eq h5 (by decide)) ?_
    refine g_callsN hnw (wf := (MW cy ax ad ad2)) (σ := u1) (wfc := (PW cy ax (ad 0) (ad2 0) ad)) (σc := (u1.2.1, u1.1)) hx hb hml hown hts hK hP hD hS hA hl.1 (SW cy (ax 0) ad2 (u1.2.2)) pm_pn (fun u => (u.2, (u.1, u1.2.2))) (fun _ => pm_pn.symm) [.ref (ad 0), .int (nI (tn x))] (c_X6_pass l D cy ax (ad 0) (ad2 0) ad (u1.2.1, u1.1) (tn x) IV hQ h0 (by omega) (by rw [eu1]; exact hQ.2.2.2.2.2 _ _ _ _ hi)) (va_cwS 2 hts gX6_pass__X6_pass rfl rfl rfl (by decide +kernel) ⟨Nat.le_of_ble_eq_true rfl, Nat.le_of_ble_eq_true rfl⟩) rfl rfl (Nat.le_of_ble_eq_true rfl) dX6_pass__20 ⟨Nat.le_of_ble_eq_true rfl, Nat.le_of_ble_eq_true rfl⟩ rfl rfl ?_
    intro r6 er6 H locs hP hD hS
    replace hf := hf.trans (ltt_r er6)
    refine lv_goto (tgt := 31) hx hb dX6_pass__23 (by decide) ?_
    exact g_endi hx hb hr hlocks rfl hf hP hD hS (Nat.le_of_ble_eq_true rfl) (Nat.le_of_ble_eq_true rfl) dX6_pass__31
def s_X6_foresee (σ : Sg × Sg × Sg) (x : Int32) (y : Int32) : Int32 × (Sg × Sg × Sg) := ltt ((up σ.1 0 0 (nI 0), σ.2)) (fun u1 => ltt (s_X6_isIn x (nI 1) (nI 100)) (fun r2 => if r2 = 0 then ltt (s_X6_no u1 (nI 1)) (fun r19 => (r19.1, r19.2)) else ltt (s_X6_isIn y (nI 0) (nI 4)) (fun r4 => if r4 = 0 then ltt (s_X6_no u1 (nI 2)) (fun r18 => (r18.1, r18.2)) else ltt (s_X5_become u1.2) (fun u6 => ltt (s_X6_pass (u6.2, u1.1) (tn x)) (fun r8 => if y = 0 then ltt (s_X5_over r8.2.1 (nI 0)) (fun r17 => (r17, (r8.2.2, (u6.1, r8.2.1)))) else if y = (nI 1) then ltt (s_X5_of r8.2.1 (nI 0)) (fun r16 => (r16, (r8.2.2, (u6.1, r8.2.1)))) else if y = (nI 2) then ltt (s_X5_of r8.2.1 (nI 2)) (fun r15 => (r15, (r8.2.2, (u6.1, r8.2.1)))) else if y = (nI 3) then ltt (s_X5_of r8.2.1 (nI 3)) (fun r14 => (r14, (r8.2.2, (u6.1, r8.2.1)))) else ltt (s_X5_over r8.2.1 (nI 1)) (fun r13 => (r13, (r8.2.2, (u6.1, r8.2.1)))))))))
abbrev rm_X6_foresee : Room := { frames := 5, cells := 0, slots := 0, locals := 117 }
set_option maxHeartbeats 4000000 in
set_option maxRecDepth 100000 in
theorem c_X6_foresee (l : Launch) (D : va_G) (cy : Nat → ClassId) (ax ad ad2 : Nat → Nat) (σ : Sg × Sg × Sg) (x : Int32) (y : Int32) (IV : Nat → Sg × Sg → Prop) (hQ : QInv IV) (h0 : Nat) (hh0 : h0 + 101 < 100000) (hi : IV h0 (σ.2.1, σ.1)) : gMiN l yX6_foresee wsX6_foresee rm_X6_foresee D (Ty cy) (MW cy ax ad ad2) [.ref (ax 0), .int (x), .int (y)] σ (s_X6_foresee σ x y) 0 0 := by
  refine gstartiN cX6_foresee 3 RX6 (by decide) rfl rfl (Nat.le_of_ble_eq_true rfl) ?_
  intro p e s m below meth c A ls hx hb hml hown hts hr hlocks hK hP hD hA hS hl hnw
  have hl : lv_has ls 3 [(0, .ref (ax 0)), (1, .int (x)), (2, .int (y))] := hl
  have hf : s_X6_foresee σ x y = s_X6_foresee σ x y := rfl
  have hz : σ.2.1 0 = σ.2.1 0 := rfl
  have hin6 : ∀ w ∈ wsX60, w ∈ wsX6_foresee := by decide +kernel
  have wd0 := hts (.fieldLink RX6 25 "UmbrellaLandModel" "thrown" "I") (by decide +kernel)
  have wd1 := hts (.fieldLink RX6 22 "UmbrellaLandModel" "ahead" "LUmbrellaLandModel$State;") (by decide +kernel)
  have wd2 := hts (.fieldLink RX6 18 "UmbrellaLandModel" "s" "LUmbrellaLandModel$State;") (by decide +kernel)
  have hI : OkN σ.2.1 := (hQ.1 _).1 (σ.2.1, σ.1) hi
  refine lv_aload_n hx hb dX6_foresee_0 rfl (lv_at hl 0 rfl) ?_
  refine lv_iconst (v := nI 0) hx hb dX6_foresee_1 (by decide) ?_
  refine g_put (σ1 := (up σ.1 0 0 (nI 0), σ.2)) (fs := moF ax (ad 0) (ad2 0) (σ.1 0)) (C := RX6) (T := TX6) (N := 4) hx hb hts hin6 tyX6_ok nmX6 hown hK hP hD hS (0) (gx_l (OW_ob cy ax (ad 0) (ad2 0) σ.1)) rfl 0 (by decide) wd0 rfl rfl (Nat.le_of_ble_eq_true rfl) (gx_setl (by rw [WD_len]; omega) (OW_ob_set cy ax (ad 0) (ad2 0) σ.1 0 (by decide) _)) dX6_foresee_2 ?_
  intro u1 eu1 H locs hP hD hS
  replace hf := hf.trans (ltt_r eu1)
  have hz : u1.2.1 0 = σ.2.1 0 := by rw [eu1]; first | done | exact hz
  refine lv_iload_n hx hb dX6_foresee_5 rfl (lv_at hl 1 rfl) ?_
  refine lv_iconst (v := nI 1) hx hb dX6_foresee_6 (by decide) ?_
  refine lv_bipush (v := nI 100) hx hb dX6_foresee_7 (by decide) ?_
  refine g_callsr (wf := (MW cy ax ad ad2)) (σ := u1) (wfc := w0) (σc := ()) hx hb hml hown hts hK hP hD hS hA hl.1 ((MW cy ax ad ad2) u1) (List.Perm.refl _) [.int (x), .int (nI 1), .int (nI 100)] (c_X6_isIn l D cy x (nI 1) (nI 100) ) (va_cwS 3 hts gX6_foresee_X6_isIn rfl rfl rfl (by decide +kernel) ⟨Nat.le_of_ble_eq_true rfl, Nat.le_of_ble_eq_true rfl⟩) rfl rfl (Nat.le_of_ble_eq_true rfl) dX6_foresee_9 ⟨Nat.le_of_ble_eq_true rfl, Nat.le_of_ble_eq_true rfl⟩ rfl rfl ?_
  intro r2 er2 H locs hP hD hS
  replace hf := hf.trans (ltt_r er2)
  refine lv_if_ne (tgt := 21) hx hb dX6_foresee_12 (by decide) (fun c3 => ?_) (fun c3 => ?_)
  · replace hf := hf.trans (if_neg c3)
    refine lv_iload_n hx hb dX6_foresee_21 rfl (lv_at hl 2 rfl) ?_
    refine lv_iconst (v := nI 0) hx hb dX6_foresee_22 (by decide) ?_
    refine lv_iconst (v := nI 4) hx hb dX6_foresee_23 (by decide) ?_
    refine g_callsr (wf := (MW cy ax ad ad2)) (σ := u1) (wfc := w0) (σc := ()) hx hb hml hown hts hK hP hD hS hA hl.1 ((MW cy ax ad ad2) u1) (List.Perm.refl _) [.int (y), .int (nI 0), .int (nI 4)] (c_X6_isIn l D cy y (nI 0) (nI 4) ) (va_cwS 3 hts gX6_foresee_X6_isIn rfl rfl rfl (by decide +kernel) ⟨Nat.le_of_ble_eq_true rfl, Nat.le_of_ble_eq_true rfl⟩) rfl rfl (Nat.le_of_ble_eq_true rfl) dX6_foresee_24 ⟨Nat.le_of_ble_eq_true rfl, Nat.le_of_ble_eq_true rfl⟩ rfl rfl ?_
    intro r4 er4 H locs hP hD hS
    replace hf := hf.trans (ltt_r er4)
    refine lv_if_ne (tgt := 36) hx hb dX6_foresee_27 (by decide) (fun c5 => ?_) (fun c5 => ?_)
    · replace hf := hf.trans (if_neg c5)
      refine lv_aload_n hx hb dX6_foresee_36 rfl (lv_at hl 0 rfl) ?_
      refine va_get (D := D) (ci := 6) (v := .ref (ad2 0)) (C := RX6) (T := TX6) (N := 4) hx hb hts hin6 hown hK hP (0) (gx_l (OW_ob cy ax (ad 0) (ad2 0) u1.1)) rfl 3 (by decide) wd1 (fun _ h9 => h9) rfl dX6_foresee_37 ?_
      refine lv_aload_n hx hb dX6_foresee_40 rfl (lv_at hl 0 rfl) ?_
      refine va_get (D := D) (ci := 6) (v := .ref (ad 0)) (C := RX6) (T := TX6) (N := 4) hx hb hts hin6 hown hK hP (0) (gx_l (OW_ob cy ax (ad 0) (ad2 0) u1.1)) rfl 2 (by decide) wd2 (fun _ h9 => h9) rfl dX6_foresee_41 ?_
      refine g_callv (q0 := 2 + (17 + (0))) (wf := (MW cy ax ad ad2)) (σ := u1) (wfc := (BW cy (ax 0) ad ad2)) (σc := u1.2) hx hb hml hown hts hK hP hD hS hA hl.1 (OW cy ax (ad 0) (ad2 0) (u1.1)) pm_x (fun u => (u1.1, u)) (fun _ => pm_x.symm) [.ref (ad 0)] (c_X5_become l D cy (ax 0) ad ad2 u1.2 ) (cwV 1 hts gX6_foresee_X5_become rfl rfl rfl (by decide +kernel) ⟨Nat.le_of_ble_eq_true rfl, Nat.le_of_ble_eq_true rfl⟩) (gx_r (WD_len _ _ _ _) (gx_r (WD_len _ _ _ _) (SW_ob cy (ax 0) ad2 u1.2.2))) rfl rfl rfl rfl (Nat.le_of_ble_eq_true rfl) dX6_foresee_44 ⟨Nat.le_of_ble_eq_true rfl, Nat.le_of_ble_eq_true rfl⟩ rfl rfl ?_
      intro u6 eu6 H locs hP hD hS
      replace hf := hf.trans (ltt_r eu6)
      have hz : u6.1 0 = σ.2.1 0 := by rw [eu6]; exact (z_X5_become u1.2 ).trans hz
      have hk0 : IV h0 (u1.2.1, u1.1) := by rw [eu1]; exact hQ.2.2.2.2.2 _ _ _ _ hi
      have hka : IV h0 (u6.2, u1.1) := by rw [eu6]; exact hQ.2.2.2.1 _ _ _ _ hk0
      refine lv_aload_n hx hb dX6_foresee_47 rfl (lv_at hl 0 rfl) ?_
      refine va_get (D := D) (ci := 6) (v := .ref (ad2 0)) (C := RX6) (T := TX6) (N := 4) hx hb hts hin6 hown hK hP (0) (gx_l (OW_ob cy ax (ad 0) (ad2 0) u1.1)) rfl 3 (by decide) wd1 (fun _ h9 => h9) rfl dX6_foresee_48 ?_
      refine lv_iload_n hx hb dX6_foresee_51 rfl (lv_at hl 1 rfl) ?_
      have h7 : vp_in x 101 := isIn_1 (fun h9 => c3 (er2.trans h9)) (by decide)
      have h7b : tn x < 101 := tn_in h7
      refine g_top (tn_eq h7 (by decide)) ?_
      refine g_callsN hnw (wf := (MW cy ax ad ad2)) (σ := (u1.1, u6)) (wfc := (PW cy ax (ad 0) (ad2 0) ad2)) (σc := (u6.2, u1.1)) hx hb hml hown hts hK hP hD hS hA hl.1 (SW cy (ax 0) ad (u6.1)) pm_pa (fun u => (u.2, (u6.1, u.1))) (fun _ => pm_pa.symm) [.ref (ad2 0), .int (nI (tn x))] (c_X6_pass l D cy ax (ad 0) (ad2 0) ad2 (u6.2, u1.1) (tn x) IV hQ h0 (by omega) hka) (va_cwS 2 hts gX6_foresee_X6_pass rfl rfl rfl (by decide +kernel) ⟨Nat.le_of_ble_eq_true rfl, Nat.le_of_ble_eq_true rfl⟩) rfl rfl (Nat.le_of_ble_eq_true rfl) dX6_foresee_52 ⟨Nat.le_of_ble_eq_true rfl, Nat.le_of_ble_eq_true rfl⟩ rfl rfl ?_
      intro r8 er8 H locs hP hD hS
      replace hf := hf.trans (ltt_r er8)
      have hkb : IV (h0 + tn x) r8.2 := by rw [er8]; exact iv_X6_pass hQ (by omega) hka
      have hkc : OkN r8.2.1 := (hQ.1 _).1 _ hkb
      refine lv_pop hx hb dX6_foresee_55 rfl ?_
      refine lv_iload_n hx hb dX6_foresee_56 rfl (lv_at hl 2 rfl) ?_
      refine lv_if_ne (tgt := 71) hx hb dX6_foresee_57 (by decide) (fun c9 => ?_) (fun c9 => ?_)
      · replace hf := hf.trans (if_neg c9)
        refine lv_iload_n hx hb dX6_foresee_71 rfl (lv_at hl 2 rfl) ?_
        refine lv_iconst (v := nI 1) hx hb dX6_foresee_72 (by decide) ?_
        refine lv_icmp_ne (tgt := 87) hx hb dX6_foresee_73 (by decide) (fun c10 => ?_) (fun c10 => ?_)
        · replace hf := hf.trans (if_neg c10)
          refine lv_iload_n hx hb dX6_foresee_87 rfl (lv_at hl 2 rfl) ?_
          refine lv_iconst (v := nI 2) hx hb dX6_foresee_88 (by decide) ?_
          refine lv_icmp_ne (tgt := 103) hx hb dX6_foresee_89 (by decide) (fun c11 => ?_) (fun c11 => ?_)
          · replace hf := hf.trans (if_neg c11)
            refine lv_iload_n hx hb dX6_foresee_103 rfl (lv_at hl 2 rfl) ?_
            refine lv_iconst (v := nI 3) hx hb dX6_foresee_104 (by decide) ?_
            refine lv_icmp_ne (tgt := 119) hx hb dX6_foresee_105 (by decide) (fun c12 => ?_) (fun c12 => ?_)
            · replace hf := hf.trans (if_neg c12)
              refine lv_aload_n hx hb dX6_foresee_119 rfl (lv_at hl 0 rfl) ?_
              refine va_get (D := D) (ci := 6) (v := .ref (ad2 0)) (C := RX6) (T := TX6) (N := 4) hx hb hts hin6 hown hK hP (0) (gx_l (OW_ob cy ax (ad 0) (ad2 0) r8.2.2)) rfl 3 (by decide) wd1 (fun _ h9 => h9) rfl dX6_foresee_120 ?_
              refine lv_iconst (v := nI 1) hx hb dX6_foresee_123 (by decide) ?_
              refine g_callr (q0 := 2 + (17 + (0))) (wf := (MW cy ax ad ad2)) (σ := (r8.2.2, (u6.1, r8.2.1))) (wfc := (SW cy (ax 0) ad2)) (σc := r8.2.1) hx hb hml hown hts hK hP hD hS hA hl.1 (OW cy ax (ad 0) (ad2 0) (r8.2.2) ++ SW cy (ax 0) ad (u6.1)) pm_a [.int (nI 1)] (c_X5_over l D cy (ax 0) ad2 r8.2.1 (nI 1) hkc) (cwV 1 hts gX6_foresee_X5_over rfl rfl rfl (by decide +kernel) ⟨Nat.le_of_ble_eq_true rfl, Nat.le_of_ble_eq_true rfl⟩) (gx_r (WD_len _ _ _ _) (gx_r (WD_len _ _ _ _) (SW_ob cy (ax 0) ad2 r8.2.1))) rfl rfl rfl rfl (Nat.le_of_ble_eq_true rfl) dX6_foresee_124 ⟨Nat.le_of_ble_eq_true rfl, Nat.le_of_ble_eq_true rfl⟩ rfl rfl ?_
              intro r13 er13 H locs hP hD hS
              replace hf := hf.trans (ltt_r er13)
              exact g_endi hx hb hr hlocks rfl hf hP hD hS (Nat.le_of_ble_eq_true rfl) (Nat.le_of_ble_eq_true rfl) dX6_foresee_127
            · replace hf := hf.trans (if_pos c12)
              refine lv_aload_n hx hb dX6_foresee_108 rfl (lv_at hl 0 rfl) ?_
              refine va_get (D := D) (ci := 6) (v := .ref (ad2 0)) (C := RX6) (T := TX6) (N := 4) hx hb hts hin6 hown hK hP (0) (gx_l (OW_ob cy ax (ad 0) (ad2 0) r8.2.2)) rfl 3 (by decide) wd1 (fun _ h9 => h9) rfl dX6_foresee_109 ?_
              refine lv_iconst (v := nI 3) hx hb dX6_foresee_112 (by decide) ?_
              refine g_callr (q0 := 2 + (17 + (0))) (wf := (MW cy ax ad ad2)) (σ := (r8.2.2, (u6.1, r8.2.1))) (wfc := (SW cy (ax 0) ad2)) (σc := r8.2.1) hx hb hml hown hts hK hP hD hS hA hl.1 (OW cy ax (ad 0) (ad2 0) (r8.2.2) ++ SW cy (ax 0) ad (u6.1)) pm_a [.int (nI 3)] (c_X5_of l D cy (ax 0) ad2 r8.2.1 (nI 3) hkc) (cwV 1 hts gX6_foresee_X5_of rfl rfl rfl (by decide +kernel) ⟨Nat.le_of_ble_eq_true rfl, Nat.le_of_ble_eq_true rfl⟩) (gx_r (WD_len _ _ _ _) (gx_r (WD_len _ _ _ _) (SW_ob cy (ax 0) ad2 r8.2.1))) rfl rfl rfl rfl (Nat.le_of_ble_eq_true rfl) dX6_foresee_113 ⟨Nat.le_of_ble_eq_true rfl, Nat.le_of_ble_eq_true rfl⟩ rfl rfl ?_
              intro r14 er14 H locs hP hD hS
              replace hf := hf.trans (ltt_r er14)
              refine lv_goto (tgt := 127) hx hb dX6_foresee_116 (by decide) ?_
              exact g_endi hx hb hr hlocks rfl hf hP hD hS (Nat.le_of_ble_eq_true rfl) (Nat.le_of_ble_eq_true rfl) dX6_foresee_127
          · replace hf := hf.trans (if_pos c11)
            refine lv_aload_n hx hb dX6_foresee_92 rfl (lv_at hl 0 rfl) ?_
            refine va_get (D := D) (ci := 6) (v := .ref (ad2 0)) (C := RX6) (T := TX6) (N := 4) hx hb hts hin6 hown hK hP (0) (gx_l (OW_ob cy ax (ad 0) (ad2 0) r8.2.2)) rfl 3 (by decide) wd1 (fun _ h9 => h9) rfl dX6_foresee_93 ?_
            refine lv_iconst (v := nI 2) hx hb dX6_foresee_96 (by decide) ?_
            refine g_callr (q0 := 2 + (17 + (0))) (wf := (MW cy ax ad ad2)) (σ := (r8.2.2, (u6.1, r8.2.1))) (wfc := (SW cy (ax 0) ad2)) (σc := r8.2.1) hx hb hml hown hts hK hP hD hS hA hl.1 (OW cy ax (ad 0) (ad2 0) (r8.2.2) ++ SW cy (ax 0) ad (u6.1)) pm_a [.int (nI 2)] (c_X5_of l D cy (ax 0) ad2 r8.2.1 (nI 2) hkc) (cwV 1 hts gX6_foresee_X5_of rfl rfl rfl (by decide +kernel) ⟨Nat.le_of_ble_eq_true rfl, Nat.le_of_ble_eq_true rfl⟩) (gx_r (WD_len _ _ _ _) (gx_r (WD_len _ _ _ _) (SW_ob cy (ax 0) ad2 r8.2.1))) rfl rfl rfl rfl (Nat.le_of_ble_eq_true rfl) dX6_foresee_97 ⟨Nat.le_of_ble_eq_true rfl, Nat.le_of_ble_eq_true rfl⟩ rfl rfl ?_
            intro r15 er15 H locs hP hD hS
            replace hf := hf.trans (ltt_r er15)
            refine lv_goto (tgt := 127) hx hb dX6_foresee_100 (by decide) ?_
            exact g_endi hx hb hr hlocks rfl hf hP hD hS (Nat.le_of_ble_eq_true rfl) (Nat.le_of_ble_eq_true rfl) dX6_foresee_127
        · replace hf := hf.trans (if_pos c10)
          refine lv_aload_n hx hb dX6_foresee_76 rfl (lv_at hl 0 rfl) ?_
          refine va_get (D := D) (ci := 6) (v := .ref (ad2 0)) (C := RX6) (T := TX6) (N := 4) hx hb hts hin6 hown hK hP (0) (gx_l (OW_ob cy ax (ad 0) (ad2 0) r8.2.2)) rfl 3 (by decide) wd1 (fun _ h9 => h9) rfl dX6_foresee_77 ?_
          refine lv_iconst (v := nI 0) hx hb dX6_foresee_80 (by decide) ?_
          refine g_callr (q0 := 2 + (17 + (0))) (wf := (MW cy ax ad ad2)) (σ := (r8.2.2, (u6.1, r8.2.1))) (wfc := (SW cy (ax 0) ad2)) (σc := r8.2.1) hx hb hml hown hts hK hP hD hS hA hl.1 (OW cy ax (ad 0) (ad2 0) (r8.2.2) ++ SW cy (ax 0) ad (u6.1)) pm_a [.int (nI 0)] (c_X5_of l D cy (ax 0) ad2 r8.2.1 (nI 0) hkc) (cwV 1 hts gX6_foresee_X5_of rfl rfl rfl (by decide +kernel) ⟨Nat.le_of_ble_eq_true rfl, Nat.le_of_ble_eq_true rfl⟩) (gx_r (WD_len _ _ _ _) (gx_r (WD_len _ _ _ _) (SW_ob cy (ax 0) ad2 r8.2.1))) rfl rfl rfl rfl (Nat.le_of_ble_eq_true rfl) dX6_foresee_81 ⟨Nat.le_of_ble_eq_true rfl, Nat.le_of_ble_eq_true rfl⟩ rfl rfl ?_
          intro r16 er16 H locs hP hD hS
          replace hf := hf.trans (ltt_r er16)
          refine lv_goto (tgt := 127) hx hb dX6_foresee_84 (by decide) ?_
          exact g_endi hx hb hr hlocks rfl hf hP hD hS (Nat.le_of_ble_eq_true rfl) (Nat.le_of_ble_eq_true rfl) dX6_foresee_127
      · replace hf := hf.trans (if_pos c9)
        refine lv_aload_n hx hb dX6_foresee_60 rfl (lv_at hl 0 rfl) ?_
        refine va_get (D := D) (ci := 6) (v := .ref (ad2 0)) (C := RX6) (T := TX6) (N := 4) hx hb hts hin6 hown hK hP (0) (gx_l (OW_ob cy ax (ad 0) (ad2 0) r8.2.2)) rfl 3 (by decide) wd1 (fun _ h9 => h9) rfl dX6_foresee_61 ?_
        refine lv_iconst (v := nI 0) hx hb dX6_foresee_64 (by decide) ?_
        refine g_callr (q0 := 2 + (17 + (0))) (wf := (MW cy ax ad ad2)) (σ := (r8.2.2, (u6.1, r8.2.1))) (wfc := (SW cy (ax 0) ad2)) (σc := r8.2.1) hx hb hml hown hts hK hP hD hS hA hl.1 (OW cy ax (ad 0) (ad2 0) (r8.2.2) ++ SW cy (ax 0) ad (u6.1)) pm_a [.int (nI 0)] (c_X5_over l D cy (ax 0) ad2 r8.2.1 (nI 0) hkc) (cwV 1 hts gX6_foresee_X5_over rfl rfl rfl (by decide +kernel) ⟨Nat.le_of_ble_eq_true rfl, Nat.le_of_ble_eq_true rfl⟩) (gx_r (WD_len _ _ _ _) (gx_r (WD_len _ _ _ _) (SW_ob cy (ax 0) ad2 r8.2.1))) rfl rfl rfl rfl (Nat.le_of_ble_eq_true rfl) dX6_foresee_65 ⟨Nat.le_of_ble_eq_true rfl, Nat.le_of_ble_eq_true rfl⟩ rfl rfl ?_
        intro r17 er17 H locs hP hD hS
        replace hf := hf.trans (ltt_r er17)
        refine lv_goto (tgt := 127) hx hb dX6_foresee_68 (by decide) ?_
        exact g_endi hx hb hr hlocks rfl hf hP hD hS (Nat.le_of_ble_eq_true rfl) (Nat.le_of_ble_eq_true rfl) dX6_foresee_127
    · replace hf := hf.trans (if_pos c5)
      refine lv_aload_n hx hb dX6_foresee_30 rfl (lv_at hl 0 rfl) ?_
      refine lv_iconst (v := nI 2) hx hb dX6_foresee_31 (by decide) ?_
      refine g_calliN (q0 := 0) hnw (wf := (MW cy ax ad ad2)) (σ := u1) (wfc := (MW cy ax ad ad2)) (σc := u1) hx hb hml hown hts hK hP hD hS hA hl.1 [] pm_0 (fun u => u) (fun _ => pm_0b) [.int (nI 2)] (c_X6_no l D cy ax ad ad2 u1 (nI 2) ) (cwV 1 hts gX6_foresee_X6_no rfl rfl rfl (by decide +kernel) ⟨Nat.le_of_ble_eq_true rfl, Nat.le_of_ble_eq_true rfl⟩) (gx_l (OW_ob cy ax (ad 0) (ad2 0) u1.1)) rfl rfl rfl rfl (Nat.le_of_ble_eq_true rfl) dX6_foresee_32 ⟨Nat.le_of_ble_eq_true rfl, Nat.le_of_ble_eq_true rfl⟩ rfl rfl ?_
      intro r18 er18 H locs hP hD hS
      replace hf := hf.trans (ltt_r er18)
      exact g_endi hx hb hr hlocks rfl hf hP hD hS (Nat.le_of_ble_eq_true rfl) (Nat.le_of_ble_eq_true rfl) dX6_foresee_35
  · replace hf := hf.trans (if_pos c3)
    refine lv_aload_n hx hb dX6_foresee_15 rfl (lv_at hl 0 rfl) ?_
    refine lv_iconst (v := nI 1) hx hb dX6_foresee_16 (by decide) ?_
    refine g_calliN (q0 := 0) hnw (wf := (MW cy ax ad ad2)) (σ := u1) (wfc := (MW cy ax ad ad2)) (σc := u1) hx hb hml hown hts hK hP hD hS hA hl.1 [] pm_0 (fun u => u) (fun _ => pm_0b) [.int (nI 1)] (c_X6_no l D cy ax ad ad2 u1 (nI 1) ) (cwV 1 hts gX6_foresee_X6_no rfl rfl rfl (by decide +kernel) ⟨Nat.le_of_ble_eq_true rfl, Nat.le_of_ble_eq_true rfl⟩) (gx_l (OW_ob cy ax (ad 0) (ad2 0) u1.1)) rfl rfl rfl rfl (Nat.le_of_ble_eq_true rfl) dX6_foresee_17 ⟨Nat.le_of_ble_eq_true rfl, Nat.le_of_ble_eq_true rfl⟩ rfl rfl ?_
    intro r19 er19 H locs hP hD hS
    replace hf := hf.trans (ltt_r er19)
    exact g_endi hx hb hr hlocks rfl hf hP hD hS (Nat.le_of_ble_eq_true rfl) (Nat.le_of_ble_eq_true rfl) dX6_foresee_20
