def s_X4_build (σ : Sg × Sg) (x : Int32) (y : Int32) : String ⊕ (Int32 × (Sg × Sg)) := ltt (s_X4_isWithin x (nI 0) (nI 99)) (fun r1 => if r1 = 0 then .inl "java/lang/IllegalArgumentException" else ltt (s_X4_isWithin y (nI 0) (nI 10)) (fun r3 => if r3 = 0 then .inl "java/lang/IllegalArgumentException" else if (nI 8) ≤ (σ.1 0 5) then .inl "java/lang/IllegalStateException" else ltt (s_X1_isBuiltOn σ.1 x) (fun r6 => if r6 = 0 then ltt (s_X1_addShelter σ.1 x y) (fun r8 => .inr (r8.1, (r8.2, σ.2))) else .inl "java/lang/IllegalStateException")))
abbrev rm_X4_build : Room := { frames := 6, cells := 1, slots := 6, locals := 90 }
set_option maxHeartbeats 4000000 in
set_option maxRecDepth 100000 in
theorem c_X4_build (l : Launch) (D : va_G) (cy : Nat → ClassId) (ax ad ad2 : Nat → Nat) (σ : Sg × Sg) (x : Int32) (y : Int32) (hI : OkR σ.1) : gMx l yX4_build wsX4_build rm_X4_build D (Ty cy) (CW cy ax ad ad2) [.ref (ax 0), .int (x), .int (y)] σ (s_X4_build σ x y) 1 6 := by
  refine gstartx cX4_build 3 RX4 (by decide) rfl rfl (Nat.le_of_ble_eq_true rfl) ?_
  intro p e s m below meth c A ls hx hb hml hown hts hr hlocks hK hP hD hA hS hl hl0 hT hst htx
  have hl : lv_has ls 3 [(0, .ref (ax 0)), (1, .int (x)), (2, .int (y))] := hl
  have hf : s_X4_build σ x y = s_X4_build σ x y := rfl
  have hin4 : ∀ w ∈ wsX40, w ∈ wsX4_build := by decide +kernel
  have hin1 : ∀ w ∈ wsX10, w ∈ wsX4_build := by decide +kernel
  have hat23 := hat_x (names := ["java/lang/RuntimeException", "java/lang/Exception"]) (fun w hw => hts w (by unfold wsX4_build; simp only [List.mem_cons, List.mem_append, hw, true_or, or_true])) ng_23 (by decide) htx
  have hat38 := hat_x (names := ["java/lang/RuntimeException", "java/lang/Exception"]) (fun w hw => hts w (by unfold wsX4_build; simp only [List.mem_cons, List.mem_append, hw, true_or, or_true])) ng_38 (by decide) htx
  have wd0 := hts (.classLink RX4 23 "java/lang/IllegalArgumentException") (by decide +kernel)
  have wd1 := hts (.initialized "java/lang/IllegalArgumentException") (by decide +kernel)
  have wd2 := hts (.fieldLink RX4 10 "UmbrellaLand" "now" "LUmbrellaLand$Republic;") (by decide +kernel)
  have wd3 := hts (.fieldLink RX4 30 "UmbrellaLand$Republic" "shelterCount" "I") (by decide +kernel)
  have wd4 := hts (.classLink RX4 38 "java/lang/IllegalStateException") (by decide +kernel)
  have wd5 := hts (.initialized "java/lang/IllegalStateException") (by decide +kernel)
  refine lv_iload_n hx hb dX4_build_0 rfl (lv_at hl 1 rfl) ?_
  refine lv_iconst (v := nI 0) hx hb dX4_build_1 (by decide) ?_
  refine lv_bipush (v := nI 99) hx hb dX4_build_2 (by decide) ?_
  refine g_callsr (wf := (CW cy ax ad ad2)) (σ := σ) (wfc := w0) (σc := ()) hx hb hml hown hts hK hP hD hS hA hl.1 ((CW cy ax ad ad2) σ) (List.Perm.refl _) [.int (x), .int (nI 0), .int (nI 99)] (c_X4_isWithin l D cy x (nI 0) (nI 99) ) (va_cwS 3 hts gX4_build_X4_isWithin rfl rfl rfl (by decide +kernel) ⟨Nat.le_of_ble_eq_true rfl, Nat.le_of_ble_eq_true rfl⟩) rfl rfl (Nat.le_of_ble_eq_true rfl) dX4_build_4 ⟨Nat.le_of_ble_eq_true rfl, Nat.le_of_ble_eq_true rfl⟩ rfl rfl ?_
  intro r1 er1 H locs hP hD hS
  replace hf := hf.trans (ltt_r er1)
  refine lv_if_eq (tgt := 20) hx hb dX4_build_7 (by decide) (fun c2 => ?_) (fun c2 => ?_)
  · replace hf := hf.trans (if_pos c2)
    exact g_throw hx hb (hml.trans hl.1.symm) hl0 hown (by decide +kernel) wd0 wd1 hat23 ot_23 htx (text := "place is 0 to 99, demand 0 to 10") (by decide +kernel) hst hT hlocks hf hP hD hS dX4_build_20 dX4_build_23 dX4_build_24 dX4_build_26 dX4_build_29 (Nat.le_of_ble_eq_true rfl) (Nat.le_of_ble_eq_true rfl) (Nat.le_of_ble_eq_true rfl) (Nat.le_of_ble_eq_true rfl) (Nat.le_of_ble_eq_true rfl) (Nat.le_of_ble_eq_true rfl)
  · replace hf := hf.trans (if_neg c2)
    refine lv_iload_n hx hb dX4_build_10 rfl (lv_at hl 2 rfl) ?_
    refine lv_iconst (v := nI 0) hx hb dX4_build_11 (by decide) ?_
    refine lv_bipush (v := nI 10) hx hb dX4_build_12 (by decide) ?_
    refine g_callsr (wf := (CW cy ax ad ad2)) (σ := σ) (wfc := w0) (σc := ()) hx hb hml hown hts hK hP hD hS hA hl.1 ((CW cy ax ad ad2) σ) (List.Perm.refl _) [.int (y), .int (nI 0), .int (nI 10)] (c_X4_isWithin l D cy y (nI 0) (nI 10) ) (va_cwS 3 hts gX4_build_X4_isWithin rfl rfl rfl (by decide +kernel) ⟨Nat.le_of_ble_eq_true rfl, Nat.le_of_ble_eq_true rfl⟩) rfl rfl (Nat.le_of_ble_eq_true rfl) dX4_build_14 ⟨Nat.le_of_ble_eq_true rfl, Nat.le_of_ble_eq_true rfl⟩ rfl rfl ?_
    intro r3 er3 H locs hP hD hS
    replace hf := hf.trans (ltt_r er3)
    refine lv_if_ne (tgt := 30) hx hb dX4_build_17 (by decide) (fun c4 => ?_) (fun c4 => ?_)
    · replace hf := hf.trans (if_neg c4)
      refine lv_aload_n hx hb dX4_build_30 rfl (lv_at hl 0 rfl) ?_
      refine va_get (D := D) (ci := 4) (v := .ref (ad 0)) (C := RX4) (T := TX4) (N := 2) hx hb hts hin4 hown hK hP (0) (CW_xo cy ax σ) rfl 0 (by decide) wd2 (fun _ h9 => h9) rfl dX4_build_31 ?_
      refine va_get (D := D) (ci := 1) (v := .int (σ.1 0 5)) (C := RX1) (T := TX1) (N := 9) hx hb hts hin1 hown hK hP (1 + (0)) (gx_r (n := 1) rfl (gx_l (RW_ob cy ad σ.1))) rfl 5 (by decide) wd3 (fun _ h9 => h9) rfl dX4_build_34 ?_
      refine lv_bipush (v := nI 8) hx hb dX4_build_37 (by decide) ?_
      refine lv_icmp_ge (tgt := 53) hx hb dX4_build_39 (by decide) (fun c5 => ?_) (fun c5 => ?_)
      · replace hf := hf.trans (if_pos c5)
        exact g_throw hx hb (hml.trans hl.1.symm) hl0 hown (by decide +kernel) wd4 wd5 hat38 ot_38 htx (text := "the place is taken, or there are 8 shelters") (by decide +kernel) hst hT hlocks hf hP hD hS dX4_build_53 dX4_build_56 dX4_build_57 dX4_build_59 dX4_build_62 (Nat.le_of_ble_eq_true rfl) (Nat.le_of_ble_eq_true rfl) (Nat.le_of_ble_eq_true rfl) (Nat.le_of_ble_eq_true rfl) (Nat.le_of_ble_eq_true rfl) (Nat.le_of_ble_eq_true rfl)
      · replace hf := hf.trans (if_neg c5)
        refine lv_aload_n hx hb dX4_build_42 rfl (lv_at hl 0 rfl) ?_
        refine va_get (D := D) (ci := 4) (v := .ref (ad 0)) (C := RX4) (T := TX4) (N := 2) hx hb hts hin4 hown hK hP (0) (CW_xo cy ax σ) rfl 0 (by decide) wd2 (fun _ h9 => h9) rfl dX4_build_43 ?_
        refine lv_iload_n hx hb dX4_build_46 rfl (lv_at hl 1 rfl) ?_
        refine g_callr (q0 := 1 + (0)) (wf := (CW cy ax ad ad2)) (σ := σ) (wfc := (RW cy ad)) (σc := σ.1) hx hb hml hown hts hK hP hD hS hA hl.1 (xoC ax ad ad2 ++ RW cy ad2 (σ.2)) pm_n [.int (x)] (c_X1_isBuiltOn l D cy ad σ.1 x hI) (cwV 1 hts gX4_build_X1_isBuiltOn rfl rfl rfl (by decide +kernel) ⟨Nat.le_of_ble_eq_true rfl, Nat.le_of_ble_eq_true rfl⟩) (gx_r (n := 1) rfl (gx_l (RW_ob cy ad σ.1))) rfl rfl rfl rfl (Nat.le_of_ble_eq_true rfl) dX4_build_47 ⟨Nat.le_of_ble_eq_true rfl, Nat.le_of_ble_eq_true rfl⟩ rfl rfl ?_
        intro r6 er6 H locs hP hD hS
        replace hf := hf.trans (ltt_r er6)
        refine lv_if_eq (tgt := 63) hx hb dX4_build_50 (by decide) (fun c7 => ?_) (fun c7 => ?_)
        · replace hf := hf.trans (if_pos c7)
          refine lv_aload_n hx hb dX4_build_63 rfl (lv_at hl 0 rfl) ?_
          refine va_get (D := D) (ci := 4) (v := .ref (ad 0)) (C := RX4) (T := TX4) (N := 2) hx hb hts hin4 hown hK hP (0) (CW_xo cy ax σ) rfl 0 (by decide) wd2 (fun _ h9 => h9) rfl dX4_build_64 ?_
          refine lv_iload_n hx hb dX4_build_67 rfl (lv_at hl 1 rfl) ?_
          refine lv_iload_n hx hb dX4_build_68 rfl (lv_at hl 2 rfl) ?_
          refine g_calli (q0 := 1 + (0)) (wf := (CW cy ax ad ad2)) (σ := σ) (wfc := (RW cy ad)) (σc := σ.1) hx hb hml hown hts hK hP hD hS hA hl.1 (xoC ax ad ad2 ++ RW cy ad2 (σ.2)) pm_n (fun u => (u, σ.2)) (fun _ => pm_n.symm) [.int (x), .int (y)] (c_X1_addShelter l D cy ad σ.1 x y hI) (cwV 2 hts gX4_build_X1_addShelter rfl rfl rfl (by decide +kernel) ⟨Nat.le_of_ble_eq_true rfl, Nat.le_of_ble_eq_true rfl⟩) (gx_r (n := 1) rfl (gx_l (RW_ob cy ad σ.1))) rfl rfl rfl rfl (Nat.le_of_ble_eq_true rfl) dX4_build_69 ⟨Nat.le_of_ble_eq_true rfl, Nat.le_of_ble_eq_true rfl⟩ rfl rfl ?_
          intro r8 er8 H locs hP hD hS
          replace hf := hf.trans (ltt_r er8)
          exact g_endxi hx hb hr hlocks rfl hf hP hD hS (Nat.le_of_ble_eq_true rfl) (Nat.le_of_ble_eq_true rfl) dX4_build_72
        · replace hf := hf.trans (if_neg c7)
          exact g_throw hx hb (hml.trans hl.1.symm) hl0 hown (by decide +kernel) wd4 wd5 hat38 ot_38 htx (text := "the place is taken, or there are 8 shelters") (by decide +kernel) hst hT hlocks hf hP hD hS dX4_build_53 dX4_build_56 dX4_build_57 dX4_build_59 dX4_build_62 (Nat.le_of_ble_eq_true rfl) (Nat.le_of_ble_eq_true rfl) (Nat.le_of_ble_eq_true rfl) (Nat.le_of_ble_eq_true rfl) (Nat.le_of_ble_eq_true rfl) (Nat.le_of_ble_eq_true rfl)
    · replace hf := hf.trans (if_pos c4)
      exact g_throw hx hb (hml.trans hl.1.symm) hl0 hown (by decide +kernel) wd0 wd1 hat23 ot_23 htx (text := "place is 0 to 99, demand 0 to 10") (by decide +kernel) hst hT hlocks hf hP hD hS dX4_build_20 dX4_build_23 dX4_build_24 dX4_build_26 dX4_build_29 (Nat.le_of_ble_eq_true rfl) (Nat.le_of_ble_eq_true rfl) (Nat.le_of_ble_eq_true rfl) (Nat.le_of_ble_eq_true rfl) (Nat.le_of_ble_eq_true rfl) (Nat.le_of_ble_eq_true rfl)
def lp_X4_bring_51 (σ : Sg × Sg) (x : Int32) (y : Int32)  : Nat → Nat → Sg × Sg → (Sg × Sg)
  | 0, k, τ => τ
  | n + 1, k, τ => ltt (s_X1_addUmbrella τ.1 x) (fun u3 => lp_X4_bring_51 σ x y n (k + 1) (u3, τ.2))
def s_X4_bring (σ : Sg × Sg) (x : Int32) (y : Int32) : String ⊕ (Int32 × (Sg × Sg)) := xb (s_X4_checkShelter σ x) (fun _ => ltt (s_X4_isWithin y (nI 1) (nI 10)) (fun r5 => if r5 = 0 then .inl "java/lang/IllegalArgumentException" else if y ≤ ((nI 40) - (σ.1 0 6)) then ltt (lp_X4_bring_51 σ x y (tn y) 0 σ) (fun q8 => .inr (q8.1 0 6, q8)) else .inl "java/lang/IllegalStateException"))
abbrev rm_X4_bring : Room := { frames := 7, cells := 2, slots := 12, locals := 111 }
set_option maxHeartbeats 4000000 in
set_option maxRecDepth 100000 in
theorem c_X4_bring (l : Launch) (D : va_G) (cy : Nat → ClassId) (ax ad ad2 : Nat → Nat) (σ : Sg × Sg) (x : Int32) (y : Int32) (hI : OkR σ.1) : gMx l yX4_bring wsX4_bring rm_X4_bring D (Ty cy) (CW cy ax ad ad2) [.ref (ax 0), .int (x), .int (y)] σ (s_X4_bring σ x y) 2 12 := by
  refine gstartx cX4_bring 4 RX4 (by decide) rfl rfl (Nat.le_of_ble_eq_true rfl) ?_
  intro p e s m below meth c A ls hx hb hml hown hts hr hlocks hK hP hD hA hS hl hl0 hT hst htx
  have hl : lv_has ls 4 [(0, .ref (ax 0)), (1, .int (x)), (2, .int (y))] := hl
  have hf : s_X4_bring σ x y = s_X4_bring σ x y := rfl
  have hin4 : ∀ w ∈ wsX40, w ∈ wsX4_bring := by decide +kernel
  have hin1 : ∀ w ∈ wsX10, w ∈ wsX4_bring := by decide +kernel
  have hat23 := hat_x (names := ["java/lang/RuntimeException", "java/lang/Exception"]) (fun w hw => hts w (by unfold wsX4_bring; simp only [List.mem_cons, List.mem_append, hw, true_or, or_true])) ng_23 (by decide) htx
  have hat38 := hat_x (names := ["java/lang/RuntimeException", "java/lang/Exception"]) (fun w hw => hts w (by unfold wsX4_bring; simp only [List.mem_cons, List.mem_append, hw, true_or, or_true])) ng_38 (by decide) htx
  have wd0 := hts (.fieldLink RX4 10 "UmbrellaLand" "now" "LUmbrellaLand$Republic;") (by decide +kernel)
  have wd1 := hts (.fieldLink RX4 53 "UmbrellaLand$Republic" "umbrellaCount" "I") (by decide +kernel)
  have wd2 := hts (.classLink RX4 38 "java/lang/IllegalStateException") (by decide +kernel)
  have wd3 := hts (.initialized "java/lang/IllegalStateException") (by decide +kernel)
  have wd4 := hts (.classLink RX4 23 "java/lang/IllegalArgumentException") (by decide +kernel)
  have wd5 := hts (.initialized "java/lang/IllegalArgumentException") (by decide +kernel)
  have loop51 : ∀  (n k : Nat)  (τ : Sg × Sg) (H : Heap) (locs : List Loc) (ls : Array Slot), n = tn y - k ∧ k ≤ tn y + 1 → (y = nI (tn y)) → (tn y < 11) → (OkR (τ).1) → va_P D vwCl ((CW cy ax ad ad2) τ) H → va_D A ((CW cy ax ad ad2) τ) → va_S A s.heap H locs → lv_has ls 4 [(0, .ref (ax 0)), (1, .int (x)), (2, .int (y)), (3, .int (nI k))] → (∀ u : (Sg × Sg), u = lp_X4_bring_51 σ x y n k τ → ∀ (H : Heap) (locs : List Loc) (ls : Array Slot), va_P D vwCl ((CW cy ax ad ad2) u) H → va_D A ((CW cy ax ad ad2) u) → va_S A s.heap H locs → lv_has ls 4 [(0, .ref (ax 0)), (1, .int (x)), (2, .int (y))] → W p l e rm_X4_bring s m [.ref (ax 0), .int (x), .int (y)].toArray below meth c H locs 1 6 (vx_MQ below (va_Qi (fun r u => s_X4_bring σ x y = .inr (r, u)) (gPost D (CW cy ax ad ad2) A) A) (gXC D (CW cy ax ad ad2) σ (s_X4_bring σ x y) A) [.ref (ax 0), .int (x), .int (y)].toArray s 2 12 A) (F0 m 70 ls [])) → W p l e rm_X4_bring s m [.ref (ax 0), .int (x), .int (y)].toArray below meth c H locs 1 6 (vx_MQ below (va_Qi (fun r u => s_X4_bring σ x y = .inr (r, u)) (gPost D (CW cy ax ad ad2) A) A) (gXC D (CW cy ax ad ad2) σ (s_X4_bring σ x y) A) [.ref (ax 0), .int (x), .int (y)].toArray s 2 12 A) (F0 m 51 ls []) := by
    intro n
    induction n with
    | zero =>
      intro k τ H locs ls hN hi0 hi1 hi2 hP hD hS hl K
      have hf : lp_X4_bring_51 σ x y 0 k τ = lp_X4_bring_51 σ x y 0 k τ := rfl
      refine lv_iload_n hx hb dX4_bring_51 rfl (lv_at hl 3 rfl) ?_
      refine lv_iload_n hx hb dX4_bring_52 rfl (lv_at hl 2 rfl) ?_
      refine g_top (hi0) ?_
      refine lv_icmp_ge (tgt := 70) hx hb dX4_bring_53 (by decide) (fun c1 => ?_) (fun c1 => absurd (nI_le (by omega) (by omega)) c1)
      exact K τ hf.symm _ _ _ hP hD hS (lv_sub hl [0, 1, 2] rfl)
    | succ n ih =>
      intro k τ H locs ls hN hi0 hi1 hi2 hP hD hS hl K
      have hf : lp_X4_bring_51 σ x y (n + 1) k τ = lp_X4_bring_51 σ x y (n + 1) k τ := rfl
      refine lv_iload_n hx hb dX4_bring_51 rfl (lv_at hl 3 rfl) ?_
      refine lv_iload_n hx hb dX4_bring_52 rfl (lv_at hl 2 rfl) ?_
      refine g_top (hi0) ?_
      refine lv_icmp_ge (tgt := 70) hx hb dX4_bring_53 (by decide) (fun c2 => absurd c2 (nI_ge (by omega) (by omega))) (fun c2 => ?_)
      refine lv_aload_n hx hb dX4_bring_56 rfl (lv_at hl 0 rfl) ?_
      refine va_get (D := D) (ci := 4) (v := .ref (ad 0)) (C := RX4) (T := TX4) (N := 2) hx hb hts hin4 hown hK hP (0) (CW_xo cy ax τ) rfl 0 (by decide) wd0 (fun _ h9 => h9) rfl dX4_bring_57 ?_
      refine lv_iload_n hx hb dX4_bring_60 rfl (lv_at hl 1 rfl) ?_
      refine g_callv (q0 := 1 + (0)) (wf := (CW cy ax ad ad2)) (σ := τ) (wfc := (RW cy ad)) (σc := τ.1) hx hb hml hown hts hK hP hD hS hA hl.1 (xoC ax ad ad2 ++ RW cy ad2 (τ.2)) pm_n (fun u => (u, τ.2)) (fun _ => pm_n.symm) [.int (x)] (c_X1_addUmbrella l D cy ad τ.1 x hi2) (cwV 1 hts gX4_bring_X1_addUmbrella rfl rfl rfl (by decide +kernel) ⟨Nat.le_of_ble_eq_true rfl, Nat.le_of_ble_eq_true rfl⟩) (gx_r (n := 1) rfl (gx_l (RW_ob cy ad τ.1))) rfl rfl rfl rfl (Nat.le_of_ble_eq_true rfl) dX4_bring_61 ⟨Nat.le_of_ble_eq_true rfl, Nat.le_of_ble_eq_true rfl⟩ rfl rfl ?_
      intro u3 eu3 H locs hP hD hS
      replace hf := hf.trans (ltt_r eu3)
      have oku3 : OkR u3 := (by rw [eu3]; exact ok_X1_addUmbrella τ.1 x hi2)
      refine lv_iinc (v := nI (k + 1)) (lv' := [(3, .int (nI (k + 1))), (0, .ref (ax 0)), (1, .int (x)), (2, .int (y))]) hx hb dX4_bring_64 hl (k := 3) rfl (nI_1 _) (by decide) rfl (fun ls hl => ?_)
      refine lv_goto (tgt := 51) hx hb dX4_bring_67 (by decide) ?_
      exact ih (k + 1)  (u3, τ.2) _ _ _ (by omega) hi0 hi1 oku3 hP hD hS (lv_sub hl [1, 2, 3, 0] rfl) (fun u eu => K u (eu.trans hf.symm))
  refine lv_aload_n hx hb dX4_bring_0 rfl (lv_at hl 0 rfl) ?_
  refine lv_iload_n hx hb dX4_bring_1 rfl (lv_at hl 1 rfl) ?_
  refine g_callxv (q0 := 0) (fc := s_X4_checkShelter σ x) (f := s_X4_bring σ x y) hl0 hT hst htx hlocks (wf := (CW cy ax ad ad2)) (σ := σ) (wfc := (CW cy ax ad ad2)) (σc := σ) hx hb hml hown hts hK hP hD hS hA hl.1 [] pm_0 [.int (x)] (c_X4_checkShelter l D cy ax ad ad2 σ x ) (cwV 1 hts gX4_bring_X4_checkShelter rfl rfl rfl (by decide +kernel) ⟨Nat.le_of_ble_eq_true rfl, Nat.le_of_ble_eq_true rfl⟩) (CW_xo cy ax σ) rfl rfl rfl rfl (Nat.le_of_ble_eq_true rfl) dX4_bring_2 ⟨Nat.le_of_ble_eq_true rfl, Nat.le_of_ble_eq_true rfl⟩ (cells2 := 1) (slots2 := 6) rfl rfl (fun E h9 => hf.trans (xb_l h9)) (Nat.le_of_ble_eq_true rfl) (Nat.le_of_ble_eq_true rfl) ?_
  intro x4 H locs hP hD hS
  replace hf := hf.trans (xb_r x4)
  refine lv_iload_n hx hb dX4_bring_5 rfl (lv_at hl 2 rfl) ?_
  refine lv_iconst (v := nI 1) hx hb dX4_bring_6 (by decide) ?_
  refine lv_bipush (v := nI 10) hx hb dX4_bring_7 (by decide) ?_
  refine g_callsr (wf := (CW cy ax ad ad2)) (σ := σ) (wfc := w0) (σc := ()) hx hb hml hown hts hK hP hD hS hA hl.1 ((CW cy ax ad ad2) σ) (List.Perm.refl _) [.int (y), .int (nI 1), .int (nI 10)] (c_X4_isWithin l D cy y (nI 1) (nI 10) ) (va_cwS 3 hts gX4_bring_X4_isWithin rfl rfl rfl (by decide +kernel) ⟨Nat.le_of_ble_eq_true rfl, Nat.le_of_ble_eq_true rfl⟩) rfl rfl (Nat.le_of_ble_eq_true rfl) dX4_bring_9 ⟨Nat.le_of_ble_eq_true rfl, Nat.le_of_ble_eq_true rfl⟩ rfl rfl ?_
  intro r5 er5 H locs hP hD hS
  replace hf := hf.trans (ltt_r er5)
  refine lv_if_ne (tgt := 25) hx hb dX4_bring_12 (by decide) (fun c6 => ?_) (fun c6 => ?_)
  · replace hf := hf.trans (if_neg c6)
    refine lv_iload_n hx hb dX4_bring_25 rfl (lv_at hl 2 rfl) ?_
    refine lv_bipush (v := nI 40) hx hb dX4_bring_26 (by decide) ?_
    refine lv_aload_n hx hb dX4_bring_28 rfl (lv_at hl 0 rfl) ?_
    refine va_get (D := D) (ci := 4) (v := .ref (ad 0)) (C := RX4) (T := TX4) (N := 2) hx hb hts hin4 hown hK hP (0) (CW_xo cy ax σ) rfl 0 (by decide) wd0 (fun _ h9 => h9) rfl dX4_bring_29 ?_
    refine va_get (D := D) (ci := 1) (v := .int (σ.1 0 6)) (C := RX1) (T := TX1) (N := 9) hx hb hts hin1 hown hK hP (1 + (0)) (gx_r (n := 1) rfl (gx_l (RW_ob cy ad σ.1))) rfl 6 (by decide) wd1 (fun _ h9 => h9) rfl dX4_bring_32 ?_
    refine lv_isub hx hb dX4_bring_35 ?_
    refine lv_icmp_le (tgt := 49) hx hb dX4_bring_36 (by decide) (fun c7 => ?_) (fun c7 => ?_)
    · replace hf := hf.trans (if_pos c7)
      refine lv_iconst (v := nI 0) hx hb dX4_bring_49 (by decide) ?_
      refine lv_istore_n (lv' := [(3, .int (nI 0)), (0, .ref (ax 0)), (1, .int (x)), (2, .int (y))]) hx hb dX4_bring_50 rfl hl (by decide) rfl (fun ls hl => ?_)
      refine loop51  (tn y) 0  σ _ _ _ (by omega) (tn_eq (within_1 (fun h9 => c6 (er5.trans h9)) (by decide)) (by decide)) (tn_in (within_1 (fun h9 => c6 (er5.trans h9)) (by decide))) hI hP hD hS (lv_sub hl [1, 2, 3, 0] rfl) ?_
      intro q8 eq8 H locs ls hP hD hS hl
      replace hf := hf.trans (ltt_r eq8)
      refine lv_aload_n hx hb dX4_bring_70 rfl (lv_at hl 0 rfl) ?_
      refine va_get (D := D) (ci := 4) (v := .ref (ad 0)) (C := RX4) (T := TX4) (N := 2) hx hb hts hin4 hown hK hP (0) (CW_xo cy ax q8) rfl 0 (by decide) wd0 (fun _ h9 => h9) rfl dX4_bring_71 ?_
      refine va_get (D := D) (ci := 1) (v := .int (q8.1 0 6)) (C := RX1) (T := TX1) (N := 9) hx hb hts hin1 hown hK hP (1 + (0)) (gx_r (n := 1) rfl (gx_l (RW_ob cy ad q8.1))) rfl 6 (by decide) wd1 (fun _ h9 => h9) rfl dX4_bring_74 ?_
      exact g_endxi hx hb hr hlocks rfl hf hP hD hS (Nat.le_of_ble_eq_true rfl) (Nat.le_of_ble_eq_true rfl) dX4_bring_77
    · replace hf := hf.trans (if_neg c7)
      exact g_throw hx hb (hml.trans hl.1.symm) hl0 hown (by decide +kernel) wd2 wd3 hat38 ot_38 htx (text := "there would be more than 40 umbrellas") (by decide +kernel) hst hT hlocks hf hP hD hS dX4_bring_39 dX4_bring_42 dX4_bring_43 dX4_bring_45 dX4_bring_48 (Nat.le_of_ble_eq_true rfl) (Nat.le_of_ble_eq_true rfl) (Nat.le_of_ble_eq_true rfl) (Nat.le_of_ble_eq_true rfl) (Nat.le_of_ble_eq_true rfl) (Nat.le_of_ble_eq_true rfl)
  · replace hf := hf.trans (if_pos c6)
    exact g_throw hx hb (hml.trans hl.1.symm) hl0 hown (by decide +kernel) wd4 wd5 hat23 ot_23 htx (text := "many is 1 to 10") (by decide +kernel) hst hT hlocks hf hP hD hS dX4_bring_15 dX4_bring_18 dX4_bring_19 dX4_bring_21 dX4_bring_24 (Nat.le_of_ble_eq_true rfl) (Nat.le_of_ble_eq_true rfl) (Nat.le_of_ble_eq_true rfl) (Nat.le_of_ble_eq_true rfl) (Nat.le_of_ble_eq_true rfl) (Nat.le_of_ble_eq_true rfl)
def s_X4_addCitizen (σ : Sg × Sg) (x : Int32) (y : Int32) (z : Int32) (w : Int32) (v : Int32) : String ⊕ (Int32 × (Sg × Sg)) := xb (s_X4_checkShelter σ x) (fun _ => xb (s_X4_checkShelter σ y) (fun _ => if x = y then .inl "java/lang/IllegalArgumentException" else if z = w then .inl "java/lang/IllegalArgumentException" else ltt (s_X4_isHourOfDay z) (fun r5 => if r5 = 0 then .inl "java/lang/IllegalArgumentException" else ltt (s_X4_isHourOfDay w) (fun r7 => if r7 = 0 then .inl "java/lang/IllegalArgumentException" else ltt (s_X4_isWithin v (nI 1) (nI 9)) (fun r9 => if r9 = 0 then .inl "java/lang/IllegalArgumentException" else if (σ.1 0 7) < (nI 10) then ltt (s_X1_addPerson σ.1 x y z w v) (fun r12 => .inr (r12.1, (r12.2, σ.2))) else .inl "java/lang/IllegalStateException")))))
abbrev rm_X4_addCitizen : Room := { frames := 7, cells := 3, slots := 18, locals := 111 }
set_option maxHeartbeats 4000000 in
set_option maxRecDepth 100000 in
theorem c_X4_addCitizen (l : Launch) (D : va_G) (cy : Nat → ClassId) (ax ad ad2 : Nat → Nat) (σ : Sg × Sg) (x : Int32) (y : Int32) (z : Int32) (w : Int32) (v : Int32) (hI : OkR σ.1) : gMx l yX4_addCitizen wsX4_addCitizen rm_X4_addCitizen D (Ty cy) (CW cy ax ad ad2) [.ref (ax 0), .int (x), .int (y), .int (z), .int (w), .int (v)] σ (s_X4_addCitizen σ x y z w v) 3 18 := by
  refine gstartx cX4_addCitizen 6 RX4 (by decide) rfl rfl (Nat.le_of_ble_eq_true rfl) ?_
  intro p e s m below meth c A ls hx hb hml hown hts hr hlocks hK hP hD hA hS hl hl0 hT hst htx
  have hl : lv_has ls 6 [(0, .ref (ax 0)), (1, .int (x)), (2, .int (y)), (3, .int (z)), (4, .int (w)), (5, .int (v))] := hl
  have hf : s_X4_addCitizen σ x y z w v = s_X4_addCitizen σ x y z w v := rfl
  have hin4 : ∀ w ∈ wsX40, w ∈ wsX4_addCitizen := by decide +kernel
  have hin1 : ∀ w ∈ wsX10, w ∈ wsX4_addCitizen := by decide +kernel
  have hat23 := hat_x (names := ["java/lang/RuntimeException", "java/lang/Exception"]) (fun w hw => hts w (by unfold wsX4_addCitizen; simp only [List.mem_cons, List.mem_append, hw, true_or, or_true])) ng_23 (by decide) htx
  have hat38 := hat_x (names := ["java/lang/RuntimeException", "java/lang/Exception"]) (fun w hw => hts w (by unfold wsX4_addCitizen; simp only [List.mem_cons, List.mem_append, hw, true_or, or_true])) ng_38 (by decide) htx
  have wd0 := hts (.classLink RX4 23 "java/lang/IllegalArgumentException") (by decide +kernel)
  have wd1 := hts (.initialized "java/lang/IllegalArgumentException") (by decide +kernel)
  have wd2 := hts (.fieldLink RX4 10 "UmbrellaLand" "now" "LUmbrellaLand$Republic;") (by decide +kernel)
  have wd3 := hts (.fieldLink RX4 68 "UmbrellaLand$Republic" "citizenCount" "I") (by decide +kernel)
  have wd4 := hts (.classLink RX4 38 "java/lang/IllegalStateException") (by decide +kernel)
  have wd5 := hts (.initialized "java/lang/IllegalStateException") (by decide +kernel)
  refine lv_aload_n hx hb dX4_addCitizen_0 rfl (lv_at hl 0 rfl) ?_
  refine lv_iload_n hx hb dX4_addCitizen_1 rfl (lv_at hl 1 rfl) ?_
  refine g_callxv (q0 := 0) (fc := s_X4_checkShelter σ x) (f := s_X4_addCitizen σ x y z w v) hl0 hT hst htx hlocks (wf := (CW cy ax ad ad2)) (σ := σ) (wfc := (CW cy ax ad ad2)) (σc := σ) hx hb hml hown hts hK hP hD hS hA hl.1 [] pm_0 [.int (x)] (c_X4_checkShelter l D cy ax ad ad2 σ x ) (cwV 1 hts gX4_addCitizen_X4_checkShelter rfl rfl rfl (by decide +kernel) ⟨Nat.le_of_ble_eq_true rfl, Nat.le_of_ble_eq_true rfl⟩) (CW_xo cy ax σ) rfl rfl rfl rfl (Nat.le_of_ble_eq_true rfl) dX4_addCitizen_2 ⟨Nat.le_of_ble_eq_true rfl, Nat.le_of_ble_eq_true rfl⟩ (cells2 := 1) (slots2 := 6) rfl rfl (fun E h9 => hf.trans (xb_l h9)) (Nat.le_of_ble_eq_true rfl) (Nat.le_of_ble_eq_true rfl) ?_
  intro x1 H locs hP hD hS
  replace hf := hf.trans (xb_r x1)
  refine lv_aload_n hx hb dX4_addCitizen_5 rfl (lv_at hl 0 rfl) ?_
  refine lv_iload_n hx hb dX4_addCitizen_6 rfl (lv_at hl 2 rfl) ?_
  refine g_callxv (q0 := 0) (fc := s_X4_checkShelter σ y) (f := s_X4_addCitizen σ x y z w v) hl0 hT hst htx hlocks (wf := (CW cy ax ad ad2)) (σ := σ) (wfc := (CW cy ax ad ad2)) (σc := σ) hx hb hml hown hts hK hP hD hS hA hl.1 [] pm_0 [.int (y)] (c_X4_checkShelter l D cy ax ad ad2 σ y ) (cwV 1 hts gX4_addCitizen_X4_checkShelter rfl rfl rfl (by decide +kernel) ⟨Nat.le_of_ble_eq_true rfl, Nat.le_of_ble_eq_true rfl⟩) (CW_xo cy ax σ) rfl rfl rfl rfl (Nat.le_of_ble_eq_true rfl) dX4_addCitizen_7 ⟨Nat.le_of_ble_eq_true rfl, Nat.le_of_ble_eq_true rfl⟩ (cells2 := 2) (slots2 := 12) rfl rfl (fun E h9 => hf.trans (xb_l h9)) (Nat.le_of_ble_eq_true rfl) (Nat.le_of_ble_eq_true rfl) ?_
  intro x2 H locs hP hD hS
  replace hf := hf.trans (xb_r x2)
  refine lv_iload_n hx hb dX4_addCitizen_10 rfl (lv_at hl 1 rfl) ?_
  refine lv_iload_n hx hb dX4_addCitizen_11 rfl (lv_at hl 2 rfl) ?_
  refine lv_icmp_eq (tgt := 21) hx hb dX4_addCitizen_12 (by decide) (fun c3 => ?_) (fun c3 => ?_)
  · replace hf := hf.trans (if_pos c3)
    exact g_throw hx hb (hml.trans hl.1.symm) hl0 hown (by decide +kernel) wd0 wd1 hat23 ot_23 htx (text := "home and work differ, leaves and returns too") (by decide +kernel) hst hT hlocks hf hP hD hS dX4_addCitizen_21 dX4_addCitizen_24 dX4_addCitizen_25 dX4_addCitizen_27 dX4_addCitizen_30 (Nat.le_of_ble_eq_true rfl) (Nat.le_of_ble_eq_true rfl) (Nat.le_of_ble_eq_true rfl) (Nat.le_of_ble_eq_true rfl) (Nat.le_of_ble_eq_true rfl) (Nat.le_of_ble_eq_true rfl)
  · replace hf := hf.trans (if_neg c3)
    refine lv_iload_n hx hb dX4_addCitizen_15 rfl (lv_at hl 3 rfl) ?_
    refine lv_iload hx hb dX4_addCitizen_16 (lv_at hl 4 rfl) ?_
    refine lv_icmp_ne (tgt := 31) hx hb dX4_addCitizen_18 (by decide) (fun c4 => ?_) (fun c4 => ?_)
    · replace hf := hf.trans (if_neg c4)
      refine lv_iload_n hx hb dX4_addCitizen_31 rfl (lv_at hl 3 rfl) ?_
      refine g_callsr (wf := (CW cy ax ad ad2)) (σ := σ) (wfc := w0) (σc := ()) hx hb hml hown hts hK hP hD hS hA hl.1 ((CW cy ax ad ad2) σ) (List.Perm.refl _) [.int (z)] (c_X4_isHourOfDay l D cy z ) (va_cwS 1 hts gX4_addCitizen_X4_isHourOfDay rfl rfl rfl (by decide +kernel) ⟨Nat.le_of_ble_eq_true rfl, Nat.le_of_ble_eq_true rfl⟩) rfl rfl (Nat.le_of_ble_eq_true rfl) dX4_addCitizen_32 ⟨Nat.le_of_ble_eq_true rfl, Nat.le_of_ble_eq_true rfl⟩ rfl rfl ?_
      intro r5 er5 H locs hP hD hS
      replace hf := hf.trans (ltt_r er5)
      refine lv_if_eq (tgt := 57) hx hb dX4_addCitizen_35 (by decide) (fun c6 => ?_) (fun c6 => ?_)
      · replace hf := hf.trans (if_pos c6)
        exact g_throw hx hb (hml.trans hl.1.symm) hl0 hown (by decide +kernel) wd0 wd1 hat23 ot_23 htx (text := "leaves and returns are 0 to 23, forgets is 1 to 9") (by decide +kernel) hst hT hlocks hf hP hD hS dX4_addCitizen_57 dX4_addCitizen_60 dX4_addCitizen_61 dX4_addCitizen_63 dX4_addCitizen_66 (Nat.le_of_ble_eq_true rfl) (Nat.le_of_ble_eq_true rfl) (Nat.le_of_ble_eq_true rfl) (Nat.le_of_ble_eq_true rfl) (Nat.le_of_ble_eq_true rfl) (Nat.le_of_ble_eq_true rfl)
      · replace hf := hf.trans (if_neg c6)
        refine lv_iload hx hb dX4_addCitizen_38 (lv_at hl 4 rfl) ?_
        refine g_callsr (wf := (CW cy ax ad ad2)) (σ := σ) (wfc := w0) (σc := ()) hx hb hml hown hts hK hP hD hS hA hl.1 ((CW cy ax ad ad2) σ) (List.Perm.refl _) [.int (w)] (c_X4_isHourOfDay l D cy w ) (va_cwS 1 hts gX4_addCitizen_X4_isHourOfDay rfl rfl rfl (by decide +kernel) ⟨Nat.le_of_ble_eq_true rfl, Nat.le_of_ble_eq_true rfl⟩) rfl rfl (Nat.le_of_ble_eq_true rfl) dX4_addCitizen_40 ⟨Nat.le_of_ble_eq_true rfl, Nat.le_of_ble_eq_true rfl⟩ rfl rfl ?_
        intro r7 er7 H locs hP hD hS
        replace hf := hf.trans (ltt_r er7)
        refine lv_if_eq (tgt := 57) hx hb dX4_addCitizen_43 (by decide) (fun c8 => ?_) (fun c8 => ?_)
        · replace hf := hf.trans (if_pos c8)
          exact g_throw hx hb (hml.trans hl.1.symm) hl0 hown (by decide +kernel) wd0 wd1 hat23 ot_23 htx (text := "leaves and returns are 0 to 23, forgets is 1 to 9") (by decide +kernel) hst hT hlocks hf hP hD hS dX4_addCitizen_57 dX4_addCitizen_60 dX4_addCitizen_61 dX4_addCitizen_63 dX4_addCitizen_66 (Nat.le_of_ble_eq_true rfl) (Nat.le_of_ble_eq_true rfl) (Nat.le_of_ble_eq_true rfl) (Nat.le_of_ble_eq_true rfl) (Nat.le_of_ble_eq_true rfl) (Nat.le_of_ble_eq_true rfl)
        · replace hf := hf.trans (if_neg c8)
          refine lv_iload hx hb dX4_addCitizen_46 (lv_at hl 5 rfl) ?_
          refine lv_iconst (v := nI 1) hx hb dX4_addCitizen_48 (by decide) ?_
          refine lv_bipush (v := nI 9) hx hb dX4_addCitizen_49 (by decide) ?_
          refine g_callsr (wf := (CW cy ax ad ad2)) (σ := σ) (wfc := w0) (σc := ()) hx hb hml hown hts hK hP hD hS hA hl.1 ((CW cy ax ad ad2) σ) (List.Perm.refl _) [.int (v), .int (nI 1), .int (nI 9)] (c_X4_isWithin l D cy v (nI 1) (nI 9) ) (va_cwS 3 hts gX4_addCitizen_X4_isWithin rfl rfl rfl (by decide +kernel) ⟨Nat.le_of_ble_eq_true rfl, Nat.le_of_ble_eq_true rfl⟩) rfl rfl (Nat.le_of_ble_eq_true rfl) dX4_addCitizen_51 ⟨Nat.le_of_ble_eq_true rfl, Nat.le_of_ble_eq_true rfl⟩ rfl rfl ?_
          intro r9 er9 H locs hP hD hS
          replace hf := hf.trans (ltt_r er9)
          refine lv_if_ne (tgt := 67) hx hb dX4_addCitizen_54 (by decide) (fun c10 => ?_) (fun c10 => ?_)
          · replace hf := hf.trans (if_neg c10)
            refine lv_aload_n hx hb dX4_addCitizen_67 rfl (lv_at hl 0 rfl) ?_
            refine va_get (D := D) (ci := 4) (v := .ref (ad 0)) (C := RX4) (T := TX4) (N := 2) hx hb hts hin4 hown hK hP (0) (CW_xo cy ax σ) rfl 0 (by decide) wd2 (fun _ h9 => h9) rfl dX4_addCitizen_68 ?_
            refine va_get (D := D) (ci := 1) (v := .int (σ.1 0 7)) (C := RX1) (T := TX1) (N := 9) hx hb hts hin1 hown hK hP (1 + (0)) (gx_r (n := 1) rfl (gx_l (RW_ob cy ad σ.1))) rfl 7 (by decide) wd3 (fun _ h9 => h9) rfl dX4_addCitizen_71 ?_
            refine lv_bipush (v := nI 10) hx hb dX4_addCitizen_74 (by decide) ?_
            refine lv_icmp_lt (tgt := 89) hx hb dX4_addCitizen_76 (by decide) (fun c11 => ?_) (fun c11 => ?_)
            · replace hf := hf.trans (if_pos c11)
              refine lv_aload_n hx hb dX4_addCitizen_89 rfl (lv_at hl 0 rfl) ?_
              refine va_get (D := D) (ci := 4) (v := .ref (ad 0)) (C := RX4) (T := TX4) (N := 2) hx hb hts hin4 hown hK hP (0) (CW_xo cy ax σ) rfl 0 (by decide) wd2 (fun _ h9 => h9) rfl dX4_addCitizen_90 ?_
              refine lv_iload_n hx hb dX4_addCitizen_93 rfl (lv_at hl 1 rfl) ?_
              refine lv_iload_n hx hb dX4_addCitizen_94 rfl (lv_at hl 2 rfl) ?_
              refine lv_iload_n hx hb dX4_addCitizen_95 rfl (lv_at hl 3 rfl) ?_
              refine lv_iload hx hb dX4_addCitizen_96 (lv_at hl 4 rfl) ?_
              refine lv_iload hx hb dX4_addCitizen_98 (lv_at hl 5 rfl) ?_
              refine g_calli (q0 := 1 + (0)) (wf := (CW cy ax ad ad2)) (σ := σ) (wfc := (RW cy ad)) (σc := σ.1) hx hb hml hown hts hK hP hD hS hA hl.1 (xoC ax ad ad2 ++ RW cy ad2 (σ.2)) pm_n (fun u => (u, σ.2)) (fun _ => pm_n.symm) [.int (x), .int (y), .int (z), .int (w), .int (v)] (c_X1_addPerson l D cy ad σ.1 x y z w v hI) (cwV 5 hts gX4_addCitizen_X1_addPerson rfl rfl rfl (by decide +kernel) ⟨Nat.le_of_ble_eq_true rfl, Nat.le_of_ble_eq_true rfl⟩) (gx_r (n := 1) rfl (gx_l (RW_ob cy ad σ.1))) rfl rfl rfl rfl (Nat.le_of_ble_eq_true rfl) dX4_addCitizen_100 ⟨Nat.le_of_ble_eq_true rfl, Nat.le_of_ble_eq_true rfl⟩ rfl rfl ?_
              intro r12 er12 H locs hP hD hS
              replace hf := hf.trans (ltt_r er12)
              exact g_endxi hx hb hr hlocks rfl hf hP hD hS (Nat.le_of_ble_eq_true rfl) (Nat.le_of_ble_eq_true rfl) dX4_addCitizen_103
            · replace hf := hf.trans (if_neg c11)
              exact g_throw hx hb (hml.trans hl.1.symm) hl0 hown (by decide +kernel) wd4 wd5 hat38 ot_38 htx (text := "there are 10 citizens") (by decide +kernel) hst hT hlocks hf hP hD hS dX4_addCitizen_79 dX4_addCitizen_82 dX4_addCitizen_83 dX4_addCitizen_85 dX4_addCitizen_88 (Nat.le_of_ble_eq_true rfl) (Nat.le_of_ble_eq_true rfl) (Nat.le_of_ble_eq_true rfl) (Nat.le_of_ble_eq_true rfl) (Nat.le_of_ble_eq_true rfl) (Nat.le_of_ble_eq_true rfl)
          · replace hf := hf.trans (if_pos c10)
            exact g_throw hx hb (hml.trans hl.1.symm) hl0 hown (by decide +kernel) wd0 wd1 hat23 ot_23 htx (text := "leaves and returns are 0 to 23, forgets is 1 to 9") (by decide +kernel) hst hT hlocks hf hP hD hS dX4_addCitizen_57 dX4_addCitizen_60 dX4_addCitizen_61 dX4_addCitizen_63 dX4_addCitizen_66 (Nat.le_of_ble_eq_true rfl) (Nat.le_of_ble_eq_true rfl) (Nat.le_of_ble_eq_true rfl) (Nat.le_of_ble_eq_true rfl) (Nat.le_of_ble_eq_true rfl) (Nat.le_of_ble_eq_true rfl)
    · replace hf := hf.trans (if_pos c4)
      exact g_throw hx hb (hml.trans hl.1.symm) hl0 hown (by decide +kernel) wd0 wd1 hat23 ot_23 htx (text := "home and work differ, leaves and returns too") (by decide +kernel) hst hT hlocks hf hP hD hS dX4_addCitizen_21 dX4_addCitizen_24 dX4_addCitizen_25 dX4_addCitizen_27 dX4_addCitizen_30 (Nat.le_of_ble_eq_true rfl) (Nat.le_of_ble_eq_true rfl) (Nat.le_of_ble_eq_true rfl) (Nat.le_of_ble_eq_true rfl) (Nat.le_of_ble_eq_true rfl) (Nat.le_of_ble_eq_true rfl)
def s_X4_setRain (σ : Sg × Sg) (x : Int32) (y : Int32) : String ⊕ (Int32 × (Sg × Sg)) := xb (s_X4_checkHourOfDay x) (fun _ => ltt (s_X4_isWithin y (nI 0) (nI 9)) (fun r2 => if r2 = 0 then .inl "java/lang/IllegalArgumentException" else ltt ((up σ.1 1 (tn x) y, σ.2)) (fun u6 => .inr (σ.1 1 (tn x), u6))))
abbrev rm_X4_setRain : Room := { frames := 7, cells := 2, slots := 12, locals := 110 }
set_option maxHeartbeats 4000000 in
set_option maxRecDepth 100000 in
theorem c_X4_setRain (l : Launch) (D : va_G) (cy : Nat → ClassId) (ax ad ad2 : Nat → Nat) (σ : Sg × Sg) (x : Int32) (y : Int32) (hI : OkR σ.1) : gMx l yX4_setRain wsX4_setRain rm_X4_setRain D (Ty cy) (CW cy ax ad ad2) [.ref (ax 0), .int (x), .int (y)] σ (s_X4_setRain σ x y) 2 12 := by
  refine gstartx cX4_setRain 4 RX4 (by decide) rfl rfl (Nat.le_of_ble_eq_true rfl) ?_
  intro p e s m below meth c A ls hx hb hml hown hts hr hlocks hK hP hD hA hS hl hl0 hT hst htx
  have hl : lv_has ls 4 [(0, .ref (ax 0)), (1, .int (x)), (2, .int (y))] := hl
  have hf : s_X4_setRain σ x y = s_X4_setRain σ x y := rfl
  have hin4 : ∀ w ∈ wsX40, w ∈ wsX4_setRain := by decide +kernel
  have hin1 : ∀ w ∈ wsX10, w ∈ wsX4_setRain := by decide +kernel
  have hat23 := hat_x (names := ["java/lang/RuntimeException", "java/lang/Exception"]) (fun w hw => hts w (by unfold wsX4_setRain; simp only [List.mem_cons, List.mem_append, hw, true_or, or_true])) ng_23 (by decide) htx
  have wd0 := hts (.fieldLink RX4 10 "UmbrellaLand" "now" "LUmbrellaLand$Republic;") (by decide +kernel)
  have wd1 := hts (.fieldLink RX4 82 "UmbrellaLand$Republic" "rain" "[I") (by decide +kernel)
  have wd2 := hts (.classLink RX4 23 "java/lang/IllegalArgumentException") (by decide +kernel)
  have wd3 := hts (.initialized "java/lang/IllegalArgumentException") (by decide +kernel)
  refine lv_iload_n hx hb dX4_setRain_0 rfl (lv_at hl 1 rfl) ?_
  refine g_callxsv (fc := s_X4_checkHourOfDay x) (f := s_X4_setRain σ x y) hl0 hT hst htx hlocks (wf := (CW cy ax ad ad2)) (σ := σ) (wfc := w0) (σc := ()) hx hb hml hown hts hK hP hD hS hA hl.1 ((CW cy ax ad ad2) σ) (List.Perm.refl _) [.int (x)] (c_X4_checkHourOfDay l D cy x ) (va_cwS 1 hts gX4_setRain_X4_checkHourOfDay rfl rfl rfl (by decide +kernel) ⟨Nat.le_of_ble_eq_true rfl, Nat.le_of_ble_eq_true rfl⟩) rfl rfl (Nat.le_of_ble_eq_true rfl) dX4_setRain_1 ⟨Nat.le_of_ble_eq_true rfl, Nat.le_of_ble_eq_true rfl⟩ (cells2 := 1) (slots2 := 6) rfl rfl (fun E h9 => hf.trans (xb_l h9)) (Nat.le_of_ble_eq_true rfl) (Nat.le_of_ble_eq_true rfl) ?_
  intro x1 H locs hP hD hS
  replace hf := hf.trans (xb_r x1)
  refine lv_iload_n hx hb dX4_setRain_4 rfl (lv_at hl 2 rfl) ?_
  refine lv_iconst (v := nI 0) hx hb dX4_setRain_5 (by decide) ?_
  refine lv_bipush (v := nI 9) hx hb dX4_setRain_6 (by decide) ?_
  refine g_callsr (wf := (CW cy ax ad ad2)) (σ := σ) (wfc := w0) (σc := ()) hx hb hml hown hts hK hP hD hS hA hl.1 ((CW cy ax ad ad2) σ) (List.Perm.refl _) [.int (y), .int (nI 0), .int (nI 9)] (c_X4_isWithin l D cy y (nI 0) (nI 9) ) (va_cwS 3 hts gX4_setRain_X4_isWithin rfl rfl rfl (by decide +kernel) ⟨Nat.le_of_ble_eq_true rfl, Nat.le_of_ble_eq_true rfl⟩) rfl rfl (Nat.le_of_ble_eq_true rfl) dX4_setRain_8 ⟨Nat.le_of_ble_eq_true rfl, Nat.le_of_ble_eq_true rfl⟩ rfl rfl ?_
  intro r2 er2 H locs hP hD hS
  replace hf := hf.trans (ltt_r er2)
  refine lv_if_ne (tgt := 24) hx hb dX4_setRain_11 (by decide) (fun c3 => ?_) (fun c3 => ?_)
  · replace hf := hf.trans (if_neg c3)
    refine lv_aload_n hx hb dX4_setRain_24 rfl (lv_at hl 0 rfl) ?_
    refine va_get (D := D) (ci := 4) (v := .ref (ad 0)) (C := RX4) (T := TX4) (N := 2) hx hb hts hin4 hown hK hP (0) (CW_xo cy ax σ) rfl 0 (by decide) wd0 (fun _ h9 => h9) rfl dX4_setRain_25 ?_
    refine va_get (D := D) (ci := 1) (v := .ref (ad 1)) (C := RX1) (T := TX1) (N := 9) hx hb hts hin1 hown hK hP (1 + (0)) (gx_r (n := 1) rfl (gx_l (RW_ob cy ad σ.1))) rfl 0 (by decide) wd1 (fun _ h9 => h9) rfl dX4_setRain_28 ?_
    refine lv_iload_n hx hb dX4_setRain_31 rfl (lv_at hl 1 rfl) ?_
    have h4 : vp_in (x) 24 := xc_hr x1
    have h4b : tn x < 24 := tn_in h4
    refine g_iald hx hb hK hP (1 + (1)) 0 (tn x) (gx_r (n := 1) rfl (gx_l (RW_rn cy ad σ.1))) rfl rfl h4 dX4_setRain_32 ?_
    refine lv_istore_n (lv' := [(3, .int (σ.1 1 (tn x))), (0, .ref (ax 0)), (1, .int (x)), (2, .int (y))]) hx hb dX4_setRain_33 rfl hl (by decide) rfl (fun ls hl => ?_)
    refine lv_aload_n hx hb dX4_setRain_34 rfl (lv_at hl 1 rfl) ?_
    refine va_get (D := D) (ci := 4) (v := .ref (ad 0)) (C := RX4) (T := TX4) (N := 2) hx hb hts hin4 hown hK hP (0) (CW_xo cy ax σ) rfl 0 (by decide) wd0 (fun _ h9 => h9) rfl dX4_setRain_35 ?_
    refine va_get (D := D) (ci := 1) (v := .ref (ad 1)) (C := RX1) (T := TX1) (N := 9) hx hb hts hin1 hown hK hP (1 + (0)) (gx_r (n := 1) rfl (gx_l (RW_ob cy ad σ.1))) rfl 0 (by decide) wd1 (fun _ h9 => h9) rfl dX4_setRain_38 ?_
    refine lv_iload_n hx hb dX4_setRain_41 rfl (lv_at hl 2 rfl) ?_
    refine lv_iload_n hx hb dX4_setRain_42 rfl (lv_at hl 3 rfl) ?_
    have h5 : vp_in (x) 24 := xc_hr x1
    have h5b : tn x < 24 := tn_in h5
    refine g_iast (σ1 := (up σ.1 1 (tn x) y, σ.2)) hx hb hK hP hD hS (1 + (1)) 0 (tn x) (gx_r (n := 1) rfl (gx_l (RW_rn cy ad σ.1))) rfl rfl h5 (gx_setr (n := 1) rfl (gx_setl (by rw [WD_len]; omega) (RW_rn_set cy ad σ.1 (tn x) _))) dX4_setRain_43 ?_
    intro u6 eu6 H locs hP hD hS
    replace hf := hf.trans (ltt_r eu6)
    have oku6n : OkR u6.1 := (by rw [eu6]; exact OkR_upn rfl (by omega) hI)
    refine lv_iload_n hx hb dX4_setRain_44 rfl (lv_at hl 0 rfl) ?_
    exact g_endxi hx hb hr hlocks rfl hf hP hD hS (Nat.le_of_ble_eq_true rfl) (Nat.le_of_ble_eq_true rfl) dX4_setRain_45
  · replace hf := hf.trans (if_pos c3)
    exact g_throw hx hb (hml.trans hl.1.symm) hl0 hown (by decide +kernel) wd2 wd3 hat23 ot_23 htx (text := "rain is 0 to 9") (by decide +kernel) hst hT hlocks hf hP hD hS dX4_setRain_14 dX4_setRain_17 dX4_setRain_18 dX4_setRain_20 dX4_setRain_23 (Nat.le_of_ble_eq_true rfl) (Nat.le_of_ble_eq_true rfl) (Nat.le_of_ble_eq_true rfl) (Nat.le_of_ble_eq_true rfl) (Nat.le_of_ble_eq_true rfl) (Nat.le_of_ble_eq_true rfl)
def s_X4_setDemand (σ : Sg × Sg) (x : Int32) (y : Int32) : String ⊕ (Int32 × (Sg × Sg)) := xb (s_X4_checkShelter σ x) (fun _ => ltt (s_X4_isWithin y (nI 0) (nI 10)) (fun r2 => if r2 = 0 then .inl "java/lang/IllegalArgumentException" else ltt ((up σ.1 (5 + (tn x)) 1 y, σ.2)) (fun u6 => .inr (σ.1 (5 + (tn x)) 1, u6))))
abbrev rm_X4_setDemand : Room := { frames := 7, cells := 2, slots := 12, locals := 111 }
set_option maxHeartbeats 4000000 in
set_option maxRecDepth 100000 in
theorem c_X4_setDemand (l : Launch) (D : va_G) (cy : Nat → ClassId) (ax ad ad2 : Nat → Nat) (σ : Sg × Sg) (x : Int32) (y : Int32) (hI : OkR σ.1) : gMx l yX4_setDemand wsX4_setDemand rm_X4_setDemand D (Ty cy) (CW cy ax ad ad2) [.ref (ax 0), .int (x), .int (y)] σ (s_X4_setDemand σ x y) 2 12 := by
  refine gstartx cX4_setDemand 4 RX4 (by decide) rfl rfl (Nat.le_of_ble_eq_true rfl) ?_
  intro p e s m below meth c A ls hx hb hml hown hts hr hlocks hK hP hD hA hS hl hl0 hT hst htx
  have hl : lv_has ls 4 [(0, .ref (ax 0)), (1, .int (x)), (2, .int (y))] := hl
  have hf : s_X4_setDemand σ x y = s_X4_setDemand σ x y := rfl
  have hin4 : ∀ w ∈ wsX40, w ∈ wsX4_setDemand := by decide +kernel
  have hin1 : ∀ w ∈ wsX10, w ∈ wsX4_setDemand := by decide +kernel
  have hin2 : ∀ w ∈ wsX20, w ∈ wsX4_setDemand := by decide +kernel
  have hat23 := hat_x (names := ["java/lang/RuntimeException", "java/lang/Exception"]) (fun w hw => hts w (by unfold wsX4_setDemand; simp only [List.mem_cons, List.mem_append, hw, true_or, or_true])) ng_23 (by decide) htx
  have wd0 := hts (.fieldLink RX4 10 "UmbrellaLand" "now" "LUmbrellaLand$Republic;") (by decide +kernel)
  have wd1 := hts (.fieldLink RX4 88 "UmbrellaLand$Republic" "shelters" "[LUmbrellaLand$Shelter;") (by decide +kernel)
  have wd2 := hts (.fieldLink RX4 92 "UmbrellaLand$Shelter" "demand" "I") (by decide +kernel)
  have wd3 := hts (.classLink RX4 23 "java/lang/IllegalArgumentException") (by decide +kernel)
  have wd4 := hts (.initialized "java/lang/IllegalArgumentException") (by decide +kernel)
  refine lv_aload_n hx hb dX4_setDemand_0 rfl (lv_at hl 0 rfl) ?_
  refine lv_iload_n hx hb dX4_setDemand_1 rfl (lv_at hl 1 rfl) ?_
  refine g_callxv (q0 := 0) (fc := s_X4_checkShelter σ x) (f := s_X4_setDemand σ x y) hl0 hT hst htx hlocks (wf := (CW cy ax ad ad2)) (σ := σ) (wfc := (CW cy ax ad ad2)) (σc := σ) hx hb hml hown hts hK hP hD hS hA hl.1 [] pm_0 [.int (x)] (c_X4_checkShelter l D cy ax ad ad2 σ x ) (cwV 1 hts gX4_setDemand_X4_checkShelter rfl rfl rfl (by decide +kernel) ⟨Nat.le_of_ble_eq_true rfl, Nat.le_of_ble_eq_true rfl⟩) (CW_xo cy ax σ) rfl rfl rfl rfl (Nat.le_of_ble_eq_true rfl) dX4_setDemand_2 ⟨Nat.le_of_ble_eq_true rfl, Nat.le_of_ble_eq_true rfl⟩ (cells2 := 1) (slots2 := 6) rfl rfl (fun E h9 => hf.trans (xb_l h9)) (Nat.le_of_ble_eq_true rfl) (Nat.le_of_ble_eq_true rfl) ?_
  intro x1 H locs hP hD hS
  replace hf := hf.trans (xb_r x1)
  refine lv_iload_n hx hb dX4_setDemand_5 rfl (lv_at hl 2 rfl) ?_
  refine lv_iconst (v := nI 0) hx hb dX4_setDemand_6 (by decide) ?_
  refine lv_bipush (v := nI 10) hx hb dX4_setDemand_7 (by decide) ?_
  refine g_callsr (wf := (CW cy ax ad ad2)) (σ := σ) (wfc := w0) (σc := ()) hx hb hml hown hts hK hP hD hS hA hl.1 ((CW cy ax ad ad2) σ) (List.Perm.refl _) [.int (y), .int (nI 0), .int (nI 10)] (c_X4_isWithin l D cy y (nI 0) (nI 10) ) (va_cwS 3 hts gX4_setDemand_X4_isWithin rfl rfl rfl (by decide +kernel) ⟨Nat.le_of_ble_eq_true rfl, Nat.le_of_ble_eq_true rfl⟩) rfl rfl (Nat.le_of_ble_eq_true rfl) dX4_setDemand_9 ⟨Nat.le_of_ble_eq_true rfl, Nat.le_of_ble_eq_true rfl⟩ rfl rfl ?_
  intro r2 er2 H locs hP hD hS
  replace hf := hf.trans (ltt_r er2)
  refine lv_if_ne (tgt := 25) hx hb dX4_setDemand_12 (by decide) (fun c3 => ?_) (fun c3 => ?_)
  · replace hf := hf.trans (if_neg c3)
    refine lv_aload_n hx hb dX4_setDemand_25 rfl (lv_at hl 0 rfl) ?_
    refine va_get (D := D) (ci := 4) (v := .ref (ad 0)) (C := RX4) (T := TX4) (N := 2) hx hb hts hin4 hown hK hP (0) (CW_xo cy ax σ) rfl 0 (by decide) wd0 (fun _ h9 => h9) rfl dX4_setDemand_26 ?_
    refine va_get (D := D) (ci := 1) (v := .ref (ad 2)) (C := RX1) (T := TX1) (N := 9) hx hb hts hin1 hown hK hP (1 + (0)) (gx_r (n := 1) rfl (gx_l (RW_ob cy ad σ.1))) rfl 1 (by decide) wd1 (fun _ h9 => h9) rfl dX4_setDemand_29 ?_
    refine lv_iload_n hx hb dX4_setDemand_32 rfl (lv_at hl 1 rfl) ?_
    have h4 : vp_in (x) 8 := in_sh hI (xc_sh x1)
    have h4b : tn x < 8 := tn_in h4
    refine g_aald (b := ad (5 + (tn x))) hx hb hK hP (1 + (2)) 1 (tn x) (gx_r (n := 1) rfl (gx_l (RW_as cy ad σ.1))) rfl rfl h4 rfl dX4_setDemand_33 ?_
    refine va_get (D := D) (ci := 2) (v := .int (σ.1 (5 + (tn x)) 1)) (C := RX2) (T := TX2) (N := 7) hx hb hts hin2 hown hK hP (1 + (5 + (tn x))) (gx_r (n := 1) rfl (gx_l (RW_sh cy ad σ.1 h4b))) rfl 1 (by decide) wd2 (fun _ h9 => h9) rfl dX4_setDemand_34 ?_
    refine lv_istore_n (lv' := [(3, .int (σ.1 (5 + (tn x)) 1)), (0, .ref (ax 0)), (1, .int (x)), (2, .int (y))]) hx hb dX4_setDemand_37 rfl hl (by decide) rfl (fun ls hl => ?_)
    refine lv_aload_n hx hb dX4_setDemand_38 rfl (lv_at hl 1 rfl) ?_
    refine va_get (D := D) (ci := 4) (v := .ref (ad 0)) (C := RX4) (T := TX4) (N := 2) hx hb hts hin4 hown hK hP (0) (CW_xo cy ax σ) rfl 0 (by decide) wd0 (fun _ h9 => h9) rfl dX4_setDemand_39 ?_
    refine va_get (D := D) (ci := 1) (v := .ref (ad 2)) (C := RX1) (T := TX1) (N := 9) hx hb hts hin1 hown hK hP (1 + (0)) (gx_r (n := 1) rfl (gx_l (RW_ob cy ad σ.1))) rfl 1 (by decide) wd1 (fun _ h9 => h9) rfl dX4_setDemand_42 ?_
    refine lv_iload_n hx hb dX4_setDemand_45 rfl (lv_at hl 2 rfl) ?_
    have h5 : vp_in (x) 8 := in_sh hI (xc_sh x1)
    have h5b : tn x < 8 := tn_in h5
    refine g_aald (b := ad (5 + (tn x))) hx hb hK hP (1 + (2)) 1 (tn x) (gx_r (n := 1) rfl (gx_l (RW_as cy ad σ.1))) rfl rfl h5 rfl dX4_setDemand_46 ?_
    refine lv_iload_n hx hb dX4_setDemand_47 rfl (lv_at hl 3 rfl) ?_
    refine g_put (σ1 := (up σ.1 (5 + (tn x)) 1 y, σ.2)) (fs := shF (σ.1 (5 + (tn x)))) (C := RX2) (T := TX2) (N := 7) hx hb hts hin2 tyX2_ok nmX2 hown hK hP hD hS (1 + (5 + (tn x))) (gx_r (n := 1) rfl (gx_l (RW_sh cy ad σ.1 h5b))) rfl 1 (by decide) wd2 rfl rfl (Nat.le_of_ble_eq_true rfl) (gx_setr (n := 1) rfl (gx_setl (by rw [WD_len]; omega) (RW_sh_set cy ad σ.1 h5b 1 (by decide) _))) dX4_setDemand_48 ?_
    intro u6 eu6 H locs hP hD hS
    replace hf := hf.trans (ltt_r eu6)
    have oku6n : OkR u6.1 := (by rw [eu6]; exact OkR_upn rfl (by omega) hI)
    refine lv_iload_n hx hb dX4_setDemand_51 rfl (lv_at hl 0 rfl) ?_
    exact g_endxi hx hb hr hlocks rfl hf hP hD hS (Nat.le_of_ble_eq_true rfl) (Nat.le_of_ble_eq_true rfl) dX4_setDemand_52
  · replace hf := hf.trans (if_pos c3)
    exact g_throw hx hb (hml.trans hl.1.symm) hl0 hown (by decide +kernel) wd3 wd4 hat23 ot_23 htx (text := "demand is 0 to 10") (by decide +kernel) hst hT hlocks hf hP hD hS dX4_setDemand_15 dX4_setDemand_18 dX4_setDemand_19 dX4_setDemand_21 dX4_setDemand_24 (Nat.le_of_ble_eq_true rfl) (Nat.le_of_ble_eq_true rfl) (Nat.le_of_ble_eq_true rfl) (Nat.le_of_ble_eq_true rfl) (Nat.le_of_ble_eq_true rfl) (Nat.le_of_ble_eq_true rfl)
def s_X4_shelter (σ : Sg × Sg) (x : Int32) (y : Int32) : String ⊕ (Int32 × (Sg × Sg)) := xb (s_X4_checkShelter σ x) (fun _ => xb (s_X4_checkWhat y (nI 8)) (fun _ => ltt (s_X1_tellShelter σ.1 x y) (fun r3 => .inr (r3, σ))))
abbrev rm_X4_shelter : Room := { frames := 7, cells := 2, slots := 12, locals := 111 }
set_option maxHeartbeats 4000000 in
set_option maxRecDepth 100000 in
theorem c_X4_shelter (l : Launch) (D : va_G) (cy : Nat → ClassId) (ax ad ad2 : Nat → Nat) (σ : Sg × Sg) (x : Int32) (y : Int32) (hI : OkR σ.1) : gMx l yX4_shelter wsX4_shelter rm_X4_shelter D (Ty cy) (CW cy ax ad ad2) [.ref (ax 0), .int (x), .int (y)] σ (s_X4_shelter σ x y) 2 12 := by
  refine gstartx cX4_shelter 3 RX4 (by decide) rfl rfl (Nat.le_of_ble_eq_true rfl) ?_
  intro p e s m below meth c A ls hx hb hml hown hts hr hlocks hK hP hD hA hS hl hl0 hT hst htx
  have hl : lv_has ls 3 [(0, .ref (ax 0)), (1, .int (x)), (2, .int (y))] := hl
  have hf : s_X4_shelter σ x y = s_X4_shelter σ x y := rfl
  have hin4 : ∀ w ∈ wsX40, w ∈ wsX4_shelter := by decide +kernel
  have wd0 := hts (.fieldLink RX4 10 "UmbrellaLand" "now" "LUmbrellaLand$Republic;") (by decide +kernel)
  refine lv_aload_n hx hb dX4_shelter_0 rfl (lv_at hl 0 rfl) ?_
  refine lv_iload_n hx hb dX4_shelter_1 rfl (lv_at hl 1 rfl) ?_
  refine g_callxv (q0 := 0) (fc := s_X4_checkShelter σ x) (f := s_X4_shelter σ x y) hl0 hT hst htx hlocks (wf := (CW cy ax ad ad2)) (σ := σ) (wfc := (CW cy ax ad ad2)) (σc := σ) hx hb hml hown hts hK hP hD hS hA hl.1 [] pm_0 [.int (x)] (c_X4_checkShelter l D cy ax ad ad2 σ x ) (cwV 1 hts gX4_shelter_X4_checkShelter rfl rfl rfl (by decide +kernel) ⟨Nat.le_of_ble_eq_true rfl, Nat.le_of_ble_eq_true rfl⟩) (CW_xo cy ax σ) rfl rfl rfl rfl (Nat.le_of_ble_eq_true rfl) dX4_shelter_2 ⟨Nat.le_of_ble_eq_true rfl, Nat.le_of_ble_eq_true rfl⟩ (cells2 := 1) (slots2 := 6) rfl rfl (fun E h9 => hf.trans (xb_l h9)) (Nat.le_of_ble_eq_true rfl) (Nat.le_of_ble_eq_true rfl) ?_
  intro x1 H locs hP hD hS
  replace hf := hf.trans (xb_r x1)
  refine lv_iload_n hx hb dX4_shelter_5 rfl (lv_at hl 2 rfl) ?_
  refine lv_bipush (v := nI 8) hx hb dX4_shelter_6 (by decide) ?_
  refine g_callxsv (fc := s_X4_checkWhat y (nI 8)) (f := s_X4_shelter σ x y) hl0 hT hst htx hlocks (wf := (CW cy ax ad ad2)) (σ := σ) (wfc := w0) (σc := ()) hx hb hml hown hts hK hP hD hS hA hl.1 ((CW cy ax ad ad2) σ) (List.Perm.refl _) [.int (y), .int (nI 8)] (c_X4_checkWhat l D cy y (nI 8) ) (va_cwS 2 hts gX4_shelter_X4_checkWhat rfl rfl rfl (by decide +kernel) ⟨Nat.le_of_ble_eq_true rfl, Nat.le_of_ble_eq_true rfl⟩) rfl rfl (Nat.le_of_ble_eq_true rfl) dX4_shelter_8 ⟨Nat.le_of_ble_eq_true rfl, Nat.le_of_ble_eq_true rfl⟩ (cells2 := 2) (slots2 := 12) rfl rfl (fun E h9 => hf.trans (xb_l h9)) (Nat.le_of_ble_eq_true rfl) (Nat.le_of_ble_eq_true rfl) ?_
  intro x2 H locs hP hD hS
  replace hf := hf.trans (xb_r x2)
  refine lv_aload_n hx hb dX4_shelter_11 rfl (lv_at hl 0 rfl) ?_
  refine va_get (D := D) (ci := 4) (v := .ref (ad 0)) (C := RX4) (T := TX4) (N := 2) hx hb hts hin4 hown hK hP (0) (CW_xo cy ax σ) rfl 0 (by decide) wd0 (fun _ h9 => h9) rfl dX4_shelter_12 ?_
  refine lv_iload_n hx hb dX4_shelter_15 rfl (lv_at hl 1 rfl) ?_
  refine lv_iload_n hx hb dX4_shelter_16 rfl (lv_at hl 2 rfl) ?_
  refine g_callr (q0 := 1 + (0)) (wf := (CW cy ax ad ad2)) (σ := σ) (wfc := (RW cy ad)) (σc := σ.1) hx hb hml hown hts hK hP hD hS hA hl.1 (xoC ax ad ad2 ++ RW cy ad2 (σ.2)) pm_n [.int (x), .int (y)] (c_X1_tellShelter l D cy ad σ.1 x y hI) (cwV 2 hts gX4_shelter_X1_tellShelter rfl rfl rfl (by decide +kernel) ⟨Nat.le_of_ble_eq_true rfl, Nat.le_of_ble_eq_true rfl⟩) (gx_r (n := 1) rfl (gx_l (RW_ob cy ad σ.1))) rfl rfl rfl rfl (Nat.le_of_ble_eq_true rfl) dX4_shelter_17 ⟨Nat.le_of_ble_eq_true rfl, Nat.le_of_ble_eq_true rfl⟩ rfl rfl ?_
  intro r3 er3 H locs hP hD hS
  replace hf := hf.trans (ltt_r er3)
  exact g_endxi hx hb hr hlocks rfl hf hP hD hS (Nat.le_of_ble_eq_true rfl) (Nat.le_of_ble_eq_true rfl) dX4_shelter_20
def s_X4_umbrella (σ : Sg × Sg) (x : Int32) (y : Int32) : String ⊕ (Int32 × (Sg × Sg)) := xb (s_X4_checkUmbrella σ x) (fun _ => xb (s_X4_checkWhat y (nI 6)) (fun _ => ltt (s_X3_tell σ.1 (tn x) y) (fun r4 => .inr (r4, σ))))
abbrev rm_X4_umbrella : Room := { frames := 7, cells := 2, slots := 12, locals := 111 }
set_option maxHeartbeats 4000000 in
set_option maxRecDepth 100000 in
theorem c_X4_umbrella (l : Launch) (D : va_G) (cy : Nat → ClassId) (ax ad ad2 : Nat → Nat) (σ : Sg × Sg) (x : Int32) (y : Int32) (hI : OkR σ.1) : gMx l yX4_umbrella wsX4_umbrella rm_X4_umbrella D (Ty cy) (CW cy ax ad ad2) [.ref (ax 0), .int (x), .int (y)] σ (s_X4_umbrella σ x y) 2 12 := by
  refine gstartx cX4_umbrella 3 RX4 (by decide) rfl rfl (Nat.le_of_ble_eq_true rfl) ?_
  intro p e s m below meth c A ls hx hb hml hown hts hr hlocks hK hP hD hA hS hl hl0 hT hst htx
  have hl : lv_has ls 3 [(0, .ref (ax 0)), (1, .int (x)), (2, .int (y))] := hl
  have hf : s_X4_umbrella σ x y = s_X4_umbrella σ x y := rfl
  have hin4 : ∀ w ∈ wsX40, w ∈ wsX4_umbrella := by decide +kernel
  have hin1 : ∀ w ∈ wsX10, w ∈ wsX4_umbrella := by decide +kernel
  have wd0 := hts (.fieldLink RX4 10 "UmbrellaLand" "now" "LUmbrellaLand$Republic;") (by decide +kernel)
  have wd1 := hts (.fieldLink RX4 107 "UmbrellaLand$Republic" "umbrellas" "[LUmbrellaLand$Umbrella;") (by decide +kernel)
  refine lv_aload_n hx hb dX4_umbrella_0 rfl (lv_at hl 0 rfl) ?_
  refine lv_iload_n hx hb dX4_umbrella_1 rfl (lv_at hl 1 rfl) ?_
  refine g_callxv (q0 := 0) (fc := s_X4_checkUmbrella σ x) (f := s_X4_umbrella σ x y) hl0 hT hst htx hlocks (wf := (CW cy ax ad ad2)) (σ := σ) (wfc := (CW cy ax ad ad2)) (σc := σ) hx hb hml hown hts hK hP hD hS hA hl.1 [] pm_0 [.int (x)] (c_X4_checkUmbrella l D cy ax ad ad2 σ x ) (cwV 1 hts gX4_umbrella_X4_checkUmbrella rfl rfl rfl (by decide +kernel) ⟨Nat.le_of_ble_eq_true rfl, Nat.le_of_ble_eq_true rfl⟩) (CW_xo cy ax σ) rfl rfl rfl rfl (Nat.le_of_ble_eq_true rfl) dX4_umbrella_2 ⟨Nat.le_of_ble_eq_true rfl, Nat.le_of_ble_eq_true rfl⟩ (cells2 := 1) (slots2 := 6) rfl rfl (fun E h9 => hf.trans (xb_l h9)) (Nat.le_of_ble_eq_true rfl) (Nat.le_of_ble_eq_true rfl) ?_
  intro x1 H locs hP hD hS
  replace hf := hf.trans (xb_r x1)
  refine lv_iload_n hx hb dX4_umbrella_5 rfl (lv_at hl 2 rfl) ?_
  refine lv_bipush (v := nI 6) hx hb dX4_umbrella_6 (by decide) ?_
  refine g_callxsv (fc := s_X4_checkWhat y (nI 6)) (f := s_X4_umbrella σ x y) hl0 hT hst htx hlocks (wf := (CW cy ax ad ad2)) (σ := σ) (wfc := w0) (σc := ()) hx hb hml hown hts hK hP hD hS hA hl.1 ((CW cy ax ad ad2) σ) (List.Perm.refl _) [.int (y), .int (nI 6)] (c_X4_checkWhat l D cy y (nI 6) ) (va_cwS 2 hts gX4_umbrella_X4_checkWhat rfl rfl rfl (by decide +kernel) ⟨Nat.le_of_ble_eq_true rfl, Nat.le_of_ble_eq_true rfl⟩) rfl rfl (Nat.le_of_ble_eq_true rfl) dX4_umbrella_8 ⟨Nat.le_of_ble_eq_true rfl, Nat.le_of_ble_eq_true rfl⟩ (cells2 := 2) (slots2 := 12) rfl rfl (fun E h9 => hf.trans (xb_l h9)) (Nat.le_of_ble_eq_true rfl) (Nat.le_of_ble_eq_true rfl) ?_
  intro x2 H locs hP hD hS
  replace hf := hf.trans (xb_r x2)
  refine lv_aload_n hx hb dX4_umbrella_11 rfl (lv_at hl 0 rfl) ?_
  refine va_get (D := D) (ci := 4) (v := .ref (ad 0)) (C := RX4) (T := TX4) (N := 2) hx hb hts hin4 hown hK hP (0) (CW_xo cy ax σ) rfl 0 (by decide) wd0 (fun _ h9 => h9) rfl dX4_umbrella_12 ?_
  refine va_get (D := D) (ci := 1) (v := .ref (ad 3)) (C := RX1) (T := TX1) (N := 9) hx hb hts hin1 hown hK hP (1 + (0)) (gx_r (n := 1) rfl (gx_l (RW_ob cy ad σ.1))) rfl 2 (by decide) wd1 (fun _ h9 => h9) rfl dX4_umbrella_15 ?_
  refine lv_iload_n hx hb dX4_umbrella_18 rfl (lv_at hl 1 rfl) ?_
  have h3 : vp_in (x) 40 := in_um hI (xc_um x1)
  have h3b : tn x < 40 := tn_in h3
  refine g_aald (b := ad (13 + (tn x))) hx hb hK hP (1 + (3)) 2 (tn x) (gx_r (n := 1) rfl (gx_l (RW_au cy ad σ.1))) rfl rfl h3 rfl dX4_umbrella_19 ?_
  refine lv_iload_n hx hb dX4_umbrella_20 rfl (lv_at hl 2 rfl) ?_
  refine g_callr (q0 := 1 + (13 + (tn x))) (wf := (CW cy ax ad ad2)) (σ := σ) (wfc := (RW cy ad)) (σc := σ.1) hx hb hml hown hts hK hP hD hS hA hl.1 (xoC ax ad ad2 ++ RW cy ad2 (σ.2)) pm_n [.int (y)] (c_X3_tell l D cy ad σ.1 (tn x) y h3b) (cwV 1 hts gX4_umbrella_X3_tell rfl rfl rfl (by decide +kernel) ⟨Nat.le_of_ble_eq_true rfl, Nat.le_of_ble_eq_true rfl⟩) (gx_r (n := 1) rfl (gx_l (RW_um cy ad σ.1 h3b))) rfl rfl rfl rfl (Nat.le_of_ble_eq_true rfl) dX4_umbrella_21 ⟨Nat.le_of_ble_eq_true rfl, Nat.le_of_ble_eq_true rfl⟩ rfl rfl ?_
  intro r4 er4 H locs hP hD hS
  replace hf := hf.trans (ltt_r er4)
  exact g_endxi hx hb hr hlocks rfl hf hP hD hS (Nat.le_of_ble_eq_true rfl) (Nat.le_of_ble_eq_true rfl) dX4_umbrella_24
def s_X4_citizen (σ : Sg × Sg) (x : Int32) (y : Int32) : String ⊕ (Int32 × (Sg × Sg)) := xb (s_X4_checkCitizen σ x) (fun _ => xb (s_X4_checkWhat y (nI 10)) (fun _ => ltt (s_X0_tell σ.1 (tn x) y) (fun r4 => .inr (r4, σ))))
abbrev rm_X4_citizen : Room := { frames := 7, cells := 2, slots := 12, locals := 111 }
set_option maxHeartbeats 4000000 in
set_option maxRecDepth 100000 in
theorem c_X4_citizen (l : Launch) (D : va_G) (cy : Nat → ClassId) (ax ad ad2 : Nat → Nat) (σ : Sg × Sg) (x : Int32) (y : Int32) (hI : OkR σ.1) : gMx l yX4_citizen wsX4_citizen rm_X4_citizen D (Ty cy) (CW cy ax ad ad2) [.ref (ax 0), .int (x), .int (y)] σ (s_X4_citizen σ x y) 2 12 := by
  refine gstartx cX4_citizen 3 RX4 (by decide) rfl rfl (Nat.le_of_ble_eq_true rfl) ?_
  intro p e s m below meth c A ls hx hb hml hown hts hr hlocks hK hP hD hA hS hl hl0 hT hst htx
  have hl : lv_has ls 3 [(0, .ref (ax 0)), (1, .int (x)), (2, .int (y))] := hl
  have hf : s_X4_citizen σ x y = s_X4_citizen σ x y := rfl
  have hin4 : ∀ w ∈ wsX40, w ∈ wsX4_citizen := by decide +kernel
  have hin1 : ∀ w ∈ wsX10, w ∈ wsX4_citizen := by decide +kernel
  have wd0 := hts (.fieldLink RX4 10 "UmbrellaLand" "now" "LUmbrellaLand$Republic;") (by decide +kernel)
  have wd1 := hts (.fieldLink RX4 120 "UmbrellaLand$Republic" "citizens" "[LUmbrellaLand$Citizen;") (by decide +kernel)
  refine lv_aload_n hx hb dX4_citizen_0 rfl (lv_at hl 0 rfl) ?_
  refine lv_iload_n hx hb dX4_citizen_1 rfl (lv_at hl 1 rfl) ?_
  refine g_callxv (q0 := 0) (fc := s_X4_checkCitizen σ x) (f := s_X4_citizen σ x y) hl0 hT hst htx hlocks (wf := (CW cy ax ad ad2)) (σ := σ) (wfc := (CW cy ax ad ad2)) (σc := σ) hx hb hml hown hts hK hP hD hS hA hl.1 [] pm_0 [.int (x)] (c_X4_checkCitizen l D cy ax ad ad2 σ x ) (cwV 1 hts gX4_citizen_X4_checkCitizen rfl rfl rfl (by decide +kernel) ⟨Nat.le_of_ble_eq_true rfl, Nat.le_of_ble_eq_true rfl⟩) (CW_xo cy ax σ) rfl rfl rfl rfl (Nat.le_of_ble_eq_true rfl) dX4_citizen_2 ⟨Nat.le_of_ble_eq_true rfl, Nat.le_of_ble_eq_true rfl⟩ (cells2 := 1) (slots2 := 6) rfl rfl (fun E h9 => hf.trans (xb_l h9)) (Nat.le_of_ble_eq_true rfl) (Nat.le_of_ble_eq_true rfl) ?_
  intro x1 H locs hP hD hS
  replace hf := hf.trans (xb_r x1)
  refine lv_iload_n hx hb dX4_citizen_5 rfl (lv_at hl 2 rfl) ?_
  refine lv_bipush (v := nI 10) hx hb dX4_citizen_6 (by decide) ?_
  refine g_callxsv (fc := s_X4_checkWhat y (nI 10)) (f := s_X4_citizen σ x y) hl0 hT hst htx hlocks (wf := (CW cy ax ad ad2)) (σ := σ) (wfc := w0) (σc := ()) hx hb hml hown hts hK hP hD hS hA hl.1 ((CW cy ax ad ad2) σ) (List.Perm.refl _) [.int (y), .int (nI 10)] (c_X4_checkWhat l D cy y (nI 10) ) (va_cwS 2 hts gX4_citizen_X4_checkWhat rfl rfl rfl (by decide +kernel) ⟨Nat.le_of_ble_eq_true rfl, Nat.le_of_ble_eq_true rfl⟩) rfl rfl (Nat.le_of_ble_eq_true rfl) dX4_citizen_8 ⟨Nat.le_of_ble_eq_true rfl, Nat.le_of_ble_eq_true rfl⟩ (cells2 := 2) (slots2 := 12) rfl rfl (fun E h9 => hf.trans (xb_l h9)) (Nat.le_of_ble_eq_true rfl) (Nat.le_of_ble_eq_true rfl) ?_
  intro x2 H locs hP hD hS
  replace hf := hf.trans (xb_r x2)
  refine lv_aload_n hx hb dX4_citizen_11 rfl (lv_at hl 0 rfl) ?_
  refine va_get (D := D) (ci := 4) (v := .ref (ad 0)) (C := RX4) (T := TX4) (N := 2) hx hb hts hin4 hown hK hP (0) (CW_xo cy ax σ) rfl 0 (by decide) wd0 (fun _ h9 => h9) rfl dX4_citizen_12 ?_
  refine va_get (D := D) (ci := 1) (v := .ref (ad 4)) (C := RX1) (T := TX1) (N := 9) hx hb hts hin1 hown hK hP (1 + (0)) (gx_r (n := 1) rfl (gx_l (RW_ob cy ad σ.1))) rfl 3 (by decide) wd1 (fun _ h9 => h9) rfl dX4_citizen_15 ?_
  refine lv_iload_n hx hb dX4_citizen_18 rfl (lv_at hl 1 rfl) ?_
  have h3 : vp_in (x) 10 := in_ci hI (xc_ci x1)
  have h3b : tn x < 10 := tn_in h3
  refine g_aald (b := ad (53 + (tn x))) hx hb hK hP (1 + (4)) 3 (tn x) (gx_r (n := 1) rfl (gx_l (RW_ac cy ad σ.1))) rfl rfl h3 rfl dX4_citizen_19 ?_
  refine lv_iload_n hx hb dX4_citizen_20 rfl (lv_at hl 2 rfl) ?_
  refine g_callr (q0 := 1 + (53 + (tn x))) (wf := (CW cy ax ad ad2)) (σ := σ) (wfc := (RW cy ad)) (σc := σ.1) hx hb hml hown hts hK hP hD hS hA hl.1 (xoC ax ad ad2 ++ RW cy ad2 (σ.2)) pm_n [.int (y)] (c_X0_tell l D cy ad σ.1 (tn x) y h3b) (cwV 1 hts gX4_citizen_X0_tell rfl rfl rfl (by decide +kernel) ⟨Nat.le_of_ble_eq_true rfl, Nat.le_of_ble_eq_true rfl⟩) (gx_r (n := 1) rfl (gx_l (RW_ci cy ad σ.1 h3b))) rfl rfl rfl rfl (Nat.le_of_ble_eq_true rfl) dX4_citizen_21 ⟨Nat.le_of_ble_eq_true rfl, Nat.le_of_ble_eq_true rfl⟩ rfl rfl ?_
  intro r4 er4 H locs hP hD hS
  replace hf := hf.trans (ltt_r er4)
  exact g_endxi hx hb hr hlocks rfl hf hP hD hS (Nat.le_of_ble_eq_true rfl) (Nat.le_of_ble_eq_true rfl) dX4_citizen_24
def s_X4_count (σ : Sg × Sg) (x : Int32) : String ⊕ (Int32 × (Sg × Sg)) := xb (s_X4_checkWhat x (nI 11)) (fun _ => ltt (s_X1_tellAll σ.1 x) (fun r2 => .inr (r2, σ)))
abbrev rm_X4_count : Room := { frames := 7, cells := 1, slots := 6, locals := 111 }
set_option maxHeartbeats 4000000 in
set_option maxRecDepth 100000 in
theorem c_X4_count (l : Launch) (D : va_G) (cy : Nat → ClassId) (ax ad ad2 : Nat → Nat) (σ : Sg × Sg) (x : Int32) (hI : OkR σ.1) : gMx l yX4_count wsX4_count rm_X4_count D (Ty cy) (CW cy ax ad ad2) [.ref (ax 0), .int (x)] σ (s_X4_count σ x) 1 6 := by
  refine gstartx cX4_count 2 RX4 (by decide) rfl rfl (Nat.le_of_ble_eq_true rfl) ?_
  intro p e s m below meth c A ls hx hb hml hown hts hr hlocks hK hP hD hA hS hl hl0 hT hst htx
  have hl : lv_has ls 2 [(0, .ref (ax 0)), (1, .int (x))] := hl
  have hf : s_X4_count σ x = s_X4_count σ x := rfl
  have hin4 : ∀ w ∈ wsX40, w ∈ wsX4_count := by decide +kernel
  have wd0 := hts (.fieldLink RX4 10 "UmbrellaLand" "now" "LUmbrellaLand$Republic;") (by decide +kernel)
  refine lv_iload_n hx hb dX4_count_0 rfl (lv_at hl 1 rfl) ?_
  refine lv_bipush (v := nI 11) hx hb dX4_count_1 (by decide) ?_
  refine g_callxsv (fc := s_X4_checkWhat x (nI 11)) (f := s_X4_count σ x) hl0 hT hst htx hlocks (wf := (CW cy ax ad ad2)) (σ := σ) (wfc := w0) (σc := ()) hx hb hml hown hts hK hP hD hS hA hl.1 ((CW cy ax ad ad2) σ) (List.Perm.refl _) [.int (x), .int (nI 11)] (c_X4_checkWhat l D cy x (nI 11) ) (va_cwS 2 hts gX4_count_X4_checkWhat rfl rfl rfl (by decide +kernel) ⟨Nat.le_of_ble_eq_true rfl, Nat.le_of_ble_eq_true rfl⟩) rfl rfl (Nat.le_of_ble_eq_true rfl) dX4_count_3 ⟨Nat.le_of_ble_eq_true rfl, Nat.le_of_ble_eq_true rfl⟩ (cells2 := 1) (slots2 := 6) rfl rfl (fun E h9 => hf.trans (xb_l h9)) (Nat.le_of_ble_eq_true rfl) (Nat.le_of_ble_eq_true rfl) ?_
  intro x1 H locs hP hD hS
  replace hf := hf.trans (xb_r x1)
  refine lv_aload_n hx hb dX4_count_6 rfl (lv_at hl 0 rfl) ?_
  refine va_get (D := D) (ci := 4) (v := .ref (ad 0)) (C := RX4) (T := TX4) (N := 2) hx hb hts hin4 hown hK hP (0) (CW_xo cy ax σ) rfl 0 (by decide) wd0 (fun _ h9 => h9) rfl dX4_count_7 ?_
  refine lv_iload_n hx hb dX4_count_10 rfl (lv_at hl 1 rfl) ?_
  refine g_callr (q0 := 1 + (0)) (wf := (CW cy ax ad ad2)) (σ := σ) (wfc := (RW cy ad)) (σc := σ.1) hx hb hml hown hts hK hP hD hS hA hl.1 (xoC ax ad ad2 ++ RW cy ad2 (σ.2)) pm_n [.int (x)] (c_X1_tellAll l D cy ad σ.1 x hI) (cwV 1 hts gX4_count_X1_tellAll rfl rfl rfl (by decide +kernel) ⟨Nat.le_of_ble_eq_true rfl, Nat.le_of_ble_eq_true rfl⟩) (gx_r (n := 1) rfl (gx_l (RW_ob cy ad σ.1))) rfl rfl rfl rfl (Nat.le_of_ble_eq_true rfl) dX4_count_11 ⟨Nat.le_of_ble_eq_true rfl, Nat.le_of_ble_eq_true rfl⟩ rfl rfl ?_
  intro r2 er2 H locs hP hD hS
  replace hf := hf.trans (ltt_r er2)
  exact g_endxi hx hb hr hlocks rfl hf hP hD hS (Nat.le_of_ble_eq_true rfl) (Nat.le_of_ble_eq_true rfl) dX4_count_14
def s_X4_pass (σ : Sg × Sg) (x : Int32) : String ⊕ (Int32 × (Sg × Sg)) := xb (s_X4_checkHours x (nI 100)) (fun _ => ltt (s_X1_letGoBy σ.1 (tn x)) (fun r3 => .inr (r3.1, (r3.2, σ.2))))
abbrev rm_X4_pass : Room := { frames := 7, cells := 1, slots := 6, locals := 117 }
set_option maxHeartbeats 4000000 in
set_option maxRecDepth 100000 in
theorem c_X4_pass (l : Launch) (D : va_G) (cy : Nat → ClassId) (ax ad ad2 : Nat → Nat) (σ : Sg × Sg) (x : Int32) (hI : OkR σ.1) : gMx l yX4_pass wsX4_pass rm_X4_pass D (Ty cy) (CW cy ax ad ad2) [.ref (ax 0), .int (x)] σ (s_X4_pass σ x) 1 6 := by
  refine gstartx cX4_pass 2 RX4 (by decide) rfl rfl (Nat.le_of_ble_eq_true rfl) ?_
  intro p e s m below meth c A ls hx hb hml hown hts hr hlocks hK hP hD hA hS hl hl0 hT hst htx
  have hl : lv_has ls 2 [(0, .ref (ax 0)), (1, .int (x))] := hl
  have hf : s_X4_pass σ x = s_X4_pass σ x := rfl
  have hin4 : ∀ w ∈ wsX40, w ∈ wsX4_pass := by decide +kernel
  have wd0 := hts (.fieldLink RX4 10 "UmbrellaLand" "now" "LUmbrellaLand$Republic;") (by decide +kernel)
  refine lv_iload_n hx hb dX4_pass_0 rfl (lv_at hl 1 rfl) ?_
  refine lv_bipush (v := nI 100) hx hb dX4_pass_1 (by decide) ?_
  refine g_callxsv (fc := s_X4_checkHours x (nI 100)) (f := s_X4_pass σ x) hl0 hT hst htx hlocks (wf := (CW cy ax ad ad2)) (σ := σ) (wfc := w0) (σc := ()) hx hb hml hown hts hK hP hD hS hA hl.1 ((CW cy ax ad ad2) σ) (List.Perm.refl _) [.int (x), .int (nI 100)] (c_X4_checkHours l D cy x (nI 100) ) (va_cwS 2 hts gX4_pass_X4_checkHours rfl rfl rfl (by decide +kernel) ⟨Nat.le_of_ble_eq_true rfl, Nat.le_of_ble_eq_true rfl⟩) rfl rfl (Nat.le_of_ble_eq_true rfl) dX4_pass_3 ⟨Nat.le_of_ble_eq_true rfl, Nat.le_of_ble_eq_true rfl⟩ (cells2 := 1) (slots2 := 6) rfl rfl (fun E h9 => hf.trans (xb_l h9)) (Nat.le_of_ble_eq_true rfl) (Nat.le_of_ble_eq_true rfl) ?_
  intro x1 H locs hP hD hS
  replace hf := hf.trans (xb_r x1)
  refine lv_aload_n hx hb dX4_pass_6 rfl (lv_at hl 0 rfl) ?_
  refine va_get (D := D) (ci := 4) (v := .ref (ad 0)) (C := RX4) (T := TX4) (N := 2) hx hb hts hin4 hown hK hP (0) (CW_xo cy ax σ) rfl 0 (by decide) wd0 (fun _ h9 => h9) rfl dX4_pass_7 ?_
  refine lv_iload_n hx hb dX4_pass_10 rfl (lv_at hl 1 rfl) ?_
  have h2 : vp_in x 101 := xc_hours x1 (by decide)
  have h2b : tn x < 101 := tn_in h2
  refine g_top (tn_eq h2 (by decide)) ?_
  refine g_calli (q0 := 1 + (0)) (wf := (CW cy ax ad ad2)) (σ := σ) (wfc := (RW cy ad)) (σc := σ.1) hx hb hml hown hts hK hP hD hS hA hl.1 (xoC ax ad ad2 ++ RW cy ad2 (σ.2)) pm_n (fun u => (u, σ.2)) (fun _ => pm_n.symm) [.int (nI (tn x))] (c_X1_letGoBy l D cy ad σ.1 (tn x) (by omega) hI) (cwV 1 hts gX4_pass_X1_letGoBy rfl rfl rfl (by decide +kernel) ⟨Nat.le_of_ble_eq_true rfl, Nat.le_of_ble_eq_true rfl⟩) (gx_r (n := 1) rfl (gx_l (RW_ob cy ad σ.1))) rfl rfl rfl rfl (Nat.le_of_ble_eq_true rfl) dX4_pass_11 ⟨Nat.le_of_ble_eq_true rfl, Nat.le_of_ble_eq_true rfl⟩ rfl rfl ?_
  intro r3 er3 H locs hP hD hS
  replace hf := hf.trans (ltt_r er3)
  have okr3 : OkR r3.2 := (by rw [er3]; exact ok_X1_letGoBy σ.1 (tn x) hI)
  exact g_endxi hx hb hr hlocks rfl hf hP hD hS (Nat.le_of_ble_eq_true rfl) (Nat.le_of_ble_eq_true rfl) dX4_pass_14
def s_X4_foresee (σ : Sg × Sg) (x : Int32) (y : Int32) : String ⊕ (Int32 × (Sg × Sg)) := xb (s_X4_checkHours x (nI 100)) (fun _ => xb (s_X4_checkWhat y (nI 5)) (fun _ => ltt (s_X1_becomeLike σ) (fun u3 => ltt (s_X1_letGoBy u3.2 (tn x)) (fun r5 => if y = nI 0 then ltt (s_X1_wetOfAll r5.2) (fun r7 => .inr (r7, (u3.1, r5.2))) else if y = nI 1 then ltt (s_X1_umbrellasThatAre r5.2 (nI 0)) (fun r9 => .inr (r9, (u3.1, r5.2))) else if y = nI 2 then ltt (s_X1_umbrellasThatAre r5.2 (nI 2)) (fun r11 => .inr (r11, (u3.1, r5.2))) else if y = nI 3 then ltt (s_X1_umbrellasThatAre r5.2 (nI 3)) (fun r13 => .inr (r13, (u3.1, r5.2))) else ltt (s_X1_trustOfAll r5.2) (fun r14 => .inr (r14, (u3.1, r5.2)))))))
abbrev rm_X4_foresee : Room := { frames := 7, cells := 2, slots := 12, locals := 117 }
set_option maxHeartbeats 4000000 in
set_option maxRecDepth 100000 in
theorem c_X4_foresee (l : Launch) (D : va_G) (cy : Nat → ClassId) (ax ad ad2 : Nat → Nat) (σ : Sg × Sg) (x : Int32) (y : Int32) (hI : OkR σ.1) : gMx l yX4_foresee wsX4_foresee rm_X4_foresee D (Ty cy) (CW cy ax ad ad2) [.ref (ax 0), .int (x), .int (y)] σ (s_X4_foresee σ x y) 2 12 := by
  refine gstartx cX4_foresee 3 RX4 (by decide) rfl rfl (Nat.le_of_ble_eq_true rfl) ?_
  intro p e s m below meth c A ls hx hb hml hown hts hr hlocks hK hP hD hA hS hl hl0 hT hst htx
  have hl : lv_has ls 3 [(0, .ref (ax 0)), (1, .int (x)), (2, .int (y))] := hl
  have hf : s_X4_foresee σ x y = s_X4_foresee σ x y := rfl
  have hin4 : ∀ w ∈ wsX40, w ∈ wsX4_foresee := by decide +kernel
  have wd0 := hts (.fieldLink RX4 16 "UmbrellaLand" "ahead" "LUmbrellaLand$Republic;") (by decide +kernel)
  have wd1 := hts (.fieldLink RX4 10 "UmbrellaLand" "now" "LUmbrellaLand$Republic;") (by decide +kernel)
  refine lv_iload_n hx hb dX4_foresee_0 rfl (lv_at hl 1 rfl) ?_
  refine lv_bipush (v := nI 100) hx hb dX4_foresee_1 (by decide) ?_
  refine g_callxsv (fc := s_X4_checkHours x (nI 100)) (f := s_X4_foresee σ x y) hl0 hT hst htx hlocks (wf := (CW cy ax ad ad2)) (σ := σ) (wfc := w0) (σc := ()) hx hb hml hown hts hK hP hD hS hA hl.1 ((CW cy ax ad ad2) σ) (List.Perm.refl _) [.int (x), .int (nI 100)] (c_X4_checkHours l D cy x (nI 100) ) (va_cwS 2 hts gX4_foresee_X4_checkHours rfl rfl rfl (by decide +kernel) ⟨Nat.le_of_ble_eq_true rfl, Nat.le_of_ble_eq_true rfl⟩) rfl rfl (Nat.le_of_ble_eq_true rfl) dX4_foresee_3 ⟨Nat.le_of_ble_eq_true rfl, Nat.le_of_ble_eq_true rfl⟩ (cells2 := 1) (slots2 := 6) rfl rfl (fun E h9 => hf.trans (xb_l h9)) (Nat.le_of_ble_eq_true rfl) (Nat.le_of_ble_eq_true rfl) ?_
  intro x1 H locs hP hD hS
  replace hf := hf.trans (xb_r x1)
  refine lv_iload_n hx hb dX4_foresee_6 rfl (lv_at hl 2 rfl) ?_
  refine lv_iconst (v := nI 5) hx hb dX4_foresee_7 (by decide) ?_
  refine g_callxsv (fc := s_X4_checkWhat y (nI 5)) (f := s_X4_foresee σ x y) hl0 hT hst htx hlocks (wf := (CW cy ax ad ad2)) (σ := σ) (wfc := w0) (σc := ()) hx hb hml hown hts hK hP hD hS hA hl.1 ((CW cy ax ad ad2) σ) (List.Perm.refl _) [.int (y), .int (nI 5)] (c_X4_checkWhat l D cy y (nI 5) ) (va_cwS 2 hts gX4_foresee_X4_checkWhat rfl rfl rfl (by decide +kernel) ⟨Nat.le_of_ble_eq_true rfl, Nat.le_of_ble_eq_true rfl⟩) rfl rfl (Nat.le_of_ble_eq_true rfl) dX4_foresee_8 ⟨Nat.le_of_ble_eq_true rfl, Nat.le_of_ble_eq_true rfl⟩ (cells2 := 2) (slots2 := 12) rfl rfl (fun E h9 => hf.trans (xb_l h9)) (Nat.le_of_ble_eq_true rfl) (Nat.le_of_ble_eq_true rfl) ?_
  intro x2 H locs hP hD hS
  replace hf := hf.trans (xb_r x2)
  refine lv_aload_n hx hb dX4_foresee_11 rfl (lv_at hl 0 rfl) ?_
  refine va_get (D := D) (ci := 4) (v := .ref (ad2 0)) (C := RX4) (T := TX4) (N := 2) hx hb hts hin4 hown hK hP (0) (CW_xo cy ax σ) rfl 1 (by decide) wd0 (fun _ h9 => h9) rfl dX4_foresee_12 ?_
  refine lv_aload_n hx hb dX4_foresee_15 rfl (lv_at hl 0 rfl) ?_
  refine va_get (D := D) (ci := 4) (v := .ref (ad 0)) (C := RX4) (T := TX4) (N := 2) hx hb hts hin4 hown hK hP (0) (CW_xo cy ax σ) rfl 0 (by decide) wd1 (fun _ h9 => h9) rfl dX4_foresee_16 ?_
  refine g_callv (q0 := 1 + (63 + (0))) (wf := (CW cy ax ad ad2)) (σ := σ) (wfc := (RW2 cy ad ad2)) (σc := σ) hx hb hml hown hts hK hP hD hS hA hl.1 (xoC ax ad ad2) pm_x (fun u => u) (fun _ => pm_x.symm) [.ref (ad 0)] (c_X1_becomeLike l D cy ad ad2 σ hI) (cwV 1 hts gX4_foresee_X1_becomeLike rfl rfl rfl (by decide +kernel) ⟨Nat.le_of_ble_eq_true rfl, Nat.le_of_ble_eq_true rfl⟩) (gx_r (n := 1) rfl (gx_r (WD_len _ _ _ _) (RW_ob cy ad2 σ.2))) rfl rfl rfl rfl (Nat.le_of_ble_eq_true rfl) dX4_foresee_19 ⟨Nat.le_of_ble_eq_true rfl, Nat.le_of_ble_eq_true rfl⟩ rfl rfl ?_
  intro u3 eu3 H locs hP hD hS
  replace hf := hf.trans (ltt_r eu3)
  have oku3n : OkR u3.1 := (by rw [eu3, z1_X1_becomeLike]; exact hI)
  have oku3a : OkR u3.2 := (by rw [eu3]; exact ok_X1_becomeLike _ hI)
  refine lv_aload_n hx hb dX4_foresee_22 rfl (lv_at hl 0 rfl) ?_
  refine va_get (D := D) (ci := 4) (v := .ref (ad2 0)) (C := RX4) (T := TX4) (N := 2) hx hb hts hin4 hown hK hP (0) (CW_xo cy ax u3) rfl 1 (by decide) wd0 (fun _ h9 => h9) rfl dX4_foresee_23 ?_
  refine lv_iload_n hx hb dX4_foresee_26 rfl (lv_at hl 1 rfl) ?_
  have h4 : vp_in x 101 := xc_hours x1 (by decide)
  have h4b : tn x < 101 := tn_in h4
  refine g_top (tn_eq h4 (by decide)) ?_
  refine g_calli (q0 := 1 + (63 + (0))) (wf := (CW cy ax ad ad2)) (σ := u3) (wfc := (RW cy ad2)) (σc := u3.2) hx hb hml hown hts hK hP hD hS hA hl.1 (xoC ax ad ad2 ++ RW cy ad (u3.1)) pm_a (fun u => (u3.1, u)) (fun _ => pm_a.symm) [.int (nI (tn x))] (c_X1_letGoBy l D cy ad2 u3.2 (tn x) (by omega) oku3a) (cwV 1 hts gX4_foresee_X1_letGoBy rfl rfl rfl (by decide +kernel) ⟨Nat.le_of_ble_eq_true rfl, Nat.le_of_ble_eq_true rfl⟩) (gx_r (n := 1) rfl (gx_r (WD_len _ _ _ _) (RW_ob cy ad2 u3.2))) rfl rfl rfl rfl (Nat.le_of_ble_eq_true rfl) dX4_foresee_27 ⟨Nat.le_of_ble_eq_true rfl, Nat.le_of_ble_eq_true rfl⟩ rfl rfl ?_
  intro r5 er5 H locs hP hD hS
  replace hf := hf.trans (ltt_r er5)
  have okr5 : OkR r5.2 := (by rw [er5]; exact ok_X1_letGoBy u3.2 (tn x) oku3a)
  refine lv_pop hx hb dX4_foresee_30 rfl ?_
  refine lv_iload_n hx hb dX4_foresee_31 rfl (lv_at hl 2 rfl) ?_
  by_cases c6 : y = nI 0
  · replace hf := hf.trans (if_pos c6)
    refine lv_tableIn (off := 32) (tgt := 64) hx hb dX4_foresee_32 (by rw [c6]; decide) (by rw [c6]; decide) (by rw [c6]; rfl) (by decide) ?_
    refine lv_aload_n hx hb dX4_foresee_64 rfl (lv_at hl 0 rfl) ?_
    refine va_get (D := D) (ci := 4) (v := .ref (ad2 0)) (C := RX4) (T := TX4) (N := 2) hx hb hts hin4 hown hK hP (0) (CW_xo cy ax (u3.1, r5.2)) rfl 1 (by decide) wd0 (fun _ h9 => h9) rfl dX4_foresee_65 ?_
    refine g_callr (q0 := 1 + (63 + (0))) (wf := (CW cy ax ad ad2)) (σ := (u3.1, r5.2)) (wfc := (RW cy ad2)) (σc := r5.2) hx hb hml hown hts hK hP hD hS hA hl.1 (xoC ax ad ad2 ++ RW cy ad (u3.1)) pm_a [] (c_X1_wetOfAll l D cy ad2 r5.2 okr5) (cwV 0 hts gX4_foresee_X1_wetOfAll rfl rfl rfl (by decide +kernel) ⟨Nat.le_of_ble_eq_true rfl, Nat.le_of_ble_eq_true rfl⟩) (gx_r (n := 1) rfl (gx_r (WD_len _ _ _ _) (RW_ob cy ad2 r5.2))) rfl rfl rfl rfl (Nat.le_of_ble_eq_true rfl) dX4_foresee_68 ⟨Nat.le_of_ble_eq_true rfl, Nat.le_of_ble_eq_true rfl⟩ rfl rfl ?_
    intro r7 er7 H locs hP hD hS
    replace hf := hf.trans (ltt_r er7)
    exact g_endxi hx hb hr hlocks rfl hf hP hD hS (Nat.le_of_ble_eq_true rfl) (Nat.le_of_ble_eq_true rfl) dX4_foresee_71
  replace hf := hf.trans (if_neg c6)
  by_cases c8 : y = nI 1
  · replace hf := hf.trans (if_pos c8)
    refine lv_tableIn (off := 40) (tgt := 72) hx hb dX4_foresee_32 (by rw [c8]; decide) (by rw [c8]; decide) (by rw [c8]; rfl) (by decide) ?_
    refine lv_aload_n hx hb dX4_foresee_72 rfl (lv_at hl 0 rfl) ?_
    refine va_get (D := D) (ci := 4) (v := .ref (ad2 0)) (C := RX4) (T := TX4) (N := 2) hx hb hts hin4 hown hK hP (0) (CW_xo cy ax (u3.1, r5.2)) rfl 1 (by decide) wd0 (fun _ h9 => h9) rfl dX4_foresee_73 ?_
    refine lv_iconst (v := nI 0) hx hb dX4_foresee_76 (by decide) ?_
    refine g_callr (q0 := 1 + (63 + (0))) (wf := (CW cy ax ad ad2)) (σ := (u3.1, r5.2)) (wfc := (RW cy ad2)) (σc := r5.2) hx hb hml hown hts hK hP hD hS hA hl.1 (xoC ax ad ad2 ++ RW cy ad (u3.1)) pm_a [.int (nI 0)] (c_X1_umbrellasThatAre l D cy ad2 r5.2 (nI 0) okr5) (cwV 1 hts gX4_foresee_X1_umbrellasThatAre rfl rfl rfl (by decide +kernel) ⟨Nat.le_of_ble_eq_true rfl, Nat.le_of_ble_eq_true rfl⟩) (gx_r (n := 1) rfl (gx_r (WD_len _ _ _ _) (RW_ob cy ad2 r5.2))) rfl rfl rfl rfl (Nat.le_of_ble_eq_true rfl) dX4_foresee_77 ⟨Nat.le_of_ble_eq_true rfl, Nat.le_of_ble_eq_true rfl⟩ rfl rfl ?_
    intro r9 er9 H locs hP hD hS
    replace hf := hf.trans (ltt_r er9)
    exact g_endxi hx hb hr hlocks rfl hf hP hD hS (Nat.le_of_ble_eq_true rfl) (Nat.le_of_ble_eq_true rfl) dX4_foresee_80
  replace hf := hf.trans (if_neg c8)
  by_cases c10 : y = nI 2
  · replace hf := hf.trans (if_pos c10)
    refine lv_tableIn (off := 49) (tgt := 81) hx hb dX4_foresee_32 (by rw [c10]; decide) (by rw [c10]; decide) (by rw [c10]; rfl) (by decide) ?_
    refine lv_aload_n hx hb dX4_foresee_81 rfl (lv_at hl 0 rfl) ?_
    refine va_get (D := D) (ci := 4) (v := .ref (ad2 0)) (C := RX4) (T := TX4) (N := 2) hx hb hts hin4 hown hK hP (0) (CW_xo cy ax (u3.1, r5.2)) rfl 1 (by decide) wd0 (fun _ h9 => h9) rfl dX4_foresee_82 ?_
    refine lv_iconst (v := nI 2) hx hb dX4_foresee_85 (by decide) ?_
    refine g_callr (q0 := 1 + (63 + (0))) (wf := (CW cy ax ad ad2)) (σ := (u3.1, r5.2)) (wfc := (RW cy ad2)) (σc := r5.2) hx hb hml hown hts hK hP hD hS hA hl.1 (xoC ax ad ad2 ++ RW cy ad (u3.1)) pm_a [.int (nI 2)] (c_X1_umbrellasThatAre l D cy ad2 r5.2 (nI 2) okr5) (cwV 1 hts gX4_foresee_X1_umbrellasThatAre rfl rfl rfl (by decide +kernel) ⟨Nat.le_of_ble_eq_true rfl, Nat.le_of_ble_eq_true rfl⟩) (gx_r (n := 1) rfl (gx_r (WD_len _ _ _ _) (RW_ob cy ad2 r5.2))) rfl rfl rfl rfl (Nat.le_of_ble_eq_true rfl) dX4_foresee_86 ⟨Nat.le_of_ble_eq_true rfl, Nat.le_of_ble_eq_true rfl⟩ rfl rfl ?_
    intro r11 er11 H locs hP hD hS
    replace hf := hf.trans (ltt_r er11)
    exact g_endxi hx hb hr hlocks rfl hf hP hD hS (Nat.le_of_ble_eq_true rfl) (Nat.le_of_ble_eq_true rfl) dX4_foresee_89
  replace hf := hf.trans (if_neg c10)
  by_cases c12 : y = nI 3
  · replace hf := hf.trans (if_pos c12)
    refine lv_tableIn (off := 58) (tgt := 90) hx hb dX4_foresee_32 (by rw [c12]; decide) (by rw [c12]; decide) (by rw [c12]; rfl) (by decide) ?_
    refine lv_aload_n hx hb dX4_foresee_90 rfl (lv_at hl 0 rfl) ?_
    refine va_get (D := D) (ci := 4) (v := .ref (ad2 0)) (C := RX4) (T := TX4) (N := 2) hx hb hts hin4 hown hK hP (0) (CW_xo cy ax (u3.1, r5.2)) rfl 1 (by decide) wd0 (fun _ h9 => h9) rfl dX4_foresee_91 ?_
    refine lv_iconst (v := nI 3) hx hb dX4_foresee_94 (by decide) ?_
    refine g_callr (q0 := 1 + (63 + (0))) (wf := (CW cy ax ad ad2)) (σ := (u3.1, r5.2)) (wfc := (RW cy ad2)) (σc := r5.2) hx hb hml hown hts hK hP hD hS hA hl.1 (xoC ax ad ad2 ++ RW cy ad (u3.1)) pm_a [.int (nI 3)] (c_X1_umbrellasThatAre l D cy ad2 r5.2 (nI 3) okr5) (cwV 1 hts gX4_foresee_X1_umbrellasThatAre rfl rfl rfl (by decide +kernel) ⟨Nat.le_of_ble_eq_true rfl, Nat.le_of_ble_eq_true rfl⟩) (gx_r (n := 1) rfl (gx_r (WD_len _ _ _ _) (RW_ob cy ad2 r5.2))) rfl rfl rfl rfl (Nat.le_of_ble_eq_true rfl) dX4_foresee_95 ⟨Nat.le_of_ble_eq_true rfl, Nat.le_of_ble_eq_true rfl⟩ rfl rfl ?_
    intro r13 er13 H locs hP hD hS
    replace hf := hf.trans (ltt_r er13)
    exact g_endxi hx hb hr hlocks rfl hf hP hD hS (Nat.le_of_ble_eq_true rfl) (Nat.le_of_ble_eq_true rfl) dX4_foresee_98
  replace hf := hf.trans (if_neg c12)
  refine lv_tableOut (tgt := 99) hx hb dX4_foresee_32 (ts_out 4 (by decide) _ (lt_s (lt_s (lt_s (lt_s lt_0 c6) c8) c10) c12)) (by decide) ?_
  refine lv_aload_n hx hb dX4_foresee_99 rfl (lv_at hl 0 rfl) ?_
  refine va_get (D := D) (ci := 4) (v := .ref (ad2 0)) (C := RX4) (T := TX4) (N := 2) hx hb hts hin4 hown hK hP (0) (CW_xo cy ax (u3.1, r5.2)) rfl 1 (by decide) wd0 (fun _ h9 => h9) rfl dX4_foresee_100 ?_
  refine g_callr (q0 := 1 + (63 + (0))) (wf := (CW cy ax ad ad2)) (σ := (u3.1, r5.2)) (wfc := (RW cy ad2)) (σc := r5.2) hx hb hml hown hts hK hP hD hS hA hl.1 (xoC ax ad ad2 ++ RW cy ad (u3.1)) pm_a [] (c_X1_trustOfAll l D cy ad2 r5.2 okr5) (cwV 0 hts gX4_foresee_X1_trustOfAll rfl rfl rfl (by decide +kernel) ⟨Nat.le_of_ble_eq_true rfl, Nat.le_of_ble_eq_true rfl⟩) (gx_r (n := 1) rfl (gx_r (WD_len _ _ _ _) (RW_ob cy ad2 r5.2))) rfl rfl rfl rfl (Nat.le_of_ble_eq_true rfl) dX4_foresee_103 ⟨Nat.le_of_ble_eq_true rfl, Nat.le_of_ble_eq_true rfl⟩ rfl rfl ?_
  intro r14 er14 H locs hP hD hS
  replace hf := hf.trans (ltt_r er14)
  exact g_endxi hx hb hr hlocks rfl hf hP hD hS (Nat.le_of_ble_eq_true rfl) (Nat.le_of_ble_eq_true rfl) dX4_foresee_106
def s_X4_wetAfter (σ : Sg × Sg) (nh : Nat) (x : Int32) : Int32 × (Sg × Sg) := ltt (s_X1_becomeLike σ) (fun u1 => if x = (-1 : Int32) then ltt (s_X1_letGoBy u1.2 nh) (fun r3 => ltt (s_X1_wetOfAll r3.2) (fun r4 => (r4, (u1.1, r3.2)))) else ltt (s_X1_addUmbrella u1.2 x) (fun u5 => ltt (s_X1_letGoBy u5 nh) (fun r6 => ltt (s_X1_wetOfAll r6.2) (fun r7 => (r7, (u1.1, r6.2))))))
theorem z1_X4_wetAfter (σ : Sg × Sg) (nh : Nat) (x : Int32) : (s_X4_wetAfter σ nh x).2.1 = σ.1 := by
  unfold s_X4_wetAfter
  simp only [ltt]
  split <;> exact z1_X1_becomeLike σ
abbrev rm_X4_wetAfter : Room := { frames := 5, cells := 0, slots := 0, locals := 117 }
set_option maxHeartbeats 4000000 in
set_option maxRecDepth 100000 in
theorem c_X4_wetAfter (l : Launch) (D : va_G) (cy : Nat → ClassId) (ax ad ad2 : Nat → Nat) (σ : Sg × Sg) (nh : Nat) (x : Int32) (hnh : nh ≤ 24) (hI : OkR σ.1) : gMi l yX4_wetAfter wsX4_wetAfter rm_X4_wetAfter D (Ty cy) (CW cy ax ad ad2) [.ref (ax 0), .int (nI nh), .int (x)] σ (s_X4_wetAfter σ nh x) 0 0 := by
  refine gstarti cX4_wetAfter 3 RX4 (by decide) rfl rfl (Nat.le_of_ble_eq_true rfl) ?_
  intro p e s m below meth c A ls hx hb hml hown hts hr hlocks hK hP hD hA hS hl
  have hl : lv_has ls 3 [(0, .ref (ax 0)), (1, .int (nI nh)), (2, .int (x))] := hl
  have hf : s_X4_wetAfter σ nh x = s_X4_wetAfter σ nh x := rfl
  have hin4 : ∀ w ∈ wsX40, w ∈ wsX4_wetAfter := by decide +kernel
  have wd0 := hts (.fieldLink RX4 16 "UmbrellaLand" "ahead" "LUmbrellaLand$Republic;") (by decide +kernel)
  have wd1 := hts (.fieldLink RX4 10 "UmbrellaLand" "now" "LUmbrellaLand$Republic;") (by decide +kernel)
  refine lv_aload_n hx hb dX4_wetAfter_0 rfl (lv_at hl 0 rfl) ?_
  refine va_get (D := D) (ci := 4) (v := .ref (ad2 0)) (C := RX4) (T := TX4) (N := 2) hx hb hts hin4 hown hK hP (0) (CW_xo cy ax σ) rfl 1 (by decide) wd0 (fun _ h9 => h9) rfl dX4_wetAfter_1 ?_
  refine lv_aload_n hx hb dX4_wetAfter_4 rfl (lv_at hl 0 rfl) ?_
  refine va_get (D := D) (ci := 4) (v := .ref (ad 0)) (C := RX4) (T := TX4) (N := 2) hx hb hts hin4 hown hK hP (0) (CW_xo cy ax σ) rfl 0 (by decide) wd1 (fun _ h9 => h9) rfl dX4_wetAfter_5 ?_
  refine g_callv (q0 := 1 + (63 + (0))) (wf := (CW cy ax ad ad2)) (σ := σ) (wfc := (RW2 cy ad ad2)) (σc := σ) hx hb hml hown hts hK hP hD hS hA hl.1 (xoC ax ad ad2) pm_x (fun u => u) (fun _ => pm_x.symm) [.ref (ad 0)] (c_X1_becomeLike l D cy ad ad2 σ hI) (cwV 1 hts gX4_wetAfter_X1_becomeLike rfl rfl rfl (by decide +kernel) ⟨Nat.le_of_ble_eq_true rfl, Nat.le_of_ble_eq_true rfl⟩) (gx_r (n := 1) rfl (gx_r (WD_len _ _ _ _) (RW_ob cy ad2 σ.2))) rfl rfl rfl rfl (Nat.le_of_ble_eq_true rfl) dX4_wetAfter_8 ⟨Nat.le_of_ble_eq_true rfl, Nat.le_of_ble_eq_true rfl⟩ rfl rfl ?_
  intro u1 eu1 H locs hP hD hS
  replace hf := hf.trans (ltt_r eu1)
  have oku1n : OkR u1.1 := (by rw [eu1, z1_X1_becomeLike]; exact hI)
  have oku1a : OkR u1.2 := (by rw [eu1]; exact ok_X1_becomeLike _ hI)
  refine lv_iload_n hx hb dX4_wetAfter_11 rfl (lv_at hl 2 rfl) ?_
  refine lv_iconst (v := (-1 : Int32)) hx hb dX4_wetAfter_12 (by decide) ?_
  refine lv_icmp_eq (tgt := 24) hx hb dX4_wetAfter_13 (by decide) (fun c2 => ?_) (fun c2 => ?_)
  · replace hf := hf.trans (if_pos c2)
    refine lv_aload_n hx hb dX4_wetAfter_24 rfl (lv_at hl 0 rfl) ?_
    refine va_get (D := D) (ci := 4) (v := .ref (ad2 0)) (C := RX4) (T := TX4) (N := 2) hx hb hts hin4 hown hK hP (0) (CW_xo cy ax u1) rfl 1 (by decide) wd0 (fun _ h9 => h9) rfl dX4_wetAfter_25 ?_
    refine lv_iload_n hx hb dX4_wetAfter_28 rfl (lv_at hl 1 rfl) ?_
    refine g_calli (q0 := 1 + (63 + (0))) (wf := (CW cy ax ad ad2)) (σ := u1) (wfc := (RW cy ad2)) (σc := u1.2) hx hb hml hown hts hK hP hD hS hA hl.1 (xoC ax ad ad2 ++ RW cy ad (u1.1)) pm_a (fun u => (u1.1, u)) (fun _ => pm_a.symm) [.int (nI nh)] (c_X1_letGoBy l D cy ad2 u1.2 nh (by omega) oku1a) (cwV 1 hts gX4_wetAfter_X1_letGoBy rfl rfl rfl (by decide +kernel) ⟨Nat.le_of_ble_eq_true rfl, Nat.le_of_ble_eq_true rfl⟩) (gx_r (n := 1) rfl (gx_r (WD_len _ _ _ _) (RW_ob cy ad2 u1.2))) rfl rfl rfl rfl (Nat.le_of_ble_eq_true rfl) dX4_wetAfter_29 ⟨Nat.le_of_ble_eq_true rfl, Nat.le_of_ble_eq_true rfl⟩ rfl rfl ?_
    intro r3 er3 H locs hP hD hS
    replace hf := hf.trans (ltt_r er3)
    have okr3 : OkR r3.2 := (by rw [er3]; exact ok_X1_letGoBy u1.2 nh oku1a)
    refine lv_pop hx hb dX4_wetAfter_32 rfl ?_
    refine lv_aload_n hx hb dX4_wetAfter_33 rfl (lv_at hl 0 rfl) ?_
    refine va_get (D := D) (ci := 4) (v := .ref (ad2 0)) (C := RX4) (T := TX4) (N := 2) hx hb hts hin4 hown hK hP (0) (CW_xo cy ax (u1.1, r3.2)) rfl 1 (by decide) wd0 (fun _ h9 => h9) rfl dX4_wetAfter_34 ?_
    refine g_callr (q0 := 1 + (63 + (0))) (wf := (CW cy ax ad ad2)) (σ := (u1.1, r3.2)) (wfc := (RW cy ad2)) (σc := r3.2) hx hb hml hown hts hK hP hD hS hA hl.1 (xoC ax ad ad2 ++ RW cy ad (u1.1)) pm_a [] (c_X1_wetOfAll l D cy ad2 r3.2 okr3) (cwV 0 hts gX4_wetAfter_X1_wetOfAll rfl rfl rfl (by decide +kernel) ⟨Nat.le_of_ble_eq_true rfl, Nat.le_of_ble_eq_true rfl⟩) (gx_r (n := 1) rfl (gx_r (WD_len _ _ _ _) (RW_ob cy ad2 r3.2))) rfl rfl rfl rfl (Nat.le_of_ble_eq_true rfl) dX4_wetAfter_37 ⟨Nat.le_of_ble_eq_true rfl, Nat.le_of_ble_eq_true rfl⟩ rfl rfl ?_
    intro r4 er4 H locs hP hD hS
    replace hf := hf.trans (ltt_r er4)
    exact g_endi hx hb hr hlocks rfl hf hP hD hS (Nat.le_of_ble_eq_true rfl) (Nat.le_of_ble_eq_true rfl) dX4_wetAfter_40
  · replace hf := hf.trans (if_neg c2)
    refine lv_aload_n hx hb dX4_wetAfter_16 rfl (lv_at hl 0 rfl) ?_
    refine va_get (D := D) (ci := 4) (v := .ref (ad2 0)) (C := RX4) (T := TX4) (N := 2) hx hb hts hin4 hown hK hP (0) (CW_xo cy ax u1) rfl 1 (by decide) wd0 (fun _ h9 => h9) rfl dX4_wetAfter_17 ?_
    refine lv_iload_n hx hb dX4_wetAfter_20 rfl (lv_at hl 2 rfl) ?_
    refine g_callv (q0 := 1 + (63 + (0))) (wf := (CW cy ax ad ad2)) (σ := u1) (wfc := (RW cy ad2)) (σc := u1.2) hx hb hml hown hts hK hP hD hS hA hl.1 (xoC ax ad ad2 ++ RW cy ad (u1.1)) pm_a (fun u => (u1.1, u)) (fun _ => pm_a.symm) [.int (x)] (c_X1_addUmbrella l D cy ad2 u1.2 x oku1a) (cwV 1 hts gX4_wetAfter_X1_addUmbrella rfl rfl rfl (by decide +kernel) ⟨Nat.le_of_ble_eq_true rfl, Nat.le_of_ble_eq_true rfl⟩) (gx_r (n := 1) rfl (gx_r (WD_len _ _ _ _) (RW_ob cy ad2 u1.2))) rfl rfl rfl rfl (Nat.le_of_ble_eq_true rfl) dX4_wetAfter_21 ⟨Nat.le_of_ble_eq_true rfl, Nat.le_of_ble_eq_true rfl⟩ rfl rfl ?_
    intro u5 eu5 H locs hP hD hS
    replace hf := hf.trans (ltt_r eu5)
    have oku5 : OkR u5 := (by rw [eu5]; exact ok_X1_addUmbrella u1.2 x oku1a)
    refine lv_aload_n hx hb dX4_wetAfter_24 rfl (lv_at hl 0 rfl) ?_
    refine va_get (D := D) (ci := 4) (v := .ref (ad2 0)) (C := RX4) (T := TX4) (N := 2) hx hb hts hin4 hown hK hP (0) (CW_xo cy ax (u1.1, u5)) rfl 1 (by decide) wd0 (fun _ h9 => h9) rfl dX4_wetAfter_25 ?_
    refine lv_iload_n hx hb dX4_wetAfter_28 rfl (lv_at hl 1 rfl) ?_
    refine g_calli (q0 := 1 + (63 + (0))) (wf := (CW cy ax ad ad2)) (σ := (u1.1, u5)) (wfc := (RW cy ad2)) (σc := u5) hx hb hml hown hts hK hP hD hS hA hl.1 (xoC ax ad ad2 ++ RW cy ad (u1.1)) pm_a (fun u => (u1.1, u)) (fun _ => pm_a.symm) [.int (nI nh)] (c_X1_letGoBy l D cy ad2 u5 nh (by omega) oku5) (cwV 1 hts gX4_wetAfter_X1_letGoBy rfl rfl rfl (by decide +kernel) ⟨Nat.le_of_ble_eq_true rfl, Nat.le_of_ble_eq_true rfl⟩) (gx_r (n := 1) rfl (gx_r (WD_len _ _ _ _) (RW_ob cy ad2 u5))) rfl rfl rfl rfl (Nat.le_of_ble_eq_true rfl) dX4_wetAfter_29 ⟨Nat.le_of_ble_eq_true rfl, Nat.le_of_ble_eq_true rfl⟩ rfl rfl ?_
    intro r6 er6 H locs hP hD hS
    replace hf := hf.trans (ltt_r er6)
    have okr6 : OkR r6.2 := (by rw [er6]; exact ok_X1_letGoBy u5 nh oku5)
    refine lv_pop hx hb dX4_wetAfter_32 rfl ?_
    refine lv_aload_n hx hb dX4_wetAfter_33 rfl (lv_at hl 0 rfl) ?_
    refine va_get (D := D) (ci := 4) (v := .ref (ad2 0)) (C := RX4) (T := TX4) (N := 2) hx hb hts hin4 hown hK hP (0) (CW_xo cy ax (u1.1, r6.2)) rfl 1 (by decide) wd0 (fun _ h9 => h9) rfl dX4_wetAfter_34 ?_
    refine g_callr (q0 := 1 + (63 + (0))) (wf := (CW cy ax ad ad2)) (σ := (u1.1, r6.2)) (wfc := (RW cy ad2)) (σc := r6.2) hx hb hml hown hts hK hP hD hS hA hl.1 (xoC ax ad ad2 ++ RW cy ad (u1.1)) pm_a [] (c_X1_wetOfAll l D cy ad2 r6.2 okr6) (cwV 0 hts gX4_wetAfter_X1_wetOfAll rfl rfl rfl (by decide +kernel) ⟨Nat.le_of_ble_eq_true rfl, Nat.le_of_ble_eq_true rfl⟩) (gx_r (n := 1) rfl (gx_r (WD_len _ _ _ _) (RW_ob cy ad2 r6.2))) rfl rfl rfl rfl (Nat.le_of_ble_eq_true rfl) dX4_wetAfter_37 ⟨Nat.le_of_ble_eq_true rfl, Nat.le_of_ble_eq_true rfl⟩ rfl rfl ?_
    intro r7 er7 H locs hP hD hS
    replace hf := hf.trans (ltt_r er7)
    exact g_endi hx hb hr hlocks rfl hf hP hD hS (Nat.le_of_ble_eq_true rfl) (Nat.le_of_ble_eq_true rfl) dX4_wetAfter_40
def lp_X4_advise_40 (σ : Sg × Sg) (x : Int32)  : Nat → Nat → Int32 → Int32 → Sg × Sg → Int32 × Int32 × (Sg × Sg)
  | 0, k, best, lw, τ => (best, lw, τ)
  | n + 1, k, best, lw, τ => ltt (s_X4_wetAfter τ (tn x) (nI k)) (fun r4 => if lw ≤ r4.1 then lp_X4_advise_40 σ x n (k + 1) best lw r4.2 else lp_X4_advise_40 σ x n (k + 1) (nI k) r4.1 r4.2)
def s_X4_advise (σ : Sg × Sg) (x : Int32) : String ⊕ (Int32 × (Sg × Sg)) := xb (s_X4_checkHours x (nI 24)) (fun _ => if (σ.1 0 6) < (nI 40) then ltt (s_X4_wetAfter σ (tn x) (-1 : Int32)) (fun r9 => ltt (lp_X4_advise_40 σ x (tn (σ.1 0 5)) 0 ((-1 : Int32)) r9.1 r9.2) (fun q10 => .inr (q10.1, q10.2.2))) else .inl "java/lang/IllegalStateException")
abbrev rm_X4_advise : Room := { frames := 7, cells := 2, slots := 12, locals := 139 }
set_option maxHeartbeats 4000000 in
set_option maxRecDepth 100000 in
theorem c_X4_advise (l : Launch) (D : va_G) (cy : Nat → ClassId) (ax ad ad2 : Nat → Nat) (σ : Sg × Sg) (x : Int32) (hI : OkR σ.1) : gMx l yX4_advise wsX4_advise rm_X4_advise D (Ty cy) (CW cy ax ad ad2) [.ref (ax 0), .int (x)] σ (s_X4_advise σ x) 2 12 := by
  refine gstartx cX4_advise 6 RX4 (by decide) rfl rfl (Nat.le_of_ble_eq_true rfl) ?_
  intro p e s m below meth c A ls hx hb hml hown hts hr hlocks hK hP hD hA hS hl hl0 hT hst htx
  have hl : lv_has ls 6 [(0, .ref (ax 0)), (1, .int (x))] := hl
  have hf : s_X4_advise σ x = s_X4_advise σ x := rfl
  have hin4 : ∀ w ∈ wsX40, w ∈ wsX4_advise := by decide +kernel
  have hin1 : ∀ w ∈ wsX10, w ∈ wsX4_advise := by decide +kernel
  have hat38 := hat_x (names := ["java/lang/RuntimeException", "java/lang/Exception"]) (fun w hw => hts w (by unfold wsX4_advise; simp only [List.mem_cons, List.mem_append, hw, true_or, or_true])) ng_38 (by decide) htx
  have wd0 := hts (.fieldLink RX4 10 "UmbrellaLand" "now" "LUmbrellaLand$Republic;") (by decide +kernel)
  have wd1 := hts (.fieldLink RX4 30 "UmbrellaLand$Republic" "shelterCount" "I") (by decide +kernel)
  have wd2 := hts (.fieldLink RX4 53 "UmbrellaLand$Republic" "umbrellaCount" "I") (by decide +kernel)
  have wd3 := hts (.classLink RX4 38 "java/lang/IllegalStateException") (by decide +kernel)
  have wd4 := hts (.initialized "java/lang/IllegalStateException") (by decide +kernel)
  have n5 := hI.n5
  have loop40 : ∀  (n k : Nat) (best : Int32) (lw : Int32) (τ : Sg × Sg) (H : Heap) (locs : List Loc) (ls : Array Slot), n = tn (σ.1 0 5) - k ∧ k ≤ tn (σ.1 0 5) + 1 → ((τ).1 = σ.1) → (vp_in x 25) → va_P D vwCl ((CW cy ax ad ad2) τ) H → va_D A ((CW cy ax ad ad2) τ) → va_S A s.heap H locs → lv_has ls 6 [(0, .ref (ax 0)), (1, .int (x)), (2, .int (best)), (3, .int (lw)), (4, .int (nI k))] → (∀ u : Int32 × Int32 × (Sg × Sg), u = lp_X4_advise_40 σ x n k best lw τ → ∀ (H : Heap) (locs : List Loc) (ls : Array Slot), va_P D vwCl ((CW cy ax ad ad2) u.2.2) H → va_D A ((CW cy ax ad ad2) u.2.2) → va_S A s.heap H locs → lv_has ls 6 [(0, .ref (ax 0)), (1, .int (x)), (2, .int (u.1)), (3, .int (u.2.1))] → W p l e rm_X4_advise s m [.ref (ax 0), .int (x)].toArray below meth c H locs 1 6 (vx_MQ below (va_Qi (fun r u => s_X4_advise σ x = .inr (r, u)) (gPost D (CW cy ax ad ad2) A) A) (gXC D (CW cy ax ad ad2) σ (s_X4_advise σ x) A) [.ref (ax 0), .int (x)].toArray s 2 12 A) (F0 m 79 ls [])) → W p l e rm_X4_advise s m [.ref (ax 0), .int (x)].toArray below meth c H locs 1 6 (vx_MQ below (va_Qi (fun r u => s_X4_advise σ x = .inr (r, u)) (gPost D (CW cy ax ad ad2) A) A) (gXC D (CW cy ax ad ad2) σ (s_X4_advise σ x) A) [.ref (ax 0), .int (x)].toArray s 2 12 A) (F0 m 40 ls []) := by
    intro n
    induction n with
    | zero =>
      intro k best lw τ H locs ls hN hi0 hi1 hP hD hS hl K
      have hf : lp_X4_advise_40 σ x 0 k best lw τ = lp_X4_advise_40 σ x 0 k best lw τ := rfl
      have hIt : OkR τ.1 := by rw [hi0]; exact hI
      refine lv_iload hx hb dX4_advise_40 (lv_at hl 4 rfl) ?_
      refine lv_aload_n hx hb dX4_advise_42 rfl (lv_at hl 0 rfl) ?_
      refine va_get (D := D) (ci := 4) (v := .ref (ad 0)) (C := RX4) (T := TX4) (N := 2) hx hb hts hin4 hown hK hP (0) (CW_xo cy ax τ) rfl 0 (by decide) wd0 (fun _ h9 => h9) rfl dX4_advise_43 ?_
      refine va_get (D := D) (ci := 1) (v := .int (τ.1 0 5)) (C := RX1) (T := TX1) (N := 9) hx hb hts hin1 hown hK hP (1 + (0)) (gx_r (n := 1) rfl (gx_l (RW_ob cy ad τ.1))) rfl 5 (by decide) wd1 (fun _ h9 => h9) rfl dX4_advise_46 ?_
      refine g_top ((congrFun (congrFun hi0 0) 5).trans hI.c5) ?_
      refine lv_icmp_ge (tgt := 79) hx hb dX4_advise_49 (by decide) (fun c1 => ?_) (fun c1 => absurd (nI_le (by omega) (by omega)) c1)
      exact K (best, lw, τ) hf.symm _ _ _ hP hD hS (lv_sub hl [0, 1, 2, 3] rfl)
    | succ n ih =>
      intro k best lw τ H locs ls hN hi0 hi1 hP hD hS hl K
      have hf : lp_X4_advise_40 σ x (n + 1) k best lw τ = lp_X4_advise_40 σ x (n + 1) k best lw τ := rfl
      have hIt : OkR τ.1 := by rw [hi0]; exact hI
      refine lv_iload hx hb dX4_advise_40 (lv_at hl 4 rfl) ?_
      refine lv_aload_n hx hb dX4_advise_42 rfl (lv_at hl 0 rfl) ?_
      refine va_get (D := D) (ci := 4) (v := .ref (ad 0)) (C := RX4) (T := TX4) (N := 2) hx hb hts hin4 hown hK hP (0) (CW_xo cy ax τ) rfl 0 (by decide) wd0 (fun _ h9 => h9) rfl dX4_advise_43 ?_
      refine va_get (D := D) (ci := 1) (v := .int (τ.1 0 5)) (C := RX1) (T := TX1) (N := 9) hx hb hts hin1 hown hK hP (1 + (0)) (gx_r (n := 1) rfl (gx_l (RW_ob cy ad τ.1))) rfl 5 (by decide) wd1 (fun _ h9 => h9) rfl dX4_advise_46 ?_
      refine g_top ((congrFun (congrFun hi0 0) 5).trans hI.c5) ?_
      refine lv_icmp_ge (tgt := 79) hx hb dX4_advise_49 (by decide) (fun c2 => absurd c2 (nI_ge (by omega) (by omega))) (fun c2 => ?_)
      refine lv_aload_n hx hb dX4_advise_52 rfl (lv_at hl 0 rfl) ?_
      refine lv_iload_n hx hb dX4_advise_53 rfl (lv_at hl 1 rfl) ?_
      have h3 : vp_in x 25 := hi1
      have h3b : tn x < 25 := tn_in h3
      refine g_top (tn_eq h3 (by decide)) ?_
      refine lv_iload hx hb dX4_advise_54 (lv_at hl 4 rfl) ?_
      refine g_calli (q0 := 0) (wf := (CW cy ax ad ad2)) (σ := τ) (wfc := (CW cy ax ad ad2)) (σc := τ) hx hb hml hown hts hK hP hD hS hA hl.1 [] pm_0 (fun u => u) (fun _ => pm_0b) [.int (nI (tn x)), .int (nI k)] (c_X4_wetAfter l D cy ax ad ad2 τ (tn x) (nI k) (by omega) hIt) (cwV 2 hts gX4_advise_X4_wetAfter rfl rfl rfl (by decide +kernel) ⟨Nat.le_of_ble_eq_true rfl, Nat.le_of_ble_eq_true rfl⟩) (CW_xo cy ax τ) rfl rfl rfl rfl (Nat.le_of_ble_eq_true rfl) dX4_advise_56 ⟨Nat.le_of_ble_eq_true rfl, Nat.le_of_ble_eq_true rfl⟩ rfl rfl ?_
      intro r4 er4 H locs hP hD hS
      replace hf := hf.trans (ltt_r er4)
      have okr4n : OkR r4.2.1 := (by rw [er4, z1_X4_wetAfter]; exact hIt)
      refine lv_istore (lv' := [(5, .int (r4.1)), (0, .ref (ax 0)), (1, .int (x)), (2, .int (best)), (3, .int (lw)), (4, .int (nI k))]) hx hb dX4_advise_59 hl (by decide) rfl (fun ls hl => ?_)
      refine lv_iload hx hb dX4_advise_61 (lv_at hl 0 rfl) ?_
      refine lv_iload_n hx hb dX4_advise_63 rfl (lv_at hl 4 rfl) ?_
      refine lv_icmp_ge (tgt := 73) hx hb dX4_advise_64 (by decide) (fun c5 => ?_) (fun c5 => ?_)
      · replace hf := hf.trans (if_pos c5)
        refine lv_iinc (v := nI (k + 1)) (lv' := [(4, .int (nI (k + 1))), (5, .int (r4.1)), (0, .ref (ax 0)), (1, .int (x)), (2, .int (best)), (3, .int (lw))]) hx hb dX4_advise_73 hl (k := 5) rfl (nI_1 _) (by decide) rfl (fun ls hl => ?_)
        refine lv_goto (tgt := 40) hx hb dX4_advise_76 (by decide) ?_
        exact ih (k + 1) best lw r4.2 _ _ _ (by omega) (by rw [er4, z1_X4_wetAfter]; exact hi0) hi1 hP hD hS (lv_sub hl [2, 3, 4, 5, 0] rfl) (fun u eu => K u (eu.trans hf.symm))
      · replace hf := hf.trans (if_neg c5)
        refine lv_iload hx hb dX4_advise_67 (lv_at hl 0 rfl) ?_
        refine lv_istore_n (lv' := [(3, .int (r4.1)), (5, .int (r4.1)), (0, .ref (ax 0)), (1, .int (x)), (2, .int (best)), (4, .int (nI k))]) hx hb dX4_advise_69 rfl hl (by decide) rfl (fun ls hl => ?_)
        refine lv_iload hx hb dX4_advise_70 (lv_at hl 5 rfl) ?_
        refine lv_istore_n (lv' := [(2, .int (nI k)), (3, .int (r4.1)), (5, .int (r4.1)), (0, .ref (ax 0)), (1, .int (x)), (4, .int (nI k))]) hx hb dX4_advise_72 rfl hl (by decide) rfl (fun ls hl => ?_)
        refine lv_iinc (v := nI (k + 1)) (lv' := [(4, .int (nI (k + 1))), (2, .int (nI k)), (3, .int (r4.1)), (5, .int (r4.1)), (0, .ref (ax 0)), (1, .int (x))]) hx hb dX4_advise_73 hl (k := 5) rfl (nI_1 _) (by decide) rfl (fun ls hl => ?_)
        refine lv_goto (tgt := 40) hx hb dX4_advise_76 (by decide) ?_
        exact ih (k + 1) (nI k) r4.1 r4.2 _ _ _ (by omega) (by rw [er4, z1_X4_wetAfter]; exact hi0) hi1 hP hD hS (lv_sub hl [4, 5, 1, 2, 0] rfl) (fun u eu => K u (eu.trans hf.symm))
  refine lv_iload_n hx hb dX4_advise_0 rfl (lv_at hl 1 rfl) ?_
  refine lv_bipush (v := nI 24) hx hb dX4_advise_1 (by decide) ?_
  refine g_callxsv (fc := s_X4_checkHours x (nI 24)) (f := s_X4_advise σ x) hl0 hT hst htx hlocks (wf := (CW cy ax ad ad2)) (σ := σ) (wfc := w0) (σc := ()) hx hb hml hown hts hK hP hD hS hA hl.1 ((CW cy ax ad ad2) σ) (List.Perm.refl _) [.int (x), .int (nI 24)] (c_X4_checkHours l D cy x (nI 24) ) (va_cwS 2 hts gX4_advise_X4_checkHours rfl rfl rfl (by decide +kernel) ⟨Nat.le_of_ble_eq_true rfl, Nat.le_of_ble_eq_true rfl⟩) rfl rfl (Nat.le_of_ble_eq_true rfl) dX4_advise_3 ⟨Nat.le_of_ble_eq_true rfl, Nat.le_of_ble_eq_true rfl⟩ (cells2 := 1) (slots2 := 6) rfl rfl (fun E h9 => hf.trans (xb_l h9)) (Nat.le_of_ble_eq_true rfl) (Nat.le_of_ble_eq_true rfl) ?_
  intro x6 H locs hP hD hS
  replace hf := hf.trans (xb_r x6)
  refine lv_aload_n hx hb dX4_advise_6 rfl (lv_at hl 0 rfl) ?_
  refine va_get (D := D) (ci := 4) (v := .ref (ad 0)) (C := RX4) (T := TX4) (N := 2) hx hb hts hin4 hown hK hP (0) (CW_xo cy ax σ) rfl 0 (by decide) wd0 (fun _ h9 => h9) rfl dX4_advise_7 ?_
  refine va_get (D := D) (ci := 1) (v := .int (σ.1 0 6)) (C := RX1) (T := TX1) (N := 9) hx hb hts hin1 hown hK hP (1 + (0)) (gx_r (n := 1) rfl (gx_l (RW_ob cy ad σ.1))) rfl 6 (by decide) wd2 (fun _ h9 => h9) rfl dX4_advise_10 ?_
  refine lv_bipush (v := nI 40) hx hb dX4_advise_13 (by decide) ?_
  refine lv_icmp_lt (tgt := 28) hx hb dX4_advise_15 (by decide) (fun c7 => ?_) (fun c7 => ?_)
  · replace hf := hf.trans (if_pos c7)
    refine lv_iconst (v := (-1 : Int32)) hx hb dX4_advise_28 (by decide) ?_
    refine lv_istore_n (lv' := [(2, .int ((-1 : Int32))), (0, .ref (ax 0)), (1, .int (x))]) hx hb dX4_advise_29 rfl hl (by decide) rfl (fun ls hl => ?_)
    refine lv_aload_n hx hb dX4_advise_30 rfl (lv_at hl 1 rfl) ?_
    refine lv_iload_n hx hb dX4_advise_31 rfl (lv_at hl 2 rfl) ?_
    have h8 : vp_in x 25 := xc_hours x6 (by decide)
    have h8b : tn x < 25 := tn_in h8
    refine g_top (tn_eq h8 (by decide)) ?_
    refine lv_iconst (v := (-1 : Int32)) hx hb dX4_advise_32 (by decide) ?_
    refine g_calli (q0 := 0) (wf := (CW cy ax ad ad2)) (σ := σ) (wfc := (CW cy ax ad ad2)) (σc := σ) hx hb hml hown hts hK hP hD hS hA hl.1 [] pm_0 (fun u => u) (fun _ => pm_0b) [.int (nI (tn x)), .int ((-1 : Int32))] (c_X4_wetAfter l D cy ax ad ad2 σ (tn x) (-1 : Int32) (by omega) hI) (cwV 2 hts gX4_advise_X4_wetAfter rfl rfl rfl (by decide +kernel) ⟨Nat.le_of_ble_eq_true rfl, Nat.le_of_ble_eq_true rfl⟩) (CW_xo cy ax σ) rfl rfl rfl rfl (Nat.le_of_ble_eq_true rfl) dX4_advise_33 ⟨Nat.le_of_ble_eq_true rfl, Nat.le_of_ble_eq_true rfl⟩ rfl rfl ?_
    intro r9 er9 H locs hP hD hS
    replace hf := hf.trans (ltt_r er9)
    have okr9n : OkR r9.2.1 := (by rw [er9, z1_X4_wetAfter]; exact hI)
    refine lv_istore_n (lv' := [(3, .int (r9.1)), (2, .int ((-1 : Int32))), (0, .ref (ax 0)), (1, .int (x))]) hx hb dX4_advise_36 rfl hl (by decide) rfl (fun ls hl => ?_)
    refine lv_iconst (v := nI 0) hx hb dX4_advise_37 (by decide) ?_
    refine lv_istore (lv' := [(4, .int (nI 0)), (3, .int (r9.1)), (2, .int ((-1 : Int32))), (0, .ref (ax 0)), (1, .int (x))]) hx hb dX4_advise_38 hl (by decide) rfl (fun ls hl => ?_)
    have hq1 : (r9.2).1 = σ.1 := by rw [er9]; exact z1_X4_wetAfter _ _ _
    refine loop40  (tn (σ.1 0 5)) 0 ((-1 : Int32)) r9.1 r9.2 _ _ _ (by omega) hq1 (xc_hours x6 (by decide)) hP hD hS (lv_sub hl [3, 4, 2, 1, 0] rfl) ?_
    intro q10 eq10 H locs ls hP hD hS hl
    replace hf := hf.trans (ltt_r eq10)
    refine lv_iload_n hx hb dX4_advise_79 rfl (lv_at hl 2 rfl) ?_
    exact g_endxi hx hb hr hlocks rfl hf hP hD hS (Nat.le_of_ble_eq_true rfl) (Nat.le_of_ble_eq_true rfl) dX4_advise_80
  · replace hf := hf.trans (if_neg c7)
    exact g_throw hx hb (hml.trans hl.1.symm) hl0 hown (by decide +kernel) wd3 wd4 hat38 ot_38 htx (text := "there are 40 umbrellas") (by decide +kernel) hst hT hlocks hf hP hD hS dX4_advise_18 dX4_advise_21 dX4_advise_22 dX4_advise_24 dX4_advise_27 (Nat.le_of_ble_eq_true rfl) (Nat.le_of_ble_eq_true rfl) (Nat.le_of_ble_eq_true rfl) (Nat.le_of_ble_eq_true rfl) (Nat.le_of_ble_eq_true rfl) (Nat.le_of_ble_eq_true rfl)
def lp_X4_lasts_43 (σ : Sg × Sg) (x : Int32) (y : Int32)  : Nat → Nat → Int32 → String ⊕ (Int32 × (Sg × Sg))
  | 0, k, wear => .inr ((-1 : Int32), σ)
  | n + 1, k, wear => ltt (s_J9_floorMod_7cf53 (y + (nI k)) (nI 24)) (fun r3 => if (wear + (σ.1 1 (tn r3))) < (nI 30) then lp_X4_lasts_43 σ x y n (k + 1) (wear + (σ.1 1 (tn r3))) else .inr (nI (k + 1), σ))
def s_X4_lasts (σ : Sg × Sg) (x : Int32) (y : Int32) : String ⊕ (Int32 × (Sg × Sg)) := xb (s_X4_checkUmbrella σ x) (fun _ => xb (s_X4_checkHourOfDay y) (fun _ => if (σ.1 (13 + (tn x)) 0) = (nI 3) then .inr ((-1 : Int32), σ) else lp_X4_lasts_43 σ x y 200 0 (σ.1 (13 + (tn x)) 2)))
abbrev rm_X4_lasts : Room := { frames := 7, cells := 2, slots := 12, locals := 111 }
set_option maxHeartbeats 4000000 in
set_option maxRecDepth 100000 in
theorem c_X4_lasts (l : Launch) (D : va_G) (cy : Nat → ClassId) (ax ad ad2 : Nat → Nat) (σ : Sg × Sg) (x : Int32) (y : Int32) (hI : OkR σ.1) : gMx l yX4_lasts wsX4_lasts rm_X4_lasts D (Ty cy) (CW cy ax ad ad2) [.ref (ax 0), .int (x), .int (y)] σ (s_X4_lasts σ x y) 2 12 := by
  refine gstartx cX4_lasts 5 RX4 (by decide) rfl rfl (Nat.le_of_ble_eq_true rfl) ?_
  intro p e s m below meth c A ls hx hb hml hown hts hr hlocks hK hP hD hA hS hl hl0 hT hst htx
  have hl : lv_has ls 5 [(0, .ref (ax 0)), (1, .int (x)), (2, .int (y))] := hl
  have hf : s_X4_lasts σ x y = s_X4_lasts σ x y := rfl
  have hin4 : ∀ w ∈ wsX40, w ∈ wsX4_lasts := by decide +kernel
  have hin1 : ∀ w ∈ wsX10, w ∈ wsX4_lasts := by decide +kernel
  have hin3 : ∀ w ∈ wsX30, w ∈ wsX4_lasts := by decide +kernel
  have wd0 := hts (.fieldLink RX4 10 "UmbrellaLand" "now" "LUmbrellaLand$Republic;") (by decide +kernel)
  have wd1 := hts (.fieldLink RX4 82 "UmbrellaLand$Republic" "rain" "[I") (by decide +kernel)
  have wd2 := hts (.fieldLink RX4 107 "UmbrellaLand$Republic" "umbrellas" "[LUmbrellaLand$Umbrella;") (by decide +kernel)
  have wd3 := hts (.fieldLink RX4 161 "UmbrellaLand$Umbrella" "state" "I") (by decide +kernel)
  have wd4 := hts (.fieldLink RX4 164 "UmbrellaLand$Umbrella" "wear" "I") (by decide +kernel)
  have loop43 : ∀  (n k : Nat) (wear : Int32) (H : Heap) (locs : List Loc) (ls : Array Slot), n = 200 - k ∧ k ≤ 201 → (s_X4_lasts σ x y = lp_X4_lasts_43 σ x y n k wear) → va_P D vwCl ((CW cy ax ad ad2) σ) H → va_D A ((CW cy ax ad ad2) σ) → va_S A s.heap H locs → lv_has ls 5 [(0, .ref (ax 0)), (1, .int (x)), (2, .int (y)), (3, .int (wear)), (4, .int (nI k))] → W p l e rm_X4_lasts s m [.ref (ax 0), .int (x), .int (y)].toArray below meth c H locs 2 12 (vx_MQ below (va_Qi (fun r u => s_X4_lasts σ x y = .inr (r, u)) (gPost D (CW cy ax ad ad2) A) A) (gXC D (CW cy ax ad ad2) σ (s_X4_lasts σ x y) A) [.ref (ax 0), .int (x), .int (y)].toArray s 2 12 A) (F0 m 43 ls []) := by
    intro n
    induction n with
    | zero =>
      intro k wear H locs ls hN hf hP hD hS hl
      refine lv_iload hx hb dX4_lasts_43 (lv_at hl 4 rfl) ?_
      refine lv_sipush (v := nI 200) hx hb dX4_lasts_45 (by decide) ?_
      refine lv_icmp_ge (tgt := 88) hx hb dX4_lasts_48 (by decide) (fun c1 => ?_) (fun c1 => absurd (nI_le (by omega) (by omega)) c1)
      refine lv_iconst (v := (-1 : Int32)) hx hb dX4_lasts_88 (by decide) ?_
      exact g_endxi hx hb hr hlocks rfl hf hP hD hS (Nat.le_of_ble_eq_true rfl) (Nat.le_of_ble_eq_true rfl) dX4_lasts_89
    | succ n ih =>
      intro k wear H locs ls hN hf hP hD hS hl
      refine lv_iload hx hb dX4_lasts_43 (lv_at hl 4 rfl) ?_
      refine lv_sipush (v := nI 200) hx hb dX4_lasts_45 (by decide) ?_
      refine lv_icmp_ge (tgt := 88) hx hb dX4_lasts_48 (by decide) (fun c2 => absurd c2 (nI_ge (by omega) (by omega))) (fun c2 => ?_)
      refine lv_iload_n hx hb dX4_lasts_51 rfl (lv_at hl 3 rfl) ?_
      refine lv_aload_n hx hb dX4_lasts_52 rfl (lv_at hl 0 rfl) ?_
      refine va_get (D := D) (ci := 4) (v := .ref (ad 0)) (C := RX4) (T := TX4) (N := 2) hx hb hts hin4 hown hK hP (0) (CW_xo cy ax σ) rfl 0 (by decide) wd0 (fun _ h9 => h9) rfl dX4_lasts_53 ?_
      refine va_get (D := D) (ci := 1) (v := .ref (ad 1)) (C := RX1) (T := TX1) (N := 9) hx hb hts hin1 hown hK hP (1 + (0)) (gx_r (n := 1) rfl (gx_l (RW_ob cy ad σ.1))) rfl 0 (by decide) wd1 (fun _ h9 => h9) rfl dX4_lasts_56 ?_
      refine lv_iload_n hx hb dX4_lasts_59 rfl (lv_at hl 2 rfl) ?_
      refine lv_iload hx hb dX4_lasts_60 (lv_at hl 4 rfl) ?_
      refine lv_iadd hx hb dX4_lasts_62 ?_
      refine lv_bipush (v := nI 24) hx hb dX4_lasts_63 (by decide) ?_
      refine g_callsr (wf := (CW cy ax ad ad2)) (σ := σ) (wfc := w0) (σc := ()) hx hb hml hown hts hK hP hD hS hA hl.1 ((CW cy ax ad ad2) σ) (List.Perm.refl _) [.int (y + (nI k)), .int (nI 24)] (c_J9_floorMod_7cf53 l D cy (y + (nI k)) (nI 24) (by decide)) (va_cwS 2 hts gX4_lasts_J9_floorMod_7cf53 rfl rfl rfl (by decide +kernel) ⟨Nat.le_of_ble_eq_true rfl, Nat.le_of_ble_eq_true rfl⟩) rfl rfl (Nat.le_of_ble_eq_true rfl) dX4_lasts_65 ⟨Nat.le_of_ble_eq_true rfl, Nat.le_of_ble_eq_true rfl⟩ rfl rfl ?_
      intro r3 er3 H locs hP hD hS
      replace hf := hf.trans (ltt_r er3)
      have h4 : vp_in (r3) 24 := (by rw [er3]; exact fm_in _)
      have h4b : tn r3 < 24 := tn_in h4
      refine g_iald hx hb hK hP (1 + (1)) 0 (tn r3) (gx_r (n := 1) rfl (gx_l (RW_rn cy ad σ.1))) rfl rfl h4 dX4_lasts_68 ?_
      refine lv_iadd hx hb dX4_lasts_69 ?_
      refine lv_istore_n (lv' := [(3, .int (wear + (σ.1 1 (tn r3)))), (0, .ref (ax 0)), (1, .int (x)), (2, .int (y)), (4, .int (nI k))]) hx hb dX4_lasts_70 rfl hl (by decide) rfl (fun ls hl => ?_)
      refine lv_iload_n hx hb dX4_lasts_71 rfl (lv_at hl 0 rfl) ?_
      refine lv_bipush (v := nI 30) hx hb dX4_lasts_72 (by decide) ?_
      refine lv_icmp_lt (tgt := 82) hx hb dX4_lasts_74 (by decide) (fun c5 => ?_) (fun c5 => ?_)
      · replace hf := hf.trans (if_pos c5)
        refine lv_iinc (v := nI (k + 1)) (lv' := [(4, .int (nI (k + 1))), (3, .int (wear + (σ.1 1 (tn r3)))), (0, .ref (ax 0)), (1, .int (x)), (2, .int (y))]) hx hb dX4_lasts_82 hl (k := 4) rfl (nI_1 _) (by decide) rfl (fun ls hl => ?_)
        refine lv_goto (tgt := 43) hx hb dX4_lasts_85 (by decide) ?_
        exact ih (k + 1) (wear + (σ.1 1 (tn r3))) _ _ _ (by omega)  hf hP hD hS (lv_sub hl [2, 3, 4, 1, 0] rfl)
      · replace hf := hf.trans (if_neg c5)
        refine lv_iload hx hb dX4_lasts_77 (lv_at hl 4 rfl) ?_
        refine lv_iconst (v := nI 1) hx hb dX4_lasts_79 (by decide) ?_
        refine lv_iadd hx hb dX4_lasts_80 ?_
        refine g_top (nI_add _ _) ?_
        exact g_endxi hx hb hr hlocks rfl hf hP hD hS (Nat.le_of_ble_eq_true rfl) (Nat.le_of_ble_eq_true rfl) dX4_lasts_81
  refine lv_aload_n hx hb dX4_lasts_0 rfl (lv_at hl 0 rfl) ?_
  refine lv_iload_n hx hb dX4_lasts_1 rfl (lv_at hl 1 rfl) ?_
  refine g_callxv (q0 := 0) (fc := s_X4_checkUmbrella σ x) (f := s_X4_lasts σ x y) hl0 hT hst htx hlocks (wf := (CW cy ax ad ad2)) (σ := σ) (wfc := (CW cy ax ad ad2)) (σc := σ) hx hb hml hown hts hK hP hD hS hA hl.1 [] pm_0 [.int (x)] (c_X4_checkUmbrella l D cy ax ad ad2 σ x ) (cwV 1 hts gX4_lasts_X4_checkUmbrella rfl rfl rfl (by decide +kernel) ⟨Nat.le_of_ble_eq_true rfl, Nat.le_of_ble_eq_true rfl⟩) (CW_xo cy ax σ) rfl rfl rfl rfl (Nat.le_of_ble_eq_true rfl) dX4_lasts_2 ⟨Nat.le_of_ble_eq_true rfl, Nat.le_of_ble_eq_true rfl⟩ (cells2 := 1) (slots2 := 6) rfl rfl (fun E h9 => hf.trans (xb_l h9)) (Nat.le_of_ble_eq_true rfl) (Nat.le_of_ble_eq_true rfl) ?_
  intro x6 H locs hP hD hS
  replace hf := hf.trans (xb_r x6)
  refine lv_iload_n hx hb dX4_lasts_5 rfl (lv_at hl 2 rfl) ?_
  refine g_callxsv (fc := s_X4_checkHourOfDay y) (f := s_X4_lasts σ x y) hl0 hT hst htx hlocks (wf := (CW cy ax ad ad2)) (σ := σ) (wfc := w0) (σc := ()) hx hb hml hown hts hK hP hD hS hA hl.1 ((CW cy ax ad ad2) σ) (List.Perm.refl _) [.int (y)] (c_X4_checkHourOfDay l D cy y ) (va_cwS 1 hts gX4_lasts_X4_checkHourOfDay rfl rfl rfl (by decide +kernel) ⟨Nat.le_of_ble_eq_true rfl, Nat.le_of_ble_eq_true rfl⟩) rfl rfl (Nat.le_of_ble_eq_true rfl) dX4_lasts_6 ⟨Nat.le_of_ble_eq_true rfl, Nat.le_of_ble_eq_true rfl⟩ (cells2 := 2) (slots2 := 12) rfl rfl (fun E h9 => hf.trans (xb_l h9)) (Nat.le_of_ble_eq_true rfl) (Nat.le_of_ble_eq_true rfl) ?_
  intro x7 H locs hP hD hS
  replace hf := hf.trans (xb_r x7)
  refine lv_aload_n hx hb dX4_lasts_9 rfl (lv_at hl 0 rfl) ?_
  refine va_get (D := D) (ci := 4) (v := .ref (ad 0)) (C := RX4) (T := TX4) (N := 2) hx hb hts hin4 hown hK hP (0) (CW_xo cy ax σ) rfl 0 (by decide) wd0 (fun _ h9 => h9) rfl dX4_lasts_10 ?_
  refine va_get (D := D) (ci := 1) (v := .ref (ad 3)) (C := RX1) (T := TX1) (N := 9) hx hb hts hin1 hown hK hP (1 + (0)) (gx_r (n := 1) rfl (gx_l (RW_ob cy ad σ.1))) rfl 2 (by decide) wd2 (fun _ h9 => h9) rfl dX4_lasts_13 ?_
  refine lv_iload_n hx hb dX4_lasts_16 rfl (lv_at hl 1 rfl) ?_
  have h8 : vp_in (x) 40 := in_um hI (xc_um x6)
  have h8b : tn x < 40 := tn_in h8
  refine g_aald (b := ad (13 + (tn x))) hx hb hK hP (1 + (3)) 2 (tn x) (gx_r (n := 1) rfl (gx_l (RW_au cy ad σ.1))) rfl rfl h8 rfl dX4_lasts_17 ?_
  refine va_get (D := D) (ci := 3) (v := .int (σ.1 (13 + (tn x)) 0)) (C := RX3) (T := TX3) (N := 6) hx hb hts hin3 hown hK hP (1 + (13 + (tn x))) (gx_r (n := 1) rfl (gx_l (RW_um cy ad σ.1 h8b))) rfl 0 (by decide) wd3 (fun _ h9 => h9) rfl dX4_lasts_18 ?_
  refine lv_iconst (v := nI 3) hx hb dX4_lasts_21 (by decide) ?_
  refine lv_icmp_ne (tgt := 27) hx hb dX4_lasts_22 (by decide) (fun c9 => ?_) (fun c9 => ?_)
  · replace hf := hf.trans (if_neg c9)
    refine lv_aload_n hx hb dX4_lasts_27 rfl (lv_at hl 0 rfl) ?_
    refine va_get (D := D) (ci := 4) (v := .ref (ad 0)) (C := RX4) (T := TX4) (N := 2) hx hb hts hin4 hown hK hP (0) (CW_xo cy ax σ) rfl 0 (by decide) wd0 (fun _ h9 => h9) rfl dX4_lasts_28 ?_
    refine va_get (D := D) (ci := 1) (v := .ref (ad 3)) (C := RX1) (T := TX1) (N := 9) hx hb hts hin1 hown hK hP (1 + (0)) (gx_r (n := 1) rfl (gx_l (RW_ob cy ad σ.1))) rfl 2 (by decide) wd2 (fun _ h9 => h9) rfl dX4_lasts_31 ?_
    refine lv_iload_n hx hb dX4_lasts_34 rfl (lv_at hl 1 rfl) ?_
    have h10 : vp_in (x) 40 := in_um hI (xc_um x6)
    have h10b : tn x < 40 := tn_in h10
    refine g_aald (b := ad (13 + (tn x))) hx hb hK hP (1 + (3)) 2 (tn x) (gx_r (n := 1) rfl (gx_l (RW_au cy ad σ.1))) rfl rfl h10 rfl dX4_lasts_35 ?_
    refine va_get (D := D) (ci := 3) (v := .int (σ.1 (13 + (tn x)) 2)) (C := RX3) (T := TX3) (N := 6) hx hb hts hin3 hown hK hP (1 + (13 + (tn x))) (gx_r (n := 1) rfl (gx_l (RW_um cy ad σ.1 h10b))) rfl 2 (by decide) wd4 (fun _ h9 => h9) rfl dX4_lasts_36 ?_
    refine lv_istore_n (lv' := [(3, .int (σ.1 (13 + (tn x)) 2)), (0, .ref (ax 0)), (1, .int (x)), (2, .int (y))]) hx hb dX4_lasts_39 rfl hl (by decide) rfl (fun ls hl => ?_)
    refine lv_iconst (v := nI 0) hx hb dX4_lasts_40 (by decide) ?_
    refine lv_istore (lv' := [(4, .int (nI 0)), (3, .int (σ.1 (13 + (tn x)) 2)), (0, .ref (ax 0)), (1, .int (x)), (2, .int (y))]) hx hb dX4_lasts_41 hl (by decide) rfl (fun ls hl => ?_)
    exact loop43  200 0 (σ.1 (13 + (tn x)) 2) _ _ _ (by omega)  hf hP hD hS (lv_sub hl [2, 3, 4, 1, 0] rfl)
  · replace hf := hf.trans (if_pos c9)
    refine lv_iconst (v := (-1 : Int32)) hx hb dX4_lasts_25 (by decide) ?_
    exact g_endxi hx hb hr hlocks rfl hf hP hD hS (Nat.le_of_ble_eq_true rfl) (Nat.le_of_ble_eq_true rfl) dX4_lasts_26
