def s_X6_addCitizen (σ : Sg × Sg × Sg) (x : Int32) (y : Int32) (z : Int32) (w : Int32) (v : Int32) : Int32 × (Sg × Sg × Sg) := ltt ((up σ.1 0 0 (nI 0), σ.2)) (fun u1 => ltt (s_X6_isShelter u1 x) (fun r2 => if r2 = 0 then ltt (s_X6_no u1 (nI 1)) (fun r4 => (r4.1, r4.2)) else ltt (s_X6_isShelter u1 y) (fun r5 => if r5 = 0 then ltt (s_X6_no u1 (nI 1)) (fun r40 => (r40.1, r40.2)) else if x = y then ltt (s_X6_no u1 (nI 2)) (fun r8 => (r8.1, r8.2)) else ltt (s_X6_isIn z (nI 0) (nI 23)) (fun r9 => if r9 = 0 then ltt (s_X6_no u1 (nI 2)) (fun r11 => (r11.1, r11.2)) else ltt (s_X6_isIn w (nI 0) (nI 23)) (fun r12 => if r12 = 0 then ltt (s_X6_no u1 (nI 2)) (fun r14 => (r14.1, r14.2)) else if z = w then ltt (s_X6_no u1 (nI 2)) (fun r16 => (r16.1, r16.2)) else ltt (s_X6_isIn v (nI 1) (nI 9)) (fun r17 => if r17 = 0 then ltt (s_X6_no u1 (nI 2)) (fun r39 => (r39.1, r39.2)) else if (nI (tn (σ.2.1 0 12))) = (nI 10) then ltt (s_X6_no u1 (nI 3)) (fun r38 => (r38.1, r38.2)) else ltt (((u1.1, (upr u1.2.1 10 (va_cpy (upd (upd (upd (upd (upd (fun _ => (0 : Int32)) 0 x) 1 y) 2 z) 3 w) 4 v) (u1.2.1 10) 0 (5 * (tn (σ.2.1 0 12))) 5), u1.2.2)), upd (upd (upd (upd (upd (fun _ => (0 : Int32)) 0 x) 1 y) 2 z) 3 w) 4 v)) (fun u30 => ltt (((u30.1.1, (up u30.1.2.1 11 (tn (σ.2.1 0 12)) x, u30.1.2.2)), u30.2)) (fun u32 => ltt (((u32.1.1, (up u32.1.2.1 14 (tn (σ.2.1 0 12)) (-1 : Int32), u32.1.2.2)), u32.2)) (fun u34 => ltt (((u34.1.1, (up u34.1.2.1 15 (tn (σ.2.1 0 12)) (nI 5), u34.1.2.2)), u34.2)) (fun u36 => ltt (((u36.1.1, (up u36.1.2.1 0 12 (nI ((tn (σ.2.1 0 12)) + 1)), u36.1.2.2)), u36.2)) (fun u37 => ((u37.1.2.1 0 12) - (nI 1), u37.1))))))))))))
abbrev rm_X6_addCitizen : Room := { frames := 2, cells := 1, slots := 5, locals := 43 }
set_option maxHeartbeats 4000000 in
set_option maxRecDepth 100000 in
theorem c_X6_addCitizen (l : Launch) (D : va_G) (cy : Nat → ClassId) (ax ad ad2 : Nat → Nat) (σ : Sg × Sg × Sg) (x : Int32) (y : Int32) (z : Int32) (w : Int32) (v : Int32) (hI : OkN σ.2.1) : gMiN l yX6_addCitizen wsX6_addCitizen rm_X6_addCitizen D (Ty cy) (MW cy ax ad ad2) [.ref (ax 0), .int (x), .int (y), .int (z), .int (w), .int (v)] σ (s_X6_addCitizen σ x y z w v) 1 5 := by
  refine gstartiN cX6_addCitizen 7 RX6 (by decide) rfl rfl (Nat.le_of_ble_eq_true rfl) ?_
  intro p e s m below meth c A ls hx hb hml hown hts hr hlocks hK hP hD hA hS hl hnw
  have hl : lv_has ls 7 [(0, .ref (ax 0)), (1, .int (x)), (2, .int (y)), (3, .int (z)), (4, .int (w)), (5, .int (v))] := hl
  have hf : s_X6_addCitizen σ x y z w v = s_X6_addCitizen σ x y z w v := rfl
  have hz : σ.2.1 0 = σ.2.1 0 := rfl
  have hin6 : ∀ w ∈ wsX60, w ∈ wsX6_addCitizen := by decide +kernel
  have hin5 : ∀ w ∈ wsX50, w ∈ wsX6_addCitizen := by decide +kernel
  have wd0 := hts (.fieldLink RX6 25 "UmbrellaLandModel" "thrown" "I") (by decide +kernel)
  have wd1 := hts (.fieldLink RX6 18 "UmbrellaLandModel" "s" "LUmbrellaLandModel$State;") (by decide +kernel)
  have wd2 := hts (.arrayClass .int) (by decide +kernel)
  have wd3 := hts (.methodLink RX6 63 arraycopyName) (by decide +kernel)
  have wd4 := hts (.native arraycopyName) (by decide +kernel)
  have wd5 := hts (.static arraycopyName) (by decide +kernel)
  have wd6 := hts (.initialized "java/lang/System") (by decide +kernel)
  have n12 := hI.n12
  refine lv_aload_n hx hb dX6_addCitizen_0 rfl (lv_at hl 0 rfl) ?_
  refine lv_iconst (v := nI 0) hx hb dX6_addCitizen_1 (by decide) ?_
  refine g_put (σ1 := (up σ.1 0 0 (nI 0), σ.2)) (fs := moF ax (ad 0) (ad2 0) (σ.1 0)) (C := RX6) (T := TX6) (N := 4) hx hb hts hin6 tyX6_ok nmX6 hown hK hP hD hS (0) (gx_l (OW_ob cy ax (ad 0) (ad2 0) σ.1)) rfl 0 (by decide) wd0 rfl rfl (Nat.le_of_ble_eq_true rfl) (gx_setl (by rw [WD_len]; omega) (OW_ob_set cy ax (ad 0) (ad2 0) σ.1 0 (by decide) _)) dX6_addCitizen_2 ?_
  intro u1 eu1 H locs hP hD hS
  replace hf := hf.trans (ltt_r eu1)
  have hz : u1.2.1 0 = σ.2.1 0 := by rw [eu1]; first | done | exact hz
  refine lv_aload_n hx hb dX6_addCitizen_5 rfl (lv_at hl 0 rfl) ?_
  refine lv_iload_n hx hb dX6_addCitizen_6 rfl (lv_at hl 1 rfl) ?_
  refine g_callrN (q0 := 0) hnw (wf := (MW cy ax ad ad2)) (σ := u1) (wfc := (MW cy ax ad ad2)) (σc := u1) hx hb hml hown hts hK hP hD hS hA hl.1 [] pm_0 [.int (x)] (c_X6_isShelter l D cy ax ad ad2 u1 x ) (cwV 1 hts gX6_addCitizen_X6_isShelter rfl rfl rfl (by decide +kernel) ⟨Nat.le_of_ble_eq_true rfl, Nat.le_of_ble_eq_true rfl⟩) (gx_l (OW_ob cy ax (ad 0) (ad2 0) u1.1)) rfl rfl rfl rfl (Nat.le_of_ble_eq_true rfl) dX6_addCitizen_7 ⟨Nat.le_of_ble_eq_true rfl, Nat.le_of_ble_eq_true rfl⟩ rfl rfl ?_
  intro r2 er2 H locs hP hD hS
  replace hf := hf.trans (ltt_r er2)
  refine lv_if_eq (tgt := 21) hx hb dX6_addCitizen_10 (by decide) (fun c3 => ?_) (fun c3 => ?_)
  · replace hf := hf.trans (if_pos c3)
    refine lv_aload_n hx hb dX6_addCitizen_21 rfl (lv_at hl 0 rfl) ?_
    refine lv_iconst (v := nI 1) hx hb dX6_addCitizen_22 (by decide) ?_
    refine g_calliN (q0 := 0) hnw (wf := (MW cy ax ad ad2)) (σ := u1) (wfc := (MW cy ax ad ad2)) (σc := u1) hx hb hml hown hts hK hP hD hS hA hl.1 [] pm_0 (fun u => u) (fun _ => pm_0b) [.int (nI 1)] (c_X6_no l D cy ax ad ad2 u1 (nI 1) ) (cwV 1 hts gX6_addCitizen_X6_no rfl rfl rfl (by decide +kernel) ⟨Nat.le_of_ble_eq_true rfl, Nat.le_of_ble_eq_true rfl⟩) (gx_l (OW_ob cy ax (ad 0) (ad2 0) u1.1)) rfl rfl rfl rfl (Nat.le_of_ble_eq_true rfl) dX6_addCitizen_23 ⟨Nat.le_of_ble_eq_true rfl, Nat.le_of_ble_eq_true rfl⟩ rfl rfl ?_
    intro r4 er4 H locs hP hD hS
    replace hf := hf.trans (ltt_r er4)
    exact g_endi hx hb hr hlocks rfl hf hP hD hS (Nat.le_of_ble_eq_true rfl) (Nat.le_of_ble_eq_true rfl) dX6_addCitizen_26
  · replace hf := hf.trans (if_neg c3)
    refine lv_aload_n hx hb dX6_addCitizen_13 rfl (lv_at hl 0 rfl) ?_
    refine lv_iload_n hx hb dX6_addCitizen_14 rfl (lv_at hl 2 rfl) ?_
    refine g_callrN (q0 := 0) hnw (wf := (MW cy ax ad ad2)) (σ := u1) (wfc := (MW cy ax ad ad2)) (σc := u1) hx hb hml hown hts hK hP hD hS hA hl.1 [] pm_0 [.int (y)] (c_X6_isShelter l D cy ax ad ad2 u1 y ) (cwV 1 hts gX6_addCitizen_X6_isShelter rfl rfl rfl (by decide +kernel) ⟨Nat.le_of_ble_eq_true rfl, Nat.le_of_ble_eq_true rfl⟩) (gx_l (OW_ob cy ax (ad 0) (ad2 0) u1.1)) rfl rfl rfl rfl (Nat.le_of_ble_eq_true rfl) dX6_addCitizen_15 ⟨Nat.le_of_ble_eq_true rfl, Nat.le_of_ble_eq_true rfl⟩ rfl rfl ?_
    intro r5 er5 H locs hP hD hS
    replace hf := hf.trans (ltt_r er5)
    refine lv_if_ne (tgt := 27) hx hb dX6_addCitizen_18 (by decide) (fun c6 => ?_) (fun c6 => ?_)
    · replace hf := hf.trans (if_neg c6)
      refine lv_iload_n hx hb dX6_addCitizen_27 rfl (lv_at hl 1 rfl) ?_
      refine lv_iload_n hx hb dX6_addCitizen_28 rfl (lv_at hl 2 rfl) ?_
      refine lv_icmp_eq (tgt := 70) hx hb dX6_addCitizen_29 (by decide) (fun c7 => ?_) (fun c7 => ?_)
      · replace hf := hf.trans (if_pos c7)
        refine lv_aload_n hx hb dX6_addCitizen_70 rfl (lv_at hl 0 rfl) ?_
        refine lv_iconst (v := nI 2) hx hb dX6_addCitizen_71 (by decide) ?_
        refine g_calliN (q0 := 0) hnw (wf := (MW cy ax ad ad2)) (σ := u1) (wfc := (MW cy ax ad ad2)) (σc := u1) hx hb hml hown hts hK hP hD hS hA hl.1 [] pm_0 (fun u => u) (fun _ => pm_0b) [.int (nI 2)] (c_X6_no l D cy ax ad ad2 u1 (nI 2) ) (cwV 1 hts gX6_addCitizen_X6_no rfl rfl rfl (by decide +kernel) ⟨Nat.le_of_ble_eq_true rfl, Nat.le_of_ble_eq_true rfl⟩) (gx_l (OW_ob cy ax (ad 0) (ad2 0) u1.1)) rfl rfl rfl rfl (Nat.le_of_ble_eq_true rfl) dX6_addCitizen_72 ⟨Nat.le_of_ble_eq_true rfl, Nat.le_of_ble_eq_true rfl⟩ rfl rfl ?_
        intro r8 er8 H locs hP hD hS
        replace hf := hf.trans (ltt_r er8)
        exact g_endi hx hb hr hlocks rfl hf hP hD hS (Nat.le_of_ble_eq_true rfl) (Nat.le_of_ble_eq_true rfl) dX6_addCitizen_75
      · replace hf := hf.trans (if_neg c7)
        refine lv_iload_n hx hb dX6_addCitizen_32 rfl (lv_at hl 3 rfl) ?_
        refine lv_iconst (v := nI 0) hx hb dX6_addCitizen_33 (by decide) ?_
        refine lv_bipush (v := nI 23) hx hb dX6_addCitizen_34 (by decide) ?_
        refine g_callsr (wf := (MW cy ax ad ad2)) (σ := u1) (wfc := w0) (σc := ()) hx hb hml hown hts hK hP hD hS hA hl.1 ((MW cy ax ad ad2) u1) (List.Perm.refl _) [.int (z), .int (nI 0), .int (nI 23)] (c_X6_isIn l D cy z (nI 0) (nI 23) ) (va_cwS 3 hts gX6_addCitizen_X6_isIn rfl rfl rfl (by decide +kernel) ⟨Nat.le_of_ble_eq_true rfl, Nat.le_of_ble_eq_true rfl⟩) rfl rfl (Nat.le_of_ble_eq_true rfl) dX6_addCitizen_36 ⟨Nat.le_of_ble_eq_true rfl, Nat.le_of_ble_eq_true rfl⟩ rfl rfl ?_
        intro r9 er9 H locs hP hD hS
        replace hf := hf.trans (ltt_r er9)
        refine lv_if_eq (tgt := 70) hx hb dX6_addCitizen_39 (by decide) (fun c10 => ?_) (fun c10 => ?_)
        · replace hf := hf.trans (if_pos c10)
          refine lv_aload_n hx hb dX6_addCitizen_70 rfl (lv_at hl 0 rfl) ?_
          refine lv_iconst (v := nI 2) hx hb dX6_addCitizen_71 (by decide) ?_
          refine g_calliN (q0 := 0) hnw (wf := (MW cy ax ad ad2)) (σ := u1) (wfc := (MW cy ax ad ad2)) (σc := u1) hx hb hml hown hts hK hP hD hS hA hl.1 [] pm_0 (fun u => u) (fun _ => pm_0b) [.int (nI 2)] (c_X6_no l D cy ax ad ad2 u1 (nI 2) ) (cwV 1 hts gX6_addCitizen_X6_no rfl rfl rfl (by decide +kernel) ⟨Nat.le_of_ble_eq_true rfl, Nat.le_of_ble_eq_true rfl⟩) (gx_l (OW_ob cy ax (ad 0) (ad2 0) u1.1)) rfl rfl rfl rfl (Nat.le_of_ble_eq_true rfl) dX6_addCitizen_72 ⟨Nat.le_of_ble_eq_true rfl, Nat.le_of_ble_eq_true rfl⟩ rfl rfl ?_
          intro r11 er11 H locs hP hD hS
          replace hf := hf.trans (ltt_r er11)
          exact g_endi hx hb hr hlocks rfl hf hP hD hS (Nat.le_of_ble_eq_true rfl) (Nat.le_of_ble_eq_true rfl) dX6_addCitizen_75
        · replace hf := hf.trans (if_neg c10)
          refine lv_iload hx hb dX6_addCitizen_42 (lv_at hl 4 rfl) ?_
          refine lv_iconst (v := nI 0) hx hb dX6_addCitizen_44 (by decide) ?_
          refine lv_bipush (v := nI 23) hx hb dX6_addCitizen_45 (by decide) ?_
          refine g_callsr (wf := (MW cy ax ad ad2)) (σ := u1) (wfc := w0) (σc := ()) hx hb hml hown hts hK hP hD hS hA hl.1 ((MW cy ax ad ad2) u1) (List.Perm.refl _) [.int (w), .int (nI 0), .int (nI 23)] (c_X6_isIn l D cy w (nI 0) (nI 23) ) (va_cwS 3 hts gX6_addCitizen_X6_isIn rfl rfl rfl (by decide +kernel) ⟨Nat.le_of_ble_eq_true rfl, Nat.le_of_ble_eq_true rfl⟩) rfl rfl (Nat.le_of_ble_eq_true rfl) dX6_addCitizen_47 ⟨Nat.le_of_ble_eq_true rfl, Nat.le_of_ble_eq_true rfl⟩ rfl rfl ?_
          intro r12 er12 H locs hP hD hS
          replace hf := hf.trans (ltt_r er12)
          refine lv_if_eq (tgt := 70) hx hb dX6_addCitizen_50 (by decide) (fun c13 => ?_) (fun c13 => ?_)
          · replace hf := hf.trans (if_pos c13)
            refine lv_aload_n hx hb dX6_addCitizen_70 rfl (lv_at hl 0 rfl) ?_
            refine lv_iconst (v := nI 2) hx hb dX6_addCitizen_71 (by decide) ?_
            refine g_calliN (q0 := 0) hnw (wf := (MW cy ax ad ad2)) (σ := u1) (wfc := (MW cy ax ad ad2)) (σc := u1) hx hb hml hown hts hK hP hD hS hA hl.1 [] pm_0 (fun u => u) (fun _ => pm_0b) [.int (nI 2)] (c_X6_no l D cy ax ad ad2 u1 (nI 2) ) (cwV 1 hts gX6_addCitizen_X6_no rfl rfl rfl (by decide +kernel) ⟨Nat.le_of_ble_eq_true rfl, Nat.le_of_ble_eq_true rfl⟩) (gx_l (OW_ob cy ax (ad 0) (ad2 0) u1.1)) rfl rfl rfl rfl (Nat.le_of_ble_eq_true rfl) dX6_addCitizen_72 ⟨Nat.le_of_ble_eq_true rfl, Nat.le_of_ble_eq_true rfl⟩ rfl rfl ?_
            intro r14 er14 H locs hP hD hS
            replace hf := hf.trans (ltt_r er14)
            exact g_endi hx hb hr hlocks rfl hf hP hD hS (Nat.le_of_ble_eq_true rfl) (Nat.le_of_ble_eq_true rfl) dX6_addCitizen_75
          · replace hf := hf.trans (if_neg c13)
            refine lv_iload_n hx hb dX6_addCitizen_53 rfl (lv_at hl 3 rfl) ?_
            refine lv_iload hx hb dX6_addCitizen_54 (lv_at hl 4 rfl) ?_
            refine lv_icmp_eq (tgt := 70) hx hb dX6_addCitizen_56 (by decide) (fun c15 => ?_) (fun c15 => ?_)
            · replace hf := hf.trans (if_pos c15)
              refine lv_aload_n hx hb dX6_addCitizen_70 rfl (lv_at hl 0 rfl) ?_
              refine lv_iconst (v := nI 2) hx hb dX6_addCitizen_71 (by decide) ?_
              refine g_calliN (q0 := 0) hnw (wf := (MW cy ax ad ad2)) (σ := u1) (wfc := (MW cy ax ad ad2)) (σc := u1) hx hb hml hown hts hK hP hD hS hA hl.1 [] pm_0 (fun u => u) (fun _ => pm_0b) [.int (nI 2)] (c_X6_no l D cy ax ad ad2 u1 (nI 2) ) (cwV 1 hts gX6_addCitizen_X6_no rfl rfl rfl (by decide +kernel) ⟨Nat.le_of_ble_eq_true rfl, Nat.le_of_ble_eq_true rfl⟩) (gx_l (OW_ob cy ax (ad 0) (ad2 0) u1.1)) rfl rfl rfl rfl (Nat.le_of_ble_eq_true rfl) dX6_addCitizen_72 ⟨Nat.le_of_ble_eq_true rfl, Nat.le_of_ble_eq_true rfl⟩ rfl rfl ?_
              intro r16 er16 H locs hP hD hS
              replace hf := hf.trans (ltt_r er16)
              exact g_endi hx hb hr hlocks rfl hf hP hD hS (Nat.le_of_ble_eq_true rfl) (Nat.le_of_ble_eq_true rfl) dX6_addCitizen_75
            · replace hf := hf.trans (if_neg c15)
              refine lv_iload hx hb dX6_addCitizen_59 (lv_at hl 5 rfl) ?_
              refine lv_iconst (v := nI 1) hx hb dX6_addCitizen_61 (by decide) ?_
              refine lv_bipush (v := nI 9) hx hb dX6_addCitizen_62 (by decide) ?_
              refine g_callsr (wf := (MW cy ax ad ad2)) (σ := u1) (wfc := w0) (σc := ()) hx hb hml hown hts hK hP hD hS hA hl.1 ((MW cy ax ad ad2) u1) (List.Perm.refl _) [.int (v), .int (nI 1), .int (nI 9)] (c_X6_isIn l D cy v (nI 1) (nI 9) ) (va_cwS 3 hts gX6_addCitizen_X6_isIn rfl rfl rfl (by decide +kernel) ⟨Nat.le_of_ble_eq_true rfl, Nat.le_of_ble_eq_true rfl⟩) rfl rfl (Nat.le_of_ble_eq_true rfl) dX6_addCitizen_64 ⟨Nat.le_of_ble_eq_true rfl, Nat.le_of_ble_eq_true rfl⟩ rfl rfl ?_
              intro r17 er17 H locs hP hD hS
              replace hf := hf.trans (ltt_r er17)
              refine lv_if_ne (tgt := 76) hx hb dX6_addCitizen_67 (by decide) (fun c18 => ?_) (fun c18 => ?_)
              · replace hf := hf.trans (if_neg c18)
                refine lv_aload_n hx hb dX6_addCitizen_76 rfl (lv_at hl 0 rfl) ?_
                refine va_get (D := D) (ci := 6) (v := .ref (ad 0)) (C := RX6) (T := TX6) (N := 4) hx hb hts hin6 hown hK hP (0) (gx_l (OW_ob cy ax (ad 0) (ad2 0) u1.1)) rfl 2 (by decide) wd1 (fun _ h9 => h9) rfl dX6_addCitizen_77 ?_
                refine va_getN (D := D) (ci := 5) (v := .int (u1.2.1 0 12)) (C := RX5) (T := TX5) (N := 22) hx hb hts hin5 hown hK hP (2 + (0)) (gx_r (WD_len _ _ _ _) (gx_l (SW_ob cy (ax 0) ad u1.2.1))) rfl 12 (by decide) (nl_36 hnw) (fun _ h9 => h9) rfl dX6_addCitizen_80 ?_
                refine g_top ((congrFun hz 12).trans hI.c12) ?_
                refine lv_bipush (v := nI 10) hx hb dX6_addCitizen_83 (by decide) ?_
                refine lv_icmp_ne (tgt := 94) hx hb dX6_addCitizen_85 (by decide) (fun c19 => ?_) (fun c19 => ?_)
                · replace hf := hf.trans (if_neg c19)
                  have hc10 : tn (σ.2.1 0 12) < 10 := by have h9 := c19; rw [nI_eq (by omega) (by omega)] at h9; omega
                  refine lv_iconst (v := nI 5) hx hb dX6_addCitizen_94 (by decide) ?_
                  refine g_newi (n := 5) hx hb wd2 hK hP hD hS hA (by decide) (Nat.le_of_ble_eq_true rfl) (Nat.le_of_ble_eq_true rfl) dX6_addCitizen_95 (fun qA H hP hD hS => ?_)
                  have hP : va_P D vwCl ((MTW cy ax ad ad2 qA 5) (u1, (fun _ => (0 : Int32)))) H := hP
                  have hD : va_D A ((MTW cy ax ad ad2 qA 5) (u1, (fun _ => (0 : Int32)))) := hD
                  refine lv_dup hx hb dX6_addCitizen_97 rfl ?_
                  refine lv_iconst (v := nI 0) hx hb dX6_addCitizen_98 (by decide) ?_
                  refine lv_iload_n hx hb dX6_addCitizen_99 rfl (lv_at hl 1 rfl) ?_
                  have h20 : 0 < 5 := by omega
                  refine g_iast (σ1 := (u1, upd (fun _ => (0 : Int32)) 0 x)) hx hb hK hP hD hS (36) 0 0 (MT_get) rfl (nI_clamp (by omega)) (vp_in_nI h20 (by decide)) (MT_set) dX6_addCitizen_100 ?_
                  intro u21 eu21 H locs hP hD hS
                  subst eu21
                  refine lv_dup hx hb dX6_addCitizen_101 rfl ?_
                  refine lv_iconst (v := nI 1) hx hb dX6_addCitizen_102 (by decide) ?_
                  refine lv_iload_n hx hb dX6_addCitizen_103 rfl (lv_at hl 2 rfl) ?_
                  have h22 : 1 < 5 := by omega
                  refine g_iast (σ1 := (u1, upd (upd (fun _ => (0 : Int32)) 0 x) 1 y)) hx hb hK hP hD hS (36) 0 1 (MT_get) rfl (nI_clamp (by omega)) (vp_in_nI h22 (by decide)) (MT_set) dX6_addCitizen_104 ?_
                  intro u23 eu23 H locs hP hD hS
                  subst eu23
                  refine lv_dup hx hb dX6_addCitizen_105 rfl ?_
                  refine lv_iconst (v := nI 2) hx hb dX6_addCitizen_106 (by decide) ?_
                  refine lv_iload_n hx hb dX6_addCitizen_107 rfl (lv_at hl 3 rfl) ?_
                  have h24 : 2 < 5 := by omega
                  refine g_iast (σ1 := (u1, upd (upd (upd (fun _ => (0 : Int32)) 0 x) 1 y) 2 z)) hx hb hK hP hD hS (36) 0 2 (MT_get) rfl (nI_clamp (by omega)) (vp_in_nI h24 (by decide)) (MT_set) dX6_addCitizen_108 ?_
                  intro u25 eu25 H locs hP hD hS
                  subst eu25
                  refine lv_dup hx hb dX6_addCitizen_109 rfl ?_
                  refine lv_iconst (v := nI 3) hx hb dX6_addCitizen_110 (by decide) ?_
                  refine lv_iload hx hb dX6_addCitizen_111 (lv_at hl 4 rfl) ?_
                  have h26 : 3 < 5 := by omega
                  refine g_iast (σ1 := (u1, upd (upd (upd (upd (fun _ => (0 : Int32)) 0 x) 1 y) 2 z) 3 w)) hx hb hK hP hD hS (36) 0 3 (MT_get) rfl (nI_clamp (by omega)) (vp_in_nI h26 (by decide)) (MT_set) dX6_addCitizen_113 ?_
                  intro u27 eu27 H locs hP hD hS
                  subst eu27
                  refine lv_dup hx hb dX6_addCitizen_114 rfl ?_
                  refine lv_iconst (v := nI 4) hx hb dX6_addCitizen_115 (by decide) ?_
                  refine lv_iload hx hb dX6_addCitizen_116 (lv_at hl 5 rfl) ?_
                  have h28 : 4 < 5 := by omega
                  refine g_iast (σ1 := (u1, upd (upd (upd (upd (upd (fun _ => (0 : Int32)) 0 x) 1 y) 2 z) 3 w) 4 v)) hx hb hK hP hD hS (36) 0 4 (MT_get) rfl (nI_clamp (by omega)) (vp_in_nI h28 (by decide)) (MT_set) dX6_addCitizen_118 ?_
                  intro u29 eu29 H locs hP hD hS
                  subst eu29
                  refine lv_astore (lv' := [(6, .ref (qA)), (0, .ref (ax 0)), (1, .int (x)), (2, .int (y)), (3, .int (z)), (4, .int (w)), (5, .int (v))]) hx hb dX6_addCitizen_119 hl (by decide) rfl (fun ls hl => ?_)
                  refine lv_aload hx hb dX6_addCitizen_121 (lv_at hl 0 rfl) ?_
                  refine lv_iconst (v := nI 0) hx hb dX6_addCitizen_123 (by decide) ?_
                  refine lv_aload_n hx hb dX6_addCitizen_124 rfl (lv_at hl 1 rfl) ?_
                  refine va_get (D := D) (ci := 6) (v := .ref (ad 0)) (C := RX6) (T := TX6) (N := 4) hx hb hts hin6 hown hK hP (0) (gx_l (gx_l (OW_ob cy ax (ad 0) (ad2 0) u1.1))) rfl 2 (by decide) wd1 (fun _ h9 => h9) rfl dX6_addCitizen_125 ?_
                  refine va_getN (D := D) (ci := 5) (v := .ref (ad 10)) (C := RX5) (T := TX5) (N := 22) hx hb hts hin5 hown hK hP (2 + (0)) (gx_l (gx_r (WD_len _ _ _ _) (gx_l (SW_ob cy (ax 0) ad u1.2.1)))) rfl 13 (by decide) (nl_60 hnw) (fun _ h9 => h9) rfl dX6_addCitizen_128 ?_
                  refine lv_iconst (v := nI 5) hx hb dX6_addCitizen_131 (by decide) ?_
                  refine lv_aload_n hx hb dX6_addCitizen_132 rfl (lv_at hl 1 rfl) ?_
                  refine va_get (D := D) (ci := 6) (v := .ref (ad 0)) (C := RX6) (T := TX6) (N := 4) hx hb hts hin6 hown hK hP (0) (gx_l (gx_l (OW_ob cy ax (ad 0) (ad2 0) u1.1))) rfl 2 (by decide) wd1 (fun _ h9 => h9) rfl dX6_addCitizen_133 ?_
                  refine va_getN (D := D) (ci := 5) (v := .int (u1.2.1 0 12)) (C := RX5) (T := TX5) (N := 22) hx hb hts hin5 hown hK hP (2 + (0)) (gx_l (gx_r (WD_len _ _ _ _) (gx_l (SW_ob cy (ax 0) ad u1.2.1)))) rfl 12 (by decide) (nl_36 hnw) (fun _ h9 => h9) rfl dX6_addCitizen_136 ?_
                  refine g_top ((congrFun hz 12).trans hI.c12) ?_
                  refine lv_imul hx hb dX6_addCitizen_139 ?_
                  refine g_top (pk_mul _ _) ?_
                  refine lv_iconst (v := nI 5) hx hb dX6_addCitizen_140 (by decide) ?_
                  refine g_copyi (σ1 := ((u1.1, (upr u1.2.1 10 (va_cpy (upd (upd (upd (upd (upd (fun _ => (0 : Int32)) 0 x) 1 y) 2 z) 3 w) 4 v) (u1.2.1 10) 0 (5 * (tn (σ.2.1 0 12))) 5), u1.2.2)), upd (upd (upd (upd (upd (fun _ => (0 : Int32)) 0 x) 1 y) 2 z) 3 w) 4 v)) hx hb (hml.trans hl.1.symm) hown wd3 wd4 wd5 wd6 hK hP hD hS (36) (2 + (10)) 0 0 (MT_get) (gx_l (gx_r (WD_len _ _ _ _) (gx_l (SW_10 cy (ax 0) ad u1.2.1)))) rfl rfl ⟨by omega, by omega⟩ ⟨by omega, by omega⟩ (Nat.le_of_ble_eq_true rfl) (Nat.le_of_ble_eq_true rfl) (gx_setl (by rw [MW_len]; omega) (gx_setr (WD_len _ _ _ _) (gx_setl (by rw [WD_len]; omega) (SW_10_setr cy (ax 0) ad u1.2.1 _)))) dX6_addCitizen_141 ?_
                  intro u30 eu30 H locs hP hD hS
                  replace hf := hf.trans (ltt_r eu30)
                  have hz : u30.1.2.1 0 = σ.2.1 0 := by rw [eu30]; exact keep_upr rfl (by decide) hz
                  refine lv_aload_n hx hb dX6_addCitizen_144 rfl (lv_at hl 1 rfl) ?_
                  refine va_get (D := D) (ci := 6) (v := .ref (ad 0)) (C := RX6) (T := TX6) (N := 4) hx hb hts hin6 hown hK hP (0) (gx_l (gx_l (OW_ob cy ax (ad 0) (ad2 0) u30.1.1))) rfl 2 (by decide) wd1 (fun _ h9 => h9) rfl dX6_addCitizen_145 ?_
                  refine va_getN (D := D) (ci := 5) (v := .ref (ad 11)) (C := RX5) (T := TX5) (N := 22) hx hb hts hin5 hown hK hP (2 + (0)) (gx_l (gx_r (WD_len _ _ _ _) (gx_l (SW_ob cy (ax 0) ad u30.1.2.1)))) rfl 14 (by decide) (nl_69 hnw) (fun _ h9 => h9) rfl dX6_addCitizen_148 ?_
                  refine lv_aload_n hx hb dX6_addCitizen_151 rfl (lv_at hl 1 rfl) ?_
                  refine va_get (D := D) (ci := 6) (v := .ref (ad 0)) (C := RX6) (T := TX6) (N := 4) hx hb hts hin6 hown hK hP (0) (gx_l (gx_l (OW_ob cy ax (ad 0) (ad2 0) u30.1.1))) rfl 2 (by decide) wd1 (fun _ h9 => h9) rfl dX6_addCitizen_152 ?_
                  refine va_getN (D := D) (ci := 5) (v := .int (u30.1.2.1 0 12)) (C := RX5) (T := TX5) (N := 22) hx hb hts hin5 hown hK hP (2 + (0)) (gx_l (gx_r (WD_len _ _ _ _) (gx_l (SW_ob cy (ax 0) ad u30.1.2.1)))) rfl 12 (by decide) (nl_36 hnw) (fun _ h9 => h9) rfl dX6_addCitizen_155 ?_
                  refine g_top ((congrFun hz 12).trans hI.c12) ?_
                  refine lv_iload_n hx hb dX6_addCitizen_158 rfl (lv_at hl 2 rfl) ?_
                  have h31 : tn (σ.2.1 0 12) < 10 := by omega
                  refine g_iast (σ1 := ((u30.1.1, (up u30.1.2.1 11 (tn (σ.2.1 0 12)) x, u30.1.2.2)), u30.2)) hx hb hK hP hD hS (2 + (11)) 0 (tn (σ.2.1 0 12)) (gx_l (gx_r (WD_len _ _ _ _) (gx_l (SW_11 cy (ax 0) ad u30.1.2.1)))) rfl (nI_clamp (by omega)) (vp_in_nI h31 (by decide)) (gx_setl (by rw [MW_len]; omega) (gx_setr (WD_len _ _ _ _) (gx_setl (by rw [WD_len]; omega) (SW_11_set cy (ax 0) ad u30.1.2.1 (tn (σ.2.1 0 12)) _)))) dX6_addCitizen_159 ?_
                  intro u32 eu32 H locs hP hD hS
                  replace hf := hf.trans (ltt_r eu32)
                  have hz : u32.1.2.1 0 = σ.2.1 0 := by rw [eu32]; exact keep_up rfl (by decide) hz
                  refine lv_aload_n hx hb dX6_addCitizen_160 rfl (lv_at hl 1 rfl) ?_
                  refine va_get (D := D) (ci := 6) (v := .ref (ad 0)) (C := RX6) (T := TX6) (N := 4) hx hb hts hin6 hown hK hP (0) (gx_l (gx_l (OW_ob cy ax (ad 0) (ad2 0) u32.1.1))) rfl 2 (by decide) wd1 (fun _ h9 => h9) rfl dX6_addCitizen_161 ?_
                  refine va_getN (D := D) (ci := 5) (v := .ref (ad 14)) (C := RX5) (T := TX5) (N := 22) hx hb hts hin5 hown hK hP (2 + (0)) (gx_l (gx_r (WD_len _ _ _ _) (gx_l (SW_ob cy (ax 0) ad u32.1.2.1)))) rfl 17 (by decide) (nl_72 hnw) (fun _ h9 => h9) rfl dX6_addCitizen_164 ?_
                  refine lv_aload_n hx hb dX6_addCitizen_167 rfl (lv_at hl 1 rfl) ?_
                  refine va_get (D := D) (ci := 6) (v := .ref (ad 0)) (C := RX6) (T := TX6) (N := 4) hx hb hts hin6 hown hK hP (0) (gx_l (gx_l (OW_ob cy ax (ad 0) (ad2 0) u32.1.1))) rfl 2 (by decide) wd1 (fun _ h9 => h9) rfl dX6_addCitizen_168 ?_
                  refine va_getN (D := D) (ci := 5) (v := .int (u32.1.2.1 0 12)) (C := RX5) (T := TX5) (N := 22) hx hb hts hin5 hown hK hP (2 + (0)) (gx_l (gx_r (WD_len _ _ _ _) (gx_l (SW_ob cy (ax 0) ad u32.1.2.1)))) rfl 12 (by decide) (nl_36 hnw) (fun _ h9 => h9) rfl dX6_addCitizen_171 ?_
                  refine g_top ((congrFun hz 12).trans hI.c12) ?_
                  refine lv_iconst (v := (-1 : Int32)) hx hb dX6_addCitizen_174 (by decide) ?_
                  have h33 : tn (σ.2.1 0 12) < 10 := by omega
                  refine g_iast (σ1 := ((u32.1.1, (up u32.1.2.1 14 (tn (σ.2.1 0 12)) (-1 : Int32), u32.1.2.2)), u32.2)) hx hb hK hP hD hS (2 + (14)) 0 (tn (σ.2.1 0 12)) (gx_l (gx_r (WD_len _ _ _ _) (gx_l (SW_14 cy (ax 0) ad u32.1.2.1)))) rfl (nI_clamp (by omega)) (vp_in_nI h33 (by decide)) (gx_setl (by rw [MW_len]; omega) (gx_setr (WD_len _ _ _ _) (gx_setl (by rw [WD_len]; omega) (SW_14_set cy (ax 0) ad u32.1.2.1 (tn (σ.2.1 0 12)) _)))) dX6_addCitizen_175 ?_
                  intro u34 eu34 H locs hP hD hS
                  replace hf := hf.trans (ltt_r eu34)
                  have hz : u34.1.2.1 0 = σ.2.1 0 := by rw [eu34]; exact keep_up rfl (by decide) hz
                  refine lv_aload_n hx hb dX6_addCitizen_176 rfl (lv_at hl 1 rfl) ?_
                  refine va_get (D := D) (ci := 6) (v := .ref (ad 0)) (C := RX6) (T := TX6) (N := 4) hx hb hts hin6 hown hK hP (0) (gx_l (gx_l (OW_ob cy ax (ad 0) (ad2 0) u34.1.1))) rfl 2 (by decide) wd1 (fun _ h9 => h9) rfl dX6_addCitizen_177 ?_
                  refine va_getN (D := D) (ci := 5) (v := .ref (ad 15)) (C := RX5) (T := TX5) (N := 22) hx hb hts hin5 hown hK hP (2 + (0)) (gx_l (gx_r (WD_len _ _ _ _) (gx_l (SW_ob cy (ax 0) ad u34.1.2.1)))) rfl 18 (by decide) (nl_75 hnw) (fun _ h9 => h9) rfl dX6_addCitizen_180 ?_
                  refine lv_aload_n hx hb dX6_addCitizen_183 rfl (lv_at hl 1 rfl) ?_
                  refine va_get (D := D) (ci := 6) (v := .ref (ad 0)) (C := RX6) (T := TX6) (N := 4) hx hb hts hin6 hown hK hP (0) (gx_l (gx_l (OW_ob cy ax (ad 0) (ad2 0) u34.1.1))) rfl 2 (by decide) wd1 (fun _ h9 => h9) rfl dX6_addCitizen_184 ?_
                  refine va_getN (D := D) (ci := 5) (v := .int (u34.1.2.1 0 12)) (C := RX5) (T := TX5) (N := 22) hx hb hts hin5 hown hK hP (2 + (0)) (gx_l (gx_r (WD_len _ _ _ _) (gx_l (SW_ob cy (ax 0) ad u34.1.2.1)))) rfl 12 (by decide) (nl_36 hnw) (fun _ h9 => h9) rfl dX6_addCitizen_187 ?_
                  refine g_top ((congrFun hz 12).trans hI.c12) ?_
                  refine lv_iconst (v := nI 5) hx hb dX6_addCitizen_190 (by decide) ?_
                  have h35 : tn (σ.2.1 0 12) < 10 := by omega
                  refine g_iast (σ1 := ((u34.1.1, (up u34.1.2.1 15 (tn (σ.2.1 0 12)) (nI 5), u34.1.2.2)), u34.2)) hx hb hK hP hD hS (2 + (15)) 0 (tn (σ.2.1 0 12)) (gx_l (gx_r (WD_len _ _ _ _) (gx_l (SW_15 cy (ax 0) ad u34.1.2.1)))) rfl (nI_clamp (by omega)) (vp_in_nI h35 (by decide)) (gx_setl (by rw [MW_len]; omega) (gx_setr (WD_len _ _ _ _) (gx_setl (by rw [WD_len]; omega) (SW_15_set cy (ax 0) ad u34.1.2.1 (tn (σ.2.1 0 12)) _)))) dX6_addCitizen_191 ?_
                  intro u36 eu36 H locs hP hD hS
                  replace hf := hf.trans (ltt_r eu36)
                  have hz : u36.1.2.1 0 = σ.2.1 0 := by rw [eu36]; exact keep_up rfl (by decide) hz
                  refine lv_aload_n hx hb dX6_addCitizen_192 rfl (lv_at hl 1 rfl) ?_
                  refine va_get (D := D) (ci := 6) (v := .ref (ad 0)) (C := RX6) (T := TX6) (N := 4) hx hb hts hin6 hown hK hP (0) (gx_l (gx_l (OW_ob cy ax (ad 0) (ad2 0) u36.1.1))) rfl 2 (by decide) wd1 (fun _ h9 => h9) rfl dX6_addCitizen_193 ?_
                  refine lv_dup hx hb dX6_addCitizen_196 rfl ?_
                  refine va_getN (D := D) (ci := 5) (v := .int (u36.1.2.1 0 12)) (C := RX5) (T := TX5) (N := 22) hx hb hts hin5 hown hK hP (2 + (0)) (gx_l (gx_r (WD_len _ _ _ _) (gx_l (SW_ob cy (ax 0) ad u36.1.2.1)))) rfl 12 (by decide) (nl_36 hnw) (fun _ h9 => h9) rfl dX6_addCitizen_197 ?_
                  refine g_top ((congrFun hz 12).trans hI.c12) ?_
                  refine lv_iconst (v := nI 1) hx hb dX6_addCitizen_200 (by decide) ?_
                  refine lv_iadd hx hb dX6_addCitizen_201 ?_
                  refine g_top (nI_add _ _) ?_
                  refine g_putN (σ1 := ((u36.1.1, (up u36.1.2.1 0 12 (nI ((tn (σ.2.1 0 12)) + 1)), u36.1.2.2)), u36.2)) (fs := stF (ax 0) ad (u36.1.2.1 0)) (C := RX5) (T := TX5) (N := 22) hx hb hts hin5 tyX5_ok nmX5 hown hK hP hD hS (2 + (0)) (gx_l (gx_r (WD_len _ _ _ _) (gx_l (SW_ob cy (ax 0) ad u36.1.2.1)))) rfl 12 (by decide) (nl_36 hnw) rfl rfl (Nat.le_of_ble_eq_true rfl) (gx_setl (by rw [MW_len]; omega) (gx_setr (WD_len _ _ _ _) (gx_setl (by rw [WD_len]; omega) (SW_ob_set cy (ax 0) ad u36.1.2.1 12 (by decide) _)))) dX6_addCitizen_202 ?_
                  intro u37 eu37 H locs hP hD hS
                  replace hf := hf.trans (ltt_r eu37)
                  refine lv_aload_n hx hb dX6_addCitizen_205 rfl (lv_at hl 1 rfl) ?_
                  refine va_get (D := D) (ci := 6) (v := .ref (ad 0)) (C := RX6) (T := TX6) (N := 4) hx hb hts hin6 hown hK hP (0) (gx_l (gx_l (OW_ob cy ax (ad 0) (ad2 0) u37.1.1))) rfl 2 (by decide) wd1 (fun _ h9 => h9) rfl dX6_addCitizen_206 ?_
                  refine va_getN (D := D) (ci := 5) (v := .int (u37.1.2.1 0 12)) (C := RX5) (T := TX5) (N := 22) hx hb hts hin5 hown hK hP (2 + (0)) (gx_l (gx_r (WD_len _ _ _ _) (gx_l (SW_ob cy (ax 0) ad u37.1.2.1)))) rfl 12 (by decide) (nl_36 hnw) (fun _ h9 => h9) rfl dX6_addCitizen_209 ?_
                  refine lv_iconst (v := nI 1) hx hb dX6_addCitizen_212 (by decide) ?_
                  refine lv_isub hx hb dX6_addCitizen_213 ?_
                  exact g_endi hx hb hr hlocks rfl hf (va_P_l hP) (va_D_l hD) hS (Nat.le_of_ble_eq_true rfl) (Nat.le_of_ble_eq_true rfl) dX6_addCitizen_214
                · replace hf := hf.trans (if_pos c19)
                  refine lv_aload_n hx hb dX6_addCitizen_88 rfl (lv_at hl 0 rfl) ?_
                  refine lv_iconst (v := nI 3) hx hb dX6_addCitizen_89 (by decide) ?_
                  refine g_calliN (q0 := 0) hnw (wf := (MW cy ax ad ad2)) (σ := u1) (wfc := (MW cy ax ad ad2)) (σc := u1) hx hb hml hown hts hK hP hD hS hA hl.1 [] pm_0 (fun u => u) (fun _ => pm_0b) [.int (nI 3)] (c_X6_no l D cy ax ad ad2 u1 (nI 3) ) (cwV 1 hts gX6_addCitizen_X6_no rfl rfl rfl (by decide +kernel) ⟨Nat.le_of_ble_eq_true rfl, Nat.le_of_ble_eq_true rfl⟩) (gx_l (OW_ob cy ax (ad 0) (ad2 0) u1.1)) rfl rfl rfl rfl (Nat.le_of_ble_eq_true rfl) dX6_addCitizen_90 ⟨Nat.le_of_ble_eq_true rfl, Nat.le_of_ble_eq_true rfl⟩ rfl rfl ?_
                  intro r38 er38 H locs hP hD hS
                  replace hf := hf.trans (ltt_r er38)
                  exact g_endi hx hb hr hlocks rfl hf hP hD hS (Nat.le_of_ble_eq_true rfl) (Nat.le_of_ble_eq_true rfl) dX6_addCitizen_93
              · replace hf := hf.trans (if_pos c18)
                refine lv_aload_n hx hb dX6_addCitizen_70 rfl (lv_at hl 0 rfl) ?_
                refine lv_iconst (v := nI 2) hx hb dX6_addCitizen_71 (by decide) ?_
                refine g_calliN (q0 := 0) hnw (wf := (MW cy ax ad ad2)) (σ := u1) (wfc := (MW cy ax ad ad2)) (σc := u1) hx hb hml hown hts hK hP hD hS hA hl.1 [] pm_0 (fun u => u) (fun _ => pm_0b) [.int (nI 2)] (c_X6_no l D cy ax ad ad2 u1 (nI 2) ) (cwV 1 hts gX6_addCitizen_X6_no rfl rfl rfl (by decide +kernel) ⟨Nat.le_of_ble_eq_true rfl, Nat.le_of_ble_eq_true rfl⟩) (gx_l (OW_ob cy ax (ad 0) (ad2 0) u1.1)) rfl rfl rfl rfl (Nat.le_of_ble_eq_true rfl) dX6_addCitizen_72 ⟨Nat.le_of_ble_eq_true rfl, Nat.le_of_ble_eq_true rfl⟩ rfl rfl ?_
                intro r39 er39 H locs hP hD hS
                replace hf := hf.trans (ltt_r er39)
                exact g_endi hx hb hr hlocks rfl hf hP hD hS (Nat.le_of_ble_eq_true rfl) (Nat.le_of_ble_eq_true rfl) dX6_addCitizen_75
    · replace hf := hf.trans (if_pos c6)
      refine lv_aload_n hx hb dX6_addCitizen_21 rfl (lv_at hl 0 rfl) ?_
      refine lv_iconst (v := nI 1) hx hb dX6_addCitizen_22 (by decide) ?_
      refine g_calliN (q0 := 0) hnw (wf := (MW cy ax ad ad2)) (σ := u1) (wfc := (MW cy ax ad ad2)) (σc := u1) hx hb hml hown hts hK hP hD hS hA hl.1 [] pm_0 (fun u => u) (fun _ => pm_0b) [.int (nI 1)] (c_X6_no l D cy ax ad ad2 u1 (nI 1) ) (cwV 1 hts gX6_addCitizen_X6_no rfl rfl rfl (by decide +kernel) ⟨Nat.le_of_ble_eq_true rfl, Nat.le_of_ble_eq_true rfl⟩) (gx_l (OW_ob cy ax (ad 0) (ad2 0) u1.1)) rfl rfl rfl rfl (Nat.le_of_ble_eq_true rfl) dX6_addCitizen_23 ⟨Nat.le_of_ble_eq_true rfl, Nat.le_of_ble_eq_true rfl⟩ rfl rfl ?_
      intro r40 er40 H locs hP hD hS
      replace hf := hf.trans (ltt_r er40)
      exact g_endi hx hb hr hlocks rfl hf hP hD hS (Nat.le_of_ble_eq_true rfl) (Nat.le_of_ble_eq_true rfl) dX6_addCitizen_26
def lp_X6_advise_73 (σ : Sg × Sg × Sg) (x : Int32)  : Nat → Nat → Int32 → Int32 → Sg × Sg × Sg → Int32 × Int32 × (Sg × Sg × Sg)
  | 0, k, best, least, τ => (best, least, τ)
  | n + 1, k, best, least, τ => ltt (s_X5_become τ.2) (fun u3 => ltt (s_X5_bring u3.2 (nI k)) (fun u4 => ltt (s_X6_pass (u4, τ.1) (tn x)) (fun r6 => ltt (s_X5_over r6.2.1 (nI 0)) (fun r7 => if r7 < least then ltt (s_X5_over r6.2.1 (nI 0)) (fun r9 => lp_X6_advise_73 σ x n (k + 1) (nI k) r9 (r6.2.2, (u3.1, r6.2.1))) else lp_X6_advise_73 σ x n (k + 1) best least (r6.2.2, (u3.1, r6.2.1))))))
def s_X6_advise (σ : Sg × Sg × Sg) (x : Int32) : Int32 × (Sg × Sg × Sg) := ltt ((up σ.1 0 0 (nI 0), σ.2)) (fun u10 => ltt (s_X6_isIn x (nI 1) (nI 24)) (fun r11 => if r11 = 0 then ltt (s_X6_no u10 (nI 1)) (fun r20 => (r20.1, r20.2)) else if (nI (tn (σ.2.1 0 5))) = (nI 40) then ltt (s_X6_no u10 (nI 2)) (fun r19 => (r19.1, r19.2)) else ltt (s_X5_become u10.2) (fun u14 => ltt (s_X6_pass (u14.2, u10.1) (tn x)) (fun r16 => ltt (s_X5_over r16.2.1 (nI 0)) (fun r17 => ltt (lp_X6_advise_73 σ x (tn (σ.2.1 0 1)) 0 ((-1 : Int32)) r17 (r16.2.2, (u14.1, r16.2.1))) (fun q18 => (q18.1, q18.2.2)))))))
abbrev rm_X6_advise : Room := { frames := 5, cells := 0, slots := 0, locals := 117 }
set_option maxHeartbeats 4000000 in
set_option maxRecDepth 100000 in
theorem c_X6_advise (l : Launch) (D : va_G) (cy : Nat → ClassId) (ax ad ad2 : Nat → Nat) (σ : Sg × Sg × Sg) (x : Int32) (IV : Nat → Sg × Sg → Prop) (hQ : QInv IV) (h0 : Nat) (hh0 : h0 + 101 < 100000) (hi : IV h0 (σ.2.1, σ.1)) : gMiN l yX6_advise wsX6_advise rm_X6_advise D (Ty cy) (MW cy ax ad ad2) [.ref (ax 0), .int (x)] σ (s_X6_advise σ x) 0 0 := by
  refine gstartiN cX6_advise 5 RX6 (by decide) rfl rfl (Nat.le_of_ble_eq_true rfl) ?_
  intro p e s m below meth c A ls hx hb hml hown hts hr hlocks hK hP hD hA hS hl hnw
  have hl : lv_has ls 5 [(0, .ref (ax 0)), (1, .int (x))] := hl
  have hf : s_X6_advise σ x = s_X6_advise σ x := rfl
  have hz : σ.2.1 0 = σ.2.1 0 := rfl
  have hin6 : ∀ w ∈ wsX60, w ∈ wsX6_advise := by decide +kernel
  have hin5 : ∀ w ∈ wsX50, w ∈ wsX6_advise := by decide +kernel
  have wd0 := hts (.fieldLink RX6 18 "UmbrellaLandModel" "s" "LUmbrellaLandModel$State;") (by decide +kernel)
  have wd1 := hts (.fieldLink RX6 22 "UmbrellaLandModel" "ahead" "LUmbrellaLandModel$State;") (by decide +kernel)
  have wd2 := hts (.fieldLink RX6 25 "UmbrellaLandModel" "thrown" "I") (by decide +kernel)
  have hI : OkN σ.2.1 := (hQ.1 _).1 (σ.2.1, σ.1) hi
  have n1 := hI.n1
  have n5 := hI.n5
  have loop73 : ∀  (n k : Nat) (best : Int32) (least : Int32) (τ : Sg × Sg × Sg) (H : Heap) (locs : List Loc) (ls : Array Slot), n = tn (σ.2.1 0 1) - k ∧ k ≤ tn (σ.2.1 0 1) + 1 → τ.2.1 0 = σ.2.1 0 → (IV h0 ((τ).2.1, (τ).1)) → (vp_in x 25) → (tn (σ.2.1 0 5) < 40) → va_P D vwCl ((MW cy ax ad ad2) τ) H → va_D A ((MW cy ax ad ad2) τ) → va_S A s.heap H locs → lv_has ls 5 [(0, .ref (ax 0)), (1, .int (x)), (2, .int (best)), (3, .int (least)), (4, .int (nI k))] → (∀ u : Int32 × Int32 × (Sg × Sg × Sg), u = lp_X6_advise_73 σ x n k best least τ → u.2.2.2.1 0 = σ.2.1 0 → (IV h0 ((u.2.2).2.1, (u.2.2).1)) → (vp_in x 25) → (tn (σ.2.1 0 5) < 40) → ∀ (H : Heap) (locs : List Loc) (ls : Array Slot), va_P D vwCl ((MW cy ax ad ad2) u.2.2) H → va_D A ((MW cy ax ad ad2) u.2.2) → va_S A s.heap H locs → lv_has ls 5 [(0, .ref (ax 0)), (1, .int (x)), (2, .int (u.1)), (3, .int (u.2.1))] → W p l e rm_X6_advise s m [.ref (ax 0), .int (x)].toArray below meth c H locs 0 0 (MQ below (va_Qi (fun r u => (r, u) = s_X6_advise σ x) (gPost D (MW cy ax ad ad2) A) A) [.ref (ax 0), .int (x)].toArray s 0 0 A) (F0 m 147 ls [])) → W p l e rm_X6_advise s m [.ref (ax 0), .int (x)].toArray below meth c H locs 0 0 (MQ below (va_Qi (fun r u => (r, u) = s_X6_advise σ x) (gPost D (MW cy ax ad ad2) A) A) [.ref (ax 0), .int (x)].toArray s 0 0 A) (F0 m 73 ls []) := by
    intro n
    induction n with
    | zero =>
      intro k best least τ H locs ls hN hz hi0 hi1 hi2 hP hD hS hl K
      have hf : lp_X6_advise_73 σ x 0 k best least τ = lp_X6_advise_73 σ x 0 k best least τ := rfl
      refine lv_iload hx hb dX6_advise_73 (lv_at hl 4 rfl) ?_
      refine lv_aload_n hx hb dX6_advise_75 rfl (lv_at hl 0 rfl) ?_
      refine va_get (D := D) (ci := 6) (v := .ref (ad 0)) (C := RX6) (T := TX6) (N := 4) hx hb hts hin6 hown hK hP (0) (gx_l (OW_ob cy ax (ad 0) (ad2 0) τ.1)) rfl 2 (by decide) wd0 (fun _ h9 => h9) rfl dX6_advise_76 ?_
      refine va_getN (D := D) (ci := 5) (v := .int (τ.2.1 0 1)) (C := RX5) (T := TX5) (N := 22) hx hb hts hin5 hown hK hP (2 + (0)) (gx_r (WD_len _ _ _ _) (gx_l (SW_ob cy (ax 0) ad τ.2.1))) rfl 1 (by decide) (nl_29 hnw) (fun _ h9 => h9) rfl dX6_advise_79 ?_
      refine g_top ((congrFun hz 1).trans hI.c1) ?_
      refine lv_icmp_ge (tgt := 147) hx hb dX6_advise_82 (by decide) (fun c1 => ?_) (fun c1 => absurd (nI_le (by omega) (by omega)) c1)
      exact K (best, least, τ) hf.symm hz hi0 hi1 hi2 _ _ _ hP hD hS (lv_sub hl [0, 1, 2, 3] rfl)
    | succ n ih =>
      intro k best least τ H locs ls hN hz hi0 hi1 hi2 hP hD hS hl K
      have hf : lp_X6_advise_73 σ x (n + 1) k best least τ = lp_X6_advise_73 σ x (n + 1) k best least τ := rfl
      have hz0 := hz
      refine lv_iload hx hb dX6_advise_73 (lv_at hl 4 rfl) ?_
      refine lv_aload_n hx hb dX6_advise_75 rfl (lv_at hl 0 rfl) ?_
      refine va_get (D := D) (ci := 6) (v := .ref (ad 0)) (C := RX6) (T := TX6) (N := 4) hx hb hts hin6 hown hK hP (0) (gx_l (OW_ob cy ax (ad 0) (ad2 0) τ.1)) rfl 2 (by decide) wd0 (fun _ h9 => h9) rfl dX6_advise_76 ?_
      refine va_getN (D := D) (ci := 5) (v := .int (τ.2.1 0 1)) (C := RX5) (T := TX5) (N := 22) hx hb hts hin5 hown hK hP (2 + (0)) (gx_r (WD_len _ _ _ _) (gx_l (SW_ob cy (ax 0) ad τ.2.1))) rfl 1 (by decide) (nl_29 hnw) (fun _ h9 => h9) rfl dX6_advise_79 ?_
      refine g_top ((congrFun hz 1).trans hI.c1) ?_
      refine lv_icmp_ge (tgt := 147) hx hb dX6_advise_82 (by decide) (fun c2 => absurd c2 (nI_ge (by omega) (by omega))) (fun c2 => ?_)
      refine lv_aload_n hx hb dX6_advise_85 rfl (lv_at hl 0 rfl) ?_
      refine va_get (D := D) (ci := 6) (v := .ref (ad2 0)) (C := RX6) (T := TX6) (N := 4) hx hb hts hin6 hown hK hP (0) (gx_l (OW_ob cy ax (ad 0) (ad2 0) τ.1)) rfl 3 (by decide) wd1 (fun _ h9 => h9) rfl dX6_advise_86 ?_
      refine lv_aload_n hx hb dX6_advise_89 rfl (lv_at hl 0 rfl) ?_
      refine va_get (D := D) (ci := 6) (v := .ref (ad 0)) (C := RX6) (T := TX6) (N := 4) hx hb hts hin6 hown hK hP (0) (gx_l (OW_ob cy ax (ad 0) (ad2 0) τ.1)) rfl 2 (by decide) wd0 (fun _ h9 => h9) rfl dX6_advise_90 ?_
      refine g_callv (q0 := 2 + (17 + (0))) (wf := (MW cy ax ad ad2)) (σ := τ) (wfc := (BW cy (ax 0) ad ad2)) (σc := τ.2) hx hb hml hown hts hK hP hD hS hA hl.1 (OW cy ax (ad 0) (ad2 0) (τ.1)) pm_x (fun u => (τ.1, u)) (fun _ => pm_x.symm) [.ref (ad 0)] (c_X5_become l D cy (ax 0) ad ad2 τ.2 ) (cwV 1 hts gX6_advise_X5_become rfl rfl rfl (by decide +kernel) ⟨Nat.le_of_ble_eq_true rfl, Nat.le_of_ble_eq_true rfl⟩) (gx_r (WD_len _ _ _ _) (gx_r (WD_len _ _ _ _) (SW_ob cy (ax 0) ad2 τ.2.2))) rfl rfl rfl rfl (Nat.le_of_ble_eq_true rfl) dX6_advise_93 ⟨Nat.le_of_ble_eq_true rfl, Nat.le_of_ble_eq_true rfl⟩ rfl rfl ?_
      intro u3 eu3 H locs hP hD hS
      replace hf := hf.trans (ltt_r eu3)
      have hz : u3.1 0 = σ.2.1 0 := by rw [eu3]; exact (z_X5_become τ.2 ).trans hz
      have hk0 : IV h0 (τ.2.1, τ.1) := hi0
      have hka : IV h0 (u3.2, τ.1) := by rw [eu3]; exact hQ.2.2.2.1 _ _ _ _ hk0
      have hb1 : u3.2 0 1 = σ.2.1 0 1 := by rw [eu3, become_0 _ _ (by decide)]; exact congrFun hz0 1
      have hb5 : u3.2 0 5 = σ.2.1 0 5 := by rw [eu3, become_0 _ _ (by decide)]; exact congrFun hz0 5
      have hbl : tn (u3.2 0 5) < 40 := by rw [hb5]; exact hi2
      refine lv_aload_n hx hb dX6_advise_96 rfl (lv_at hl 0 rfl) ?_
      refine va_get (D := D) (ci := 6) (v := .ref (ad2 0)) (C := RX6) (T := TX6) (N := 4) hx hb hts hin6 hown hK hP (0) (gx_l (OW_ob cy ax (ad 0) (ad2 0) τ.1)) rfl 3 (by decide) wd1 (fun _ h9 => h9) rfl dX6_advise_97 ?_
      refine lv_iload hx hb dX6_advise_100 (lv_at hl 4 rfl) ?_
      refine g_callv (q0 := 2 + (17 + (0))) (wf := (MW cy ax ad ad2)) (σ := (τ.1, u3)) (wfc := (SW cy (ax 0) ad2)) (σc := u3.2) hx hb hml hown hts hK hP hD hS hA hl.1 (OW cy ax (ad 0) (ad2 0) (τ.1) ++ SW cy (ax 0) ad (u3.1)) pm_a (fun u => (τ.1, (u3.1, u))) (fun _ => pm_a.symm) [.int (nI k)] (c_X5_bring l D cy (ax 0) ad2 u3.2 (nI k) ((hQ.1 _).1 _ hka) hbl) (cwV 1 hts gX6_advise_X5_bring rfl rfl rfl (by decide +kernel) ⟨Nat.le_of_ble_eq_true rfl, Nat.le_of_ble_eq_true rfl⟩) (gx_r (WD_len _ _ _ _) (gx_r (WD_len _ _ _ _) (SW_ob cy (ax 0) ad2 u3.2))) rfl rfl rfl rfl (Nat.le_of_ble_eq_true rfl) dX6_advise_102 ⟨Nat.le_of_ble_eq_true rfl, Nat.le_of_ble_eq_true rfl⟩ rfl rfl ?_
      intro u4 eu4 H locs hP hD hS
      replace hf := hf.trans (ltt_r eu4)
      have hka : IV h0 (u4, τ.1) := by rw [eu4]; exact hQ.2.2.2.2.1 _ _ _ _ hka hbl (by rw [hb1]; exact vp_in_nI (by omega) (by omega))
      refine lv_aload_n hx hb dX6_advise_105 rfl (lv_at hl 0 rfl) ?_
      refine va_get (D := D) (ci := 6) (v := .ref (ad2 0)) (C := RX6) (T := TX6) (N := 4) hx hb hts hin6 hown hK hP (0) (gx_l (OW_ob cy ax (ad 0) (ad2 0) τ.1)) rfl 3 (by decide) wd1 (fun _ h9 => h9) rfl dX6_advise_106 ?_
      refine lv_iload_n hx hb dX6_advise_109 rfl (lv_at hl 1 rfl) ?_
      have h5 : vp_in x 25 := hi1
      have h5b : tn x < 25 := tn_in h5
      refine g_top (tn_eq h5 (by decide)) ?_
      refine g_callsN hnw (wf := (MW cy ax ad ad2)) (σ := (τ.1, (u3.1, u4))) (wfc := (PW cy ax (ad 0) (ad2 0) ad2)) (σc := (u4, τ.1)) hx hb hml hown hts hK hP hD hS hA hl.1 (SW cy (ax 0) ad (u3.1)) pm_pa (fun u => (u.2, (u3.1, u.1))) (fun _ => pm_pa.symm) [.ref (ad2 0), .int (nI (tn x))] (c_X6_pass l D cy ax (ad 0) (ad2 0) ad2 (u4, τ.1) (tn x) IV hQ h0 (by omega) hka) (va_cwS 2 hts gX6_advise_X6_pass rfl rfl rfl (by decide +kernel) ⟨Nat.le_of_ble_eq_true rfl, Nat.le_of_ble_eq_true rfl⟩) rfl rfl (Nat.le_of_ble_eq_true rfl) dX6_advise_110 ⟨Nat.le_of_ble_eq_true rfl, Nat.le_of_ble_eq_true rfl⟩ rfl rfl ?_
      intro r6 er6 H locs hP hD hS
      replace hf := hf.trans (ltt_r er6)
      have hkb : IV (h0 + tn x) r6.2 := by rw [er6]; exact iv_X6_pass hQ (by omega) hka
      have hkc : OkN r6.2.1 := (hQ.1 _).1 _ hkb
      have hkn : IV h0 (u3.1, r6.2.2) := by rw [er6, o_X6_pass, eu3, z1_X5_become]; exact hk0
      refine lv_pop hx hb dX6_advise_113 rfl ?_
      refine lv_aload_n hx hb dX6_advise_114 rfl (lv_at hl 0 rfl) ?_
      refine va_get (D := D) (ci := 6) (v := .ref (ad2 0)) (C := RX6) (T := TX6) (N := 4) hx hb hts hin6 hown hK hP (0) (gx_l (OW_ob cy ax (ad 0) (ad2 0) r6.2.2)) rfl 3 (by decide) wd1 (fun _ h9 => h9) rfl dX6_advise_115 ?_
      refine lv_iconst (v := nI 0) hx hb dX6_advise_118 (by decide) ?_
      refine g_callr (q0 := 2 + (17 + (0))) (wf := (MW cy ax ad ad2)) (σ := (r6.2.2, (u3.1, r6.2.1))) (wfc := (SW cy (ax 0) ad2)) (σc := r6.2.1) hx hb hml hown hts hK hP hD hS hA hl.1 (OW cy ax (ad 0) (ad2 0) (r6.2.2) ++ SW cy (ax 0) ad (u3.1)) pm_a [.int (nI 0)] (c_X5_over l D cy (ax 0) ad2 r6.2.1 (nI 0) hkc) (cwV 1 hts gX6_advise_X5_over rfl rfl rfl (by decide +kernel) ⟨Nat.le_of_ble_eq_true rfl, Nat.le_of_ble_eq_true rfl⟩) (gx_r (WD_len _ _ _ _) (gx_r (WD_len _ _ _ _) (SW_ob cy (ax 0) ad2 r6.2.1))) rfl rfl rfl rfl (Nat.le_of_ble_eq_true rfl) dX6_advise_119 ⟨Nat.le_of_ble_eq_true rfl, Nat.le_of_ble_eq_true rfl⟩ rfl rfl ?_
      intro r7 er7 H locs hP hD hS
      replace hf := hf.trans (ltt_r er7)
      refine lv_iload_n hx hb dX6_advise_122 rfl (lv_at hl 3 rfl) ?_
      refine lv_icmp_lt (tgt := 129) hx hb dX6_advise_123 (by decide) (fun c8 => ?_) (fun c8 => ?_)
      · replace hf := hf.trans (if_pos c8)
        refine lv_iload hx hb dX6_advise_129 (lv_at hl 4 rfl) ?_
        refine lv_istore_n (lv' := [(2, .int (nI k)), (0, .ref (ax 0)), (1, .int (x)), (3, .int (least)), (4, .int (nI k))]) hx hb dX6_advise_131 rfl hl (by decide) rfl (fun ls hl => ?_)
        refine lv_aload_n hx hb dX6_advise_132 rfl (lv_at hl 1 rfl) ?_
        refine va_get (D := D) (ci := 6) (v := .ref (ad2 0)) (C := RX6) (T := TX6) (N := 4) hx hb hts hin6 hown hK hP (0) (gx_l (OW_ob cy ax (ad 0) (ad2 0) r6.2.2)) rfl 3 (by decide) wd1 (fun _ h9 => h9) rfl dX6_advise_133 ?_
        refine lv_iconst (v := nI 0) hx hb dX6_advise_136 (by decide) ?_
        refine g_callr (q0 := 2 + (17 + (0))) (wf := (MW cy ax ad ad2)) (σ := (r6.2.2, (u3.1, r6.2.1))) (wfc := (SW cy (ax 0) ad2)) (σc := r6.2.1) hx hb hml hown hts hK hP hD hS hA hl.1 (OW cy ax (ad 0) (ad2 0) (r6.2.2) ++ SW cy (ax 0) ad (u3.1)) pm_a [.int (nI 0)] (c_X5_over l D cy (ax 0) ad2 r6.2.1 (nI 0) hkc) (cwV 1 hts gX6_advise_X5_over rfl rfl rfl (by decide +kernel) ⟨Nat.le_of_ble_eq_true rfl, Nat.le_of_ble_eq_true rfl⟩) (gx_r (WD_len _ _ _ _) (gx_r (WD_len _ _ _ _) (SW_ob cy (ax 0) ad2 r6.2.1))) rfl rfl rfl rfl (Nat.le_of_ble_eq_true rfl) dX6_advise_137 ⟨Nat.le_of_ble_eq_true rfl, Nat.le_of_ble_eq_true rfl⟩ rfl rfl ?_
        intro r9 er9 H locs hP hD hS
        replace hf := hf.trans (ltt_r er9)
        refine lv_istore_n (lv' := [(3, .int (r9)), (2, .int (nI k)), (0, .ref (ax 0)), (1, .int (x)), (4, .int (nI k))]) hx hb dX6_advise_140 rfl hl (by decide) rfl (fun ls hl => ?_)
        refine lv_iinc (v := nI (k + 1)) (lv' := [(4, .int (nI (k + 1))), (3, .int (r9)), (2, .int (nI k)), (0, .ref (ax 0)), (1, .int (x))]) hx hb dX6_advise_141 hl (k := 4) rfl (nI_1 _) (by decide) rfl (fun ls hl => ?_)
        refine lv_goto (tgt := 73) hx hb dX6_advise_144 (by decide) ?_
        exact ih (k + 1) (nI k) r9 (r6.2.2, (u3.1, r6.2.1)) _ _ _ (by omega) hz hkn hi1 hi2 hP hD hS (lv_sub hl [3, 4, 2, 1, 0] rfl) (fun u eu => K u (eu.trans hf.symm))
      · replace hf := hf.trans (if_neg c8)
        refine lv_goto (tgt := 141) hx hb dX6_advise_126 (by decide) ?_
        refine lv_iinc (v := nI (k + 1)) (lv' := [(4, .int (nI (k + 1))), (0, .ref (ax 0)), (1, .int (x)), (2, .int (best)), (3, .int (least))]) hx hb dX6_advise_141 hl (k := 4) rfl (nI_1 _) (by decide) rfl (fun ls hl => ?_)
        refine lv_goto (tgt := 73) hx hb dX6_advise_144 (by decide) ?_
        exact ih (k + 1) best least (r6.2.2, (u3.1, r6.2.1)) _ _ _ (by omega) hz hkn hi1 hi2 hP hD hS (lv_sub hl [1, 2, 3, 4, 0] rfl) (fun u eu => K u (eu.trans hf.symm))
  refine lv_aload_n hx hb dX6_advise_0 rfl (lv_at hl 0 rfl) ?_
  refine lv_iconst (v := nI 0) hx hb dX6_advise_1 (by decide) ?_
  refine g_put (σ1 := (up σ.1 0 0 (nI 0), σ.2)) (fs := moF ax (ad 0) (ad2 0) (σ.1 0)) (C := RX6) (T := TX6) (N := 4) hx hb hts hin6 tyX6_ok nmX6 hown hK hP hD hS (0) (gx_l (OW_ob cy ax (ad 0) (ad2 0) σ.1)) rfl 0 (by decide) wd2 rfl rfl (Nat.le_of_ble_eq_true rfl) (gx_setl (by rw [WD_len]; omega) (OW_ob_set cy ax (ad 0) (ad2 0) σ.1 0 (by decide) _)) dX6_advise_2 ?_
  intro u10 eu10 H locs hP hD hS
  replace hf := hf.trans (ltt_r eu10)
  have hz : u10.2.1 0 = σ.2.1 0 := by rw [eu10]; first | done | exact hz
  refine lv_iload_n hx hb dX6_advise_5 rfl (lv_at hl 1 rfl) ?_
  refine lv_iconst (v := nI 1) hx hb dX6_advise_6 (by decide) ?_
  refine lv_bipush (v := nI 24) hx hb dX6_advise_7 (by decide) ?_
  refine g_callsr (wf := (MW cy ax ad ad2)) (σ := u10) (wfc := w0) (σc := ()) hx hb hml hown hts hK hP hD hS hA hl.1 ((MW cy ax ad ad2) u10) (List.Perm.refl _) [.int (x), .int (nI 1), .int (nI 24)] (c_X6_isIn l D cy x (nI 1) (nI 24) ) (va_cwS 3 hts gX6_advise_X6_isIn rfl rfl rfl (by decide +kernel) ⟨Nat.le_of_ble_eq_true rfl, Nat.le_of_ble_eq_true rfl⟩) rfl rfl (Nat.le_of_ble_eq_true rfl) dX6_advise_9 ⟨Nat.le_of_ble_eq_true rfl, Nat.le_of_ble_eq_true rfl⟩ rfl rfl ?_
  intro r11 er11 H locs hP hD hS
  replace hf := hf.trans (ltt_r er11)
  refine lv_if_ne (tgt := 21) hx hb dX6_advise_12 (by decide) (fun c12 => ?_) (fun c12 => ?_)
  · replace hf := hf.trans (if_neg c12)
    refine lv_aload_n hx hb dX6_advise_21 rfl (lv_at hl 0 rfl) ?_
    refine va_get (D := D) (ci := 6) (v := .ref (ad 0)) (C := RX6) (T := TX6) (N := 4) hx hb hts hin6 hown hK hP (0) (gx_l (OW_ob cy ax (ad 0) (ad2 0) u10.1)) rfl 2 (by decide) wd0 (fun _ h9 => h9) rfl dX6_advise_22 ?_
    refine va_getN (D := D) (ci := 5) (v := .int (u10.2.1 0 5)) (C := RX5) (T := TX5) (N := 22) hx hb hts hin5 hown hK hP (2 + (0)) (gx_r (WD_len _ _ _ _) (gx_l (SW_ob cy (ax 0) ad u10.2.1))) rfl 5 (by decide) (nl_53 hnw) (fun _ h9 => h9) rfl dX6_advise_25 ?_
    refine g_top ((congrFun hz 5).trans hI.c5) ?_
    refine lv_bipush (v := nI 40) hx hb dX6_advise_28 (by decide) ?_
    refine lv_icmp_ne (tgt := 39) hx hb dX6_advise_30 (by decide) (fun c13 => ?_) (fun c13 => ?_)
    · replace hf := hf.trans (if_neg c13)
      refine lv_aload_n hx hb dX6_advise_39 rfl (lv_at hl 0 rfl) ?_
      refine va_get (D := D) (ci := 6) (v := .ref (ad2 0)) (C := RX6) (T := TX6) (N := 4) hx hb hts hin6 hown hK hP (0) (gx_l (OW_ob cy ax (ad 0) (ad2 0) u10.1)) rfl 3 (by decide) wd1 (fun _ h9 => h9) rfl dX6_advise_40 ?_
      refine lv_aload_n hx hb dX6_advise_43 rfl (lv_at hl 0 rfl) ?_
      refine va_get (D := D) (ci := 6) (v := .ref (ad 0)) (C := RX6) (T := TX6) (N := 4) hx hb hts hin6 hown hK hP (0) (gx_l (OW_ob cy ax (ad 0) (ad2 0) u10.1)) rfl 2 (by decide) wd0 (fun _ h9 => h9) rfl dX6_advise_44 ?_
      refine g_callv (q0 := 2 + (17 + (0))) (wf := (MW cy ax ad ad2)) (σ := u10) (wfc := (BW cy (ax 0) ad ad2)) (σc := u10.2) hx hb hml hown hts hK hP hD hS hA hl.1 (OW cy ax (ad 0) (ad2 0) (u10.1)) pm_x (fun u => (u10.1, u)) (fun _ => pm_x.symm) [.ref (ad 0)] (c_X5_become l D cy (ax 0) ad ad2 u10.2 ) (cwV 1 hts gX6_advise_X5_become rfl rfl rfl (by decide +kernel) ⟨Nat.le_of_ble_eq_true rfl, Nat.le_of_ble_eq_true rfl⟩) (gx_r (WD_len _ _ _ _) (gx_r (WD_len _ _ _ _) (SW_ob cy (ax 0) ad2 u10.2.2))) rfl rfl rfl rfl (Nat.le_of_ble_eq_true rfl) dX6_advise_47 ⟨Nat.le_of_ble_eq_true rfl, Nat.le_of_ble_eq_true rfl⟩ rfl rfl ?_
      intro u14 eu14 H locs hP hD hS
      replace hf := hf.trans (ltt_r eu14)
      have hz : u14.1 0 = σ.2.1 0 := by rw [eu14]; exact (z_X5_become u10.2 ).trans hz
      have hk0 : IV h0 (u10.2.1, u10.1) := by rw [eu10]; exact hQ.2.2.2.2.2 _ _ _ _ hi
      have hka : IV h0 (u14.2, u10.1) := by rw [eu14]; exact hQ.2.2.2.1 _ _ _ _ hk0
      refine lv_aload_n hx hb dX6_advise_50 rfl (lv_at hl 0 rfl) ?_
      refine va_get (D := D) (ci := 6) (v := .ref (ad2 0)) (C := RX6) (T := TX6) (N := 4) hx hb hts hin6 hown hK hP (0) (gx_l (OW_ob cy ax (ad 0) (ad2 0) u10.1)) rfl 3 (by decide) wd1 (fun _ h9 => h9) rfl dX6_advise_51 ?_
      refine lv_iload_n hx hb dX6_advise_54 rfl (lv_at hl 1 rfl) ?_
      have h15 : vp_in x 25 := isIn_1 (fun h9 => c12 (er11.trans h9)) (by decide)
      have h15b : tn x < 25 := tn_in h15
      refine g_top (tn_eq h15 (by decide)) ?_
      refine g_callsN hnw (wf := (MW cy ax ad ad2)) (σ := (u10.1, u14)) (wfc := (PW cy ax (ad 0) (ad2 0) ad2)) (σc := (u14.2, u10.1)) hx hb hml hown hts hK hP hD hS hA hl.1 (SW cy (ax 0) ad (u14.1)) pm_pa (fun u => (u.2, (u14.1, u.1))) (fun _ => pm_pa.symm) [.ref (ad2 0), .int (nI (tn x))] (c_X6_pass l D cy ax (ad 0) (ad2 0) ad2 (u14.2, u10.1) (tn x) IV hQ h0 (by omega) hka) (va_cwS 2 hts gX6_advise_X6_pass rfl rfl rfl (by decide +kernel) ⟨Nat.le_of_ble_eq_true rfl, Nat.le_of_ble_eq_true rfl⟩) rfl rfl (Nat.le_of_ble_eq_true rfl) dX6_advise_55 ⟨Nat.le_of_ble_eq_true rfl, Nat.le_of_ble_eq_true rfl⟩ rfl rfl ?_
      intro r16 er16 H locs hP hD hS
      replace hf := hf.trans (ltt_r er16)
      have hkb : IV (h0 + tn x) r16.2 := by rw [er16]; exact iv_X6_pass hQ (by omega) hka
      have hkc : OkN r16.2.1 := (hQ.1 _).1 _ hkb
      have hkn : IV h0 (u14.1, r16.2.2) := by rw [er16, o_X6_pass, eu14, z1_X5_become]; exact hk0
      refine lv_pop hx hb dX6_advise_58 rfl ?_
      refine lv_iconst (v := (-1 : Int32)) hx hb dX6_advise_59 (by decide) ?_
      refine lv_istore_n (lv' := [(2, .int ((-1 : Int32))), (0, .ref (ax 0)), (1, .int (x))]) hx hb dX6_advise_60 rfl hl (by decide) rfl (fun ls hl => ?_)
      refine lv_aload_n hx hb dX6_advise_61 rfl (lv_at hl 1 rfl) ?_
      refine va_get (D := D) (ci := 6) (v := .ref (ad2 0)) (C := RX6) (T := TX6) (N := 4) hx hb hts hin6 hown hK hP (0) (gx_l (OW_ob cy ax (ad 0) (ad2 0) r16.2.2)) rfl 3 (by decide) wd1 (fun _ h9 => h9) rfl dX6_advise_62 ?_
      refine lv_iconst (v := nI 0) hx hb dX6_advise_65 (by decide) ?_
      refine g_callr (q0 := 2 + (17 + (0))) (wf := (MW cy ax ad ad2)) (σ := (r16.2.2, (u14.1, r16.2.1))) (wfc := (SW cy (ax 0) ad2)) (σc := r16.2.1) hx hb hml hown hts hK hP hD hS hA hl.1 (OW cy ax (ad 0) (ad2 0) (r16.2.2) ++ SW cy (ax 0) ad (u14.1)) pm_a [.int (nI 0)] (c_X5_over l D cy (ax 0) ad2 r16.2.1 (nI 0) hkc) (cwV 1 hts gX6_advise_X5_over rfl rfl rfl (by decide +kernel) ⟨Nat.le_of_ble_eq_true rfl, Nat.le_of_ble_eq_true rfl⟩) (gx_r (WD_len _ _ _ _) (gx_r (WD_len _ _ _ _) (SW_ob cy (ax 0) ad2 r16.2.1))) rfl rfl rfl rfl (Nat.le_of_ble_eq_true rfl) dX6_advise_66 ⟨Nat.le_of_ble_eq_true rfl, Nat.le_of_ble_eq_true rfl⟩ rfl rfl ?_
      intro r17 er17 H locs hP hD hS
      replace hf := hf.trans (ltt_r er17)
      refine lv_istore_n (lv' := [(3, .int (r17)), (2, .int ((-1 : Int32))), (0, .ref (ax 0)), (1, .int (x))]) hx hb dX6_advise_69 rfl hl (by decide) rfl (fun ls hl => ?_)
      refine lv_iconst (v := nI 0) hx hb dX6_advise_70 (by decide) ?_
      refine lv_istore (lv' := [(4, .int (nI 0)), (3, .int (r17)), (2, .int ((-1 : Int32))), (0, .ref (ax 0)), (1, .int (x))]) hx hb dX6_advise_71 hl (by decide) rfl (fun ls hl => ?_)
      refine loop73  (tn (σ.2.1 0 1)) 0 ((-1 : Int32)) r17 (r16.2.2, (u14.1, r16.2.1)) _ _ _ (by omega) hz hkn (isIn_1 (fun h9 => c12 (er11.trans h9)) (by decide)) (by have h9 := c13; rw [nI_eq (by omega) (by omega)] at h9; omega) hP hD hS (lv_sub hl [3, 4, 2, 1, 0] rfl) ?_
      intro q18 eq18 hz hk1 hk2 hk3 H locs ls hP hD hS hl
      replace hf := hf.trans (ltt_r eq18)
      refine lv_iload_n hx hb dX6_advise_147 rfl (lv_at hl 2 rfl) ?_
      exact g_endi hx hb hr hlocks rfl hf hP hD hS (Nat.le_of_ble_eq_true rfl) (Nat.le_of_ble_eq_true rfl) dX6_advise_148
    · replace hf := hf.trans (if_pos c13)
      refine lv_aload_n hx hb dX6_advise_33 rfl (lv_at hl 0 rfl) ?_
      refine lv_iconst (v := nI 2) hx hb dX6_advise_34 (by decide) ?_
      refine g_calliN (q0 := 0) hnw (wf := (MW cy ax ad ad2)) (σ := u10) (wfc := (MW cy ax ad ad2)) (σc := u10) hx hb hml hown hts hK hP hD hS hA hl.1 [] pm_0 (fun u => u) (fun _ => pm_0b) [.int (nI 2)] (c_X6_no l D cy ax ad ad2 u10 (nI 2) ) (cwV 1 hts gX6_advise_X6_no rfl rfl rfl (by decide +kernel) ⟨Nat.le_of_ble_eq_true rfl, Nat.le_of_ble_eq_true rfl⟩) (gx_l (OW_ob cy ax (ad 0) (ad2 0) u10.1)) rfl rfl rfl rfl (Nat.le_of_ble_eq_true rfl) dX6_advise_35 ⟨Nat.le_of_ble_eq_true rfl, Nat.le_of_ble_eq_true rfl⟩ rfl rfl ?_
      intro r19 er19 H locs hP hD hS
      replace hf := hf.trans (ltt_r er19)
      exact g_endi hx hb hr hlocks rfl hf hP hD hS (Nat.le_of_ble_eq_true rfl) (Nat.le_of_ble_eq_true rfl) dX6_advise_38
  · replace hf := hf.trans (if_pos c12)
    refine lv_aload_n hx hb dX6_advise_15 rfl (lv_at hl 0 rfl) ?_
    refine lv_iconst (v := nI 1) hx hb dX6_advise_16 (by decide) ?_
    refine g_calliN (q0 := 0) hnw (wf := (MW cy ax ad ad2)) (σ := u10) (wfc := (MW cy ax ad ad2)) (σc := u10) hx hb hml hown hts hK hP hD hS hA hl.1 [] pm_0 (fun u => u) (fun _ => pm_0b) [.int (nI 1)] (c_X6_no l D cy ax ad ad2 u10 (nI 1) ) (cwV 1 hts gX6_advise_X6_no rfl rfl rfl (by decide +kernel) ⟨Nat.le_of_ble_eq_true rfl, Nat.le_of_ble_eq_true rfl⟩) (gx_l (OW_ob cy ax (ad 0) (ad2 0) u10.1)) rfl rfl rfl rfl (Nat.le_of_ble_eq_true rfl) dX6_advise_17 ⟨Nat.le_of_ble_eq_true rfl, Nat.le_of_ble_eq_true rfl⟩ rfl rfl ?_
    intro r20 er20 H locs hP hD hS
    replace hf := hf.trans (ltt_r er20)
    exact g_endi hx hb hr hlocks rfl hf hP hD hS (Nat.le_of_ble_eq_true rfl) (Nat.le_of_ble_eq_true rfl) dX6_advise_20
def s_X6_wouldGet (σ : Sg × Sg × Sg) (x : Int32) (y : Int32) : Int32 × (Sg × Sg × Sg) := ltt (s_X6_isCitizen σ x) (fun r1 => if r1 = 0 then ltt ((up σ.1 0 0 (nI 1), σ.2)) (fun u3 => (nI 0, u3)) else ltt (s_X6_isShelter σ y) (fun r5 => if r5 = 0 then ltt ((up σ.1 0 0 (nI 1), σ.2)) (fun u7 => (nI 0, u7)) else ltt ((up σ.1 0 0 (nI 0), σ.2)) (fun u9 => ltt (s_X5_wouldGet u9.2.1 (tn x) (tn y)) (fun r13 => if r13 = 0 then (nI 0, u9) else (nI 1, u9)))))
abbrev rm_X6_wouldGet : Room := { frames := 2, cells := 0, slots := 0, locals := 45 }
set_option maxHeartbeats 4000000 in
set_option maxRecDepth 100000 in
theorem c_X6_wouldGet (l : Launch) (D : va_G) (cy : Nat → ClassId) (ax ad ad2 : Nat → Nat) (σ : Sg × Sg × Sg) (x : Int32) (y : Int32) (hI : OkN σ.2.1) : gMiN l yX6_wouldGet wsX6_wouldGet rm_X6_wouldGet D (Ty cy) (MW cy ax ad ad2) [.ref (ax 0), .int (x), .int (y)] σ (s_X6_wouldGet σ x y) 0 0 := by
  refine gstartiN cX6_wouldGet 3 RX6 (by decide) rfl rfl (Nat.le_of_ble_eq_true rfl) ?_
  intro p e s m below meth c A ls hx hb hml hown hts hr hlocks hK hP hD hA hS hl hnw
  have hl : lv_has ls 3 [(0, .ref (ax 0)), (1, .int (x)), (2, .int (y))] := hl
  have hf : s_X6_wouldGet σ x y = s_X6_wouldGet σ x y := rfl
  have hz : σ.2.1 0 = σ.2.1 0 := rfl
  have hin6 : ∀ w ∈ wsX60, w ∈ wsX6_wouldGet := by decide +kernel
  have wd0 := hts (.fieldLink RX6 25 "UmbrellaLandModel" "thrown" "I") (by decide +kernel)
  have wd1 := hts (.fieldLink RX6 18 "UmbrellaLandModel" "s" "LUmbrellaLandModel$State;") (by decide +kernel)
  refine lv_aload_n hx hb dX6_wouldGet_0 rfl (lv_at hl 0 rfl) ?_
  refine lv_aload_n hx hb dX6_wouldGet_1 rfl (lv_at hl 0 rfl) ?_
  refine lv_iload_n hx hb dX6_wouldGet_2 rfl (lv_at hl 1 rfl) ?_
  refine g_callrN (q0 := 0) hnw (wf := (MW cy ax ad ad2)) (σ := σ) (wfc := (MW cy ax ad ad2)) (σc := σ) hx hb hml hown hts hK hP hD hS hA hl.1 [] pm_0 [.int (x)] (c_X6_isCitizen l D cy ax ad ad2 σ x ) (cwV 1 hts gX6_wouldGet_X6_isCitizen rfl rfl rfl (by decide +kernel) ⟨Nat.le_of_ble_eq_true rfl, Nat.le_of_ble_eq_true rfl⟩) (gx_l (OW_ob cy ax (ad 0) (ad2 0) σ.1)) rfl rfl rfl rfl (Nat.le_of_ble_eq_true rfl) dX6_wouldGet_3 ⟨Nat.le_of_ble_eq_true rfl, Nat.le_of_ble_eq_true rfl⟩ rfl rfl ?_
  intro r1 er1 H locs hP hD hS
  replace hf := hf.trans (ltt_r er1)
  refine lv_if_eq (tgt := 21) hx hb dX6_wouldGet_6 (by decide) (fun c2 => ?_) (fun c2 => ?_)
  · replace hf := hf.trans (if_pos c2)
    refine lv_iconst (v := nI 1) hx hb dX6_wouldGet_21 (by decide) ?_
    refine g_put (σ1 := (up σ.1 0 0 (nI 1), σ.2)) (fs := moF ax (ad 0) (ad2 0) (σ.1 0)) (C := RX6) (T := TX6) (N := 4) hx hb hts hin6 tyX6_ok nmX6 hown hK hP hD hS (0) (gx_l (OW_ob cy ax (ad 0) (ad2 0) σ.1)) rfl 0 (by decide) wd0 rfl rfl (Nat.le_of_ble_eq_true rfl) (gx_setl (by rw [WD_len]; omega) (OW_ob_set cy ax (ad 0) (ad2 0) σ.1 0 (by decide) _)) dX6_wouldGet_22 ?_
    intro u3 eu3 H locs hP hD hS
    replace hf := hf.trans (ltt_r eu3)
    have hz : u3.2.1 0 = σ.2.1 0 := by rw [eu3]; first | done | exact hz
    refine lv_aload_n hx hb dX6_wouldGet_25 rfl (lv_at hl 0 rfl) ?_
    refine va_get (D := D) (ci := 6) (v := .int (u3.1 0 0)) (C := RX6) (T := TX6) (N := 4) hx hb hts hin6 hown hK hP (0) (gx_l (OW_ob cy ax (ad 0) (ad2 0) u3.1)) rfl 0 (by decide) wd0 (fun _ h9 => h9) rfl dX6_wouldGet_26 ?_
    refine g_top (y := nI 1) ((by rw [eu3]; show up σ.1 0 0 (nI 1) 0 0 = nI 1; exact up_s _ _ _ _)) ?_
    refine lv_if_ne (tgt := 48) hx hb dX6_wouldGet_29 (by decide) (fun c4 => ?_) (fun c4 => absurd c4 (by decide))
    refine lv_iconst (v := nI 0) hx hb dX6_wouldGet_48 (by decide) ?_
    exact g_endi hx hb hr hlocks rfl hf hP hD hS (Nat.le_of_ble_eq_true rfl) (Nat.le_of_ble_eq_true rfl) dX6_wouldGet_49
  · replace hf := hf.trans (if_neg c2)
    refine lv_aload_n hx hb dX6_wouldGet_9 rfl (lv_at hl 0 rfl) ?_
    refine lv_iload_n hx hb dX6_wouldGet_10 rfl (lv_at hl 2 rfl) ?_
    refine g_callrN (q0 := 0) hnw (wf := (MW cy ax ad ad2)) (σ := σ) (wfc := (MW cy ax ad ad2)) (σc := σ) hx hb hml hown hts hK hP hD hS hA hl.1 [] pm_0 [.int (y)] (c_X6_isShelter l D cy ax ad ad2 σ y ) (cwV 1 hts gX6_wouldGet_X6_isShelter rfl rfl rfl (by decide +kernel) ⟨Nat.le_of_ble_eq_true rfl, Nat.le_of_ble_eq_true rfl⟩) (gx_l (OW_ob cy ax (ad 0) (ad2 0) σ.1)) rfl rfl rfl rfl (Nat.le_of_ble_eq_true rfl) dX6_wouldGet_11 ⟨Nat.le_of_ble_eq_true rfl, Nat.le_of_ble_eq_true rfl⟩ rfl rfl ?_
    intro r5 er5 H locs hP hD hS
    replace hf := hf.trans (ltt_r er5)
    refine lv_if_eq (tgt := 21) hx hb dX6_wouldGet_14 (by decide) (fun c6 => ?_) (fun c6 => ?_)
    · replace hf := hf.trans (if_pos c6)
      refine lv_iconst (v := nI 1) hx hb dX6_wouldGet_21 (by decide) ?_
      refine g_put (σ1 := (up σ.1 0 0 (nI 1), σ.2)) (fs := moF ax (ad 0) (ad2 0) (σ.1 0)) (C := RX6) (T := TX6) (N := 4) hx hb hts hin6 tyX6_ok nmX6 hown hK hP hD hS (0) (gx_l (OW_ob cy ax (ad 0) (ad2 0) σ.1)) rfl 0 (by decide) wd0 rfl rfl (Nat.le_of_ble_eq_true rfl) (gx_setl (by rw [WD_len]; omega) (OW_ob_set cy ax (ad 0) (ad2 0) σ.1 0 (by decide) _)) dX6_wouldGet_22 ?_
      intro u7 eu7 H locs hP hD hS
      replace hf := hf.trans (ltt_r eu7)
      have hz : u7.2.1 0 = σ.2.1 0 := by rw [eu7]; first | done | exact hz
      refine lv_aload_n hx hb dX6_wouldGet_25 rfl (lv_at hl 0 rfl) ?_
      refine va_get (D := D) (ci := 6) (v := .int (u7.1 0 0)) (C := RX6) (T := TX6) (N := 4) hx hb hts hin6 hown hK hP (0) (gx_l (OW_ob cy ax (ad 0) (ad2 0) u7.1)) rfl 0 (by decide) wd0 (fun _ h9 => h9) rfl dX6_wouldGet_26 ?_
      refine g_top (y := nI 1) ((by rw [eu7]; show up σ.1 0 0 (nI 1) 0 0 = nI 1; exact up_s _ _ _ _)) ?_
      refine lv_if_ne (tgt := 48) hx hb dX6_wouldGet_29 (by decide) (fun c8 => ?_) (fun c8 => absurd c8 (by decide))
      refine lv_iconst (v := nI 0) hx hb dX6_wouldGet_48 (by decide) ?_
      exact g_endi hx hb hr hlocks rfl hf hP hD hS (Nat.le_of_ble_eq_true rfl) (Nat.le_of_ble_eq_true rfl) dX6_wouldGet_49
    · replace hf := hf.trans (if_neg c6)
      refine lv_iconst (v := nI 0) hx hb dX6_wouldGet_17 (by decide) ?_
      refine lv_goto (tgt := 22) hx hb dX6_wouldGet_18 (by decide) ?_
      refine g_put (σ1 := (up σ.1 0 0 (nI 0), σ.2)) (fs := moF ax (ad 0) (ad2 0) (σ.1 0)) (C := RX6) (T := TX6) (N := 4) hx hb hts hin6 tyX6_ok nmX6 hown hK hP hD hS (0) (gx_l (OW_ob cy ax (ad 0) (ad2 0) σ.1)) rfl 0 (by decide) wd0 rfl rfl (Nat.le_of_ble_eq_true rfl) (gx_setl (by rw [WD_len]; omega) (OW_ob_set cy ax (ad 0) (ad2 0) σ.1 0 (by decide) _)) dX6_wouldGet_22 ?_
      intro u9 eu9 H locs hP hD hS
      replace hf := hf.trans (ltt_r eu9)
      have hz : u9.2.1 0 = σ.2.1 0 := by rw [eu9]; first | done | exact hz
      refine lv_aload_n hx hb dX6_wouldGet_25 rfl (lv_at hl 0 rfl) ?_
      refine va_get (D := D) (ci := 6) (v := .int (u9.1 0 0)) (C := RX6) (T := TX6) (N := 4) hx hb hts hin6 hown hK hP (0) (gx_l (OW_ob cy ax (ad 0) (ad2 0) u9.1)) rfl 0 (by decide) wd0 (fun _ h9 => h9) rfl dX6_wouldGet_26 ?_
      refine g_top (y := nI 0) ((by rw [eu9]; show up σ.1 0 0 (nI 0) 0 0 = nI 0; exact up_s _ _ _ _)) ?_
      refine lv_if_ne (tgt := 48) hx hb dX6_wouldGet_29 (by decide) (fun c10 => absurd (by decide) c10) (fun c10 => ?_)
      refine lv_aload_n hx hb dX6_wouldGet_32 rfl (lv_at hl 0 rfl) ?_
      refine va_get (D := D) (ci := 6) (v := .ref (ad 0)) (C := RX6) (T := TX6) (N := 4) hx hb hts hin6 hown hK hP (0) (gx_l (OW_ob cy ax (ad 0) (ad2 0) u9.1)) rfl 2 (by decide) wd1 (fun _ h9 => h9) rfl dX6_wouldGet_33 ?_
      refine lv_iload_n hx hb dX6_wouldGet_36 rfl (lv_at hl 1 rfl) ?_
      have h11 : vp_in x 10 := in6_ci hI (fun h9 => c2 (er1.trans h9))
      have h11b : tn x < 10 := tn_in h11
      refine g_top (tn_eq h11 (by decide)) ?_
      refine lv_iload_n hx hb dX6_wouldGet_37 rfl (lv_at hl 2 rfl) ?_
      have h12 : vp_in y 8 := in6_sh hI (fun h9 => c6 (er5.trans h9))
      have h12b : tn y < 8 := tn_in h12
      refine g_top (tn_eq h12 (by decide)) ?_
      refine g_callr (q0 := 2 + (0)) (wf := (MW cy ax ad ad2)) (σ := u9) (wfc := (SW cy (ax 0) ad)) (σc := u9.2.1) hx hb hml hown hts hK hP hD hS hA hl.1 (OW cy ax (ad 0) (ad2 0) (u9.1) ++ SW cy (ax 0) ad2 (u9.2.2)) pm_n [.int (nI (tn x)), .int (nI (tn y))] (c_X5_wouldGet l D cy (ax 0) ad u9.2.1 (tn x) (tn y) (by omega) (by omega) (hI.mv hz)) (cwV 2 hts gX6_wouldGet_X5_wouldGet rfl rfl rfl (by decide +kernel) ⟨Nat.le_of_ble_eq_true rfl, Nat.le_of_ble_eq_true rfl⟩) (gx_r (WD_len _ _ _ _) (gx_l (SW_ob cy (ax 0) ad u9.2.1))) rfl rfl rfl rfl (Nat.le_of_ble_eq_true rfl) dX6_wouldGet_38 ⟨Nat.le_of_ble_eq_true rfl, Nat.le_of_ble_eq_true rfl⟩ rfl rfl ?_
      intro r13 er13 H locs hP hD hS
      replace hf := hf.trans (ltt_r er13)
      refine lv_if_eq (tgt := 48) hx hb dX6_wouldGet_41 (by decide) (fun c14 => ?_) (fun c14 => ?_)
      · replace hf := hf.trans (if_pos c14)
        refine lv_iconst (v := nI 0) hx hb dX6_wouldGet_48 (by decide) ?_
        exact g_endi hx hb hr hlocks rfl hf hP hD hS (Nat.le_of_ble_eq_true rfl) (Nat.le_of_ble_eq_true rfl) dX6_wouldGet_49
      · replace hf := hf.trans (if_neg c14)
        refine lv_iconst (v := nI 1) hx hb dX6_wouldGet_44 (by decide) ?_
        refine lv_goto (tgt := 49) hx hb dX6_wouldGet_45 (by decide) ?_
        exact g_endi hx hb hr hlocks rfl hf hP hD hS (Nat.le_of_ble_eq_true rfl) (Nat.le_of_ble_eq_true rfl) dX6_wouldGet_49
def lp_X6_lasts_51 (σ : Sg × Sg × Sg) (x : Int32) (y : Int32)  : Nat → Nat → Int32 → Sg × Sg × Sg → Int32 × (Sg × Sg × Sg)
  | 0, k, wear, τ => ((-1 : Int32), τ)
  | n + 1, k, wear, τ => if (τ.2.1 4 (tn x)) = (nI 3) then ((-1 : Int32), τ) else if (wear + (τ.1 1 (((tn y) + k) % 24))) < (nI 30) then lp_X6_lasts_51 σ x y n (k + 1) (wear + (τ.1 1 (((tn y) + k) % 24))) τ else (nI (k + 1), τ)
def s_X6_lasts (σ : Sg × Sg × Sg) (x : Int32) (y : Int32) : Int32 × (Sg × Sg × Sg) := ltt ((up σ.1 0 0 (nI 0), σ.2)) (fun u8 => ltt (s_X6_isIn x (nI 0) ((nI (tn (σ.2.1 0 5))) - (nI 1))) (fun r9 => if r9 = 0 then ltt (s_X6_no u8 (nI 1)) (fun r11 => (r11.1, r11.2)) else ltt (s_X6_isIn y (nI 0) (nI 23)) (fun r12 => if r12 = 0 then ltt (s_X6_no u8 (nI 1)) (fun r15 => (r15.1, r15.2)) else lp_X6_lasts_51 σ x y 200 0 (u8.2.1 6 (tn x)) u8)))
abbrev rm_X6_lasts : Room := { frames := 1, cells := 0, slots := 0, locals := 22 }
set_option maxHeartbeats 4000000 in
set_option maxRecDepth 100000 in
theorem c_X6_lasts (l : Launch) (D : va_G) (cy : Nat → ClassId) (ax ad ad2 : Nat → Nat) (σ : Sg × Sg × Sg) (x : Int32) (y : Int32) (hI : OkN σ.2.1) : gMiN l yX6_lasts wsX6_lasts rm_X6_lasts D (Ty cy) (MW cy ax ad ad2) [.ref (ax 0), .int (x), .int (y)] σ (s_X6_lasts σ x y) 0 0 := by
  refine gstartiN cX6_lasts 5 RX6 (by decide) rfl rfl (Nat.le_of_ble_eq_true rfl) ?_
  intro p e s m below meth c A ls hx hb hml hown hts hr hlocks hK hP hD hA hS hl hnw
  have hl : lv_has ls 5 [(0, .ref (ax 0)), (1, .int (x)), (2, .int (y))] := hl
  have hf : s_X6_lasts σ x y = s_X6_lasts σ x y := rfl
  have hz : σ.2.1 0 = σ.2.1 0 := rfl
  have hin6 : ∀ w ∈ wsX60, w ∈ wsX6_lasts := by decide +kernel
  have hin5 : ∀ w ∈ wsX50, w ∈ wsX6_lasts := by decide +kernel
  have wd0 := hts (.fieldLink RX6 18 "UmbrellaLandModel" "s" "LUmbrellaLandModel$State;") (by decide +kernel)
  have wd1 := hts (.fieldLink RX6 9 "UmbrellaLandModel" "rain" "[I") (by decide +kernel)
  have wd2 := hts (.fieldLink RX6 25 "UmbrellaLandModel" "thrown" "I") (by decide +kernel)
  have n5 := hI.n5
  have loop51 : ∀  (n k : Nat) (wear : Int32) (τ : Sg × Sg × Sg) (H : Heap) (locs : List Loc) (ls : Array Slot), n = 200 - k ∧ k ≤ 201 → τ.2.1 0 = σ.2.1 0 → (vp_in y 24) → (vp_in x 40) → (s_X6_lasts σ x y = lp_X6_lasts_51 σ x y n k wear τ) → va_P D vwCl ((MW cy ax ad ad2) τ) H → va_D A ((MW cy ax ad ad2) τ) → va_S A s.heap H locs → lv_has ls 5 [(0, .ref (ax 0)), (1, .int (x)), (2, .int (y)), (3, .int (wear)), (4, .int (nI k))] → W p l e rm_X6_lasts s m [.ref (ax 0), .int (x), .int (y)].toArray below meth c H locs 0 0 (MQ below (va_Qi (fun r u => (r, u) = s_X6_lasts σ x y) (gPost D (MW cy ax ad ad2) A) A) [.ref (ax 0), .int (x), .int (y)].toArray s 0 0 A) (F0 m 51 ls []) := by
    intro n
    induction n with
    | zero =>
      intro k wear τ H locs ls hN hz hi0 hi1 hf hP hD hS hl
      refine lv_iload hx hb dX6_lasts_51 (lv_at hl 4 rfl) ?_
      refine lv_sipush (v := nI 200) hx hb dX6_lasts_53 (by decide) ?_
      refine lv_icmp_ge (tgt := 104) hx hb dX6_lasts_56 (by decide) (fun c1 => ?_) (fun c1 => absurd (nI_le (by omega) (by omega)) c1)
      refine lv_iconst (v := (-1 : Int32)) hx hb dX6_lasts_104 (by decide) ?_
      exact g_endi hx hb hr hlocks rfl hf hP hD hS (Nat.le_of_ble_eq_true rfl) (Nat.le_of_ble_eq_true rfl) dX6_lasts_105
    | succ n ih =>
      intro k wear τ H locs ls hN hz hi0 hi1 hf hP hD hS hl
      refine lv_iload hx hb dX6_lasts_51 (lv_at hl 4 rfl) ?_
      refine lv_sipush (v := nI 200) hx hb dX6_lasts_53 (by decide) ?_
      refine lv_icmp_ge (tgt := 104) hx hb dX6_lasts_56 (by decide) (fun c2 => absurd c2 (nI_ge (by omega) (by omega))) (fun c2 => ?_)
      refine lv_aload_n hx hb dX6_lasts_59 rfl (lv_at hl 0 rfl) ?_
      refine va_get (D := D) (ci := 6) (v := .ref (ad 0)) (C := RX6) (T := TX6) (N := 4) hx hb hts hin6 hown hK hP (0) (gx_l (OW_ob cy ax (ad 0) (ad2 0) τ.1)) rfl 2 (by decide) wd0 (fun _ h9 => h9) rfl dX6_lasts_60 ?_
      refine va_getN (D := D) (ci := 5) (v := .ref (ad 4)) (C := RX5) (T := TX5) (N := 22) hx hb hts hin5 hown hK hP (2 + (0)) (gx_r (WD_len _ _ _ _) (gx_l (SW_ob cy (ax 0) ad τ.2.1))) rfl 6 (by decide) (nl_91 hnw) (fun _ h9 => h9) rfl dX6_lasts_63 ?_
      refine lv_iload_n hx hb dX6_lasts_66 rfl (lv_at hl 1 rfl) ?_
      have h3 : vp_in (x) 40 := hi1
      have h3b : tn x < 40 := tn_in h3
      refine g_iald hx hb hK hP (2 + (4)) 0 (tn x) (gx_r (WD_len _ _ _ _) (gx_l (SW_4 cy (ax 0) ad τ.2.1))) rfl rfl h3 dX6_lasts_67 ?_
      refine lv_iconst (v := nI 3) hx hb dX6_lasts_68 (by decide) ?_
      refine lv_icmp_eq (tgt := 104) hx hb dX6_lasts_69 (by decide) (fun c4 => ?_) (fun c4 => ?_)
      · replace hf := hf.trans (if_pos c4)
        refine lv_iconst (v := (-1 : Int32)) hx hb dX6_lasts_104 (by decide) ?_
        exact g_endi hx hb hr hlocks rfl hf hP hD hS (Nat.le_of_ble_eq_true rfl) (Nat.le_of_ble_eq_true rfl) dX6_lasts_105
      · replace hf := hf.trans (if_neg c4)
        refine lv_iload_n hx hb dX6_lasts_72 rfl (lv_at hl 3 rfl) ?_
        refine lv_aload_n hx hb dX6_lasts_73 rfl (lv_at hl 0 rfl) ?_
        refine va_get (D := D) (ci := 6) (v := .ref (ax 1)) (C := RX6) (T := TX6) (N := 4) hx hb hts hin6 hown hK hP (0) (gx_l (OW_ob cy ax (ad 0) (ad2 0) τ.1)) rfl 1 (by decide) wd1 (fun _ h9 => h9) rfl dX6_lasts_74 ?_
        refine lv_iload_n hx hb dX6_lasts_77 rfl (lv_at hl 2 rfl) ?_
        have h5 : vp_in y 24 := hi0
        have h5b : tn y < 24 := tn_in h5
        refine g_top (tn_eq h5 (by decide)) ?_
        refine lv_iload hx hb dX6_lasts_78 (lv_at hl 4 rfl) ?_
        refine lv_iadd hx hb dX6_lasts_80 ?_
        refine g_top (nI_add _ _) ?_
        refine lv_bipush (v := nI 24) hx hb dX6_lasts_81 (by decide) ?_
        refine lv_irem hx hb dX6_lasts_83 (by decide) ?_
        refine g_top (nI_rem ((tn y) + k) 24 (by omega) (by decide) (by decide)) ?_
        have h6 : ((tn y) + k) % 24 < 24 := by omega
        refine g_iald hx hb hK hP (1) 0 (((tn y) + k) % 24) (gx_l (OW_rn cy ax (ad 0) (ad2 0) τ.1)) rfl (nI_clamp (by omega)) (vp_in_nI h6 (by decide)) dX6_lasts_84 ?_
        refine lv_iadd hx hb dX6_lasts_85 ?_
        refine lv_istore_n (lv' := [(3, .int (wear + (τ.1 1 (((tn y) + k) % 24)))), (0, .ref (ax 0)), (1, .int (x)), (2, .int (y)), (4, .int (nI k))]) hx hb dX6_lasts_86 rfl hl (by decide) rfl (fun ls hl => ?_)
        refine lv_iload_n hx hb dX6_lasts_87 rfl (lv_at hl 0 rfl) ?_
        refine lv_bipush (v := nI 30) hx hb dX6_lasts_88 (by decide) ?_
        refine lv_icmp_lt (tgt := 98) hx hb dX6_lasts_90 (by decide) (fun c7 => ?_) (fun c7 => ?_)
        · replace hf := hf.trans (if_pos c7)
          refine lv_iinc (v := nI (k + 1)) (lv' := [(4, .int (nI (k + 1))), (3, .int (wear + (τ.1 1 (((tn y) + k) % 24)))), (0, .ref (ax 0)), (1, .int (x)), (2, .int (y))]) hx hb dX6_lasts_98 hl (k := 4) rfl (nI_1 _) (by decide) rfl (fun ls hl => ?_)
          refine lv_goto (tgt := 51) hx hb dX6_lasts_101 (by decide) ?_
          exact ih (k + 1) (wear + (τ.1 1 (((tn y) + k) % 24))) τ _ _ _ (by omega) hz hi0 hi1 hf hP hD hS (lv_sub hl [2, 3, 4, 1, 0] rfl)
        · replace hf := hf.trans (if_neg c7)
          refine lv_iload hx hb dX6_lasts_93 (lv_at hl 4 rfl) ?_
          refine lv_iconst (v := nI 1) hx hb dX6_lasts_95 (by decide) ?_
          refine lv_iadd hx hb dX6_lasts_96 ?_
          refine g_top (nI_add _ _) ?_
          exact g_endi hx hb hr hlocks rfl hf hP hD hS (Nat.le_of_ble_eq_true rfl) (Nat.le_of_ble_eq_true rfl) dX6_lasts_97
  refine lv_aload_n hx hb dX6_lasts_0 rfl (lv_at hl 0 rfl) ?_
  refine lv_iconst (v := nI 0) hx hb dX6_lasts_1 (by decide) ?_
  refine g_put (σ1 := (up σ.1 0 0 (nI 0), σ.2)) (fs := moF ax (ad 0) (ad2 0) (σ.1 0)) (C := RX6) (T := TX6) (N := 4) hx hb hts hin6 tyX6_ok nmX6 hown hK hP hD hS (0) (gx_l (OW_ob cy ax (ad 0) (ad2 0) σ.1)) rfl 0 (by decide) wd2 rfl rfl (Nat.le_of_ble_eq_true rfl) (gx_setl (by rw [WD_len]; omega) (OW_ob_set cy ax (ad 0) (ad2 0) σ.1 0 (by decide) _)) dX6_lasts_2 ?_
  intro u8 eu8 H locs hP hD hS
  replace hf := hf.trans (ltt_r eu8)
  have hz : u8.2.1 0 = σ.2.1 0 := by rw [eu8]; first | done | exact hz
  refine lv_iload_n hx hb dX6_lasts_5 rfl (lv_at hl 1 rfl) ?_
  refine lv_iconst (v := nI 0) hx hb dX6_lasts_6 (by decide) ?_
  refine lv_aload_n hx hb dX6_lasts_7 rfl (lv_at hl 0 rfl) ?_
  refine va_get (D := D) (ci := 6) (v := .ref (ad 0)) (C := RX6) (T := TX6) (N := 4) hx hb hts hin6 hown hK hP (0) (gx_l (OW_ob cy ax (ad 0) (ad2 0) u8.1)) rfl 2 (by decide) wd0 (fun _ h9 => h9) rfl dX6_lasts_8 ?_
  refine va_getN (D := D) (ci := 5) (v := .int (u8.2.1 0 5)) (C := RX5) (T := TX5) (N := 22) hx hb hts hin5 hown hK hP (2 + (0)) (gx_r (WD_len _ _ _ _) (gx_l (SW_ob cy (ax 0) ad u8.2.1))) rfl 5 (by decide) (nl_53 hnw) (fun _ h9 => h9) rfl dX6_lasts_11 ?_
  refine g_top ((congrFun hz 5).trans hI.c5) ?_
  refine lv_iconst (v := nI 1) hx hb dX6_lasts_14 (by decide) ?_
  refine lv_isub hx hb dX6_lasts_15 ?_
  refine g_callsr (wf := (MW cy ax ad ad2)) (σ := u8) (wfc := w0) (σc := ()) hx hb hml hown hts hK hP hD hS hA hl.1 ((MW cy ax ad ad2) u8) (List.Perm.refl _) [.int (x), .int (nI 0), .int ((nI (tn (σ.2.1 0 5))) - (nI 1))] (c_X6_isIn l D cy x (nI 0) ((nI (tn (σ.2.1 0 5))) - (nI 1)) ) (va_cwS 3 hts gX6_lasts_X6_isIn rfl rfl rfl (by decide +kernel) ⟨Nat.le_of_ble_eq_true rfl, Nat.le_of_ble_eq_true rfl⟩) rfl rfl (Nat.le_of_ble_eq_true rfl) dX6_lasts_16 ⟨Nat.le_of_ble_eq_true rfl, Nat.le_of_ble_eq_true rfl⟩ rfl rfl ?_
  intro r9 er9 H locs hP hD hS
  replace hf := hf.trans (ltt_r er9)
  refine lv_if_eq (tgt := 32) hx hb dX6_lasts_19 (by decide) (fun c10 => ?_) (fun c10 => ?_)
  · replace hf := hf.trans (if_pos c10)
    refine lv_aload_n hx hb dX6_lasts_32 rfl (lv_at hl 0 rfl) ?_
    refine lv_iconst (v := nI 1) hx hb dX6_lasts_33 (by decide) ?_
    refine g_calliN (q0 := 0) hnw (wf := (MW cy ax ad ad2)) (σ := u8) (wfc := (MW cy ax ad ad2)) (σc := u8) hx hb hml hown hts hK hP hD hS hA hl.1 [] pm_0 (fun u => u) (fun _ => pm_0b) [.int (nI 1)] (c_X6_no l D cy ax ad ad2 u8 (nI 1) ) (cwV 1 hts gX6_lasts_X6_no rfl rfl rfl (by decide +kernel) ⟨Nat.le_of_ble_eq_true rfl, Nat.le_of_ble_eq_true rfl⟩) (gx_l (OW_ob cy ax (ad 0) (ad2 0) u8.1)) rfl rfl rfl rfl (Nat.le_of_ble_eq_true rfl) dX6_lasts_34 ⟨Nat.le_of_ble_eq_true rfl, Nat.le_of_ble_eq_true rfl⟩ rfl rfl ?_
    intro r11 er11 H locs hP hD hS
    replace hf := hf.trans (ltt_r er11)
    exact g_endi hx hb hr hlocks rfl hf hP hD hS (Nat.le_of_ble_eq_true rfl) (Nat.le_of_ble_eq_true rfl) dX6_lasts_37
  · replace hf := hf.trans (if_neg c10)
    refine lv_iload_n hx hb dX6_lasts_22 rfl (lv_at hl 2 rfl) ?_
    refine lv_iconst (v := nI 0) hx hb dX6_lasts_23 (by decide) ?_
    refine lv_bipush (v := nI 23) hx hb dX6_lasts_24 (by decide) ?_
    refine g_callsr (wf := (MW cy ax ad ad2)) (σ := u8) (wfc := w0) (σc := ()) hx hb hml hown hts hK hP hD hS hA hl.1 ((MW cy ax ad ad2) u8) (List.Perm.refl _) [.int (y), .int (nI 0), .int (nI 23)] (c_X6_isIn l D cy y (nI 0) (nI 23) ) (va_cwS 3 hts gX6_lasts_X6_isIn rfl rfl rfl (by decide +kernel) ⟨Nat.le_of_ble_eq_true rfl, Nat.le_of_ble_eq_true rfl⟩) rfl rfl (Nat.le_of_ble_eq_true rfl) dX6_lasts_26 ⟨Nat.le_of_ble_eq_true rfl, Nat.le_of_ble_eq_true rfl⟩ rfl rfl ?_
    intro r12 er12 H locs hP hD hS
    replace hf := hf.trans (ltt_r er12)
    refine lv_if_ne (tgt := 38) hx hb dX6_lasts_29 (by decide) (fun c13 => ?_) (fun c13 => ?_)
    · replace hf := hf.trans (if_neg c13)
      refine lv_aload_n hx hb dX6_lasts_38 rfl (lv_at hl 0 rfl) ?_
      refine va_get (D := D) (ci := 6) (v := .ref (ad 0)) (C := RX6) (T := TX6) (N := 4) hx hb hts hin6 hown hK hP (0) (gx_l (OW_ob cy ax (ad 0) (ad2 0) u8.1)) rfl 2 (by decide) wd0 (fun _ h9 => h9) rfl dX6_lasts_39 ?_
      refine va_getN (D := D) (ci := 5) (v := .ref (ad 6)) (C := RX5) (T := TX5) (N := 22) hx hb hts hin5 hown hK hP (2 + (0)) (gx_r (WD_len _ _ _ _) (gx_l (SW_ob cy (ax 0) ad u8.2.1))) rfl 8 (by decide) (nl_97 hnw) (fun _ h9 => h9) rfl dX6_lasts_42 ?_
      refine lv_iload_n hx hb dX6_lasts_45 rfl (lv_at hl 1 rfl) ?_
      have h14 : vp_in (x) 40 := vp_mono (isIn_n rfl (by omega) (fun h9 => c10 (er9.trans h9))) n5
      have h14b : tn x < 40 := tn_in h14
      refine g_iald hx hb hK hP (2 + (6)) 0 (tn x) (gx_r (WD_len _ _ _ _) (gx_l (SW_6 cy (ax 0) ad u8.2.1))) rfl rfl h14 dX6_lasts_46 ?_
      refine lv_istore_n (lv' := [(3, .int (u8.2.1 6 (tn x))), (0, .ref (ax 0)), (1, .int (x)), (2, .int (y))]) hx hb dX6_lasts_47 rfl hl (by decide) rfl (fun ls hl => ?_)
      refine lv_iconst (v := nI 0) hx hb dX6_lasts_48 (by decide) ?_
      refine lv_istore (lv' := [(4, .int (nI 0)), (3, .int (u8.2.1 6 (tn x))), (0, .ref (ax 0)), (1, .int (x)), (2, .int (y))]) hx hb dX6_lasts_49 hl (by decide) rfl (fun ls hl => ?_)
      exact loop51  200 0 (u8.2.1 6 (tn x)) u8 _ _ _ (by omega) hz (isIn_0 (fun h9 => c13 (er12.trans h9)) (by decide)) (vp_mono (isIn_n rfl (by omega) (fun h9 => c10 (er9.trans h9))) n5) hf hP hD hS (lv_sub hl [2, 3, 4, 1, 0] rfl)
    · replace hf := hf.trans (if_pos c13)
      refine lv_aload_n hx hb dX6_lasts_32 rfl (lv_at hl 0 rfl) ?_
      refine lv_iconst (v := nI 1) hx hb dX6_lasts_33 (by decide) ?_
      refine g_calliN (q0 := 0) hnw (wf := (MW cy ax ad ad2)) (σ := u8) (wfc := (MW cy ax ad ad2)) (σc := u8) hx hb hml hown hts hK hP hD hS hA hl.1 [] pm_0 (fun u => u) (fun _ => pm_0b) [.int (nI 1)] (c_X6_no l D cy ax ad ad2 u8 (nI 1) ) (cwV 1 hts gX6_lasts_X6_no rfl rfl rfl (by decide +kernel) ⟨Nat.le_of_ble_eq_true rfl, Nat.le_of_ble_eq_true rfl⟩) (gx_l (OW_ob cy ax (ad 0) (ad2 0) u8.1)) rfl rfl rfl rfl (Nat.le_of_ble_eq_true rfl) dX6_lasts_34 ⟨Nat.le_of_ble_eq_true rfl, Nat.le_of_ble_eq_true rfl⟩ rfl rfl ?_
      intro r15 er15 H locs hP hD hS
      replace hf := hf.trans (ltt_r er15)
      exact g_endi hx hb hr hlocks rfl hf hP hD hS (Nat.le_of_ble_eq_true rfl) (Nat.le_of_ble_eq_true rfl) dX6_lasts_37
