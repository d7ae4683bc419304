def s_X1_addShelter (σ : Sg) (x : Int32) (y : Int32) : Int32 × (Sg) := if (nI (tn (σ 0 5))) < (nI 8) then ltt (s_X2_open σ (tn (σ 0 5)) x y) (fun u3 => ltt (up u3 0 5 (nI ((tn (σ 0 5)) + 1))) (fun u4 => ((u4 0 5) - (nI 1), u4))) else ((-1 : Int32), σ)
abbrev rm_X1_addShelter : Room := { frames := 1, cells := 0, slots := 0, locals := 22 }
set_option maxHeartbeats 4000000 in
set_option maxRecDepth 100000 in
theorem c_X1_addShelter (l : Launch) (D : va_G) (cy : Nat → ClassId) (ad : Nat → Nat) (σ : Sg) (x : Int32) (y : Int32) (hI : OkR σ) : gMi l yX1_addShelter wsX1_addShelter rm_X1_addShelter D (Ty cy) (RW cy ad) [.ref (ad 0), .int (x), .int (y)] σ (s_X1_addShelter σ x y) 0 0 := by
  refine gstarti cX1_addShelter 3 RX1 (by decide) rfl rfl (Nat.le_of_ble_eq_true rfl) ?_
  intro p e s m below meth c A ls hx hb hml hown hts hr hlocks hK hP hD hA hS hl
  have hl : lv_has ls 3 [(0, .ref (ad 0)), (1, .int (x)), (2, .int (y))] := hl
  have hf : s_X1_addShelter σ x y = s_X1_addShelter σ x y := rfl
  have hz : σ 0 = σ 0 := rfl
  have hin1 : ∀ w ∈ wsX10, w ∈ wsX1_addShelter := by decide +kernel
  have wd0 := hts (.fieldLink RX1 46 "UmbrellaLand$Republic" "shelterCount" "I") (by decide +kernel)
  have wd1 := hts (.fieldLink RX1 17 "UmbrellaLand$Republic" "shelters" "[LUmbrellaLand$Shelter;") (by decide +kernel)
  have n5 := hI.n5
  refine lv_aload_n hx hb dX1_addShelter_0 rfl (lv_at hl 0 rfl) ?_
  refine va_get (D := D) (ci := 1) (v := .int (σ 0 5)) (C := RX1) (T := TX1) (N := 9) hx hb hts hin1 hown hK hP (0) (RW_ob cy ad σ) rfl 5 (by decide) wd0 (fun _ h9 => h9) rfl dX1_addShelter_1 ?_
  refine g_top ((congrFun hz 5).trans hI.c5) ?_
  refine lv_bipush (v := nI 8) hx hb dX1_addShelter_4 (by decide) ?_
  refine lv_icmp_lt (tgt := 11) hx hb dX1_addShelter_6 (by decide) (fun c1 => ?_) (fun c1 => ?_)
  · replace hf := hf.trans (if_pos c1)
    refine lv_aload_n hx hb dX1_addShelter_11 rfl (lv_at hl 0 rfl) ?_
    refine va_get (D := D) (ci := 1) (v := .ref (ad 2)) (C := RX1) (T := TX1) (N := 9) hx hb hts hin1 hown hK hP (0) (RW_ob cy ad σ) rfl 1 (by decide) wd1 (fun _ h9 => h9) rfl dX1_addShelter_12 ?_
    refine lv_aload_n hx hb dX1_addShelter_15 rfl (lv_at hl 0 rfl) ?_
    refine va_get (D := D) (ci := 1) (v := .int (σ 0 5)) (C := RX1) (T := TX1) (N := 9) hx hb hts hin1 hown hK hP (0) (RW_ob cy ad σ) rfl 5 (by decide) wd0 (fun _ h9 => h9) rfl dX1_addShelter_16 ?_
    refine g_top ((congrFun hz 5).trans hI.c5) ?_
    have h2 : tn (σ 0 5) < 8 := by have h9 := c1; rw [nI_ltI (by omega) (by omega)] at h9; exact h9
    refine g_aald (b := ad (5 + (tn (σ 0 5)))) hx hb hK hP (2) 1 (tn (σ 0 5)) (RW_as cy ad σ) rfl (nI_clamp (by omega)) (vp_in_nI h2 (by decide)) rfl dX1_addShelter_19 ?_
    refine lv_iload_n hx hb dX1_addShelter_20 rfl (lv_at hl 1 rfl) ?_
    refine lv_iload_n hx hb dX1_addShelter_21 rfl (lv_at hl 2 rfl) ?_
    refine g_callv (q0 := 5 + (tn (σ 0 5))) (wf := (RW cy ad)) (σ := σ) (wfc := (RW cy ad)) (σc := σ) hx hb hml hown hts hK hP hD hS hA hl.1 [] pm_0 (fun u => u) (fun _ => pm_0b) [.int (x), .int (y)] (c_X2_open l D cy ad σ (tn (σ 0 5)) x y h2) (cwV 2 hts gX1_addShelter_X2_open rfl rfl rfl (by decide +kernel) ⟨Nat.le_of_ble_eq_true rfl, Nat.le_of_ble_eq_true rfl⟩) (RW_sh cy ad σ h2) rfl rfl rfl rfl (Nat.le_of_ble_eq_true rfl) dX1_addShelter_22 ⟨Nat.le_of_ble_eq_true rfl, Nat.le_of_ble_eq_true rfl⟩ rfl rfl ?_
    intro u3 eu3 H locs hP hD hS
    replace hf := hf.trans (ltt_r eu3)
    have hz : u3 0 = σ 0 := by rw [eu3]; exact (z_X2_open σ (tn (σ 0 5)) x y).trans hz
    refine lv_aload_n hx hb dX1_addShelter_25 rfl (lv_at hl 0 rfl) ?_
    refine lv_dup hx hb dX1_addShelter_26 rfl ?_
    refine va_get (D := D) (ci := 1) (v := .int (u3 0 5)) (C := RX1) (T := TX1) (N := 9) hx hb hts hin1 hown hK hP (0) (RW_ob cy ad u3) rfl 5 (by decide) wd0 (fun _ h9 => h9) rfl dX1_addShelter_27 ?_
    refine g_top ((congrFun hz 5).trans hI.c5) ?_
    refine lv_iconst (v := nI 1) hx hb dX1_addShelter_30 (by decide) ?_
    refine lv_iadd hx hb dX1_addShelter_31 ?_
    refine g_top (nI_add _ _) ?_
    refine g_put (σ1 := up u3 0 5 (nI ((tn (σ 0 5)) + 1))) (fs := obF ad (u3 0)) (C := RX1) (T := TX1) (N := 9) hx hb hts hin1 tyX1_ok nmX1 hown hK hP hD hS (0) (RW_ob cy ad u3) rfl 5 (by decide) wd0 rfl rfl (Nat.le_of_ble_eq_true rfl) (RW_ob_set cy ad u3 5 (by decide) _) dX1_addShelter_32 ?_
    intro u4 eu4 H locs hP hD hS
    replace hf := hf.trans (ltt_r eu4)
    refine lv_aload_n hx hb dX1_addShelter_35 rfl (lv_at hl 0 rfl) ?_
    refine va_get (D := D) (ci := 1) (v := .int (u4 0 5)) (C := RX1) (T := TX1) (N := 9) hx hb hts hin1 hown hK hP (0) (RW_ob cy ad u4) rfl 5 (by decide) wd0 (fun _ h9 => h9) rfl dX1_addShelter_36 ?_
    refine lv_iconst (v := nI 1) hx hb dX1_addShelter_39 (by decide) ?_
    refine lv_isub hx hb dX1_addShelter_40 ?_
    exact g_endi hx hb hr hlocks rfl hf hP hD hS (Nat.le_of_ble_eq_true rfl) (Nat.le_of_ble_eq_true rfl) dX1_addShelter_41
  · replace hf := hf.trans (if_neg c1)
    refine lv_iconst (v := (-1 : Int32)) hx hb dX1_addShelter_9 (by decide) ?_
    exact g_endi hx hb hr hlocks rfl hf hP hD hS (Nat.le_of_ble_eq_true rfl) (Nat.le_of_ble_eq_true rfl) dX1_addShelter_10
def s_X1_addUmbrella (σ : Sg) (x : Int32) : Sg := if (nI 40) ≤ (nI (tn (σ 0 6))) then σ else ltt (s_X3_beNewIn σ (tn (σ 0 6)) x) (fun u3 => ltt (up u3 0 6 (nI ((tn (σ 0 6)) + 1))) (fun u4 => u4))
abbrev rm_X1_addUmbrella : Room := { frames := 2, cells := 0, slots := 0, locals := 42 }
set_option maxHeartbeats 4000000 in
set_option maxRecDepth 100000 in
theorem c_X1_addUmbrella (l : Launch) (D : va_G) (cy : Nat → ClassId) (ad : Nat → Nat) (σ : Sg) (x : Int32) (hI : OkR σ) : gMv l yX1_addUmbrella wsX1_addUmbrella rm_X1_addUmbrella D (Ty cy) (RW cy ad) [.ref (ad 0), .int (x)] σ (s_X1_addUmbrella σ x) 0 0 := by
  refine gstartv cX1_addUmbrella 2 RX1 (by decide) rfl rfl (Nat.le_of_ble_eq_true rfl) ?_
  intro p e s m below meth c A ls hx hb hml hown hts hr hlocks hK hP hD hA hS hl
  have hl : lv_has ls 2 [(0, .ref (ad 0)), (1, .int (x))] := hl
  have hf : s_X1_addUmbrella σ x = s_X1_addUmbrella σ x := rfl
  have hz : σ 0 = σ 0 := rfl
  have hin1 : ∀ w ∈ wsX10, w ∈ wsX1_addUmbrella := by decide +kernel
  have wd0 := hts (.fieldLink RX1 49 "UmbrellaLand$Republic" "umbrellaCount" "I") (by decide +kernel)
  have wd1 := hts (.fieldLink RX1 23 "UmbrellaLand$Republic" "umbrellas" "[LUmbrellaLand$Umbrella;") (by decide +kernel)
  have n6 := hI.n6
  refine lv_aload_n hx hb dX1_addUmbrella_0 rfl (lv_at hl 0 rfl) ?_
  refine va_get (D := D) (ci := 1) (v := .int (σ 0 6)) (C := RX1) (T := TX1) (N := 9) hx hb hts hin1 hown hK hP (0) (RW_ob cy ad σ) rfl 6 (by decide) wd0 (fun _ h9 => h9) rfl dX1_addUmbrella_1 ?_
  refine g_top ((congrFun hz 6).trans hI.c6) ?_
  refine lv_bipush (v := nI 40) hx hb dX1_addUmbrella_4 (by decide) ?_
  refine lv_icmp_ge (tgt := 32) hx hb dX1_addUmbrella_6 (by decide) (fun c1 => ?_) (fun c1 => ?_)
  · replace hf := hf.trans (if_pos c1)
    exact g_endv hx hb hr hlocks hf hP hD hS (Nat.le_of_ble_eq_true rfl) (Nat.le_of_ble_eq_true rfl) dX1_addUmbrella_32
  · replace hf := hf.trans (if_neg c1)
    refine lv_aload_n hx hb dX1_addUmbrella_9 rfl (lv_at hl 0 rfl) ?_
    refine va_get (D := D) (ci := 1) (v := .ref (ad 3)) (C := RX1) (T := TX1) (N := 9) hx hb hts hin1 hown hK hP (0) (RW_ob cy ad σ) rfl 2 (by decide) wd1 (fun _ h9 => h9) rfl dX1_addUmbrella_10 ?_
    refine lv_aload_n hx hb dX1_addUmbrella_13 rfl (lv_at hl 0 rfl) ?_
    refine va_get (D := D) (ci := 1) (v := .int (σ 0 6)) (C := RX1) (T := TX1) (N := 9) hx hb hts hin1 hown hK hP (0) (RW_ob cy ad σ) rfl 6 (by decide) wd0 (fun _ h9 => h9) rfl dX1_addUmbrella_14 ?_
    refine g_top ((congrFun hz 6).trans hI.c6) ?_
    have h2 : tn (σ 0 6) < 40 := by have h9 := c1; rw [nI_leI (by omega) (by omega)] at h9; omega
    refine g_aald (b := ad (13 + (tn (σ 0 6)))) hx hb hK hP (3) 2 (tn (σ 0 6)) (RW_au cy ad σ) rfl (nI_clamp (by omega)) (vp_in_nI h2 (by decide)) rfl dX1_addUmbrella_17 ?_
    refine lv_iload_n hx hb dX1_addUmbrella_18 rfl (lv_at hl 1 rfl) ?_
    refine g_callv (q0 := 13 + (tn (σ 0 6))) (wf := (RW cy ad)) (σ := σ) (wfc := (RW cy ad)) (σc := σ) hx hb hml hown hts hK hP hD hS hA hl.1 [] pm_0 (fun u => u) (fun _ => pm_0b) [.int (x)] (c_X3_beNewIn l D cy ad σ (tn (σ 0 6)) x h2) (cwV 1 hts gX1_addUmbrella_X3_beNewIn rfl rfl rfl (by decide +kernel) ⟨Nat.le_of_ble_eq_true rfl, Nat.le_of_ble_eq_true rfl⟩) (RW_um cy ad σ h2) rfl rfl rfl rfl (Nat.le_of_ble_eq_true rfl) dX1_addUmbrella_19 ⟨Nat.le_of_ble_eq_true rfl, Nat.le_of_ble_eq_true rfl⟩ rfl rfl ?_
    intro u3 eu3 H locs hP hD hS
    replace hf := hf.trans (ltt_r eu3)
    have hz : u3 0 = σ 0 := by rw [eu3]; exact (z_X3_beNewIn σ (tn (σ 0 6)) x).trans hz
    refine lv_aload_n hx hb dX1_addUmbrella_22 rfl (lv_at hl 0 rfl) ?_
    refine lv_dup hx hb dX1_addUmbrella_23 rfl ?_
    refine va_get (D := D) (ci := 1) (v := .int (u3 0 6)) (C := RX1) (T := TX1) (N := 9) hx hb hts hin1 hown hK hP (0) (RW_ob cy ad u3) rfl 6 (by decide) wd0 (fun _ h9 => h9) rfl dX1_addUmbrella_24 ?_
    refine g_top ((congrFun hz 6).trans hI.c6) ?_
    refine lv_iconst (v := nI 1) hx hb dX1_addUmbrella_27 (by decide) ?_
    refine lv_iadd hx hb dX1_addUmbrella_28 ?_
    refine g_top (nI_add _ _) ?_
    refine g_put (σ1 := up u3 0 6 (nI ((tn (σ 0 6)) + 1))) (fs := obF ad (u3 0)) (C := RX1) (T := TX1) (N := 9) hx hb hts hin1 tyX1_ok nmX1 hown hK hP hD hS (0) (RW_ob cy ad u3) rfl 6 (by decide) wd0 rfl rfl (Nat.le_of_ble_eq_true rfl) (RW_ob_set cy ad u3 6 (by decide) _) dX1_addUmbrella_29 ?_
    intro u4 eu4 H locs hP hD hS
    replace hf := hf.trans (ltt_r eu4)
    exact g_endv hx hb hr hlocks hf hP hD hS (Nat.le_of_ble_eq_true rfl) (Nat.le_of_ble_eq_true rfl) dX1_addUmbrella_32
def s_X1_hoursBetween (σ : Sg) (x : Int32) (y : Int32) : Int32 := ltt (s_X1_isShelter σ x) (fun r1 => if r1 = 0 then nI 1 else ltt (s_X1_isShelter σ y) (fun r3 => if r3 = 0 then nI 1 else m_max (nI 1) ((m_abs ((σ (5 + (tn x)) 0) - (σ (5 + (tn y)) 0))) / (nI 10))))
abbrev rm_X1_hoursBetween : Room := { frames := 1, cells := 0, slots := 0, locals := 21 }
set_option maxHeartbeats 4000000 in
set_option maxRecDepth 100000 in
theorem c_X1_hoursBetween (l : Launch) (D : va_G) (cy : Nat → ClassId) (ad : Nat → Nat) (σ : Sg) (x : Int32) (y : Int32) (hI : OkR σ) : gMr l yX1_hoursBetween wsX1_hoursBetween rm_X1_hoursBetween D (Ty cy) (RW cy ad) [.ref (ad 0), .int (x), .int (y)] σ (s_X1_hoursBetween σ x y) 0 0 := by
  refine gstarti cX1_hoursBetween 3 RX1 (by decide) rfl rfl (Nat.le_of_ble_eq_true rfl) ?_
  intro p e s m below meth c A ls hx hb hml hown hts hr hlocks hK hP hD hA hS hl
  have hl : lv_has ls 3 [(0, .ref (ad 0)), (1, .int (x)), (2, .int (y))] := hl
  have hf : s_X1_hoursBetween σ x y = s_X1_hoursBetween σ x y := rfl
  have hin1 : ∀ w ∈ wsX10, w ∈ wsX1_hoursBetween := by decide +kernel
  have hin2 : ∀ w ∈ wsX20, w ∈ wsX1_hoursBetween := by decide +kernel
  have wd0 := hts (.fieldLink RX1 17 "UmbrellaLand$Republic" "shelters" "[LUmbrellaLand$Shelter;") (by decide +kernel)
  have wd1 := hts (.fieldLink RX1 68 "UmbrellaLand$Shelter" "place" "I") (by decide +kernel)
  have wd2 := hts (.methodLink RX1 100 Lib.Math.abs.name) (by decide +kernel)
  have wd3 := hts (.static Lib.Math.abs.name) (by decide +kernel)
  have wd4 := hts (.initialized "java/lang/Math") (by decide +kernel)
  have wd5 := hts (.code Lib.Math.abs.name Lib.Math.abs.code 1 (some .int)) (by decide +kernel)
  have wd6 := hts (.methodLink RX1 106 Lib.Math.max.name) (by decide +kernel)
  have wd7 := hts (.static Lib.Math.max.name) (by decide +kernel)
  have wd8 := hts (.code Lib.Math.max.name Lib.Math.max.code 2 (some .int)) (by decide +kernel)
  refine lv_aload_n hx hb dX1_hoursBetween_0 rfl (lv_at hl 0 rfl) ?_
  refine lv_iload_n hx hb dX1_hoursBetween_1 rfl (lv_at hl 1 rfl) ?_
  refine g_callr (q0 := 0) (wf := (RW cy ad)) (σ := σ) (wfc := (RW cy ad)) (σc := σ) hx hb hml hown hts hK hP hD hS hA hl.1 [] pm_0 [.int (x)] (c_X1_isShelter l D cy ad σ x ) (cwV 1 hts gX1_hoursBetween_X1_isShelter rfl rfl rfl (by decide +kernel) ⟨Nat.le_of_ble_eq_true rfl, Nat.le_of_ble_eq_true rfl⟩) (RW_ob cy ad σ) rfl rfl rfl rfl (Nat.le_of_ble_eq_true rfl) dX1_hoursBetween_2 ⟨Nat.le_of_ble_eq_true rfl, Nat.le_of_ble_eq_true rfl⟩ rfl rfl ?_
  intro r1 er1 H locs hP hD hS
  replace hf := hf.trans (ltt_r er1)
  refine lv_if_eq (tgt := 16) hx hb dX1_hoursBetween_5 (by decide) (fun c2 => ?_) (fun c2 => ?_)
  · replace hf := hf.trans (if_pos c2)
    refine lv_iconst (v := nI 1) hx hb dX1_hoursBetween_16 (by decide) ?_
    exact g_endi hx hb hr hlocks rfl (congrArg (fun r => (r, σ)) hf) hP hD hS (Nat.le_of_ble_eq_true rfl) (Nat.le_of_ble_eq_true rfl) dX1_hoursBetween_17
  · replace hf := hf.trans (if_neg c2)
    refine lv_aload_n hx hb dX1_hoursBetween_8 rfl (lv_at hl 0 rfl) ?_
    refine lv_iload_n hx hb dX1_hoursBetween_9 rfl (lv_at hl 2 rfl) ?_
    refine g_callr (q0 := 0) (wf := (RW cy ad)) (σ := σ) (wfc := (RW cy ad)) (σc := σ) hx hb hml hown hts hK hP hD hS hA hl.1 [] pm_0 [.int (y)] (c_X1_isShelter l D cy ad σ y ) (cwV 1 hts gX1_hoursBetween_X1_isShelter rfl rfl rfl (by decide +kernel) ⟨Nat.le_of_ble_eq_true rfl, Nat.le_of_ble_eq_true rfl⟩) (RW_ob cy ad σ) rfl rfl rfl rfl (Nat.le_of_ble_eq_true rfl) dX1_hoursBetween_10 ⟨Nat.le_of_ble_eq_true rfl, Nat.le_of_ble_eq_true rfl⟩ rfl rfl ?_
    intro r3 er3 H locs hP hD hS
    replace hf := hf.trans (ltt_r er3)
    refine lv_if_ne (tgt := 18) hx hb dX1_hoursBetween_13 (by decide) (fun c4 => ?_) (fun c4 => ?_)
    · replace hf := hf.trans (if_neg c4)
      refine lv_iconst (v := nI 1) hx hb dX1_hoursBetween_18 (by decide) ?_
      refine lv_aload_n hx hb dX1_hoursBetween_19 rfl (lv_at hl 0 rfl) ?_
      refine va_get (D := D) (ci := 1) (v := .ref (ad 2)) (C := RX1) (T := TX1) (N := 9) hx hb hts hin1 hown hK hP (0) (RW_ob cy ad σ) rfl 1 (by decide) wd0 (fun _ h9 => h9) rfl dX1_hoursBetween_20 ?_
      refine lv_iload_n hx hb dX1_hoursBetween_23 rfl (lv_at hl 1 rfl) ?_
      have h5 : vp_in (x) 8 := in_sh hI (fun h9 => c2 (er1.trans h9))
      have h5b : tn x < 8 := tn_in h5
      refine g_aald (b := ad (5 + (tn x))) hx hb hK hP (2) 1 (tn x) (RW_as cy ad σ) rfl rfl h5 rfl dX1_hoursBetween_24 ?_
      refine va_get (D := D) (ci := 2) (v := .int (σ (5 + (tn x)) 0)) (C := RX2) (T := TX2) (N := 7) hx hb hts hin2 hown hK hP (5 + (tn x)) (RW_sh cy ad σ h5b) rfl 0 (by decide) wd1 (fun _ h9 => h9) rfl dX1_hoursBetween_25 ?_
      refine lv_aload_n hx hb dX1_hoursBetween_28 rfl (lv_at hl 0 rfl) ?_
      refine va_get (D := D) (ci := 1) (v := .ref (ad 2)) (C := RX1) (T := TX1) (N := 9) hx hb hts hin1 hown hK hP (0) (RW_ob cy ad σ) rfl 1 (by decide) wd0 (fun _ h9 => h9) rfl dX1_hoursBetween_29 ?_
      refine lv_iload_n hx hb dX1_hoursBetween_32 rfl (lv_at hl 2 rfl) ?_
      have h6 : vp_in (y) 8 := in_sh hI (fun h9 => c4 (er3.trans h9))
      have h6b : tn y < 8 := tn_in h6
      refine g_aald (b := ad (5 + (tn y))) hx hb hK hP (2) 1 (tn y) (RW_as cy ad σ) rfl rfl h6 rfl dX1_hoursBetween_33 ?_
      refine va_get (D := D) (ci := 2) (v := .int (σ (5 + (tn y)) 0)) (C := RX2) (T := TX2) (N := 7) hx hb hts hin2 hown hK hP (5 + (tn y)) (RW_sh cy ad σ h6b) rfl 0 (by decide) wd1 (fun _ h9 => h9) rfl dX1_hoursBetween_34 ?_
      refine lv_isub hx hb dX1_hoursBetween_37 ?_
      refine va_mabs hx hb (hml.trans hl.1.symm) hown wd2 wd3 wd4 wd5 (Nat.le_of_ble_eq_true rfl) (Nat.le_of_ble_eq_true rfl) (Nat.le_of_ble_eq_true rfl) (Nat.le_of_ble_eq_true rfl) dX1_hoursBetween_38 ?_
      refine lv_bipush (v := nI 10) hx hb dX1_hoursBetween_41 (by decide) ?_
      refine lv_idiv hx hb dX1_hoursBetween_43 (by decide) ?_
      refine va_mmax hx hb (hml.trans hl.1.symm) hown wd6 wd7 wd4 wd8 (Nat.le_of_ble_eq_true rfl) (Nat.le_of_ble_eq_true rfl) (Nat.le_of_ble_eq_true rfl) (Nat.le_of_ble_eq_true rfl) dX1_hoursBetween_44 ?_
      exact g_endi hx hb hr hlocks rfl (congrArg (fun r => (r, σ)) hf) hP hD hS (Nat.le_of_ble_eq_true rfl) (Nat.le_of_ble_eq_true rfl) dX1_hoursBetween_47
    · replace hf := hf.trans (if_pos c4)
      refine lv_iconst (v := nI 1) hx hb dX1_hoursBetween_16 (by decide) ?_
      exact g_endi hx hb hr hlocks rfl (congrArg (fun r => (r, σ)) hf) hP hD hS (Nat.le_of_ble_eq_true rfl) (Nat.le_of_ble_eq_true rfl) dX1_hoursBetween_17
def s_X1_addPerson (σ : Sg) (x : Int32) (y : Int32) (z : Int32) (w : Int32) (v : Int32) : Int32 × (Sg) := if (nI (tn (σ 0 7))) < (nI 10) then ltt (s_X1_hoursBetween σ x y) (fun r3 => ltt (s_X0_settle σ (tn (σ 0 7)) x y r3) (fun u4 => ltt (up u4 (53 + (tn (σ 0 7))) 2 z) (fun u5 => ltt (up u5 (53 + (tn (σ 0 7))) 3 w) (fun u6 => ltt (up u6 (53 + (tn (σ 0 7))) 4 v) (fun u7 => ltt (up u7 0 7 (nI ((tn (σ 0 7)) + 1))) (fun u8 => ((u8 0 7) - (nI 1), u8))))))) else ((-1 : Int32), σ)
abbrev rm_X1_addPerson : Room := { frames := 2, cells := 0, slots := 0, locals := 43 }
set_option maxHeartbeats 4000000 in
set_option maxRecDepth 100000 in
theorem c_X1_addPerson (l : Launch) (D : va_G) (cy : Nat → ClassId) (ad : Nat → Nat) (σ : Sg) (x : Int32) (y : Int32) (z : Int32) (w : Int32) (v : Int32) (hI : OkR σ) : gMi l yX1_addPerson wsX1_addPerson rm_X1_addPerson D (Ty cy) (RW cy ad) [.ref (ad 0), .int (x), .int (y), .int (z), .int (w), .int (v)] σ (s_X1_addPerson σ x y z w v) 0 0 := by
  refine gstarti cX1_addPerson 7 RX1 (by decide) rfl rfl (Nat.le_of_ble_eq_true rfl) ?_
  intro p e s m below meth c A ls hx hb hml hown hts hr hlocks hK hP hD hA hS hl
  have hl : lv_has ls 7 [(0, .ref (ad 0)), (1, .int (x)), (2, .int (y)), (3, .int (z)), (4, .int (w)), (5, .int (v))] := hl
  have hf : s_X1_addPerson σ x y z w v = s_X1_addPerson σ x y z w v := rfl
  have hz : σ 0 = σ 0 := rfl
  have hin1 : ∀ w ∈ wsX10, w ∈ wsX1_addPerson := by decide +kernel
  have hin0 : ∀ w ∈ wsX00, w ∈ wsX1_addPerson := by decide +kernel
  have wd0 := hts (.fieldLink RX1 52 "UmbrellaLand$Republic" "citizenCount" "I") (by decide +kernel)
  have wd1 := hts (.fieldLink RX1 29 "UmbrellaLand$Republic" "citizens" "[LUmbrellaLand$Citizen;") (by decide +kernel)
  have wd2 := hts (.fieldLink RX1 87 "UmbrellaLand$Citizen" "leaves" "I") (by decide +kernel)
  have wd3 := hts (.fieldLink RX1 90 "UmbrellaLand$Citizen" "returns" "I") (by decide +kernel)
  have wd4 := hts (.fieldLink RX1 93 "UmbrellaLand$Citizen" "forgets" "I") (by decide +kernel)
  have n7 := hI.n7
  refine lv_aload_n hx hb dX1_addPerson_0 rfl (lv_at hl 0 rfl) ?_
  refine va_get (D := D) (ci := 1) (v := .int (σ 0 7)) (C := RX1) (T := TX1) (N := 9) hx hb hts hin1 hown hK hP (0) (RW_ob cy ad σ) rfl 7 (by decide) wd0 (fun _ h9 => h9) rfl dX1_addPerson_1 ?_
  refine g_top ((congrFun hz 7).trans hI.c7) ?_
  refine lv_bipush (v := nI 10) hx hb dX1_addPerson_4 (by decide) ?_
  refine lv_icmp_lt (tgt := 11) hx hb dX1_addPerson_6 (by decide) (fun c1 => ?_) (fun c1 => ?_)
  · replace hf := hf.trans (if_pos c1)
    refine lv_aload_n hx hb dX1_addPerson_11 rfl (lv_at hl 0 rfl) ?_
    refine va_get (D := D) (ci := 1) (v := .ref (ad 4)) (C := RX1) (T := TX1) (N := 9) hx hb hts hin1 hown hK hP (0) (RW_ob cy ad σ) rfl 3 (by decide) wd1 (fun _ h9 => h9) rfl dX1_addPerson_12 ?_
    refine lv_aload_n hx hb dX1_addPerson_15 rfl (lv_at hl 0 rfl) ?_
    refine va_get (D := D) (ci := 1) (v := .int (σ 0 7)) (C := RX1) (T := TX1) (N := 9) hx hb hts hin1 hown hK hP (0) (RW_ob cy ad σ) rfl 7 (by decide) wd0 (fun _ h9 => h9) rfl dX1_addPerson_16 ?_
    refine g_top ((congrFun hz 7).trans hI.c7) ?_
    have h2 : tn (σ 0 7) < 10 := by have h9 := c1; rw [nI_ltI (by omega) (by omega)] at h9; exact h9
    refine g_aald (b := ad (53 + (tn (σ 0 7)))) hx hb hK hP (4) 3 (tn (σ 0 7)) (RW_ac cy ad σ) rfl (nI_clamp (by omega)) (vp_in_nI h2 (by decide)) rfl dX1_addPerson_19 ?_
    refine lv_astore (lv' := [(6, .ref (ad (53 + (tn (σ 0 7))))), (0, .ref (ad 0)), (1, .int (x)), (2, .int (y)), (3, .int (z)), (4, .int (w)), (5, .int (v))]) hx hb dX1_addPerson_20 hl (by decide) rfl (fun ls hl => ?_)
    refine lv_aload hx hb dX1_addPerson_22 (lv_at hl 0 rfl) ?_
    refine lv_iload_n hx hb dX1_addPerson_24 rfl (lv_at hl 2 rfl) ?_
    refine lv_iload_n hx hb dX1_addPerson_25 rfl (lv_at hl 3 rfl) ?_
    refine lv_aload_n hx hb dX1_addPerson_26 rfl (lv_at hl 1 rfl) ?_
    refine lv_iload_n hx hb dX1_addPerson_27 rfl (lv_at hl 2 rfl) ?_
    refine lv_iload_n hx hb dX1_addPerson_28 rfl (lv_at hl 3 rfl) ?_
    refine g_callr (q0 := 0) (wf := (RW cy ad)) (σ := σ) (wfc := (RW cy ad)) (σc := σ) hx hb hml hown hts hK hP hD hS hA hl.1 [] pm_0 [.int (x), .int (y)] (c_X1_hoursBetween l D cy ad σ x y (hI.mv hz)) (cwV 2 hts gX1_addPerson_X1_hoursBetween rfl rfl rfl (by decide +kernel) ⟨Nat.le_of_ble_eq_true rfl, Nat.le_of_ble_eq_true rfl⟩) (RW_ob cy ad σ) rfl rfl rfl rfl (Nat.le_of_ble_eq_true rfl) dX1_addPerson_29 ⟨Nat.le_of_ble_eq_true rfl, Nat.le_of_ble_eq_true rfl⟩ rfl rfl ?_
    intro r3 er3 H locs hP hD hS
    replace hf := hf.trans (ltt_r er3)
    refine g_callv (q0 := 53 + (tn (σ 0 7))) (wf := (RW cy ad)) (σ := σ) (wfc := (RW cy ad)) (σc := σ) hx hb hml hown hts hK hP hD hS hA hl.1 [] pm_0 (fun u => u) (fun _ => pm_0b) [.int (x), .int (y), .int (r3)] (c_X0_settle l D cy ad σ (tn (σ 0 7)) x y r3 h2) (cwV 3 hts gX1_addPerson_X0_settle rfl rfl rfl (by decide +kernel) ⟨Nat.le_of_ble_eq_true rfl, Nat.le_of_ble_eq_true rfl⟩) (RW_ci cy ad σ h2) rfl rfl rfl rfl (Nat.le_of_ble_eq_true rfl) dX1_addPerson_32 ⟨Nat.le_of_ble_eq_true rfl, Nat.le_of_ble_eq_true rfl⟩ rfl rfl ?_
    intro u4 eu4 H locs hP hD hS
    replace hf := hf.trans (ltt_r eu4)
    have hz : u4 0 = σ 0 := by rw [eu4]; exact (z_X0_settle σ (tn (σ 0 7)) x y r3).trans hz
    refine lv_aload hx hb dX1_addPerson_35 (lv_at hl 0 rfl) ?_
    refine lv_iload_n hx hb dX1_addPerson_37 rfl (lv_at hl 4 rfl) ?_
    refine g_put (σ1 := up u4 (53 + (tn (σ 0 7))) 2 z) (fs := ciF (u4 (53 + (tn (σ 0 7))))) (C := RX0) (T := TX0) (N := 15) hx hb hts hin0 tyX0_ok nmX0 hown hK hP hD hS (53 + (tn (σ 0 7))) (RW_ci cy ad u4 h2) rfl 2 (by decide) wd2 rfl rfl (Nat.le_of_ble_eq_true rfl) (RW_ci_set cy ad u4 h2 2 (by decide) _) dX1_addPerson_38 ?_
    intro u5 eu5 H locs hP hD hS
    replace hf := hf.trans (ltt_r eu5)
    have hz : u5 0 = σ 0 := z_up eu5 (by omega) hz
    refine lv_aload hx hb dX1_addPerson_41 (lv_at hl 0 rfl) ?_
    refine lv_iload hx hb dX1_addPerson_43 (lv_at hl 5 rfl) ?_
    refine g_put (σ1 := up u5 (53 + (tn (σ 0 7))) 3 w) (fs := ciF (u5 (53 + (tn (σ 0 7))))) (C := RX0) (T := TX0) (N := 15) hx hb hts hin0 tyX0_ok nmX0 hown hK hP hD hS (53 + (tn (σ 0 7))) (RW_ci cy ad u5 h2) rfl 3 (by decide) wd3 rfl rfl (Nat.le_of_ble_eq_true rfl) (RW_ci_set cy ad u5 h2 3 (by decide) _) dX1_addPerson_45 ?_
    intro u6 eu6 H locs hP hD hS
    replace hf := hf.trans (ltt_r eu6)
    have hz : u6 0 = σ 0 := z_up eu6 (by omega) hz
    refine lv_aload hx hb dX1_addPerson_48 (lv_at hl 0 rfl) ?_
    refine lv_iload hx hb dX1_addPerson_50 (lv_at hl 6 rfl) ?_
    refine g_put (σ1 := up u6 (53 + (tn (σ 0 7))) 4 v) (fs := ciF (u6 (53 + (tn (σ 0 7))))) (C := RX0) (T := TX0) (N := 15) hx hb hts hin0 tyX0_ok nmX0 hown hK hP hD hS (53 + (tn (σ 0 7))) (RW_ci cy ad u6 h2) rfl 4 (by decide) wd4 rfl rfl (Nat.le_of_ble_eq_true rfl) (RW_ci_set cy ad u6 h2 4 (by decide) _) dX1_addPerson_52 ?_
    intro u7 eu7 H locs hP hD hS
    replace hf := hf.trans (ltt_r eu7)
    have hz : u7 0 = σ 0 := z_up eu7 (by omega) hz
    refine lv_aload_n hx hb dX1_addPerson_55 rfl (lv_at hl 1 rfl) ?_
    refine lv_dup hx hb dX1_addPerson_56 rfl ?_
    refine va_get (D := D) (ci := 1) (v := .int (u7 0 7)) (C := RX1) (T := TX1) (N := 9) hx hb hts hin1 hown hK hP (0) (RW_ob cy ad u7) rfl 7 (by decide) wd0 (fun _ h9 => h9) rfl dX1_addPerson_57 ?_
    refine g_top ((congrFun hz 7).trans hI.c7) ?_
    refine lv_iconst (v := nI 1) hx hb dX1_addPerson_60 (by decide) ?_
    refine lv_iadd hx hb dX1_addPerson_61 ?_
    refine g_top (nI_add _ _) ?_
    refine g_put (σ1 := up u7 0 7 (nI ((tn (σ 0 7)) + 1))) (fs := obF ad (u7 0)) (C := RX1) (T := TX1) (N := 9) hx hb hts hin1 tyX1_ok nmX1 hown hK hP hD hS (0) (RW_ob cy ad u7) rfl 7 (by decide) wd0 rfl rfl (Nat.le_of_ble_eq_true rfl) (RW_ob_set cy ad u7 7 (by decide) _) dX1_addPerson_62 ?_
    intro u8 eu8 H locs hP hD hS
    replace hf := hf.trans (ltt_r eu8)
    refine lv_aload_n hx hb dX1_addPerson_65 rfl (lv_at hl 1 rfl) ?_
    refine va_get (D := D) (ci := 1) (v := .int (u8 0 7)) (C := RX1) (T := TX1) (N := 9) hx hb hts hin1 hown hK hP (0) (RW_ob cy ad u8) rfl 7 (by decide) wd0 (fun _ h9 => h9) rfl dX1_addPerson_66 ?_
    refine lv_iconst (v := nI 1) hx hb dX1_addPerson_69 (by decide) ?_
    refine lv_isub hx hb dX1_addPerson_70 ?_
    exact g_endi hx hb hr hlocks rfl hf hP hD hS (Nat.le_of_ble_eq_true rfl) (Nat.le_of_ble_eq_true rfl) dX1_addPerson_71
  · replace hf := hf.trans (if_neg c1)
    refine lv_iconst (v := (-1 : Int32)) hx hb dX1_addPerson_9 (by decide) ?_
    exact g_endi hx hb hr hlocks rfl hf hP hD hS (Nat.le_of_ble_eq_true rfl) (Nat.le_of_ble_eq_true rfl) dX1_addPerson_10
def lp_X1_letUmbrellasWait_2 (σ : Sg)  : Nat → Nat → Sg → (Sg)
  | 0, k, τ => τ
  | n + 1, k, τ => ltt (s_X3_waitAnHour τ k) (fun u4 => lp_X1_letUmbrellasWait_2 σ n (k + 1) u4)
def s_X1_letUmbrellasWait (σ : Sg) : Sg := ltt (lp_X1_letUmbrellasWait_2 σ (tn (σ 0 6)) 0 σ) (fun q5 => q5)
theorem z_lp_X1_letUmbrellasWait_2 (σ : Sg) : ∀ (n k : Nat) (τ : Sg), ((lp_X1_letUmbrellasWait_2 σ n k τ)) 0 = τ 0 := by
  intro n
  induction n with
  | zero => intro k τ; rfl
  | succ n ih =>
    intro k τ
    unfold lp_X1_letUmbrellasWait_2
    simp only [ltt]
    repeat' split
    all_goals simp only [ih, z_X3_waitAnHour]
theorem z_X1_letUmbrellasWait (σ : Sg) : (s_X1_letUmbrellasWait σ) 0 = σ 0 := z_lp_X1_letUmbrellasWait_2 σ _ _ _
theorem ok_X1_letUmbrellasWait (σ : Sg) (h : OkR σ) : OkR (s_X1_letUmbrellasWait σ) := h.mv (z_X1_letUmbrellasWait σ)
abbrev rm_X1_letUmbrellasWait : Room := { frames := 2, cells := 0, slots := 0, locals := 41 }
set_option maxHeartbeats 4000000 in
set_option maxRecDepth 100000 in
theorem c_X1_letUmbrellasWait (l : Launch) (D : va_G) (cy : Nat → ClassId) (ad : Nat → Nat) (σ : Sg) (hI : OkR σ) : gMv l yX1_letUmbrellasWait wsX1_letUmbrellasWait rm_X1_letUmbrellasWait D (Ty cy) (RW cy ad) [.ref (ad 0)] σ (s_X1_letUmbrellasWait σ) 0 0 := by
  refine gstartv cX1_letUmbrellasWait 2 RX1 (by decide) rfl rfl (Nat.le_of_ble_eq_true rfl) ?_
  intro p e s m below meth c A ls hx hb hml hown hts hr hlocks hK hP hD hA hS hl
  have hl : lv_has ls 2 [(0, .ref (ad 0))] := hl
  have hf : s_X1_letUmbrellasWait σ = s_X1_letUmbrellasWait σ := rfl
  have hz : σ 0 = σ 0 := rfl
  have hin1 : ∀ w ∈ wsX10, w ∈ wsX1_letUmbrellasWait := by decide +kernel
  have wd0 := hts (.fieldLink RX1 49 "UmbrellaLand$Republic" "umbrellaCount" "I") (by decide +kernel)
  have wd1 := hts (.fieldLink RX1 23 "UmbrellaLand$Republic" "umbrellas" "[LUmbrellaLand$Umbrella;") (by decide +kernel)
  have n5 := hI.n5
  have n6 := hI.n6
  have n7 := hI.n7
  have loop2 : ∀  (n k : Nat)  (τ : Sg) (H : Heap) (locs : List Loc) (ls : Array Slot), n = tn (σ 0 6) - k ∧ k ≤ tn (σ 0 6) + 1 → τ 0 = σ 0 → va_P D vwCl ((RW cy ad) τ) H → va_D A ((RW cy ad) τ) → va_S A s.heap H locs → lv_has ls 2 [(0, .ref (ad 0)), (1, .int (nI k))] → (∀ u : (Sg), u = lp_X1_letUmbrellasWait_2 σ n k τ → ∀ (H : Heap) (locs : List Loc) (ls : Array Slot), va_P D vwCl ((RW cy ad) u) H → va_D A ((RW cy ad) u) → va_S A s.heap H locs → lv_has ls 2 [(0, .ref (ad 0))] → W p l e rm_X1_letUmbrellasWait s m [.ref (ad 0)].toArray below meth c H locs 0 0 (MQ below (va_Qv (fun u => u = s_X1_letUmbrellasWait σ) (gPost D (RW cy ad) A) A) [.ref (ad 0)].toArray s 0 0 A) (F0 m 25 ls [])) → W p l e rm_X1_letUmbrellasWait s m [.ref (ad 0)].toArray below meth c H locs 0 0 (MQ below (va_Qv (fun u => u = s_X1_letUmbrellasWait σ) (gPost D (RW cy ad) A) A) [.ref (ad 0)].toArray s 0 0 A) (F0 m 2 ls []) := by
    intro n
    induction n with
    | zero =>
      intro k τ H locs ls hN hz hP hD hS hl K
      have hf : lp_X1_letUmbrellasWait_2 σ 0 k τ = lp_X1_letUmbrellasWait_2 σ 0 k τ := rfl
      refine lv_iload_n hx hb dX1_letUmbrellasWait_2 rfl (lv_at hl 1 rfl) ?_
      refine lv_aload_n hx hb dX1_letUmbrellasWait_3 rfl (lv_at hl 0 rfl) ?_
      refine va_get (D := D) (ci := 1) (v := .int (τ 0 6)) (C := RX1) (T := TX1) (N := 9) hx hb hts hin1 hown hK hP (0) (RW_ob cy ad τ) rfl 6 (by decide) wd0 (fun _ h9 => h9) rfl dX1_letUmbrellasWait_4 ?_
      refine g_top ((congrFun hz 6).trans hI.c6) ?_
      refine lv_icmp_ge (tgt := 25) hx hb dX1_letUmbrellasWait_7 (by decide) (fun c1 => ?_) (fun c1 => absurd (nI_le (by omega) (by omega)) c1)
      exact K τ hf.symm _ _ _ hP hD hS (lv_sub hl [0] rfl)
    | succ n ih =>
      intro k τ H locs ls hN hz hP hD hS hl K
      have hf : lp_X1_letUmbrellasWait_2 σ (n + 1) k τ = lp_X1_letUmbrellasWait_2 σ (n + 1) k τ := rfl
      refine lv_iload_n hx hb dX1_letUmbrellasWait_2 rfl (lv_at hl 1 rfl) ?_
      refine lv_aload_n hx hb dX1_letUmbrellasWait_3 rfl (lv_at hl 0 rfl) ?_
      refine va_get (D := D) (ci := 1) (v := .int (τ 0 6)) (C := RX1) (T := TX1) (N := 9) hx hb hts hin1 hown hK hP (0) (RW_ob cy ad τ) rfl 6 (by decide) wd0 (fun _ h9 => h9) rfl dX1_letUmbrellasWait_4 ?_
      refine g_top ((congrFun hz 6).trans hI.c6) ?_
      refine lv_icmp_ge (tgt := 25) hx hb dX1_letUmbrellasWait_7 (by decide) (fun c2 => absurd c2 (nI_ge (by omega) (by omega))) (fun c2 => ?_)
      refine lv_aload_n hx hb dX1_letUmbrellasWait_10 rfl (lv_at hl 0 rfl) ?_
      refine va_get (D := D) (ci := 1) (v := .ref (ad 3)) (C := RX1) (T := TX1) (N := 9) hx hb hts hin1 hown hK hP (0) (RW_ob cy ad τ) rfl 2 (by decide) wd1 (fun _ h9 => h9) rfl dX1_letUmbrellasWait_11 ?_
      refine lv_iload_n hx hb dX1_letUmbrellasWait_14 rfl (lv_at hl 1 rfl) ?_
      have h3 : k < 40 := by omega
      refine g_aald (b := ad (13 + k)) hx hb hK hP (3) 2 k (RW_au cy ad τ) rfl (nI_clamp (by omega)) (vp_in_nI h3 (by decide)) rfl dX1_letUmbrellasWait_15 ?_
      refine g_callv (q0 := 13 + k) (wf := (RW cy ad)) (σ := τ) (wfc := (RW cy ad)) (σc := τ) hx hb hml hown hts hK hP hD hS hA hl.1 [] pm_0 (fun u => u) (fun _ => pm_0b) [] (c_X3_waitAnHour l D cy ad τ k h3) (cwV 0 hts gX1_letUmbrellasWait_X3_waitAnHour rfl rfl rfl (by decide +kernel) ⟨Nat.le_of_ble_eq_true rfl, Nat.le_of_ble_eq_true rfl⟩) (RW_um cy ad τ h3) rfl rfl rfl rfl (Nat.le_of_ble_eq_true rfl) dX1_letUmbrellasWait_16 ⟨Nat.le_of_ble_eq_true rfl, Nat.le_of_ble_eq_true rfl⟩ rfl rfl ?_
      intro u4 eu4 H locs hP hD hS
      replace hf := hf.trans (ltt_r eu4)
      have hz : u4 0 = σ 0 := by rw [eu4]; exact (z_X3_waitAnHour τ k).trans hz
      refine lv_iinc (v := nI (k + 1)) (lv' := [(1, .int (nI (k + 1))), (0, .ref (ad 0))]) hx hb dX1_letUmbrellasWait_19 hl (k := 1) rfl (nI_1 _) (by decide) rfl (fun ls hl => ?_)
      refine lv_goto (tgt := 2) hx hb dX1_letUmbrellasWait_22 (by decide) ?_
      exact ih (k + 1)  u4 _ _ _ (by omega) hz  hP hD hS (lv_sub hl [1, 0] rfl) (fun u eu => K u (eu.trans hf.symm))
  refine lv_iconst (v := nI 0) hx hb dX1_letUmbrellasWait_0 (by decide) ?_
  refine lv_istore_n (lv' := [(1, .int (nI 0)), (0, .ref (ad 0))]) hx hb dX1_letUmbrellasWait_1 rfl hl (by decide) rfl (fun ls hl => ?_)
  refine loop2  (tn (σ 0 6)) 0  σ _ _ _ (by omega) hz  hP hD hS (lv_sub hl [1, 0] rfl) ?_
  intro q5 eq5 H locs ls hP hD hS hl
  replace hf := hf.trans (ltt_r eq5)
  have hz : q5 0 = σ 0 := by rw [eq5]; exact (z_lp_X1_letUmbrellasWait_2 σ (tn (σ 0 6)) 0 σ).trans hz
  exact g_endv hx hb hr hlocks hf hP hD hS (Nat.le_of_ble_eq_true rfl) (Nat.le_of_ble_eq_true rfl) dX1_letUmbrellasWait_25
def lp_X1_endDay_2 (σ : Sg)  : Nat → Nat → Sg → (Sg)
  | 0, k, τ => τ
  | n + 1, k, τ => ltt (s_X2_endDay τ k) (fun u4 => lp_X1_endDay_2 σ n (k + 1) u4)
def s_X1_endDay (σ : Sg) : Sg := ltt (lp_X1_endDay_2 σ (tn (σ 0 5)) 0 σ) (fun q5 => q5)
theorem z_lp_X1_endDay_2 (σ : Sg) : ∀ (n k : Nat) (τ : Sg), ((lp_X1_endDay_2 σ n k τ)) 0 = τ 0 := by
  intro n
  induction n with
  | zero => intro k τ; rfl
  | succ n ih =>
    intro k τ
    unfold lp_X1_endDay_2
    simp only [ltt]
    repeat' split
    all_goals simp only [ih, z_X2_endDay]
theorem z_X1_endDay (σ : Sg) : (s_X1_endDay σ) 0 = σ 0 := z_lp_X1_endDay_2 σ _ _ _
theorem ok_X1_endDay (σ : Sg) (h : OkR σ) : OkR (s_X1_endDay σ) := h.mv (z_X1_endDay σ)
abbrev rm_X1_endDay : Room := { frames := 2, cells := 0, slots := 0, locals := 41 }
set_option maxHeartbeats 4000000 in
set_option maxRecDepth 100000 in
theorem c_X1_endDay (l : Launch) (D : va_G) (cy : Nat → ClassId) (ad : Nat → Nat) (σ : Sg) (hI : OkR σ) : gMv l yX1_endDay wsX1_endDay rm_X1_endDay D (Ty cy) (RW cy ad) [.ref (ad 0)] σ (s_X1_endDay σ) 0 0 := by
  refine gstartv cX1_endDay 2 RX1 (by decide) rfl rfl (Nat.le_of_ble_eq_true rfl) ?_
  intro p e s m below meth c A ls hx hb hml hown hts hr hlocks hK hP hD hA hS hl
  have hl : lv_has ls 2 [(0, .ref (ad 0))] := hl
  have hf : s_X1_endDay σ = s_X1_endDay σ := rfl
  have hz : σ 0 = σ 0 := rfl
  have hin1 : ∀ w ∈ wsX10, w ∈ wsX1_endDay := by decide +kernel
  have wd0 := hts (.fieldLink RX1 46 "UmbrellaLand$Republic" "shelterCount" "I") (by decide +kernel)
  have wd1 := hts (.fieldLink RX1 17 "UmbrellaLand$Republic" "shelters" "[LUmbrellaLand$Shelter;") (by decide +kernel)
  have n5 := hI.n5
  have n6 := hI.n6
  have n7 := hI.n7
  have loop2 : ∀  (n k : Nat)  (τ : Sg) (H : Heap) (locs : List Loc) (ls : Array Slot), n = tn (σ 0 5) - k ∧ k ≤ tn (σ 0 5) + 1 → τ 0 = σ 0 → va_P D vwCl ((RW cy ad) τ) H → va_D A ((RW cy ad) τ) → va_S A s.heap H locs → lv_has ls 2 [(0, .ref (ad 0)), (1, .int (nI k))] → (∀ u : (Sg), u = lp_X1_endDay_2 σ n k τ → ∀ (H : Heap) (locs : List Loc) (ls : Array Slot), va_P D vwCl ((RW cy ad) u) H → va_D A ((RW cy ad) u) → va_S A s.heap H locs → lv_has ls 2 [(0, .ref (ad 0))] → W p l e rm_X1_endDay s m [.ref (ad 0)].toArray below meth c H locs 0 0 (MQ below (va_Qv (fun u => u = s_X1_endDay σ) (gPost D (RW cy ad) A) A) [.ref (ad 0)].toArray s 0 0 A) (F0 m 25 ls [])) → W p l e rm_X1_endDay s m [.ref (ad 0)].toArray below meth c H locs 0 0 (MQ below (va_Qv (fun u => u = s_X1_endDay σ) (gPost D (RW cy ad) A) A) [.ref (ad 0)].toArray s 0 0 A) (F0 m 2 ls []) := by
    intro n
    induction n with
    | zero =>
      intro k τ H locs ls hN hz hP hD hS hl K
      have hf : lp_X1_endDay_2 σ 0 k τ = lp_X1_endDay_2 σ 0 k τ := rfl
      refine lv_iload_n hx hb dX1_endDay_2 rfl (lv_at hl 1 rfl) ?_
      refine lv_aload_n hx hb dX1_endDay_3 rfl (lv_at hl 0 rfl) ?_
      refine va_get (D := D) (ci := 1) (v := .int (τ 0 5)) (C := RX1) (T := TX1) (N := 9) hx hb hts hin1 hown hK hP (0) (RW_ob cy ad τ) rfl 5 (by decide) wd0 (fun _ h9 => h9) rfl dX1_endDay_4 ?_
      refine g_top ((congrFun hz 5).trans hI.c5) ?_
      refine lv_icmp_ge (tgt := 25) hx hb dX1_endDay_7 (by decide) (fun c1 => ?_) (fun c1 => absurd (nI_le (by omega) (by omega)) c1)
      exact K τ hf.symm _ _ _ hP hD hS (lv_sub hl [0] rfl)
    | succ n ih =>
      intro k τ H locs ls hN hz hP hD hS hl K
      have hf : lp_X1_endDay_2 σ (n + 1) k τ = lp_X1_endDay_2 σ (n + 1) k τ := rfl
      refine lv_iload_n hx hb dX1_endDay_2 rfl (lv_at hl 1 rfl) ?_
      refine lv_aload_n hx hb dX1_endDay_3 rfl (lv_at hl 0 rfl) ?_
      refine va_get (D := D) (ci := 1) (v := .int (τ 0 5)) (C := RX1) (T := TX1) (N := 9) hx hb hts hin1 hown hK hP (0) (RW_ob cy ad τ) rfl 5 (by decide) wd0 (fun _ h9 => h9) rfl dX1_endDay_4 ?_
      refine g_top ((congrFun hz 5).trans hI.c5) ?_
      refine lv_icmp_ge (tgt := 25) hx hb dX1_endDay_7 (by decide) (fun c2 => absurd c2 (nI_ge (by omega) (by omega))) (fun c2 => ?_)
      refine lv_aload_n hx hb dX1_endDay_10 rfl (lv_at hl 0 rfl) ?_
      refine va_get (D := D) (ci := 1) (v := .ref (ad 2)) (C := RX1) (T := TX1) (N := 9) hx hb hts hin1 hown hK hP (0) (RW_ob cy ad τ) rfl 1 (by decide) wd1 (fun _ h9 => h9) rfl dX1_endDay_11 ?_
      refine lv_iload_n hx hb dX1_endDay_14 rfl (lv_at hl 1 rfl) ?_
      have h3 : k < 8 := by omega
      refine g_aald (b := ad (5 + k)) hx hb hK hP (2) 1 k (RW_as cy ad τ) rfl (nI_clamp (by omega)) (vp_in_nI h3 (by decide)) rfl dX1_endDay_15 ?_
      refine g_callv (q0 := 5 + k) (wf := (RW cy ad)) (σ := τ) (wfc := (RW cy ad)) (σc := τ) hx hb hml hown hts hK hP hD hS hA hl.1 [] pm_0 (fun u => u) (fun _ => pm_0b) [] (c_X2_endDay l D cy ad τ k h3) (cwV 0 hts gX1_endDay_X2_endDay rfl rfl rfl (by decide +kernel) ⟨Nat.le_of_ble_eq_true rfl, Nat.le_of_ble_eq_true rfl⟩) (RW_sh cy ad τ h3) rfl rfl rfl rfl (Nat.le_of_ble_eq_true rfl) dX1_endDay_16 ⟨Nat.le_of_ble_eq_true rfl, Nat.le_of_ble_eq_true rfl⟩ rfl rfl ?_
      intro u4 eu4 H locs hP hD hS
      replace hf := hf.trans (ltt_r eu4)
      have hz : u4 0 = σ 0 := by rw [eu4]; exact (z_X2_endDay τ k).trans hz
      refine lv_iinc (v := nI (k + 1)) (lv' := [(1, .int (nI (k + 1))), (0, .ref (ad 0))]) hx hb dX1_endDay_19 hl (k := 1) rfl (nI_1 _) (by decide) rfl (fun ls hl => ?_)
      refine lv_goto (tgt := 2) hx hb dX1_endDay_22 (by decide) ?_
      exact ih (k + 1)  u4 _ _ _ (by omega) hz  hP hD hS (lv_sub hl [1, 0] rfl) (fun u eu => K u (eu.trans hf.symm))
  refine lv_iconst (v := nI 0) hx hb dX1_endDay_0 (by decide) ?_
  refine lv_istore_n (lv' := [(1, .int (nI 0)), (0, .ref (ad 0))]) hx hb dX1_endDay_1 rfl hl (by decide) rfl (fun ls hl => ?_)
  refine loop2  (tn (σ 0 5)) 0  σ _ _ _ (by omega) hz  hP hD hS (lv_sub hl [1, 0] rfl) ?_
  intro q5 eq5 H locs ls hP hD hS hl
  replace hf := hf.trans (ltt_r eq5)
  have hz : q5 0 = σ 0 := by rw [eq5]; exact (z_lp_X1_endDay_2 σ (tn (σ 0 5)) 0 σ).trans hz
  exact g_endv hx hb hr hlocks hf hP hD hS (Nat.le_of_ble_eq_true rfl) (Nat.le_of_ble_eq_true rfl) dX1_endDay_25
def s_X1_takeUmbrella (σ : Sg) (i : Nat) : Int32 × (Sg) := ltt (s_X1_isShelter σ (σ (53 + i) 6)) (fun r2 => if r2 = 0 then (nI 0, σ) else ltt (s_X1_firstUmbrellaIn σ (σ (53 + i) 6)) (fun r5 => if (σ (53 + i) 10) < (σ (5 + (tn (σ (53 + i) 6))) 1) then ltt (up σ (53 + i) 14 ((σ (53 + i) 14) + (nI 1))) (fun u7 => ltt (s_X2_noteRefusal u7 (tn (σ (53 + i) 6))) (fun u8 => (nI 0, u8))) else ltt (s_X1_isUmbrella σ r5) (fun r9 => if r9 = 0 then ltt (up σ (53 + i) 14 ((σ (53 + i) 14) + (nI 1))) (fun u16 => ltt (s_X2_noteRefusal u16 (tn (σ (53 + i) 6))) (fun u17 => (nI 0, u17))) else ltt (s_X3_goWith σ (tn r5) (nI i)) (fun u12 => ltt (up u12 (53 + i) 9 r5) (fun u13 => ltt (up u13 (53 + i) 12 ((u13 (53 + i) 12) + (nI 1))) (fun u14 => ltt (up u14 (5 + (tn (σ (53 + i) 6))) 2 ((u14 (5 + (tn (σ (53 + i) 6))) 2) + (nI 1))) (fun u15 => (nI 1, u15))))))))
theorem z_X1_takeUmbrella (σ : Sg) (i : Nat) : ((s_X1_takeUmbrella σ i).2) 0 = σ 0 := by
  unfold s_X1_takeUmbrella
  simp only [ltt]
  repeat' split
  all_goals first | rfl | simp only [up_ci0, up_sh0, up_um0, z_X3_standIn, z_X3_goWith, z_X3_stayAway, z_X0_setOut, z_X0_noteForgotten, z_X0_noteBroughtBack, z_X2_noteRefusal, z_X2_noteForgotten]
abbrev rm_X1_takeUmbrella : Room := { frames := 2, cells := 0, slots := 0, locals := 45 }
set_option maxHeartbeats 4000000 in
set_option maxRecDepth 100000 in
theorem c_X1_takeUmbrella (l : Launch) (D : va_G) (cy : Nat → ClassId) (ad : Nat → Nat) (σ : Sg) (i : Nat) (hi : i < 10) (hI : OkR σ) : gMi l yX1_takeUmbrella wsX1_takeUmbrella rm_X1_takeUmbrella D (Ty cy) (RW cy ad) [.ref (ad 0), .int (nI i)] σ (s_X1_takeUmbrella σ i) 0 0 := by
  refine gstarti cX1_takeUmbrella 5 RX1 (by decide) rfl rfl (Nat.le_of_ble_eq_true rfl) ?_
  intro p e s m below meth c A ls hx hb hml hown hts hr hlocks hK hP hD hA hS hl
  have hl : lv_has ls 5 [(0, .ref (ad 0)), (1, .int (nI i))] := hl
  have hf : s_X1_takeUmbrella σ i = s_X1_takeUmbrella σ i := rfl
  have hz : σ 0 = σ 0 := rfl
  have hin1 : ∀ w ∈ wsX10, w ∈ wsX1_takeUmbrella := by decide +kernel
  have hin0 : ∀ w ∈ wsX00, w ∈ wsX1_takeUmbrella := by decide +kernel
  have hin2 : ∀ w ∈ wsX20, w ∈ wsX1_takeUmbrella := by decide +kernel
  have wd0 := hts (.fieldLink RX1 29 "UmbrellaLand$Republic" "citizens" "[LUmbrellaLand$Citizen;") (by decide +kernel)
  have wd1 := hts (.fieldLink RX1 139 "UmbrellaLand$Citizen" "stays" "I") (by decide +kernel)
  have wd2 := hts (.fieldLink RX1 17 "UmbrellaLand$Republic" "shelters" "[LUmbrellaLand$Shelter;") (by decide +kernel)
  have wd3 := hts (.fieldLink RX1 145 "UmbrellaLand$Citizen" "trust" "I") (by decide +kernel)
  have wd4 := hts (.fieldLink RX1 148 "UmbrellaLand$Shelter" "demand" "I") (by decide +kernel)
  have wd5 := hts (.fieldLink RX1 154 "UmbrellaLand$Citizen" "refused" "I") (by decide +kernel)
  have wd6 := hts (.fieldLink RX1 23 "UmbrellaLand$Republic" "umbrellas" "[LUmbrellaLand$Umbrella;") (by decide +kernel)
  have wd7 := hts (.fieldLink RX1 163 "UmbrellaLand$Citizen" "inHand" "I") (by decide +kernel)
  have wd8 := hts (.fieldLink RX1 166 "UmbrellaLand$Citizen" "taken" "I") (by decide +kernel)
  have wd9 := hts (.fieldLink RX1 169 "UmbrellaLand$Shelter" "taken" "I") (by decide +kernel)
  have n5 := hI.n5
  have n6 := hI.n6
  have n7 := hI.n7
  refine lv_aload_n hx hb dX1_takeUmbrella_0 rfl (lv_at hl 0 rfl) ?_
  refine va_get (D := D) (ci := 1) (v := .ref (ad 4)) (C := RX1) (T := TX1) (N := 9) hx hb hts hin1 hown hK hP (0) (RW_ob cy ad σ) rfl 3 (by decide) wd0 (fun _ h9 => h9) rfl dX1_takeUmbrella_1 ?_
  refine lv_iload_n hx hb dX1_takeUmbrella_4 rfl (lv_at hl 1 rfl) ?_
  have h1 : i < 10 := by omega
  refine g_aald (b := ad (53 + i)) hx hb hK hP (4) 3 i (RW_ac cy ad σ) rfl (nI_clamp (by omega)) (vp_in_nI h1 (by decide)) rfl dX1_takeUmbrella_5 ?_
  refine lv_astore_n (lv' := [(2, .ref (ad (53 + i))), (0, .ref (ad 0)), (1, .int (nI i))]) hx hb dX1_takeUmbrella_6 rfl hl (by decide) rfl (fun ls hl => ?_)
  refine lv_aload_n hx hb dX1_takeUmbrella_7 rfl (lv_at hl 1 rfl) ?_
  refine lv_aload_n hx hb dX1_takeUmbrella_8 rfl (lv_at hl 0 rfl) ?_
  refine va_get (D := D) (ci := 0) (v := .int (σ (53 + i) 6)) (C := RX0) (T := TX0) (N := 15) hx hb hts hin0 hown hK hP (53 + i) (RW_ci cy ad σ h1) rfl 6 (by decide) wd1 (fun _ h9 => h9) rfl dX1_takeUmbrella_9 ?_
  refine g_callr (q0 := 0) (wf := (RW cy ad)) (σ := σ) (wfc := (RW cy ad)) (σc := σ) hx hb hml hown hts hK hP hD hS hA hl.1 [] pm_0 [.int (σ (53 + i) 6)] (c_X1_isShelter l D cy ad σ (σ (53 + i) 6) ) (cwV 1 hts gX1_takeUmbrella_X1_isShelter rfl rfl rfl (by decide +kernel) ⟨Nat.le_of_ble_eq_true rfl, Nat.le_of_ble_eq_true rfl⟩) (RW_ob cy ad σ) rfl rfl rfl rfl (Nat.le_of_ble_eq_true rfl) dX1_takeUmbrella_12 ⟨Nat.le_of_ble_eq_true rfl, Nat.le_of_ble_eq_true rfl⟩ rfl rfl ?_
  intro r2 er2 H locs hP hD hS
  replace hf := hf.trans (ltt_r er2)
  refine lv_if_ne (tgt := 20) hx hb dX1_takeUmbrella_15 (by decide) (fun c3 => ?_) (fun c3 => ?_)
  · replace hf := hf.trans (if_neg c3)
    refine lv_aload_n hx hb dX1_takeUmbrella_20 rfl (lv_at hl 1 rfl) ?_
    refine va_get (D := D) (ci := 1) (v := .ref (ad 2)) (C := RX1) (T := TX1) (N := 9) hx hb hts hin1 hown hK hP (0) (RW_ob cy ad σ) rfl 1 (by decide) wd2 (fun _ h9 => h9) rfl dX1_takeUmbrella_21 ?_
    refine lv_aload_n hx hb dX1_takeUmbrella_24 rfl (lv_at hl 0 rfl) ?_
    refine va_get (D := D) (ci := 0) (v := .int (σ (53 + i) 6)) (C := RX0) (T := TX0) (N := 15) hx hb hts hin0 hown hK hP (53 + i) (RW_ci cy ad σ h1) rfl 6 (by decide) wd1 (fun _ h9 => h9) rfl dX1_takeUmbrella_25 ?_
    have h4 : vp_in (σ (53 + i) 6) 8 := in_sh (hI.mv hz) (fun h9 => c3 (er2.trans h9))
    have h4b : tn (σ (53 + i) 6) < 8 := tn_in h4
    refine g_aald (b := ad (5 + (tn (σ (53 + i) 6)))) hx hb hK hP (2) 1 (tn (σ (53 + i) 6)) (RW_as cy ad σ) rfl rfl h4 rfl dX1_takeUmbrella_28 ?_
    refine lv_astore_n (lv' := [(3, .ref (ad (5 + (tn (σ (53 + i) 6))))), (2, .ref (ad (53 + i))), (0, .ref (ad 0)), (1, .int (nI i))]) hx hb dX1_takeUmbrella_29 rfl hl (by decide) rfl (fun ls hl => ?_)
    refine lv_aload_n hx hb dX1_takeUmbrella_30 rfl (lv_at hl 2 rfl) ?_
    refine lv_aload_n hx hb dX1_takeUmbrella_31 rfl (lv_at hl 1 rfl) ?_
    refine va_get (D := D) (ci := 0) (v := .int (σ (53 + i) 6)) (C := RX0) (T := TX0) (N := 15) hx hb hts hin0 hown hK hP (53 + i) (RW_ci cy ad σ h1) rfl 6 (by decide) wd1 (fun _ h9 => h9) rfl dX1_takeUmbrella_32 ?_
    refine g_callr (q0 := 0) (wf := (RW cy ad)) (σ := σ) (wfc := (RW cy ad)) (σc := σ) hx hb hml hown hts hK hP hD hS hA hl.1 [] pm_0 [.int (σ (53 + i) 6)] (c_X1_firstUmbrellaIn l D cy ad σ (σ (53 + i) 6) (hI.mv hz)) (cwV 1 hts gX1_takeUmbrella_X1_firstUmbrellaIn rfl rfl rfl (by decide +kernel) ⟨Nat.le_of_ble_eq_true rfl, Nat.le_of_ble_eq_true rfl⟩) (RW_ob cy ad σ) rfl rfl rfl rfl (Nat.le_of_ble_eq_true rfl) dX1_takeUmbrella_35 ⟨Nat.le_of_ble_eq_true rfl, Nat.le_of_ble_eq_true rfl⟩ rfl rfl ?_
    intro r5 er5 H locs hP hD hS
    replace hf := hf.trans (ltt_r er5)
    refine lv_istore (lv' := [(4, .int (r5)), (3, .ref (ad (5 + (tn (σ (53 + i) 6))))), (2, .ref (ad (53 + i))), (0, .ref (ad 0)), (1, .int (nI i))]) hx hb dX1_takeUmbrella_38 hl (by decide) rfl (fun ls hl => ?_)
    refine lv_aload_n hx hb dX1_takeUmbrella_40 rfl (lv_at hl 2 rfl) ?_
    refine va_get (D := D) (ci := 0) (v := .int (σ (53 + i) 10)) (C := RX0) (T := TX0) (N := 15) hx hb hts hin0 hown hK hP (53 + i) (RW_ci cy ad σ h1) rfl 10 (by decide) wd3 (fun _ h9 => h9) rfl dX1_takeUmbrella_41 ?_
    refine lv_aload_n hx hb dX1_takeUmbrella_44 rfl (lv_at hl 1 rfl) ?_
    refine va_get (D := D) (ci := 2) (v := .int (σ (5 + (tn (σ (53 + i) 6))) 1)) (C := RX2) (T := TX2) (N := 7) hx hb hts hin2 hown hK hP (5 + (tn (σ (53 + i) 6))) (RW_sh cy ad σ h4b) rfl 1 (by decide) wd4 (fun _ h9 => h9) rfl dX1_takeUmbrella_45 ?_
    refine lv_icmp_lt (tgt := 60) hx hb dX1_takeUmbrella_48 (by decide) (fun c6 => ?_) (fun c6 => ?_)
    · replace hf := hf.trans (if_pos c6)
      refine lv_aload_n hx hb dX1_takeUmbrella_60 rfl (lv_at hl 2 rfl) ?_
      refine lv_dup hx hb dX1_takeUmbrella_61 rfl ?_
      refine va_get (D := D) (ci := 0) (v := .int (σ (53 + i) 14)) (C := RX0) (T := TX0) (N := 15) hx hb hts hin0 hown hK hP (53 + i) (RW_ci cy ad σ h1) rfl 14 (by decide) wd5 (fun _ h9 => h9) rfl dX1_takeUmbrella_62 ?_
      refine lv_iconst (v := nI 1) hx hb dX1_takeUmbrella_65 (by decide) ?_
      refine lv_iadd hx hb dX1_takeUmbrella_66 ?_
      refine g_put (σ1 := up σ (53 + i) 14 ((σ (53 + i) 14) + (nI 1))) (fs := ciF (σ (53 + i))) (C := RX0) (T := TX0) (N := 15) hx hb hts hin0 tyX0_ok nmX0 hown hK hP hD hS (53 + i) (RW_ci cy ad σ h1) rfl 14 (by decide) wd5 rfl rfl (Nat.le_of_ble_eq_true rfl) (RW_ci_set cy ad σ h1 14 (by decide) _) dX1_takeUmbrella_67 ?_
      intro u7 eu7 H locs hP hD hS
      replace hf := hf.trans (ltt_r eu7)
      have hz : u7 0 = σ 0 := z_up eu7 (by omega) hz
      refine lv_aload_n hx hb dX1_takeUmbrella_70 rfl (lv_at hl 1 rfl) ?_
      refine g_callv (q0 := 5 + (tn (σ (53 + i) 6))) (wf := (RW cy ad)) (σ := u7) (wfc := (RW cy ad)) (σc := u7) hx hb hml hown hts hK hP hD hS hA hl.1 [] pm_0 (fun u => u) (fun _ => pm_0b) [] (c_X2_noteRefusal l D cy ad u7 (tn (σ (53 + i) 6)) h4b) (cwV 0 hts gX1_takeUmbrella_X2_noteRefusal rfl rfl rfl (by decide +kernel) ⟨Nat.le_of_ble_eq_true rfl, Nat.le_of_ble_eq_true rfl⟩) (RW_sh cy ad u7 h4b) rfl rfl rfl rfl (Nat.le_of_ble_eq_true rfl) dX1_takeUmbrella_71 ⟨Nat.le_of_ble_eq_true rfl, Nat.le_of_ble_eq_true rfl⟩ rfl rfl ?_
      intro u8 eu8 H locs hP hD hS
      replace hf := hf.trans (ltt_r eu8)
      have hz : u8 0 = σ 0 := by rw [eu8]; exact (z_X2_noteRefusal u7 (tn (σ (53 + i) 6))).trans hz
      refine lv_iconst (v := nI 0) hx hb dX1_takeUmbrella_74 (by decide) ?_
      exact g_endi hx hb hr hlocks rfl hf hP hD hS (Nat.le_of_ble_eq_true rfl) (Nat.le_of_ble_eq_true rfl) dX1_takeUmbrella_75
    · replace hf := hf.trans (if_neg c6)
      refine lv_aload_n hx hb dX1_takeUmbrella_51 rfl (lv_at hl 3 rfl) ?_
      refine lv_iload hx hb dX1_takeUmbrella_52 (lv_at hl 0 rfl) ?_
      refine g_callr (q0 := 0) (wf := (RW cy ad)) (σ := σ) (wfc := (RW cy ad)) (σc := σ) hx hb hml hown hts hK hP hD hS hA hl.1 [] pm_0 [.int (r5)] (c_X1_isUmbrella l D cy ad σ r5 ) (cwV 1 hts gX1_takeUmbrella_X1_isUmbrella rfl rfl rfl (by decide +kernel) ⟨Nat.le_of_ble_eq_true rfl, Nat.le_of_ble_eq_true rfl⟩) (RW_ob cy ad σ) rfl rfl rfl rfl (Nat.le_of_ble_eq_true rfl) dX1_takeUmbrella_54 ⟨Nat.le_of_ble_eq_true rfl, Nat.le_of_ble_eq_true rfl⟩ rfl rfl ?_
      intro r9 er9 H locs hP hD hS
      replace hf := hf.trans (ltt_r er9)
      refine lv_if_ne (tgt := 76) hx hb dX1_takeUmbrella_57 (by decide) (fun c10 => ?_) (fun c10 => ?_)
      · replace hf := hf.trans (if_neg c10)
        refine lv_aload_n hx hb dX1_takeUmbrella_76 rfl (lv_at hl 3 rfl) ?_
        refine va_get (D := D) (ci := 1) (v := .ref (ad 3)) (C := RX1) (T := TX1) (N := 9) hx hb hts hin1 hown hK hP (0) (RW_ob cy ad σ) rfl 2 (by decide) wd6 (fun _ h9 => h9) rfl dX1_takeUmbrella_77 ?_
        refine lv_iload hx hb dX1_takeUmbrella_80 (lv_at hl 0 rfl) ?_
        have h11 : vp_in (r5) 40 := in_um (hI.mv hz) (fun h9 => c10 (er9.trans h9))
        have h11b : tn r5 < 40 := tn_in h11
        refine g_aald (b := ad (13 + (tn r5))) hx hb hK hP (3) 2 (tn r5) (RW_au cy ad σ) rfl rfl h11 rfl dX1_takeUmbrella_82 ?_
        refine lv_iload_n hx hb dX1_takeUmbrella_83 rfl (lv_at hl 4 rfl) ?_
        refine g_callv (q0 := 13 + (tn r5)) (wf := (RW cy ad)) (σ := σ) (wfc := (RW cy ad)) (σc := σ) hx hb hml hown hts hK hP hD hS hA hl.1 [] pm_0 (fun u => u) (fun _ => pm_0b) [.int (nI i)] (c_X3_goWith l D cy ad σ (tn r5) (nI i) h11b) (cwV 1 hts gX1_takeUmbrella_X3_goWith rfl rfl rfl (by decide +kernel) ⟨Nat.le_of_ble_eq_true rfl, Nat.le_of_ble_eq_true rfl⟩) (RW_um cy ad σ h11b) rfl rfl rfl rfl (Nat.le_of_ble_eq_true rfl) dX1_takeUmbrella_84 ⟨Nat.le_of_ble_eq_true rfl, Nat.le_of_ble_eq_true rfl⟩ rfl rfl ?_
        intro u12 eu12 H locs hP hD hS
        replace hf := hf.trans (ltt_r eu12)
        have hz : u12 0 = σ 0 := by rw [eu12]; exact (z_X3_goWith σ (tn r5) (nI i)).trans hz
        refine lv_aload_n hx hb dX1_takeUmbrella_87 rfl (lv_at hl 2 rfl) ?_
        refine lv_iload hx hb dX1_takeUmbrella_88 (lv_at hl 0 rfl) ?_
        refine g_put (σ1 := up u12 (53 + i) 9 r5) (fs := ciF (u12 (53 + i))) (C := RX0) (T := TX0) (N := 15) hx hb hts hin0 tyX0_ok nmX0 hown hK hP hD hS (53 + i) (RW_ci cy ad u12 h1) rfl 9 (by decide) wd7 rfl rfl (Nat.le_of_ble_eq_true rfl) (RW_ci_set cy ad u12 h1 9 (by decide) _) dX1_takeUmbrella_90 ?_
        intro u13 eu13 H locs hP hD hS
        replace hf := hf.trans (ltt_r eu13)
        have hz : u13 0 = σ 0 := z_up eu13 (by omega) hz
        refine lv_aload_n hx hb dX1_takeUmbrella_93 rfl (lv_at hl 2 rfl) ?_
        refine lv_dup hx hb dX1_takeUmbrella_94 rfl ?_
        refine va_get (D := D) (ci := 0) (v := .int (u13 (53 + i) 12)) (C := RX0) (T := TX0) (N := 15) hx hb hts hin0 hown hK hP (53 + i) (RW_ci cy ad u13 h1) rfl 12 (by decide) wd8 (fun _ h9 => h9) rfl dX1_takeUmbrella_95 ?_
        refine lv_iconst (v := nI 1) hx hb dX1_takeUmbrella_98 (by decide) ?_
        refine lv_iadd hx hb dX1_takeUmbrella_99 ?_
        refine g_put (σ1 := up u13 (53 + i) 12 ((u13 (53 + i) 12) + (nI 1))) (fs := ciF (u13 (53 + i))) (C := RX0) (T := TX0) (N := 15) hx hb hts hin0 tyX0_ok nmX0 hown hK hP hD hS (53 + i) (RW_ci cy ad u13 h1) rfl 12 (by decide) wd8 rfl rfl (Nat.le_of_ble_eq_true rfl) (RW_ci_set cy ad u13 h1 12 (by decide) _) dX1_takeUmbrella_100 ?_
        intro u14 eu14 H locs hP hD hS
        replace hf := hf.trans (ltt_r eu14)
        have hz : u14 0 = σ 0 := z_up eu14 (by omega) hz
        refine lv_aload_n hx hb dX1_takeUmbrella_103 rfl (lv_at hl 1 rfl) ?_
        refine lv_dup hx hb dX1_takeUmbrella_104 rfl ?_
        refine va_get (D := D) (ci := 2) (v := .int (u14 (5 + (tn (σ (53 + i) 6))) 2)) (C := RX2) (T := TX2) (N := 7) hx hb hts hin2 hown hK hP (5 + (tn (σ (53 + i) 6))) (RW_sh cy ad u14 h4b) rfl 2 (by decide) wd9 (fun _ h9 => h9) rfl dX1_takeUmbrella_105 ?_
        refine lv_iconst (v := nI 1) hx hb dX1_takeUmbrella_108 (by decide) ?_
        refine lv_iadd hx hb dX1_takeUmbrella_109 ?_
        refine g_put (σ1 := up u14 (5 + (tn (σ (53 + i) 6))) 2 ((u14 (5 + (tn (σ (53 + i) 6))) 2) + (nI 1))) (fs := shF (u14 (5 + (tn (σ (53 + i) 6))))) (C := RX2) (T := TX2) (N := 7) hx hb hts hin2 tyX2_ok nmX2 hown hK hP hD hS (5 + (tn (σ (53 + i) 6))) (RW_sh cy ad u14 h4b) rfl 2 (by decide) wd9 rfl rfl (Nat.le_of_ble_eq_true rfl) (RW_sh_set cy ad u14 h4b 2 (by decide) _) dX1_takeUmbrella_110 ?_
        intro u15 eu15 H locs hP hD hS
        replace hf := hf.trans (ltt_r eu15)
        have hz : u15 0 = σ 0 := z_up eu15 (by omega) hz
        refine lv_iconst (v := nI 1) hx hb dX1_takeUmbrella_113 (by decide) ?_
        exact g_endi hx hb hr hlocks rfl hf hP hD hS (Nat.le_of_ble_eq_true rfl) (Nat.le_of_ble_eq_true rfl) dX1_takeUmbrella_114
      · replace hf := hf.trans (if_pos c10)
        refine lv_aload_n hx hb dX1_takeUmbrella_60 rfl (lv_at hl 2 rfl) ?_
        refine lv_dup hx hb dX1_takeUmbrella_61 rfl ?_
        refine va_get (D := D) (ci := 0) (v := .int (σ (53 + i) 14)) (C := RX0) (T := TX0) (N := 15) hx hb hts hin0 hown hK hP (53 + i) (RW_ci cy ad σ h1) rfl 14 (by decide) wd5 (fun _ h9 => h9) rfl dX1_takeUmbrella_62 ?_
        refine lv_iconst (v := nI 1) hx hb dX1_takeUmbrella_65 (by decide) ?_
        refine lv_iadd hx hb dX1_takeUmbrella_66 ?_
        refine g_put (σ1 := up σ (53 + i) 14 ((σ (53 + i) 14) + (nI 1))) (fs := ciF (σ (53 + i))) (C := RX0) (T := TX0) (N := 15) hx hb hts hin0 tyX0_ok nmX0 hown hK hP hD hS (53 + i) (RW_ci cy ad σ h1) rfl 14 (by decide) wd5 rfl rfl (Nat.le_of_ble_eq_true rfl) (RW_ci_set cy ad σ h1 14 (by decide) _) dX1_takeUmbrella_67 ?_
        intro u16 eu16 H locs hP hD hS
        replace hf := hf.trans (ltt_r eu16)
        have hz : u16 0 = σ 0 := z_up eu16 (by omega) hz
        refine lv_aload_n hx hb dX1_takeUmbrella_70 rfl (lv_at hl 1 rfl) ?_
        refine g_callv (q0 := 5 + (tn (σ (53 + i) 6))) (wf := (RW cy ad)) (σ := u16) (wfc := (RW cy ad)) (σc := u16) hx hb hml hown hts hK hP hD hS hA hl.1 [] pm_0 (fun u => u) (fun _ => pm_0b) [] (c_X2_noteRefusal l D cy ad u16 (tn (σ (53 + i) 6)) h4b) (cwV 0 hts gX1_takeUmbrella_X2_noteRefusal rfl rfl rfl (by decide +kernel) ⟨Nat.le_of_ble_eq_true rfl, Nat.le_of_ble_eq_true rfl⟩) (RW_sh cy ad u16 h4b) rfl rfl rfl rfl (Nat.le_of_ble_eq_true rfl) dX1_takeUmbrella_71 ⟨Nat.le_of_ble_eq_true rfl, Nat.le_of_ble_eq_true rfl⟩ rfl rfl ?_
        intro u17 eu17 H locs hP hD hS
        replace hf := hf.trans (ltt_r eu17)
        have hz : u17 0 = σ 0 := by rw [eu17]; exact (z_X2_noteRefusal u16 (tn (σ (53 + i) 6))).trans hz
        refine lv_iconst (v := nI 0) hx hb dX1_takeUmbrella_74 (by decide) ?_
        exact g_endi hx hb hr hlocks rfl hf hP hD hS (Nat.le_of_ble_eq_true rfl) (Nat.le_of_ble_eq_true rfl) dX1_takeUmbrella_75
  · replace hf := hf.trans (if_pos c3)
    refine lv_iconst (v := nI 0) hx hb dX1_takeUmbrella_18 (by decide) ?_
    exact g_endi hx hb hr hlocks rfl hf hP hD hS (Nat.le_of_ble_eq_true rfl) (Nat.le_of_ble_eq_true rfl) dX1_takeUmbrella_19
def s_X1_meetRain (σ : Sg) (i : Nat) (x : Int32) : Sg := ltt (s_X1_isUmbrella σ (σ (53 + i) 9)) (fun r1 => if r1 = 0 then ltt (up σ (53 + i) 11 ((σ (53 + i) 11) + x)) (fun u8 => u8) else ltt (up σ (13 + (tn (σ (53 + i) 9))) 2 ((σ (13 + (tn (σ (53 + i) 9))) 2) + x)) (fun u4 => if (u4 (13 + (tn (σ (53 + i) 9))) 2) < (nI 30) then u4 else ltt (s_X3_stayAway u4 (tn (σ (53 + i) 9)) (nI 3) (nI 12)) (fun u6 => ltt (up u6 (53 + i) 9 (-1 : Int32)) (fun u7 => u7))))
theorem z_X1_meetRain (σ : Sg) (i : Nat) (x : Int32) : ((s_X1_meetRain σ i x)) 0 = σ 0 := by
  unfold s_X1_meetRain
  simp only [ltt]
  repeat' split
  all_goals first | rfl | simp only [up_ci0, up_sh0, up_um0, z_X3_standIn, z_X3_goWith, z_X3_stayAway, z_X0_setOut, z_X0_noteForgotten, z_X0_noteBroughtBack, z_X2_noteRefusal, z_X2_noteForgotten]
abbrev rm_X1_meetRain : Room := { frames := 1, cells := 0, slots := 0, locals := 22 }
set_option maxHeartbeats 4000000 in
set_option maxRecDepth 100000 in
theorem c_X1_meetRain (l : Launch) (D : va_G) (cy : Nat → ClassId) (ad : Nat → Nat) (σ : Sg) (i : Nat) (x : Int32) (hi : i < 10) (hI : OkR σ) : gMv l yX1_meetRain wsX1_meetRain rm_X1_meetRain D (Ty cy) (RW cy ad) [.ref (ad 0), .ref (ad (53 + i)), .int (x)] σ (s_X1_meetRain σ i x) 0 0 := by
  refine gstartv cX1_meetRain 4 RX1 (by decide) rfl rfl (Nat.le_of_ble_eq_true rfl) ?_
  intro p e s m below meth c A ls hx hb hml hown hts hr hlocks hK hP hD hA hS hl
  have hl : lv_has ls 4 [(0, .ref (ad 0)), (1, .ref (ad (53 + i))), (2, .int (x))] := hl
  have hf : s_X1_meetRain σ i x = s_X1_meetRain σ i x := rfl
  have hz : σ 0 = σ 0 := rfl
  have hin0 : ∀ w ∈ wsX00, w ∈ wsX1_meetRain := by decide +kernel
  have hin1 : ∀ w ∈ wsX10, w ∈ wsX1_meetRain := by decide +kernel
  have hin3 : ∀ w ∈ wsX30, w ∈ wsX1_meetRain := by decide +kernel
  have wd0 := hts (.fieldLink RX1 163 "UmbrellaLand$Citizen" "inHand" "I") (by decide +kernel)
  have wd1 := hts (.fieldLink RX1 23 "UmbrellaLand$Republic" "umbrellas" "[LUmbrellaLand$Umbrella;") (by decide +kernel)
  have wd2 := hts (.fieldLink RX1 183 "UmbrellaLand$Umbrella" "wear" "I") (by decide +kernel)
  have wd3 := hts (.fieldLink RX1 180 "UmbrellaLand$Citizen" "wet" "I") (by decide +kernel)
  have n5 := hI.n5
  have n6 := hI.n6
  have n7 := hI.n7
  refine lv_aload_n hx hb dX1_meetRain_0 rfl (lv_at hl 0 rfl) ?_
  refine lv_aload_n hx hb dX1_meetRain_1 rfl (lv_at hl 1 rfl) ?_
  refine va_get (D := D) (ci := 0) (v := .int (σ (53 + i) 9)) (C := RX0) (T := TX0) (N := 15) hx hb hts hin0 hown hK hP (53 + i) (RW_ci cy ad σ hi) rfl 9 (by decide) wd0 (fun _ h9 => h9) rfl dX1_meetRain_2 ?_
  refine g_callr (q0 := 0) (wf := (RW cy ad)) (σ := σ) (wfc := (RW cy ad)) (σc := σ) hx hb hml hown hts hK hP hD hS hA hl.1 [] pm_0 [.int (σ (53 + i) 9)] (c_X1_isUmbrella l D cy ad σ (σ (53 + i) 9) ) (cwV 1 hts gX1_meetRain_X1_isUmbrella rfl rfl rfl (by decide +kernel) ⟨Nat.le_of_ble_eq_true rfl, Nat.le_of_ble_eq_true rfl⟩) (RW_ob cy ad σ) rfl rfl rfl rfl (Nat.le_of_ble_eq_true rfl) dX1_meetRain_5 ⟨Nat.le_of_ble_eq_true rfl, Nat.le_of_ble_eq_true rfl⟩ rfl rfl ?_
  intro r1 er1 H locs hP hD hS
  replace hf := hf.trans (ltt_r er1)
  refine lv_if_ne (tgt := 22) hx hb dX1_meetRain_8 (by decide) (fun c2 => ?_) (fun c2 => ?_)
  · replace hf := hf.trans (if_neg c2)
    refine lv_aload_n hx hb dX1_meetRain_22 rfl (lv_at hl 0 rfl) ?_
    refine va_get (D := D) (ci := 1) (v := .ref (ad 3)) (C := RX1) (T := TX1) (N := 9) hx hb hts hin1 hown hK hP (0) (RW_ob cy ad σ) rfl 2 (by decide) wd1 (fun _ h9 => h9) rfl dX1_meetRain_23 ?_
    refine lv_aload_n hx hb dX1_meetRain_26 rfl (lv_at hl 1 rfl) ?_
    refine va_get (D := D) (ci := 0) (v := .int (σ (53 + i) 9)) (C := RX0) (T := TX0) (N := 15) hx hb hts hin0 hown hK hP (53 + i) (RW_ci cy ad σ hi) rfl 9 (by decide) wd0 (fun _ h9 => h9) rfl dX1_meetRain_27 ?_
    have h3 : vp_in (σ (53 + i) 9) 40 := in_um (hI.mv hz) (fun h9 => c2 (er1.trans h9))
    have h3b : tn (σ (53 + i) 9) < 40 := tn_in h3
    refine g_aald (b := ad (13 + (tn (σ (53 + i) 9)))) hx hb hK hP (3) 2 (tn (σ (53 + i) 9)) (RW_au cy ad σ) rfl rfl h3 rfl dX1_meetRain_30 ?_
    refine lv_astore_n (lv' := [(3, .ref (ad (13 + (tn (σ (53 + i) 9))))), (0, .ref (ad 0)), (1, .ref (ad (53 + i))), (2, .int (x))]) hx hb dX1_meetRain_31 rfl hl (by decide) rfl (fun ls hl => ?_)
    refine lv_aload_n hx hb dX1_meetRain_32 rfl (lv_at hl 0 rfl) ?_
    refine lv_dup hx hb dX1_meetRain_33 rfl ?_
    refine va_get (D := D) (ci := 3) (v := .int (σ (13 + (tn (σ (53 + i) 9))) 2)) (C := RX3) (T := TX3) (N := 6) hx hb hts hin3 hown hK hP (13 + (tn (σ (53 + i) 9))) (RW_um cy ad σ h3b) rfl 2 (by decide) wd2 (fun _ h9 => h9) rfl dX1_meetRain_34 ?_
    refine lv_iload_n hx hb dX1_meetRain_37 rfl (lv_at hl 3 rfl) ?_
    refine lv_iadd hx hb dX1_meetRain_38 ?_
    refine g_put (σ1 := up σ (13 + (tn (σ (53 + i) 9))) 2 ((σ (13 + (tn (σ (53 + i) 9))) 2) + x)) (fs := umF (σ (13 + (tn (σ (53 + i) 9))))) (C := RX3) (T := TX3) (N := 6) hx hb hts hin3 tyX3_ok nmX3 hown hK hP hD hS (13 + (tn (σ (53 + i) 9))) (RW_um cy ad σ h3b) rfl 2 (by decide) wd2 rfl rfl (Nat.le_of_ble_eq_true rfl) (RW_um_set cy ad σ h3b 2 (by decide) _) dX1_meetRain_39 ?_
    intro u4 eu4 H locs hP hD hS
    replace hf := hf.trans (ltt_r eu4)
    have hz : u4 0 = σ 0 := z_up eu4 (by omega) hz
    refine lv_aload_n hx hb dX1_meetRain_42 rfl (lv_at hl 0 rfl) ?_
    refine va_get (D := D) (ci := 3) (v := .int (u4 (13 + (tn (σ (53 + i) 9))) 2)) (C := RX3) (T := TX3) (N := 6) hx hb hts hin3 hown hK hP (13 + (tn (σ (53 + i) 9))) (RW_um cy ad u4 h3b) rfl 2 (by decide) wd2 (fun _ h9 => h9) rfl dX1_meetRain_43 ?_
    refine lv_bipush (v := nI 30) hx hb dX1_meetRain_46 (by decide) ?_
    refine lv_icmp_lt (tgt := 63) hx hb dX1_meetRain_48 (by decide) (fun c5 => ?_) (fun c5 => ?_)
    · replace hf := hf.trans (if_pos c5)
      exact g_endv hx hb hr hlocks hf hP hD hS (Nat.le_of_ble_eq_true rfl) (Nat.le_of_ble_eq_true rfl) dX1_meetRain_63
    · replace hf := hf.trans (if_neg c5)
      refine lv_aload_n hx hb dX1_meetRain_51 rfl (lv_at hl 0 rfl) ?_
      refine lv_iconst (v := nI 3) hx hb dX1_meetRain_52 (by decide) ?_
      refine lv_bipush (v := nI 12) hx hb dX1_meetRain_53 (by decide) ?_
      refine g_callv (q0 := 13 + (tn (σ (53 + i) 9))) (wf := (RW cy ad)) (σ := u4) (wfc := (RW cy ad)) (σc := u4) hx hb hml hown hts hK hP hD hS hA hl.1 [] pm_0 (fun u => u) (fun _ => pm_0b) [.int (nI 3), .int (nI 12)] (c_X3_stayAway l D cy ad u4 (tn (σ (53 + i) 9)) (nI 3) (nI 12) h3b) (cwV 2 hts gX1_meetRain_X3_stayAway rfl rfl rfl (by decide +kernel) ⟨Nat.le_of_ble_eq_true rfl, Nat.le_of_ble_eq_true rfl⟩) (RW_um cy ad u4 h3b) rfl rfl rfl rfl (Nat.le_of_ble_eq_true rfl) dX1_meetRain_55 ⟨Nat.le_of_ble_eq_true rfl, Nat.le_of_ble_eq_true rfl⟩ rfl rfl ?_
      intro u6 eu6 H locs hP hD hS
      replace hf := hf.trans (ltt_r eu6)
      have hz : u6 0 = σ 0 := by rw [eu6]; exact (z_X3_stayAway u4 (tn (σ (53 + i) 9)) (nI 3) (nI 12)).trans hz
      refine lv_aload_n hx hb dX1_meetRain_58 rfl (lv_at hl 2 rfl) ?_
      refine lv_iconst (v := (-1 : Int32)) hx hb dX1_meetRain_59 (by decide) ?_
      refine g_put (σ1 := up u6 (53 + i) 9 (-1 : Int32)) (fs := ciF (u6 (53 + i))) (C := RX0) (T := TX0) (N := 15) hx hb hts hin0 tyX0_ok nmX0 hown hK hP hD hS (53 + i) (RW_ci cy ad u6 hi) rfl 9 (by decide) wd0 rfl rfl (Nat.le_of_ble_eq_true rfl) (RW_ci_set cy ad u6 hi 9 (by decide) _) dX1_meetRain_60 ?_
      intro u7 eu7 H locs hP hD hS
      replace hf := hf.trans (ltt_r eu7)
      have hz : u7 0 = σ 0 := z_up eu7 (by omega) hz
      exact g_endv hx hb hr hlocks hf hP hD hS (Nat.le_of_ble_eq_true rfl) (Nat.le_of_ble_eq_true rfl) dX1_meetRain_63
  · replace hf := hf.trans (if_pos c2)
    refine lv_aload_n hx hb dX1_meetRain_11 rfl (lv_at hl 1 rfl) ?_
    refine lv_dup hx hb dX1_meetRain_12 rfl ?_
    refine va_get (D := D) (ci := 0) (v := .int (σ (53 + i) 11)) (C := RX0) (T := TX0) (N := 15) hx hb hts hin0 hown hK hP (53 + i) (RW_ci cy ad σ hi) rfl 11 (by decide) wd3 (fun _ h9 => h9) rfl dX1_meetRain_13 ?_
    refine lv_iload_n hx hb dX1_meetRain_16 rfl (lv_at hl 2 rfl) ?_
    refine lv_iadd hx hb dX1_meetRain_17 ?_
    refine g_put (σ1 := up σ (53 + i) 11 ((σ (53 + i) 11) + x)) (fs := ciF (σ (53 + i))) (C := RX0) (T := TX0) (N := 15) hx hb hts hin0 tyX0_ok nmX0 hown hK hP hD hS (53 + i) (RW_ci cy ad σ hi) rfl 11 (by decide) wd3 rfl rfl (Nat.le_of_ble_eq_true rfl) (RW_ci_set cy ad σ hi 11 (by decide) _) dX1_meetRain_18 ?_
    intro u8 eu8 H locs hP hD hS
    replace hf := hf.trans (ltt_r eu8)
    have hz : u8 0 = σ 0 := z_up eu8 (by omega) hz
    exact g_endv hx hb hr hlocks hf hP hD hS (Nat.le_of_ble_eq_true rfl) (Nat.le_of_ble_eq_true rfl) dX1_meetRain_21
def s_X1_arrive (σ : Sg) (i : Nat) : Sg := ltt (up σ (53 + i) 6 (σ (53 + i) 7)) (fun u1 => ltt (s_X1_isUmbrella u1 (u1 (53 + i) 9)) (fun r2 => if r2 = 0 then u1 else ltt (up u1 (53 + i) 9 (-1 : Int32)) (fun u5 => ltt (s_X0_forgetsThisOne u5 i) (fun r6 => if r6 = 0 then ltt (s_X3_standIn u5 (tn (u1 (53 + i) 9)) (u5 (53 + i) 6)) (fun u14 => ltt (s_X0_noteBroughtBack u14 i) (fun u15 => u15)) else ltt (s_X3_stayAway u5 (tn (u1 (53 + i) 9)) (nI 2) (nI 24)) (fun u8 => ltt (s_X0_noteForgotten u8 i) (fun u9 => ltt (s_X1_isShelter u9 (u9 (13 + (tn (u1 (53 + i) 9))) 5)) (fun r10 => if r10 = 0 then u9 else ltt (s_X2_noteForgotten u9 (tn (u9 (13 + (tn (u1 (53 + i) 9))) 5))) (fun u13 => u13))))))))
theorem z_X1_arrive (σ : Sg) (i : Nat) : ((s_X1_arrive σ i)) 0 = σ 0 := by
  unfold s_X1_arrive
  simp only [ltt]
  repeat' split
  all_goals first | rfl | simp only [up_ci0, up_sh0, up_um0, z_X3_standIn, z_X3_goWith, z_X3_stayAway, z_X0_setOut, z_X0_noteForgotten, z_X0_noteBroughtBack, z_X2_noteRefusal, z_X2_noteForgotten]
abbrev rm_X1_arrive : Room := { frames := 2, cells := 0, slots := 0, locals := 41 }
set_option maxHeartbeats 4000000 in
set_option maxRecDepth 100000 in
theorem c_X1_arrive (l : Launch) (D : va_G) (cy : Nat → ClassId) (ad : Nat → Nat) (σ : Sg) (i : Nat) (hi : i < 10) (hI : OkR σ) : gMv l yX1_arrive wsX1_arrive rm_X1_arrive D (Ty cy) (RW cy ad) [.ref (ad 0), .ref (ad (53 + i))] σ (s_X1_arrive σ i) 0 0 := by
  refine gstartv cX1_arrive 3 RX1 (by decide) rfl rfl (Nat.le_of_ble_eq_true rfl) ?_
  intro p e s m below meth c A ls hx hb hml hown hts hr hlocks hK hP hD hA hS hl
  have hl : lv_has ls 3 [(0, .ref (ad 0)), (1, .ref (ad (53 + i)))] := hl
  have hf : s_X1_arrive σ i = s_X1_arrive σ i := rfl
  have hz : σ 0 = σ 0 := rfl
  have hin0 : ∀ w ∈ wsX00, w ∈ wsX1_arrive := by decide +kernel
  have hin1 : ∀ w ∈ wsX10, w ∈ wsX1_arrive := by decide +kernel
  have hin3 : ∀ w ∈ wsX30, w ∈ wsX1_arrive := by decide +kernel
  have wd0 := hts (.fieldLink RX1 189 "UmbrellaLand$Citizen" "goal" "I") (by decide +kernel)
  have wd1 := hts (.fieldLink RX1 139 "UmbrellaLand$Citizen" "stays" "I") (by decide +kernel)
  have wd2 := hts (.fieldLink RX1 163 "UmbrellaLand$Citizen" "inHand" "I") (by decide +kernel)
  have wd3 := hts (.fieldLink RX1 23 "UmbrellaLand$Republic" "umbrellas" "[LUmbrellaLand$Umbrella;") (by decide +kernel)
  have wd4 := hts (.fieldLink RX1 205 "UmbrellaLand$Umbrella" "takenFrom" "I") (by decide +kernel)
  have wd5 := hts (.fieldLink RX1 17 "UmbrellaLand$Republic" "shelters" "[LUmbrellaLand$Shelter;") (by decide +kernel)
  have n5 := hI.n5
  have n6 := hI.n6
  have n7 := hI.n7
  refine lv_aload_n hx hb dX1_arrive_0 rfl (lv_at hl 1 rfl) ?_
  refine lv_aload_n hx hb dX1_arrive_1 rfl (lv_at hl 1 rfl) ?_
  refine va_get (D := D) (ci := 0) (v := .int (σ (53 + i) 7)) (C := RX0) (T := TX0) (N := 15) hx hb hts hin0 hown hK hP (53 + i) (RW_ci cy ad σ hi) rfl 7 (by decide) wd0 (fun _ h9 => h9) rfl dX1_arrive_2 ?_
  refine g_put (σ1 := up σ (53 + i) 6 (σ (53 + i) 7)) (fs := ciF (σ (53 + i))) (C := RX0) (T := TX0) (N := 15) hx hb hts hin0 tyX0_ok nmX0 hown hK hP hD hS (53 + i) (RW_ci cy ad σ hi) rfl 6 (by decide) wd1 rfl rfl (Nat.le_of_ble_eq_true rfl) (RW_ci_set cy ad σ hi 6 (by decide) _) dX1_arrive_5 ?_
  intro u1 eu1 H locs hP hD hS
  replace hf := hf.trans (ltt_r eu1)
  have hz : u1 0 = σ 0 := z_up eu1 (by omega) hz
  refine lv_aload_n hx hb dX1_arrive_8 rfl (lv_at hl 0 rfl) ?_
  refine lv_aload_n hx hb dX1_arrive_9 rfl (lv_at hl 1 rfl) ?_
  refine va_get (D := D) (ci := 0) (v := .int (u1 (53 + i) 9)) (C := RX0) (T := TX0) (N := 15) hx hb hts hin0 hown hK hP (53 + i) (RW_ci cy ad u1 hi) rfl 9 (by decide) wd2 (fun _ h9 => h9) rfl dX1_arrive_10 ?_
  refine g_callr (q0 := 0) (wf := (RW cy ad)) (σ := u1) (wfc := (RW cy ad)) (σc := u1) hx hb hml hown hts hK hP hD hS hA hl.1 [] pm_0 [.int (u1 (53 + i) 9)] (c_X1_isUmbrella l D cy ad u1 (u1 (53 + i) 9) ) (cwV 1 hts gX1_arrive_X1_isUmbrella rfl rfl rfl (by decide +kernel) ⟨Nat.le_of_ble_eq_true rfl, Nat.le_of_ble_eq_true rfl⟩) (RW_ob cy ad u1) rfl rfl rfl rfl (Nat.le_of_ble_eq_true rfl) dX1_arrive_13 ⟨Nat.le_of_ble_eq_true rfl, Nat.le_of_ble_eq_true rfl⟩ rfl rfl ?_
  intro r2 er2 H locs hP hD hS
  replace hf := hf.trans (ltt_r er2)
  refine lv_if_ne (tgt := 20) hx hb dX1_arrive_16 (by decide) (fun c3 => ?_) (fun c3 => ?_)
  · replace hf := hf.trans (if_neg c3)
    refine lv_aload_n hx hb dX1_arrive_20 rfl (lv_at hl 0 rfl) ?_
    refine va_get (D := D) (ci := 1) (v := .ref (ad 3)) (C := RX1) (T := TX1) (N := 9) hx hb hts hin1 hown hK hP (0) (RW_ob cy ad u1) rfl 2 (by decide) wd3 (fun _ h9 => h9) rfl dX1_arrive_21 ?_
    refine lv_aload_n hx hb dX1_arrive_24 rfl (lv_at hl 1 rfl) ?_
    refine va_get (D := D) (ci := 0) (v := .int (u1 (53 + i) 9)) (C := RX0) (T := TX0) (N := 15) hx hb hts hin0 hown hK hP (53 + i) (RW_ci cy ad u1 hi) rfl 9 (by decide) wd2 (fun _ h9 => h9) rfl dX1_arrive_25 ?_
    have h4 : vp_in (u1 (53 + i) 9) 40 := in_um (hI.mv hz) (fun h9 => c3 (er2.trans h9))
    have h4b : tn (u1 (53 + i) 9) < 40 := tn_in h4
    refine g_aald (b := ad (13 + (tn (u1 (53 + i) 9)))) hx hb hK hP (3) 2 (tn (u1 (53 + i) 9)) (RW_au cy ad u1) rfl rfl h4 rfl dX1_arrive_28 ?_
    refine lv_astore_n (lv' := [(2, .ref (ad (13 + (tn (u1 (53 + i) 9))))), (0, .ref (ad 0)), (1, .ref (ad (53 + i)))]) hx hb dX1_arrive_29 rfl hl (by decide) rfl (fun ls hl => ?_)
    refine lv_aload_n hx hb dX1_arrive_30 rfl (lv_at hl 2 rfl) ?_
    refine lv_iconst (v := (-1 : Int32)) hx hb dX1_arrive_31 (by decide) ?_
    refine g_put (σ1 := up u1 (53 + i) 9 (-1 : Int32)) (fs := ciF (u1 (53 + i))) (C := RX0) (T := TX0) (N := 15) hx hb hts hin0 tyX0_ok nmX0 hown hK hP hD hS (53 + i) (RW_ci cy ad u1 hi) rfl 9 (by decide) wd2 rfl rfl (Nat.le_of_ble_eq_true rfl) (RW_ci_set cy ad u1 hi 9 (by decide) _) dX1_arrive_32 ?_
    intro u5 eu5 H locs hP hD hS
    replace hf := hf.trans (ltt_r eu5)
    have hz : u5 0 = σ 0 := z_up eu5 (by omega) hz
    refine lv_aload_n hx hb dX1_arrive_35 rfl (lv_at hl 2 rfl) ?_
    refine g_callr (q0 := 53 + i) (wf := (RW cy ad)) (σ := u5) (wfc := (RW cy ad)) (σc := u5) hx hb hml hown hts hK hP hD hS hA hl.1 [] pm_0 [] (c_X0_forgetsThisOne l D cy ad u5 i hi) (cwV 0 hts gX1_arrive_X0_forgetsThisOne rfl rfl rfl (by decide +kernel) ⟨Nat.le_of_ble_eq_true rfl, Nat.le_of_ble_eq_true rfl⟩) (RW_ci cy ad u5 hi) rfl rfl rfl rfl (Nat.le_of_ble_eq_true rfl) dX1_arrive_36 ⟨Nat.le_of_ble_eq_true rfl, Nat.le_of_ble_eq_true rfl⟩ rfl rfl ?_
    intro r6 er6 H locs hP hD hS
    replace hf := hf.trans (ltt_r er6)
    refine lv_if_ne (tgt := 55) hx hb dX1_arrive_39 (by decide) (fun c7 => ?_) (fun c7 => ?_)
    · replace hf := hf.trans (if_neg c7)
      refine lv_aload_n hx hb dX1_arrive_55 rfl (lv_at hl 0 rfl) ?_
      refine lv_iconst (v := nI 2) hx hb dX1_arrive_56 (by decide) ?_
      refine lv_bipush (v := nI 24) hx hb dX1_arrive_57 (by decide) ?_
      refine g_callv (q0 := 13 + (tn (u1 (53 + i) 9))) (wf := (RW cy ad)) (σ := u5) (wfc := (RW cy ad)) (σc := u5) hx hb hml hown hts hK hP hD hS hA hl.1 [] pm_0 (fun u => u) (fun _ => pm_0b) [.int (nI 2), .int (nI 24)] (c_X3_stayAway l D cy ad u5 (tn (u1 (53 + i) 9)) (nI 2) (nI 24) h4b) (cwV 2 hts gX1_arrive_X3_stayAway rfl rfl rfl (by decide +kernel) ⟨Nat.le_of_ble_eq_true rfl, Nat.le_of_ble_eq_true rfl⟩) (RW_um cy ad u5 h4b) rfl rfl rfl rfl (Nat.le_of_ble_eq_true rfl) dX1_arrive_59 ⟨Nat.le_of_ble_eq_true rfl, Nat.le_of_ble_eq_true rfl⟩ rfl rfl ?_
      intro u8 eu8 H locs hP hD hS
      replace hf := hf.trans (ltt_r eu8)
      have hz : u8 0 = σ 0 := by rw [eu8]; exact (z_X3_stayAway u5 (tn (u1 (53 + i) 9)) (nI 2) (nI 24)).trans hz
      refine lv_aload_n hx hb dX1_arrive_62 rfl (lv_at hl 2 rfl) ?_
      refine g_callv (q0 := 53 + i) (wf := (RW cy ad)) (σ := u8) (wfc := (RW cy ad)) (σc := u8) hx hb hml hown hts hK hP hD hS hA hl.1 [] pm_0 (fun u => u) (fun _ => pm_0b) [] (c_X0_noteForgotten l D cy ad u8 i hi) (cwV 0 hts gX1_arrive_X0_noteForgotten rfl rfl rfl (by decide +kernel) ⟨Nat.le_of_ble_eq_true rfl, Nat.le_of_ble_eq_true rfl⟩) (RW_ci cy ad u8 hi) rfl rfl rfl rfl (Nat.le_of_ble_eq_true rfl) dX1_arrive_63 ⟨Nat.le_of_ble_eq_true rfl, Nat.le_of_ble_eq_true rfl⟩ rfl rfl ?_
      intro u9 eu9 H locs hP hD hS
      replace hf := hf.trans (ltt_r eu9)
      have hz : u9 0 = σ 0 := by rw [eu9]; exact (z_X0_noteForgotten u8 i).trans hz
      refine lv_aload_n hx hb dX1_arrive_66 rfl (lv_at hl 1 rfl) ?_
      refine lv_aload_n hx hb dX1_arrive_67 rfl (lv_at hl 0 rfl) ?_
      refine va_get (D := D) (ci := 3) (v := .int (u9 (13 + (tn (u1 (53 + i) 9))) 5)) (C := RX3) (T := TX3) (N := 6) hx hb hts hin3 hown hK hP (13 + (tn (u1 (53 + i) 9))) (RW_um cy ad u9 h4b) rfl 5 (by decide) wd4 (fun _ h9 => h9) rfl dX1_arrive_68 ?_
      refine g_callr (q0 := 0) (wf := (RW cy ad)) (σ := u9) (wfc := (RW cy ad)) (σc := u9) hx hb hml hown hts hK hP hD hS hA hl.1 [] pm_0 [.int (u9 (13 + (tn (u1 (53 + i) 9))) 5)] (c_X1_isShelter l D cy ad u9 (u9 (13 + (tn (u1 (53 + i) 9))) 5) ) (cwV 1 hts gX1_arrive_X1_isShelter rfl rfl rfl (by decide +kernel) ⟨Nat.le_of_ble_eq_true rfl, Nat.le_of_ble_eq_true rfl⟩) (RW_ob cy ad u9) rfl rfl rfl rfl (Nat.le_of_ble_eq_true rfl) dX1_arrive_71 ⟨Nat.le_of_ble_eq_true rfl, Nat.le_of_ble_eq_true rfl⟩ rfl rfl ?_
      intro r10 er10 H locs hP hD hS
      replace hf := hf.trans (ltt_r er10)
      refine lv_if_eq (tgt := 89) hx hb dX1_arrive_74 (by decide) (fun c11 => ?_) (fun c11 => ?_)
      · replace hf := hf.trans (if_pos c11)
        exact g_endv hx hb hr hlocks hf hP hD hS (Nat.le_of_ble_eq_true rfl) (Nat.le_of_ble_eq_true rfl) dX1_arrive_89
      · replace hf := hf.trans (if_neg c11)
        refine lv_aload_n hx hb dX1_arrive_77 rfl (lv_at hl 1 rfl) ?_
        refine va_get (D := D) (ci := 1) (v := .ref (ad 2)) (C := RX1) (T := TX1) (N := 9) hx hb hts hin1 hown hK hP (0) (RW_ob cy ad u9) rfl 1 (by decide) wd5 (fun _ h9 => h9) rfl dX1_arrive_78 ?_
        refine lv_aload_n hx hb dX1_arrive_81 rfl (lv_at hl 0 rfl) ?_
        refine va_get (D := D) (ci := 3) (v := .int (u9 (13 + (tn (u1 (53 + i) 9))) 5)) (C := RX3) (T := TX3) (N := 6) hx hb hts hin3 hown hK hP (13 + (tn (u1 (53 + i) 9))) (RW_um cy ad u9 h4b) rfl 5 (by decide) wd4 (fun _ h9 => h9) rfl dX1_arrive_82 ?_
        have h12 : vp_in (u9 (13 + (tn (u1 (53 + i) 9))) 5) 8 := in_sh (hI.mv hz) (fun h9 => c11 (er10.trans h9))
        have h12b : tn (u9 (13 + (tn (u1 (53 + i) 9))) 5) < 8 := tn_in h12
        refine g_aald (b := ad (5 + (tn (u9 (13 + (tn (u1 (53 + i) 9))) 5)))) hx hb hK hP (2) 1 (tn (u9 (13 + (tn (u1 (53 + i) 9))) 5)) (RW_as cy ad u9) rfl rfl h12 rfl dX1_arrive_85 ?_
        refine g_callv (q0 := 5 + (tn (u9 (13 + (tn (u1 (53 + i) 9))) 5))) (wf := (RW cy ad)) (σ := u9) (wfc := (RW cy ad)) (σc := u9) hx hb hml hown hts hK hP hD hS hA hl.1 [] pm_0 (fun u => u) (fun _ => pm_0b) [] (c_X2_noteForgotten l D cy ad u9 (tn (u9 (13 + (tn (u1 (53 + i) 9))) 5)) h12b) (cwV 0 hts gX1_arrive_X2_noteForgotten rfl rfl rfl (by decide +kernel) ⟨Nat.le_of_ble_eq_true rfl, Nat.le_of_ble_eq_true rfl⟩) (RW_sh cy ad u9 h12b) rfl rfl rfl rfl (Nat.le_of_ble_eq_true rfl) dX1_arrive_86 ⟨Nat.le_of_ble_eq_true rfl, Nat.le_of_ble_eq_true rfl⟩ rfl rfl ?_
        intro u13 eu13 H locs hP hD hS
        replace hf := hf.trans (ltt_r eu13)
        have hz : u13 0 = σ 0 := by rw [eu13]; exact (z_X2_noteForgotten u9 (tn (u9 (13 + (tn (u1 (53 + i) 9))) 5))).trans hz
        exact g_endv hx hb hr hlocks hf hP hD hS (Nat.le_of_ble_eq_true rfl) (Nat.le_of_ble_eq_true rfl) dX1_arrive_89
    · replace hf := hf.trans (if_pos c7)
      refine lv_aload_n hx hb dX1_arrive_42 rfl (lv_at hl 0 rfl) ?_
      refine lv_aload_n hx hb dX1_arrive_43 rfl (lv_at hl 2 rfl) ?_
      refine va_get (D := D) (ci := 0) (v := .int (u5 (53 + i) 6)) (C := RX0) (T := TX0) (N := 15) hx hb hts hin0 hown hK hP (53 + i) (RW_ci cy ad u5 hi) rfl 6 (by decide) wd1 (fun _ h9 => h9) rfl dX1_arrive_44 ?_
      refine g_callv (q0 := 13 + (tn (u1 (53 + i) 9))) (wf := (RW cy ad)) (σ := u5) (wfc := (RW cy ad)) (σc := u5) hx hb hml hown hts hK hP hD hS hA hl.1 [] pm_0 (fun u => u) (fun _ => pm_0b) [.int (u5 (53 + i) 6)] (c_X3_standIn l D cy ad u5 (tn (u1 (53 + i) 9)) (u5 (53 + i) 6) h4b) (cwV 1 hts gX1_arrive_X3_standIn rfl rfl rfl (by decide +kernel) ⟨Nat.le_of_ble_eq_true rfl, Nat.le_of_ble_eq_true rfl⟩) (RW_um cy ad u5 h4b) rfl rfl rfl rfl (Nat.le_of_ble_eq_true rfl) dX1_arrive_47 ⟨Nat.le_of_ble_eq_true rfl, Nat.le_of_ble_eq_true rfl⟩ rfl rfl ?_
      intro u14 eu14 H locs hP hD hS
      replace hf := hf.trans (ltt_r eu14)
      have hz : u14 0 = σ 0 := by rw [eu14]; exact (z_X3_standIn u5 (tn (u1 (53 + i) 9)) (u5 (53 + i) 6)).trans hz
      refine lv_aload_n hx hb dX1_arrive_50 rfl (lv_at hl 2 rfl) ?_
      refine g_callv (q0 := 53 + i) (wf := (RW cy ad)) (σ := u14) (wfc := (RW cy ad)) (σc := u14) hx hb hml hown hts hK hP hD hS hA hl.1 [] pm_0 (fun u => u) (fun _ => pm_0b) [] (c_X0_noteBroughtBack l D cy ad u14 i hi) (cwV 0 hts gX1_arrive_X0_noteBroughtBack rfl rfl rfl (by decide +kernel) ⟨Nat.le_of_ble_eq_true rfl, Nat.le_of_ble_eq_true rfl⟩) (RW_ci cy ad u14 hi) rfl rfl rfl rfl (Nat.le_of_ble_eq_true rfl) dX1_arrive_51 ⟨Nat.le_of_ble_eq_true rfl, Nat.le_of_ble_eq_true rfl⟩ rfl rfl ?_
      intro u15 eu15 H locs hP hD hS
      replace hf := hf.trans (ltt_r eu15)
      have hz : u15 0 = σ 0 := by rw [eu15]; exact (z_X0_noteBroughtBack u14 i).trans hz
      exact g_endv hx hb hr hlocks hf hP hD hS (Nat.le_of_ble_eq_true rfl) (Nat.le_of_ble_eq_true rfl) dX1_arrive_54
  · replace hf := hf.trans (if_pos c3)
    exact g_endv hx hb hr hlocks hf hP hD hS (Nat.le_of_ble_eq_true rfl) (Nat.le_of_ble_eq_true rfl) dX1_arrive_19
def lp_X1_letCitizensWalk_2 (σ : Sg) (x : Int32)  : Nat → Nat → Sg → (Sg)
  | 0, k, τ => τ
  | n + 1, k, τ => if (τ (53 + k) 8) ≤ 0 then lp_X1_letCitizensWalk_2 σ x n (k + 1) τ else ltt (s_X1_meetRain τ k x) (fun u5 => ltt (up u5 (53 + k) 8 ((u5 (53 + k) 8) - (nI 1))) (fun u6 => if (u6 (53 + k) 8) = 0 then ltt (s_X1_arrive u6 k) (fun u8 => lp_X1_letCitizensWalk_2 σ x n (k + 1) u8) else lp_X1_letCitizensWalk_2 σ x n (k + 1) u6))
def s_X1_letCitizensWalk (σ : Sg) (x : Int32) : Sg := ltt (lp_X1_letCitizensWalk_2 σ x (tn (σ 0 7)) 0 σ) (fun q9 => q9)
theorem z_lp_X1_letCitizensWalk_2 (σ : Sg) (x : Int32) : ∀ (n k : Nat) (τ : Sg), ((lp_X1_letCitizensWalk_2 σ x n k τ)) 0 = τ 0 := by
  intro n
  induction n with
  | zero => intro k τ; rfl
  | succ n ih =>
    intro k τ
    unfold lp_X1_letCitizensWalk_2
    simp only [ltt]
    repeat' split
    all_goals simp only [ih, z_X1_meetRain, z_X1_arrive, up_ci0]
theorem z_X1_letCitizensWalk (σ : Sg) (x : Int32) : (s_X1_letCitizensWalk σ x) 0 = σ 0 := z_lp_X1_letCitizensWalk_2 σ x _ _ _
theorem ok_X1_letCitizensWalk (σ : Sg) (x : Int32) (h : OkR σ) : OkR (s_X1_letCitizensWalk σ x) := h.mv (z_X1_letCitizensWalk σ x)
abbrev rm_X1_letCitizensWalk : Room := { frames := 3, cells := 0, slots := 0, locals := 63 }
set_option maxHeartbeats 4000000 in
set_option maxRecDepth 100000 in
theorem c_X1_letCitizensWalk (l : Launch) (D : va_G) (cy : Nat → ClassId) (ad : Nat → Nat) (σ : Sg) (x : Int32) (hI : OkR σ) : gMv l yX1_letCitizensWalk wsX1_letCitizensWalk rm_X1_letCitizensWalk D (Ty cy) (RW cy ad) [.ref (ad 0), .int (x)] σ (s_X1_letCitizensWalk σ x) 0 0 := by
  refine gstartv cX1_letCitizensWalk 4 RX1 (by decide) rfl rfl (Nat.le_of_ble_eq_true rfl) ?_
  intro p e s m below meth c A ls hx hb hml hown hts hr hlocks hK hP hD hA hS hl
  have hl : lv_has ls 4 [(0, .ref (ad 0)), (1, .int (x))] := hl
  have hf : s_X1_letCitizensWalk σ x = s_X1_letCitizensWalk σ x := rfl
  have hz : σ 0 = σ 0 := rfl
  have hin1 : ∀ w ∈ wsX10, w ∈ wsX1_letCitizensWalk := by decide +kernel
  have hin0 : ∀ w ∈ wsX00, w ∈ wsX1_letCitizensWalk := by decide +kernel
  have wd0 := hts (.fieldLink RX1 52 "UmbrellaLand$Republic" "citizenCount" "I") (by decide +kernel)
  have wd1 := hts (.fieldLink RX1 29 "UmbrellaLand$Republic" "citizens" "[LUmbrellaLand$Citizen;") (by decide +kernel)
  have wd2 := hts (.fieldLink RX1 170 "UmbrellaLand$Citizen" "hoursToWalk" "I") (by decide +kernel)
  have n5 := hI.n5
  have n6 := hI.n6
  have n7 := hI.n7
  have loop2 : ∀  (n k : Nat)  (τ : Sg) (H : Heap) (locs : List Loc) (ls : Array Slot), n = tn (σ 0 7) - k ∧ k ≤ tn (σ 0 7) + 1 → τ 0 = σ 0 → va_P D vwCl ((RW cy ad) τ) H → va_D A ((RW cy ad) τ) → va_S A s.heap H locs → lv_has ls 4 [(0, .ref (ad 0)), (1, .int (x)), (2, .int (nI k))] → (∀ u : (Sg), u = lp_X1_letCitizensWalk_2 σ x n k τ → ∀ (H : Heap) (locs : List Loc) (ls : Array Slot), va_P D vwCl ((RW cy ad) u) H → va_D A ((RW cy ad) u) → va_S A s.heap H locs → lv_has ls 4 [(0, .ref (ad 0)), (1, .int (x))] → W p l e rm_X1_letCitizensWalk s m [.ref (ad 0), .int (x)].toArray below meth c H locs 0 0 (MQ below (va_Qv (fun u => u = s_X1_letCitizensWalk σ x) (gPost D (RW cy ad) A) A) [.ref (ad 0), .int (x)].toArray s 0 0 A) (F0 m 58 ls [])) → W p l e rm_X1_letCitizensWalk s m [.ref (ad 0), .int (x)].toArray below meth c H locs 0 0 (MQ below (va_Qv (fun u => u = s_X1_letCitizensWalk σ x) (gPost D (RW cy ad) A) A) [.ref (ad 0), .int (x)].toArray s 0 0 A) (F0 m 2 ls []) := by
    intro n
    induction n with
    | zero =>
      intro k τ H locs ls hN hz hP hD hS hl K
      have hf : lp_X1_letCitizensWalk_2 σ x 0 k τ = lp_X1_letCitizensWalk_2 σ x 0 k τ := rfl
      refine lv_iload_n hx hb dX1_letCitizensWalk_2 rfl (lv_at hl 2 rfl) ?_
      refine lv_aload_n hx hb dX1_letCitizensWalk_3 rfl (lv_at hl 0 rfl) ?_
      refine va_get (D := D) (ci := 1) (v := .int (τ 0 7)) (C := RX1) (T := TX1) (N := 9) hx hb hts hin1 hown hK hP (0) (RW_ob cy ad τ) rfl 7 (by decide) wd0 (fun _ h9 => h9) rfl dX1_letCitizensWalk_4 ?_
      refine g_top ((congrFun hz 7).trans hI.c7) ?_
      refine lv_icmp_ge (tgt := 58) hx hb dX1_letCitizensWalk_7 (by decide) (fun c1 => ?_) (fun c1 => absurd (nI_le (by omega) (by omega)) c1)
      exact K τ hf.symm _ _ _ hP hD hS (lv_sub hl [0, 1] rfl)
    | succ n ih =>
      intro k τ H locs ls hN hz hP hD hS hl K
      have hf : lp_X1_letCitizensWalk_2 σ x (n + 1) k τ = lp_X1_letCitizensWalk_2 σ x (n + 1) k τ := rfl
      refine lv_iload_n hx hb dX1_letCitizensWalk_2 rfl (lv_at hl 2 rfl) ?_
      refine lv_aload_n hx hb dX1_letCitizensWalk_3 rfl (lv_at hl 0 rfl) ?_
      refine va_get (D := D) (ci := 1) (v := .int (τ 0 7)) (C := RX1) (T := TX1) (N := 9) hx hb hts hin1 hown hK hP (0) (RW_ob cy ad τ) rfl 7 (by decide) wd0 (fun _ h9 => h9) rfl dX1_letCitizensWalk_4 ?_
      refine g_top ((congrFun hz 7).trans hI.c7) ?_
      refine lv_icmp_ge (tgt := 58) hx hb dX1_letCitizensWalk_7 (by decide) (fun c2 => absurd c2 (nI_ge (by omega) (by omega))) (fun c2 => ?_)
      refine lv_aload_n hx hb dX1_letCitizensWalk_10 rfl (lv_at hl 0 rfl) ?_
      refine va_get (D := D) (ci := 1) (v := .ref (ad 4)) (C := RX1) (T := TX1) (N := 9) hx hb hts hin1 hown hK hP (0) (RW_ob cy ad τ) rfl 3 (by decide) wd1 (fun _ h9 => h9) rfl dX1_letCitizensWalk_11 ?_
      refine lv_iload_n hx hb dX1_letCitizensWalk_14 rfl (lv_at hl 2 rfl) ?_
      have h3 : k < 10 := by omega
      refine g_aald (b := ad (53 + k)) hx hb hK hP (4) 3 k (RW_ac cy ad τ) rfl (nI_clamp (by omega)) (vp_in_nI h3 (by decide)) rfl dX1_letCitizensWalk_15 ?_
      refine lv_astore_n (lv' := [(3, .ref (ad (53 + k))), (0, .ref (ad 0)), (1, .int (x)), (2, .int (nI k))]) hx hb dX1_letCitizensWalk_16 rfl hl (by decide) rfl (fun ls hl => ?_)
      refine lv_aload_n hx hb dX1_letCitizensWalk_17 rfl (lv_at hl 0 rfl) ?_
      refine va_get (D := D) (ci := 0) (v := .int (τ (53 + k) 8)) (C := RX0) (T := TX0) (N := 15) hx hb hts hin0 hown hK hP (53 + k) (RW_ci cy ad τ h3) rfl 8 (by decide) wd2 (fun _ h9 => h9) rfl dX1_letCitizensWalk_18 ?_
      refine lv_if_le (tgt := 52) hx hb dX1_letCitizensWalk_21 (by decide) (fun c4 => ?_) (fun c4 => ?_)
      · replace hf := hf.trans (if_pos c4)
        refine lv_iinc (v := nI (k + 1)) (lv' := [(2, .int (nI (k + 1))), (3, .ref (ad (53 + k))), (0, .ref (ad 0)), (1, .int (x))]) hx hb dX1_letCitizensWalk_52 hl (k := 3) rfl (nI_1 _) (by decide) rfl (fun ls hl => ?_)
        refine lv_goto (tgt := 2) hx hb dX1_letCitizensWalk_55 (by decide) ?_
        exact ih (k + 1)  τ _ _ _ (by omega) hz  hP hD hS (lv_sub hl [2, 3, 0] rfl) (fun u eu => K u (eu.trans hf.symm))
      · replace hf := hf.trans (if_neg c4)
        refine lv_aload_n hx hb dX1_letCitizensWalk_24 rfl (lv_at hl 1 rfl) ?_
        refine lv_aload_n hx hb dX1_letCitizensWalk_25 rfl (lv_at hl 0 rfl) ?_
        refine lv_iload_n hx hb dX1_letCitizensWalk_26 rfl (lv_at hl 2 rfl) ?_
        refine g_callv (q0 := 0) (wf := (RW cy ad)) (σ := τ) (wfc := (RW cy ad)) (σc := τ) hx hb hml hown hts hK hP hD hS hA hl.1 [] pm_0 (fun u => u) (fun _ => pm_0b) [.ref (ad (53 + k)), .int (x)] (c_X1_meetRain l D cy ad τ k x (by omega) (hI.mv hz)) (cwV 2 hts gX1_letCitizensWalk_X1_meetRain rfl rfl rfl (by decide +kernel) ⟨Nat.le_of_ble_eq_true rfl, Nat.le_of_ble_eq_true rfl⟩) (RW_ob cy ad τ) rfl rfl rfl rfl (Nat.le_of_ble_eq_true rfl) dX1_letCitizensWalk_27 ⟨Nat.le_of_ble_eq_true rfl, Nat.le_of_ble_eq_true rfl⟩ rfl rfl ?_
        intro u5 eu5 H locs hP hD hS
        replace hf := hf.trans (ltt_r eu5)
        have hz : u5 0 = σ 0 := by rw [eu5]; exact (z_X1_meetRain τ k x).trans hz
        refine lv_aload_n hx hb dX1_letCitizensWalk_30 rfl (lv_at hl 0 rfl) ?_
        refine lv_dup hx hb dX1_letCitizensWalk_31 rfl ?_
        refine va_get (D := D) (ci := 0) (v := .int (u5 (53 + k) 8)) (C := RX0) (T := TX0) (N := 15) hx hb hts hin0 hown hK hP (53 + k) (RW_ci cy ad u5 h3) rfl 8 (by decide) wd2 (fun _ h9 => h9) rfl dX1_letCitizensWalk_32 ?_
        refine lv_iconst (v := nI 1) hx hb dX1_letCitizensWalk_35 (by decide) ?_
        refine lv_isub hx hb dX1_letCitizensWalk_36 ?_
        refine g_put (σ1 := up u5 (53 + k) 8 ((u5 (53 + k) 8) - (nI 1))) (fs := ciF (u5 (53 + k))) (C := RX0) (T := TX0) (N := 15) hx hb hts hin0 tyX0_ok nmX0 hown hK hP hD hS (53 + k) (RW_ci cy ad u5 h3) rfl 8 (by decide) wd2 rfl rfl (Nat.le_of_ble_eq_true rfl) (RW_ci_set cy ad u5 h3 8 (by decide) _) dX1_letCitizensWalk_37 ?_
        intro u6 eu6 H locs hP hD hS
        replace hf := hf.trans (ltt_r eu6)
        have hz : u6 0 = σ 0 := z_up eu6 (by omega) hz
        refine lv_aload_n hx hb dX1_letCitizensWalk_40 rfl (lv_at hl 0 rfl) ?_
        refine va_get (D := D) (ci := 0) (v := .int (u6 (53 + k) 8)) (C := RX0) (T := TX0) (N := 15) hx hb hts hin0 hown hK hP (53 + k) (RW_ci cy ad u6 h3) rfl 8 (by decide) wd2 (fun _ h9 => h9) rfl dX1_letCitizensWalk_41 ?_
        refine lv_if_ne (tgt := 52) hx hb dX1_letCitizensWalk_44 (by decide) (fun c7 => ?_) (fun c7 => ?_)
        · replace hf := hf.trans (if_neg c7)
          refine lv_iinc (v := nI (k + 1)) (lv' := [(2, .int (nI (k + 1))), (3, .ref (ad (53 + k))), (0, .ref (ad 0)), (1, .int (x))]) hx hb dX1_letCitizensWalk_52 hl (k := 3) rfl (nI_1 _) (by decide) rfl (fun ls hl => ?_)
          refine lv_goto (tgt := 2) hx hb dX1_letCitizensWalk_55 (by decide) ?_
          exact ih (k + 1)  u6 _ _ _ (by omega) hz  hP hD hS (lv_sub hl [2, 3, 0] rfl) (fun u eu => K u (eu.trans hf.symm))
        · replace hf := hf.trans (if_pos c7)
          refine lv_aload_n hx hb dX1_letCitizensWalk_47 rfl (lv_at hl 1 rfl) ?_
          refine lv_aload_n hx hb dX1_letCitizensWalk_48 rfl (lv_at hl 0 rfl) ?_
          refine g_callv (q0 := 0) (wf := (RW cy ad)) (σ := u6) (wfc := (RW cy ad)) (σc := u6) hx hb hml hown hts hK hP hD hS hA hl.1 [] pm_0 (fun u => u) (fun _ => pm_0b) [.ref (ad (53 + k))] (c_X1_arrive l D cy ad u6 k (by omega) (hI.mv hz)) (cwV 1 hts gX1_letCitizensWalk_X1_arrive rfl rfl rfl (by decide +kernel) ⟨Nat.le_of_ble_eq_true rfl, Nat.le_of_ble_eq_true rfl⟩) (RW_ob cy ad u6) rfl rfl rfl rfl (Nat.le_of_ble_eq_true rfl) dX1_letCitizensWalk_49 ⟨Nat.le_of_ble_eq_true rfl, Nat.le_of_ble_eq_true rfl⟩ rfl rfl ?_
          intro u8 eu8 H locs hP hD hS
          replace hf := hf.trans (ltt_r eu8)
          have hz : u8 0 = σ 0 := by rw [eu8]; exact (z_X1_arrive u6 k).trans hz
          refine lv_iinc (v := nI (k + 1)) (lv' := [(2, .int (nI (k + 1))), (3, .ref (ad (53 + k))), (0, .ref (ad 0)), (1, .int (x))]) hx hb dX1_letCitizensWalk_52 hl (k := 3) rfl (nI_1 _) (by decide) rfl (fun ls hl => ?_)
          refine lv_goto (tgt := 2) hx hb dX1_letCitizensWalk_55 (by decide) ?_
          exact ih (k + 1)  u8 _ _ _ (by omega) hz  hP hD hS (lv_sub hl [2, 3, 0] rfl) (fun u eu => K u (eu.trans hf.symm))
  refine lv_iconst (v := nI 0) hx hb dX1_letCitizensWalk_0 (by decide) ?_
  refine lv_istore_n (lv' := [(2, .int (nI 0)), (0, .ref (ad 0)), (1, .int (x))]) hx hb dX1_letCitizensWalk_1 rfl hl (by decide) rfl (fun ls hl => ?_)
  refine loop2  (tn (σ 0 7)) 0  σ _ _ _ (by omega) hz  hP hD hS (lv_sub hl [1, 2, 0] rfl) ?_
  intro q9 eq9 H locs ls hP hD hS hl
  replace hf := hf.trans (ltt_r eq9)
  have hz : q9 0 = σ 0 := by rw [eq9]; exact (z_lp_X1_letCitizensWalk_2 σ x (tn (σ 0 7)) 0 σ).trans hz
  exact g_endv hx hb hr hlocks hf hP hD hS (Nat.le_of_ble_eq_true rfl) (Nat.le_of_ble_eq_true rfl) dX1_letCitizensWalk_58
def lp_X1_letCitizensLeave_36 (σ : Sg) (h : Nat) (wt : Int32) : Nat → Nat → Int32 → Sg → Int32 × (Sg)
  | 0, k, many, τ => (many, τ)
  | n + 1, k, many, τ => ltt (s_X0_leavesAt τ k (nI h)) (fun r4 => if r4 = 0 then lp_X1_letCitizensLeave_36 σ h wt n (k + 1) many τ else if wt = 0 then ltt (s_X0_setOut τ k) (fun u8 => lp_X1_letCitizensLeave_36 σ h wt n (k + 1) many u8) else ltt (s_X1_takeUmbrella τ k) (fun r9 => if r9.1 = 0 then ltt (s_X0_setOut r9.2 k) (fun u12 => lp_X1_letCitizensLeave_36 σ h wt n (k + 1) many u12) else ltt (s_X0_setOut r9.2 k) (fun u14 => lp_X1_letCitizensLeave_36 σ h wt n (k + 1) (many + 1) u14)))
def s_X1_letCitizensLeave (σ : Sg) (h : Nat) : Int32 × (Sg) := if 0 < (σ 1 h) then ltt (lp_X1_letCitizensLeave_36 σ h (nI 1) (tn (σ 0 7)) 0 (nI 0) σ) (fun q17 => (q17.1, q17.2)) else ltt (s_J9_floorMod_7cf53 (nI (h + 1)) (nI 24)) (fun r18 => if (σ 1 (tn r18)) ≤ 0 then ltt (lp_X1_letCitizensLeave_36 σ h (nI 0) (tn (σ 0 7)) 0 (nI 0) σ) (fun q21 => (q21.1, q21.2)) else ltt (lp_X1_letCitizensLeave_36 σ h (nI 1) (tn (σ 0 7)) 0 (nI 0) σ) (fun q22 => (q22.1, q22.2)))
theorem z_lp_X1_letCitizensLeave_36 (σ : Sg) (h : Nat) (wt : Int32) : ∀ (n k : Nat) (a : Int32) (τ : Sg), ((lp_X1_letCitizensLeave_36 σ h wt n k a τ).2) 0 = τ 0 := by
  intro n
  induction n with
  | zero => intro k a τ; rfl
  | succ n ih =>
    intro k a τ
    unfold lp_X1_letCitizensLeave_36
    simp only [ltt]
    repeat' split
    all_goals simp only [ih, z_X0_setOut, z_X1_takeUmbrella]
theorem z_X1_letCitizensLeave (σ : Sg) (h : Nat) : ((s_X1_letCitizensLeave σ h).2) 0 = σ 0 := by
  unfold s_X1_letCitizensLeave
  simp only [ltt]
  repeat' split
  all_goals simp only [z_lp_X1_letCitizensLeave_36]
theorem ok_X1_letCitizensLeave (σ : Sg) (h : Nat) (hI : OkR σ) : OkR (s_X1_letCitizensLeave σ h).2 := hI.mv (z_X1_letCitizensLeave σ h)
abbrev rm_X1_letCitizensLeave : Room := { frames := 3, cells := 0, slots := 0, locals := 69 }
set_option maxHeartbeats 4000000 in
set_option maxRecDepth 100000 in
theorem c_X1_letCitizensLeave (l : Launch) (D : va_G) (cy : Nat → ClassId) (ad : Nat → Nat) (σ : Sg) (h : Nat) (hh : h < 24) (hI : OkR σ) : gMi l yX1_letCitizensLeave wsX1_letCitizensLeave rm_X1_letCitizensLeave D (Ty cy) (RW cy ad) [.ref (ad 0), .int (nI h)] σ (s_X1_letCitizensLeave σ h) 0 0 := by
  refine gstarti cX1_letCitizensLeave 5 RX1 (by decide) rfl rfl (Nat.le_of_ble_eq_true rfl) ?_
  intro p e s m below meth c A ls hx hb hml hown hts hr hlocks hK hP hD hA hS hl
  have hl : lv_has ls 5 [(0, .ref (ad 0)), (1, .int (nI h))] := hl
  have hf : s_X1_letCitizensLeave σ h = s_X1_letCitizensLeave σ h := rfl
  have hz : σ 0 = σ 0 := rfl
  have hin1 : ∀ w ∈ wsX10, w ∈ wsX1_letCitizensLeave := by decide +kernel
  have wd0 := hts (.fieldLink RX1 52 "UmbrellaLand$Republic" "citizenCount" "I") (by decide +kernel)
  have wd1 := hts (.fieldLink RX1 29 "UmbrellaLand$Republic" "citizens" "[LUmbrellaLand$Citizen;") (by decide +kernel)
  have wd2 := hts (.fieldLink RX1 9 "UmbrellaLand$Republic" "rain" "[I") (by decide +kernel)
  have n5 := hI.n5
  have n6 := hI.n6
  have n7 := hI.n7
  have loop36 : ∀ (wt : Int32) (n k : Nat) (many : Int32) (τ : Sg) (H : Heap) (locs : List Loc) (ls : Array Slot), n = tn (σ 0 7) - k ∧ k ≤ tn (σ 0 7) + 1 → τ 0 = σ 0 → va_P D vwCl ((RW cy ad) τ) H → va_D A ((RW cy ad) τ) → va_S A s.heap H locs → lv_has ls 5 [(0, .ref (ad 0)), (1, .int (nI h)), (2, .int (wt)), (3, .int (many)), (4, .int (nI k))] → (∀ u : Int32 × (Sg), u = lp_X1_letCitizensLeave_36 σ h wt n k many τ → ∀ (H : Heap) (locs : List Loc) (ls : Array Slot), va_P D vwCl ((RW cy ad) u.2) H → va_D A ((RW cy ad) u.2) → va_S A s.heap H locs → lv_has ls 5 [(0, .ref (ad 0)), (1, .int (nI h)), (2, .int (wt)), (3, .int (u.1))] → W p l e rm_X1_letCitizensLeave s m [.ref (ad 0), .int (nI h)].toArray below meth c H locs 0 0 (MQ below (va_Qi (fun r u => (r, u) = s_X1_letCitizensLeave σ h) (gPost D (RW cy ad) A) A) [.ref (ad 0), .int (nI h)].toArray s 0 0 A) (F0 m 91 ls [])) → W p l e rm_X1_letCitizensLeave s m [.ref (ad 0), .int (nI h)].toArray below meth c H locs 0 0 (MQ below (va_Qi (fun r u => (r, u) = s_X1_letCitizensLeave σ h) (gPost D (RW cy ad) A) A) [.ref (ad 0), .int (nI h)].toArray s 0 0 A) (F0 m 36 ls []) := by
    intro wt n
    induction n with
    | zero =>
      intro k many τ H locs ls hN hz hP hD hS hl K
      have hf : lp_X1_letCitizensLeave_36 σ h wt 0 k many τ = lp_X1_letCitizensLeave_36 σ h wt 0 k many τ := rfl
      refine lv_iload hx hb dX1_letCitizensLeave_36 (lv_at hl 4 rfl) ?_
      refine lv_aload_n hx hb dX1_letCitizensLeave_38 rfl (lv_at hl 0 rfl) ?_
      refine va_get (D := D) (ci := 1) (v := .int (τ 0 7)) (C := RX1) (T := TX1) (N := 9) hx hb hts hin1 hown hK hP (0) (RW_ob cy ad τ) rfl 7 (by decide) wd0 (fun _ h9 => h9) rfl dX1_letCitizensLeave_39 ?_
      refine g_top ((congrFun hz 7).trans hI.c7) ?_
      refine lv_icmp_ge (tgt := 91) hx hb dX1_letCitizensLeave_42 (by decide) (fun c1 => ?_) (fun c1 => absurd (nI_le (by omega) (by omega)) c1)
      exact K (many, τ) hf.symm _ _ _ hP hD hS (lv_sub hl [0, 1, 2, 3] rfl)
    | succ n ih =>
      intro k many τ H locs ls hN hz hP hD hS hl K
      have hf : lp_X1_letCitizensLeave_36 σ h wt (n + 1) k many τ = lp_X1_letCitizensLeave_36 σ h wt (n + 1) k many τ := rfl
      refine lv_iload hx hb dX1_letCitizensLeave_36 (lv_at hl 4 rfl) ?_
      refine lv_aload_n hx hb dX1_letCitizensLeave_38 rfl (lv_at hl 0 rfl) ?_
      refine va_get (D := D) (ci := 1) (v := .int (τ 0 7)) (C := RX1) (T := TX1) (N := 9) hx hb hts hin1 hown hK hP (0) (RW_ob cy ad τ) rfl 7 (by decide) wd0 (fun _ h9 => h9) rfl dX1_letCitizensLeave_39 ?_
      refine g_top ((congrFun hz 7).trans hI.c7) ?_
      refine lv_icmp_ge (tgt := 91) hx hb dX1_letCitizensLeave_42 (by decide) (fun c2 => absurd c2 (nI_ge (by omega) (by omega))) (fun c2 => ?_)
      refine lv_aload_n hx hb dX1_letCitizensLeave_45 rfl (lv_at hl 0 rfl) ?_
      refine va_get (D := D) (ci := 1) (v := .ref (ad 4)) (C := RX1) (T := TX1) (N := 9) hx hb hts hin1 hown hK hP (0) (RW_ob cy ad τ) rfl 3 (by decide) wd1 (fun _ h9 => h9) rfl dX1_letCitizensLeave_46 ?_
      refine lv_iload hx hb dX1_letCitizensLeave_49 (lv_at hl 4 rfl) ?_
      have h3 : k < 10 := by omega
      refine g_aald (b := ad (53 + k)) hx hb hK hP (4) 3 k (RW_ac cy ad τ) rfl (nI_clamp (by omega)) (vp_in_nI h3 (by decide)) rfl dX1_letCitizensLeave_51 ?_
      refine lv_iload_n hx hb dX1_letCitizensLeave_52 rfl (lv_at hl 1 rfl) ?_
      refine g_callr (q0 := 53 + k) (wf := (RW cy ad)) (σ := τ) (wfc := (RW cy ad)) (σc := τ) hx hb hml hown hts hK hP hD hS hA hl.1 [] pm_0 [.int (nI h)] (c_X0_leavesAt l D cy ad τ k (nI h) h3) (cwV 1 hts gX1_letCitizensLeave_X0_leavesAt rfl rfl rfl (by decide +kernel) ⟨Nat.le_of_ble_eq_true rfl, Nat.le_of_ble_eq_true rfl⟩) (RW_ci cy ad τ h3) rfl rfl rfl rfl (Nat.le_of_ble_eq_true rfl) dX1_letCitizensLeave_53 ⟨Nat.le_of_ble_eq_true rfl, Nat.le_of_ble_eq_true rfl⟩ rfl rfl ?_
      intro r4 er4 H locs hP hD hS
      replace hf := hf.trans (ltt_r er4)
      refine lv_if_eq (tgt := 85) hx hb dX1_letCitizensLeave_56 (by decide) (fun c5 => ?_) (fun c5 => ?_)
      · replace hf := hf.trans (if_pos c5)
        refine lv_iinc (v := nI (k + 1)) (lv' := [(4, .int (nI (k + 1))), (0, .ref (ad 0)), (1, .int (nI h)), (2, .int (wt)), (3, .int (many))]) hx hb dX1_letCitizensLeave_85 hl (k := 4) rfl (nI_1 _) (by decide) rfl (fun ls hl => ?_)
        refine lv_goto (tgt := 36) hx hb dX1_letCitizensLeave_88 (by decide) ?_
        exact ih (k + 1) many τ _ _ _ (by omega) hz  hP hD hS (lv_sub hl [1, 2, 3, 4, 0] rfl) (fun u eu => K u (eu.trans hf.symm))
      · replace hf := hf.trans (if_neg c5)
        refine lv_iload_n hx hb dX1_letCitizensLeave_59 rfl (lv_at hl 2 rfl) ?_
        refine lv_if_eq (tgt := 75) hx hb dX1_letCitizensLeave_60 (by decide) (fun c6 => ?_) (fun c6 => ?_)
        · replace hf := hf.trans (if_pos c6)
          refine lv_aload_n hx hb dX1_letCitizensLeave_75 rfl (lv_at hl 0 rfl) ?_
          refine va_get (D := D) (ci := 1) (v := .ref (ad 4)) (C := RX1) (T := TX1) (N := 9) hx hb hts hin1 hown hK hP (0) (RW_ob cy ad τ) rfl 3 (by decide) wd1 (fun _ h9 => h9) rfl dX1_letCitizensLeave_76 ?_
          refine lv_iload hx hb dX1_letCitizensLeave_79 (lv_at hl 4 rfl) ?_
          have h7 : k < 10 := by omega
          refine g_aald (b := ad (53 + k)) hx hb hK hP (4) 3 k (RW_ac cy ad τ) rfl (nI_clamp (by omega)) (vp_in_nI h7 (by decide)) rfl dX1_letCitizensLeave_81 ?_
          refine g_callv (q0 := 53 + k) (wf := (RW cy ad)) (σ := τ) (wfc := (RW cy ad)) (σc := τ) hx hb hml hown hts hK hP hD hS hA hl.1 [] pm_0 (fun u => u) (fun _ => pm_0b) [] (c_X0_setOut l D cy ad τ k h7) (cwV 0 hts gX1_letCitizensLeave_X0_setOut rfl rfl rfl (by decide +kernel) ⟨Nat.le_of_ble_eq_true rfl, Nat.le_of_ble_eq_true rfl⟩) (RW_ci cy ad τ h7) rfl rfl rfl rfl (Nat.le_of_ble_eq_true rfl) dX1_letCitizensLeave_82 ⟨Nat.le_of_ble_eq_true rfl, Nat.le_of_ble_eq_true rfl⟩ rfl rfl ?_
          intro u8 eu8 H locs hP hD hS
          replace hf := hf.trans (ltt_r eu8)
          have hz : u8 0 = σ 0 := by rw [eu8]; exact (z_X0_setOut τ k).trans hz
          refine lv_iinc (v := nI (k + 1)) (lv' := [(4, .int (nI (k + 1))), (0, .ref (ad 0)), (1, .int (nI h)), (2, .int (wt)), (3, .int (many))]) hx hb dX1_letCitizensLeave_85 hl (k := 4) rfl (nI_1 _) (by decide) rfl (fun ls hl => ?_)
          refine lv_goto (tgt := 36) hx hb dX1_letCitizensLeave_88 (by decide) ?_
          exact ih (k + 1) many u8 _ _ _ (by omega) hz  hP hD hS (lv_sub hl [1, 2, 3, 4, 0] rfl) (fun u eu => K u (eu.trans hf.symm))
        · replace hf := hf.trans (if_neg c6)
          refine lv_aload_n hx hb dX1_letCitizensLeave_63 rfl (lv_at hl 0 rfl) ?_
          refine lv_iload hx hb dX1_letCitizensLeave_64 (lv_at hl 4 rfl) ?_
          refine g_calli (q0 := 0) (wf := (RW cy ad)) (σ := τ) (wfc := (RW cy ad)) (σc := τ) hx hb hml hown hts hK hP hD hS hA hl.1 [] pm_0 (fun u => u) (fun _ => pm_0b) [.int (nI k)] (c_X1_takeUmbrella l D cy ad τ k (by omega) (hI.mv hz)) (cwV 1 hts gX1_letCitizensLeave_X1_takeUmbrella rfl rfl rfl (by decide +kernel) ⟨Nat.le_of_ble_eq_true rfl, Nat.le_of_ble_eq_true rfl⟩) (RW_ob cy ad τ) rfl rfl rfl rfl (Nat.le_of_ble_eq_true rfl) dX1_letCitizensLeave_66 ⟨Nat.le_of_ble_eq_true rfl, Nat.le_of_ble_eq_true rfl⟩ rfl rfl ?_
          intro r9 er9 H locs hP hD hS
          replace hf := hf.trans (ltt_r er9)
          have hz : r9.2 0 = σ 0 := by rw [er9]; exact (z_X1_takeUmbrella τ k).trans hz
          refine lv_if_eq (tgt := 75) hx hb dX1_letCitizensLeave_69 (by decide) (fun c10 => ?_) (fun c10 => ?_)
          · replace hf := hf.trans (if_pos c10)
            refine lv_aload_n hx hb dX1_letCitizensLeave_75 rfl (lv_at hl 0 rfl) ?_
            refine va_get (D := D) (ci := 1) (v := .ref (ad 4)) (C := RX1) (T := TX1) (N := 9) hx hb hts hin1 hown hK hP (0) (RW_ob cy ad r9.2) rfl 3 (by decide) wd1 (fun _ h9 => h9) rfl dX1_letCitizensLeave_76 ?_
            refine lv_iload hx hb dX1_letCitizensLeave_79 (lv_at hl 4 rfl) ?_
            have h11 : k < 10 := by omega
            refine g_aald (b := ad (53 + k)) hx hb hK hP (4) 3 k (RW_ac cy ad r9.2) rfl (nI_clamp (by omega)) (vp_in_nI h11 (by decide)) rfl dX1_letCitizensLeave_81 ?_
            refine g_callv (q0 := 53 + k) (wf := (RW cy ad)) (σ := r9.2) (wfc := (RW cy ad)) (σc := r9.2) hx hb hml hown hts hK hP hD hS hA hl.1 [] pm_0 (fun u => u) (fun _ => pm_0b) [] (c_X0_setOut l D cy ad r9.2 k h11) (cwV 0 hts gX1_letCitizensLeave_X0_setOut rfl rfl rfl (by decide +kernel) ⟨Nat.le_of_ble_eq_true rfl, Nat.le_of_ble_eq_true rfl⟩) (RW_ci cy ad r9.2 h11) rfl rfl rfl rfl (Nat.le_of_ble_eq_true rfl) dX1_letCitizensLeave_82 ⟨Nat.le_of_ble_eq_true rfl, Nat.le_of_ble_eq_true rfl⟩ rfl rfl ?_
            intro u12 eu12 H locs hP hD hS
            replace hf := hf.trans (ltt_r eu12)
            have hz : u12 0 = σ 0 := by rw [eu12]; exact (z_X0_setOut r9.2 k).trans hz
            refine lv_iinc (v := nI (k + 1)) (lv' := [(4, .int (nI (k + 1))), (0, .ref (ad 0)), (1, .int (nI h)), (2, .int (wt)), (3, .int (many))]) hx hb dX1_letCitizensLeave_85 hl (k := 4) rfl (nI_1 _) (by decide) rfl (fun ls hl => ?_)
            refine lv_goto (tgt := 36) hx hb dX1_letCitizensLeave_88 (by decide) ?_
            exact ih (k + 1) many u12 _ _ _ (by omega) hz  hP hD hS (lv_sub hl [1, 2, 3, 4, 0] rfl) (fun u eu => K u (eu.trans hf.symm))
          · replace hf := hf.trans (if_neg c10)
            refine lv_iinc (v := many + 1) (lv' := [(3, .int (many + 1)), (0, .ref (ad 0)), (1, .int (nI h)), (2, .int (wt)), (4, .int (nI k))]) hx hb dX1_letCitizensLeave_72 hl (k := 3) rfl rfl (by decide) rfl (fun ls hl => ?_)
            refine lv_aload_n hx hb dX1_letCitizensLeave_75 rfl (lv_at hl 1 rfl) ?_
            refine va_get (D := D) (ci := 1) (v := .ref (ad 4)) (C := RX1) (T := TX1) (N := 9) hx hb hts hin1 hown hK hP (0) (RW_ob cy ad r9.2) rfl 3 (by decide) wd1 (fun _ h9 => h9) rfl dX1_letCitizensLeave_76 ?_
            refine lv_iload hx hb dX1_letCitizensLeave_79 (lv_at hl 4 rfl) ?_
            have h13 : k < 10 := by omega
            refine g_aald (b := ad (53 + k)) hx hb hK hP (4) 3 k (RW_ac cy ad r9.2) rfl (nI_clamp (by omega)) (vp_in_nI h13 (by decide)) rfl dX1_letCitizensLeave_81 ?_
            refine g_callv (q0 := 53 + k) (wf := (RW cy ad)) (σ := r9.2) (wfc := (RW cy ad)) (σc := r9.2) hx hb hml hown hts hK hP hD hS hA hl.1 [] pm_0 (fun u => u) (fun _ => pm_0b) [] (c_X0_setOut l D cy ad r9.2 k h13) (cwV 0 hts gX1_letCitizensLeave_X0_setOut rfl rfl rfl (by decide +kernel) ⟨Nat.le_of_ble_eq_true rfl, Nat.le_of_ble_eq_true rfl⟩) (RW_ci cy ad r9.2 h13) rfl rfl rfl rfl (Nat.le_of_ble_eq_true rfl) dX1_letCitizensLeave_82 ⟨Nat.le_of_ble_eq_true rfl, Nat.le_of_ble_eq_true rfl⟩ rfl rfl ?_
            intro u14 eu14 H locs hP hD hS
            replace hf := hf.trans (ltt_r eu14)
            have hz : u14 0 = σ 0 := by rw [eu14]; exact (z_X0_setOut r9.2 k).trans hz
            refine lv_iinc (v := nI (k + 1)) (lv' := [(4, .int (nI (k + 1))), (3, .int (many + 1)), (0, .ref (ad 0)), (1, .int (nI h)), (2, .int (wt))]) hx hb dX1_letCitizensLeave_85 hl (k := 4) rfl (nI_1 _) (by decide) rfl (fun ls hl => ?_)
            refine lv_goto (tgt := 36) hx hb dX1_letCitizensLeave_88 (by decide) ?_
            exact ih (k + 1) (many + 1) u14 _ _ _ (by omega) hz  hP hD hS (lv_sub hl [2, 3, 4, 1, 0] rfl) (fun u eu => K u (eu.trans hf.symm))
  refine lv_aload_n hx hb dX1_letCitizensLeave_0 rfl (lv_at hl 0 rfl) ?_
  refine va_get (D := D) (ci := 1) (v := .ref (ad 1)) (C := RX1) (T := TX1) (N := 9) hx hb hts hin1 hown hK hP (0) (RW_ob cy ad σ) rfl 0 (by decide) wd2 (fun _ h9 => h9) rfl dX1_letCitizensLeave_1 ?_
  refine lv_iload_n hx hb dX1_letCitizensLeave_4 rfl (lv_at hl 1 rfl) ?_
  have h15 : h < 24 := by omega
  refine g_iald hx hb hK hP (1) 0 h (RW_rn cy ad σ) rfl (nI_clamp (by omega)) (vp_in_nI h15 (by decide)) dX1_letCitizensLeave_5 ?_
  refine lv_if_gt (tgt := 25) hx hb dX1_letCitizensLeave_6 (by decide) (fun c16 => ?_) (fun c16 => ?_)
  · replace hf := hf.trans (if_pos c16)
    refine lv_iconst (v := nI 1) hx hb dX1_letCitizensLeave_25 (by decide) ?_
    refine lv_goto (tgt := 30) hx hb dX1_letCitizensLeave_26 (by decide) ?_
    refine lv_istore_n (lv' := [(2, .int (nI 1)), (0, .ref (ad 0)), (1, .int (nI h))]) hx hb dX1_letCitizensLeave_30 rfl hl (by decide) rfl (fun ls hl => ?_)
    refine lv_iconst (v := nI 0) hx hb dX1_letCitizensLeave_31 (by decide) ?_
    refine lv_istore_n (lv' := [(3, .int (nI 0)), (2, .int (nI 1)), (0, .ref (ad 0)), (1, .int (nI h))]) hx hb dX1_letCitizensLeave_32 rfl hl (by decide) rfl (fun ls hl => ?_)
    refine lv_iconst (v := nI 0) hx hb dX1_letCitizensLeave_33 (by decide) ?_
    refine lv_istore (lv' := [(4, .int (nI 0)), (3, .int (nI 0)), (2, .int (nI 1)), (0, .ref (ad 0)), (1, .int (nI h))]) hx hb dX1_letCitizensLeave_34 hl (by decide) rfl (fun ls hl => ?_)
    refine loop36 (nI 1) (tn (σ 0 7)) 0 (nI 0) σ _ _ _ (by omega) hz  hP hD hS (lv_sub hl [3, 4, 2, 1, 0] rfl) ?_
    intro q17 eq17 H locs ls hP hD hS hl
    replace hf := hf.trans (ltt_r eq17)
    have hz : q17.2 0 = σ 0 := by rw [eq17]; exact (z_lp_X1_letCitizensLeave_36 σ h (nI 1) (tn (σ 0 7)) 0 (nI 0) σ).trans hz
    refine lv_iload_n hx hb dX1_letCitizensLeave_91 rfl (lv_at hl 3 rfl) ?_
    exact g_endi hx hb hr hlocks rfl hf hP hD hS (Nat.le_of_ble_eq_true rfl) (Nat.le_of_ble_eq_true rfl) dX1_letCitizensLeave_92
  · replace hf := hf.trans (if_neg c16)
    refine lv_aload_n hx hb dX1_letCitizensLeave_9 rfl (lv_at hl 0 rfl) ?_
    refine va_get (D := D) (ci := 1) (v := .ref (ad 1)) (C := RX1) (T := TX1) (N := 9) hx hb hts hin1 hown hK hP (0) (RW_ob cy ad σ) rfl 0 (by decide) wd2 (fun _ h9 => h9) rfl dX1_letCitizensLeave_10 ?_
    refine lv_iload_n hx hb dX1_letCitizensLeave_13 rfl (lv_at hl 1 rfl) ?_
    refine lv_iconst (v := nI 1) hx hb dX1_letCitizensLeave_14 (by decide) ?_
    refine lv_iadd hx hb dX1_letCitizensLeave_15 ?_
    refine g_top (nI_add _ _) ?_
    refine lv_bipush (v := nI 24) hx hb dX1_letCitizensLeave_16 (by decide) ?_
    refine g_callsr (wf := (RW cy ad)) (σ := σ) (wfc := w0) (σc := ()) hx hb hml hown hts hK hP hD hS hA hl.1 ((RW cy ad) σ) (List.Perm.refl _) [.int (nI (h + 1)), .int (nI 24)] (c_J9_floorMod_7cf53 l D cy (nI (h + 1)) (nI 24) (by decide)) (va_cwS 2 hts gX1_letCitizensLeave_J9_floorMod_7cf53 rfl rfl rfl (by decide +kernel) ⟨Nat.le_of_ble_eq_true rfl, Nat.le_of_ble_eq_true rfl⟩) rfl rfl (Nat.le_of_ble_eq_true rfl) dX1_letCitizensLeave_18 ⟨Nat.le_of_ble_eq_true rfl, Nat.le_of_ble_eq_true rfl⟩ rfl rfl ?_
    intro r18 er18 H locs hP hD hS
    replace hf := hf.trans (ltt_r er18)
    have h19 : vp_in (r18) 24 := (by rw [er18]; exact fm_in _)
    have h19b : tn r18 < 24 := tn_in h19
    refine g_iald hx hb hK hP (1) 0 (tn r18) (RW_rn cy ad σ) rfl rfl h19 dX1_letCitizensLeave_21 ?_
    refine lv_if_le (tgt := 29) hx hb dX1_letCitizensLeave_22 (by decide) (fun c20 => ?_) (fun c20 => ?_)
    · replace hf := hf.trans (if_pos c20)
      refine lv_iconst (v := nI 0) hx hb dX1_letCitizensLeave_29 (by decide) ?_
      refine lv_istore_n (lv' := [(2, .int (nI 0)), (0, .ref (ad 0)), (1, .int (nI h))]) hx hb dX1_letCitizensLeave_30 rfl hl (by decide) rfl (fun ls hl => ?_)
      refine lv_iconst (v := nI 0) hx hb dX1_letCitizensLeave_31 (by decide) ?_
      refine lv_istore_n (lv' := [(3, .int (nI 0)), (2, .int (nI 0)), (0, .ref (ad 0)), (1, .int (nI h))]) hx hb dX1_letCitizensLeave_32 rfl hl (by decide) rfl (fun ls hl => ?_)
      refine lv_iconst (v := nI 0) hx hb dX1_letCitizensLeave_33 (by decide) ?_
      refine lv_istore (lv' := [(4, .int (nI 0)), (3, .int (nI 0)), (2, .int (nI 0)), (0, .ref (ad 0)), (1, .int (nI h))]) hx hb dX1_letCitizensLeave_34 hl (by decide) rfl (fun ls hl => ?_)
      refine loop36 (nI 0) (tn (σ 0 7)) 0 (nI 0) σ _ _ _ (by omega) hz  hP hD hS (lv_sub hl [3, 4, 2, 1, 0] rfl) ?_
      intro q21 eq21 H locs ls hP hD hS hl
      replace hf := hf.trans (ltt_r eq21)
      have hz : q21.2 0 = σ 0 := by rw [eq21]; exact (z_lp_X1_letCitizensLeave_36 σ h (nI 0) (tn (σ 0 7)) 0 (nI 0) σ).trans hz
      refine lv_iload_n hx hb dX1_letCitizensLeave_91 rfl (lv_at hl 3 rfl) ?_
      exact g_endi hx hb hr hlocks rfl hf hP hD hS (Nat.le_of_ble_eq_true rfl) (Nat.le_of_ble_eq_true rfl) dX1_letCitizensLeave_92
    · replace hf := hf.trans (if_neg c20)
      refine lv_iconst (v := nI 1) hx hb dX1_letCitizensLeave_25 (by decide) ?_
      refine lv_goto (tgt := 30) hx hb dX1_letCitizensLeave_26 (by decide) ?_
      refine lv_istore_n (lv' := [(2, .int (nI 1)), (0, .ref (ad 0)), (1, .int (nI h))]) hx hb dX1_letCitizensLeave_30 rfl hl (by decide) rfl (fun ls hl => ?_)
      refine lv_iconst (v := nI 0) hx hb dX1_letCitizensLeave_31 (by decide) ?_
      refine lv_istore_n (lv' := [(3, .int (nI 0)), (2, .int (nI 1)), (0, .ref (ad 0)), (1, .int (nI h))]) hx hb dX1_letCitizensLeave_32 rfl hl (by decide) rfl (fun ls hl => ?_)
      refine lv_iconst (v := nI 0) hx hb dX1_letCitizensLeave_33 (by decide) ?_
      refine lv_istore (lv' := [(4, .int (nI 0)), (3, .int (nI 0)), (2, .int (nI 1)), (0, .ref (ad 0)), (1, .int (nI h))]) hx hb dX1_letCitizensLeave_34 hl (by decide) rfl (fun ls hl => ?_)
      refine loop36 (nI 1) (tn (σ 0 7)) 0 (nI 0) σ _ _ _ (by omega) hz  hP hD hS (lv_sub hl [3, 4, 2, 1, 0] rfl) ?_
      intro q22 eq22 H locs ls hP hD hS hl
      replace hf := hf.trans (ltt_r eq22)
      have hz : q22.2 0 = σ 0 := by rw [eq22]; exact (z_lp_X1_letCitizensLeave_36 σ h (nI 1) (tn (σ 0 7)) 0 (nI 0) σ).trans hz
      refine lv_iload_n hx hb dX1_letCitizensLeave_91 rfl (lv_at hl 3 rfl) ?_
      exact g_endi hx hb hr hlocks rfl hf hP hD hS (Nat.le_of_ble_eq_true rfl) (Nat.le_of_ble_eq_true rfl) dX1_letCitizensLeave_92
def lp_X1_driveCart_6 (σ : Sg)  : Nat → Nat → Int32 → Int32 → Int32 × Int32
  | 0, k, fu, em => (fu, em)
  | n + 1, k, fu, em => ltt (s_X1_umbrellasIn σ (nI k)) (fun r3 => ltt (s_X1_umbrellasIn σ fu) (fun r4 => if r3 ≤ r4 then ltt (s_X1_umbrellasIn σ (nI k)) (fun r6 => ltt (s_X1_umbrellasIn σ em) (fun r7 => if r7 ≤ r6 then lp_X1_driveCart_6 σ n (k + 1) fu em else lp_X1_driveCart_6 σ n (k + 1) fu (nI k))) else ltt (s_X1_umbrellasIn σ (nI k)) (fun r9 => ltt (s_X1_umbrellasIn σ em) (fun r10 => if r10 ≤ r9 then lp_X1_driveCart_6 σ n (k + 1) (nI k) em else lp_X1_driveCart_6 σ n (k + 1) (nI k) (nI k)))))
def s_X1_driveCart (σ : Sg) : Sg := ltt (lp_X1_driveCart_6 σ (tn (σ 0 5) - 1) 1 (nI 0) (nI 0)) (fun q12 => ltt (s_X1_firstUmbrellaIn σ q12.1) (fun r13 => ltt (s_X1_isUmbrella σ r13) (fun r14 => if r14 = 0 then σ else ltt (s_X1_umbrellasIn σ q12.1) (fun r16 => ltt (s_X1_umbrellasIn σ q12.2) (fun r17 => if (r16 - r17) < (nI 2) then σ else ltt (s_X3_standIn σ (tn r13) q12.2) (fun u20 => ltt (up u20 0 8 ((u20 0 8) + (nI 1))) (fun u21 => u21)))))))
theorem ok_X1_driveCart (σ : Sg) (h : OkR σ) : OkR (s_X1_driveCart σ) := by
  unfold s_X1_driveCart
  simp only [ltt]
  repeat' split
  all_goals first | exact h | exact OkR_up0 rfl (by decide) (h.mv (z_X3_standIn _ _ _))
abbrev rm_X1_driveCart : Room := { frames := 2, cells := 0, slots := 0, locals := 45 }
set_option maxHeartbeats 4000000 in
set_option maxRecDepth 100000 in
theorem c_X1_driveCart (l : Launch) (D : va_G) (cy : Nat → ClassId) (ad : Nat → Nat) (σ : Sg) (hI : OkR σ) : gMv l yX1_driveCart wsX1_driveCart rm_X1_driveCart D (Ty cy) (RW cy ad) [.ref (ad 0)] σ (s_X1_driveCart σ) 0 0 := by
  refine gstartv cX1_driveCart 4 RX1 (by decide) rfl rfl (Nat.le_of_ble_eq_true rfl) ?_
  intro p e s m below meth c A ls hx hb hml hown hts hr hlocks hK hP hD hA hS hl
  have hl : lv_has ls 4 [(0, .ref (ad 0))] := hl
  have hf : s_X1_driveCart σ = s_X1_driveCart σ := rfl
  have hz : σ 0 = σ 0 := rfl
  have hin1 : ∀ w ∈ wsX10, w ∈ wsX1_driveCart := by decide +kernel
  have wd0 := hts (.fieldLink RX1 46 "UmbrellaLand$Republic" "shelterCount" "I") (by decide +kernel)
  have wd1 := hts (.fieldLink RX1 23 "UmbrellaLand$Republic" "umbrellas" "[LUmbrellaLand$Umbrella;") (by decide +kernel)
  have wd2 := hts (.fieldLink RX1 55 "UmbrellaLand$Republic" "carried" "I") (by decide +kernel)
  have n5 := hI.n5
  have n6 := hI.n6
  have n7 := hI.n7
  have loop6 : ∀  (n k : Nat) (fu : Int32) (em : Int32) (H : Heap) (locs : List Loc) (ls : Array Slot), n = tn (σ 0 5) - k ∧ k ≤ tn (σ 0 5) + 1 → va_P D vwCl ((RW cy ad) σ) H → va_D A ((RW cy ad) σ) → va_S A s.heap H locs → lv_has ls 4 [(0, .ref (ad 0)), (1, .int (fu)), (2, .int (em)), (3, .int (nI k))] → (∀ u : Int32 × Int32, u = lp_X1_driveCart_6 σ n k fu em → ∀ (H : Heap) (locs : List Loc) (ls : Array Slot), va_P D vwCl ((RW cy ad) σ) H → va_D A ((RW cy ad) σ) → va_S A s.heap H locs → lv_has ls 4 [(0, .ref (ad 0)), (1, .int (u.1)), (2, .int (u.2))] → W p l e rm_X1_driveCart s m [.ref (ad 0)].toArray below meth c H locs 0 0 (MQ below (va_Qv (fun u => u = s_X1_driveCart σ) (gPost D (RW cy ad) A) A) [.ref (ad 0)].toArray s 0 0 A) (F0 m 50 ls [])) → W p l e rm_X1_driveCart s m [.ref (ad 0)].toArray below meth c H locs 0 0 (MQ below (va_Qv (fun u => u = s_X1_driveCart σ) (gPost D (RW cy ad) A) A) [.ref (ad 0)].toArray s 0 0 A) (F0 m 6 ls []) := by
    intro n
    induction n with
    | zero =>
      intro k fu em H locs ls hN hP hD hS hl K
      have hf : lp_X1_driveCart_6 σ 0 k fu em = lp_X1_driveCart_6 σ 0 k fu em := rfl
      refine lv_iload_n hx hb dX1_driveCart_6 rfl (lv_at hl 3 rfl) ?_
      refine lv_aload_n hx hb dX1_driveCart_7 rfl (lv_at hl 0 rfl) ?_
      refine va_get (D := D) (ci := 1) (v := .int (σ 0 5)) (C := RX1) (T := TX1) (N := 9) hx hb hts hin1 hown hK hP (0) (RW_ob cy ad σ) rfl 5 (by decide) wd0 (fun _ h9 => h9) rfl dX1_driveCart_8 ?_
      refine g_top ((congrFun hz 5).trans hI.c5) ?_
      refine lv_icmp_ge (tgt := 50) hx hb dX1_driveCart_11 (by decide) (fun c1 => ?_) (fun c1 => absurd (nI_le (by omega) (by omega)) c1)
      exact K (fu, em) hf.symm _ _ _ hP hD hS (lv_sub hl [0, 1, 2] rfl)
    | succ n ih =>
      intro k fu em H locs ls hN hP hD hS hl K
      have hf : lp_X1_driveCart_6 σ (n + 1) k fu em = lp_X1_driveCart_6 σ (n + 1) k fu em := rfl
      refine lv_iload_n hx hb dX1_driveCart_6 rfl (lv_at hl 3 rfl) ?_
      refine lv_aload_n hx hb dX1_driveCart_7 rfl (lv_at hl 0 rfl) ?_
      refine va_get (D := D) (ci := 1) (v := .int (σ 0 5)) (C := RX1) (T := TX1) (N := 9) hx hb hts hin1 hown hK hP (0) (RW_ob cy ad σ) rfl 5 (by decide) wd0 (fun _ h9 => h9) rfl dX1_driveCart_8 ?_
      refine g_top ((congrFun hz 5).trans hI.c5) ?_
      refine lv_icmp_ge (tgt := 50) hx hb dX1_driveCart_11 (by decide) (fun c2 => absurd c2 (nI_ge (by omega) (by omega))) (fun c2 => ?_)
      refine lv_aload_n hx hb dX1_driveCart_14 rfl (lv_at hl 0 rfl) ?_
      refine lv_iload_n hx hb dX1_driveCart_15 rfl (lv_at hl 3 rfl) ?_
      refine g_callr (q0 := 0) (wf := (RW cy ad)) (σ := σ) (wfc := (RW cy ad)) (σc := σ) hx hb hml hown hts hK hP hD hS hA hl.1 [] pm_0 [.int (nI k)] (c_X1_umbrellasIn l D cy ad σ (nI k) (hI.mv hz)) (cwV 1 hts gX1_driveCart_X1_umbrellasIn rfl rfl rfl (by decide +kernel) ⟨Nat.le_of_ble_eq_true rfl, Nat.le_of_ble_eq_true rfl⟩) (RW_ob cy ad σ) rfl rfl rfl rfl (Nat.le_of_ble_eq_true rfl) dX1_driveCart_16 ⟨Nat.le_of_ble_eq_true rfl, Nat.le_of_ble_eq_true rfl⟩ rfl rfl ?_
      intro r3 er3 H locs hP hD hS
      replace hf := hf.trans (ltt_r er3)
      refine lv_aload_n hx hb dX1_driveCart_19 rfl (lv_at hl 0 rfl) ?_
      refine lv_iload_n hx hb dX1_driveCart_20 rfl (lv_at hl 1 rfl) ?_
      refine g_callr (q0 := 0) (wf := (RW cy ad)) (σ := σ) (wfc := (RW cy ad)) (σc := σ) hx hb hml hown hts hK hP hD hS hA hl.1 [] pm_0 [.int (fu)] (c_X1_umbrellasIn l D cy ad σ fu (hI.mv hz)) (cwV 1 hts gX1_driveCart_X1_umbrellasIn rfl rfl rfl (by decide +kernel) ⟨Nat.le_of_ble_eq_true rfl, Nat.le_of_ble_eq_true rfl⟩) (RW_ob cy ad σ) rfl rfl rfl rfl (Nat.le_of_ble_eq_true rfl) dX1_driveCart_21 ⟨Nat.le_of_ble_eq_true rfl, Nat.le_of_ble_eq_true rfl⟩ rfl rfl ?_
      intro r4 er4 H locs hP hD hS
      replace hf := hf.trans (ltt_r er4)
      refine lv_icmp_le (tgt := 29) hx hb dX1_driveCart_24 (by decide) (fun c5 => ?_) (fun c5 => ?_)
      · replace hf := hf.trans (if_pos c5)
        refine lv_aload_n hx hb dX1_driveCart_29 rfl (lv_at hl 0 rfl) ?_
        refine lv_iload_n hx hb dX1_driveCart_30 rfl (lv_at hl 3 rfl) ?_
        refine g_callr (q0 := 0) (wf := (RW cy ad)) (σ := σ) (wfc := (RW cy ad)) (σc := σ) hx hb hml hown hts hK hP hD hS hA hl.1 [] pm_0 [.int (nI k)] (c_X1_umbrellasIn l D cy ad σ (nI k) (hI.mv hz)) (cwV 1 hts gX1_driveCart_X1_umbrellasIn rfl rfl rfl (by decide +kernel) ⟨Nat.le_of_ble_eq_true rfl, Nat.le_of_ble_eq_true rfl⟩) (RW_ob cy ad σ) rfl rfl rfl rfl (Nat.le_of_ble_eq_true rfl) dX1_driveCart_31 ⟨Nat.le_of_ble_eq_true rfl, Nat.le_of_ble_eq_true rfl⟩ rfl rfl ?_
        intro r6 er6 H locs hP hD hS
        replace hf := hf.trans (ltt_r er6)
        refine lv_aload_n hx hb dX1_driveCart_34 rfl (lv_at hl 0 rfl) ?_
        refine lv_iload_n hx hb dX1_driveCart_35 rfl (lv_at hl 2 rfl) ?_
        refine g_callr (q0 := 0) (wf := (RW cy ad)) (σ := σ) (wfc := (RW cy ad)) (σc := σ) hx hb hml hown hts hK hP hD hS hA hl.1 [] pm_0 [.int (em)] (c_X1_umbrellasIn l D cy ad σ em (hI.mv hz)) (cwV 1 hts gX1_driveCart_X1_umbrellasIn rfl rfl rfl (by decide +kernel) ⟨Nat.le_of_ble_eq_true rfl, Nat.le_of_ble_eq_true rfl⟩) (RW_ob cy ad σ) rfl rfl rfl rfl (Nat.le_of_ble_eq_true rfl) dX1_driveCart_36 ⟨Nat.le_of_ble_eq_true rfl, Nat.le_of_ble_eq_true rfl⟩ rfl rfl ?_
        intro r7 er7 H locs hP hD hS
        replace hf := hf.trans (ltt_r er7)
        refine lv_icmp_ge (tgt := 44) hx hb dX1_driveCart_39 (by decide) (fun c8 => ?_) (fun c8 => ?_)
        · replace hf := hf.trans (if_pos c8)
          refine lv_iinc (v := nI (k + 1)) (lv' := [(3, .int (nI (k + 1))), (0, .ref (ad 0)), (1, .int (fu)), (2, .int (em))]) hx hb dX1_driveCart_44 hl (k := 3) rfl (nI_1 _) (by decide) rfl (fun ls hl => ?_)
          refine lv_goto (tgt := 6) hx hb dX1_driveCart_47 (by decide) ?_
          exact ih (k + 1) fu em _ _ _ (by omega)  hP hD hS (lv_sub hl [1, 2, 3, 0] rfl) (fun u eu => K u (eu.trans hf.symm))
        · replace hf := hf.trans (if_neg c8)
          refine lv_iload_n hx hb dX1_driveCart_42 rfl (lv_at hl 3 rfl) ?_
          refine lv_istore_n (lv' := [(2, .int (nI k)), (0, .ref (ad 0)), (1, .int (fu)), (3, .int (nI k))]) hx hb dX1_driveCart_43 rfl hl (by decide) rfl (fun ls hl => ?_)
          refine lv_iinc (v := nI (k + 1)) (lv' := [(3, .int (nI (k + 1))), (2, .int (nI k)), (0, .ref (ad 0)), (1, .int (fu))]) hx hb dX1_driveCart_44 hl (k := 3) rfl (nI_1 _) (by decide) rfl (fun ls hl => ?_)
          refine lv_goto (tgt := 6) hx hb dX1_driveCart_47 (by decide) ?_
          exact ih (k + 1) fu (nI k) _ _ _ (by omega)  hP hD hS (lv_sub hl [2, 3, 1, 0] rfl) (fun u eu => K u (eu.trans hf.symm))
      · replace hf := hf.trans (if_neg c5)
        refine lv_iload_n hx hb dX1_driveCart_27 rfl (lv_at hl 3 rfl) ?_
        refine lv_istore_n (lv' := [(1, .int (nI k)), (0, .ref (ad 0)), (2, .int (em)), (3, .int (nI k))]) hx hb dX1_driveCart_28 rfl hl (by decide) rfl (fun ls hl => ?_)
        refine lv_aload_n hx hb dX1_driveCart_29 rfl (lv_at hl 1 rfl) ?_
        refine lv_iload_n hx hb dX1_driveCart_30 rfl (lv_at hl 3 rfl) ?_
        refine g_callr (q0 := 0) (wf := (RW cy ad)) (σ := σ) (wfc := (RW cy ad)) (σc := σ) hx hb hml hown hts hK hP hD hS hA hl.1 [] pm_0 [.int (nI k)] (c_X1_umbrellasIn l D cy ad σ (nI k) (hI.mv hz)) (cwV 1 hts gX1_driveCart_X1_umbrellasIn rfl rfl rfl (by decide +kernel) ⟨Nat.le_of_ble_eq_true rfl, Nat.le_of_ble_eq_true rfl⟩) (RW_ob cy ad σ) rfl rfl rfl rfl (Nat.le_of_ble_eq_true rfl) dX1_driveCart_31 ⟨Nat.le_of_ble_eq_true rfl, Nat.le_of_ble_eq_true rfl⟩ rfl rfl ?_
        intro r9 er9 H locs hP hD hS
        replace hf := hf.trans (ltt_r er9)
        refine lv_aload_n hx hb dX1_driveCart_34 rfl (lv_at hl 1 rfl) ?_
        refine lv_iload_n hx hb dX1_driveCart_35 rfl (lv_at hl 2 rfl) ?_
        refine g_callr (q0 := 0) (wf := (RW cy ad)) (σ := σ) (wfc := (RW cy ad)) (σc := σ) hx hb hml hown hts hK hP hD hS hA hl.1 [] pm_0 [.int (em)] (c_X1_umbrellasIn l D cy ad σ em (hI.mv hz)) (cwV 1 hts gX1_driveCart_X1_umbrellasIn rfl rfl rfl (by decide +kernel) ⟨Nat.le_of_ble_eq_true rfl, Nat.le_of_ble_eq_true rfl⟩) (RW_ob cy ad σ) rfl rfl rfl rfl (Nat.le_of_ble_eq_true rfl) dX1_driveCart_36 ⟨Nat.le_of_ble_eq_true rfl, Nat.le_of_ble_eq_true rfl⟩ rfl rfl ?_
        intro r10 er10 H locs hP hD hS
        replace hf := hf.trans (ltt_r er10)
        refine lv_icmp_ge (tgt := 44) hx hb dX1_driveCart_39 (by decide) (fun c11 => ?_) (fun c11 => ?_)
        · replace hf := hf.trans (if_pos c11)
          refine lv_iinc (v := nI (k + 1)) (lv' := [(3, .int (nI (k + 1))), (1, .int (nI k)), (0, .ref (ad 0)), (2, .int (em))]) hx hb dX1_driveCart_44 hl (k := 3) rfl (nI_1 _) (by decide) rfl (fun ls hl => ?_)
          refine lv_goto (tgt := 6) hx hb dX1_driveCart_47 (by decide) ?_
          exact ih (k + 1) (nI k) em _ _ _ (by omega)  hP hD hS (lv_sub hl [2, 1, 3, 0] rfl) (fun u eu => K u (eu.trans hf.symm))
        · replace hf := hf.trans (if_neg c11)
          refine lv_iload_n hx hb dX1_driveCart_42 rfl (lv_at hl 3 rfl) ?_
          refine lv_istore_n (lv' := [(2, .int (nI k)), (1, .int (nI k)), (0, .ref (ad 0)), (3, .int (nI k))]) hx hb dX1_driveCart_43 rfl hl (by decide) rfl (fun ls hl => ?_)
          refine lv_iinc (v := nI (k + 1)) (lv' := [(3, .int (nI (k + 1))), (2, .int (nI k)), (1, .int (nI k)), (0, .ref (ad 0))]) hx hb dX1_driveCart_44 hl (k := 3) rfl (nI_1 _) (by decide) rfl (fun ls hl => ?_)
          refine lv_goto (tgt := 6) hx hb dX1_driveCart_47 (by decide) ?_
          exact ih (k + 1) (nI k) (nI k) _ _ _ (by omega)  hP hD hS (lv_sub hl [3, 2, 1, 0] rfl) (fun u eu => K u (eu.trans hf.symm))
  refine lv_iconst (v := nI 0) hx hb dX1_driveCart_0 (by decide) ?_
  refine lv_istore_n (lv' := [(1, .int (nI 0)), (0, .ref (ad 0))]) hx hb dX1_driveCart_1 rfl hl (by decide) rfl (fun ls hl => ?_)
  refine lv_iconst (v := nI 0) hx hb dX1_driveCart_2 (by decide) ?_
  refine lv_istore_n (lv' := [(2, .int (nI 0)), (1, .int (nI 0)), (0, .ref (ad 0))]) hx hb dX1_driveCart_3 rfl hl (by decide) rfl (fun ls hl => ?_)
  refine lv_iconst (v := nI 1) hx hb dX1_driveCart_4 (by decide) ?_
  refine lv_istore_n (lv' := [(3, .int (nI 1)), (2, .int (nI 0)), (1, .int (nI 0)), (0, .ref (ad 0))]) hx hb dX1_driveCart_5 rfl hl (by decide) rfl (fun ls hl => ?_)
  refine loop6  (tn (σ 0 5) - 1) 1 (nI 0) (nI 0) _ _ _ (by omega)  hP hD hS (lv_sub hl [3, 2, 1, 0] rfl) ?_
  intro q12 eq12 H locs ls hP hD hS hl
  replace hf := hf.trans (ltt_r eq12)
  refine lv_aload_n hx hb dX1_driveCart_50 rfl (lv_at hl 0 rfl) ?_
  refine lv_iload_n hx hb dX1_driveCart_51 rfl (lv_at hl 1 rfl) ?_
  refine g_callr (q0 := 0) (wf := (RW cy ad)) (σ := σ) (wfc := (RW cy ad)) (σc := σ) hx hb hml hown hts hK hP hD hS hA hl.1 [] pm_0 [.int (q12.1)] (c_X1_firstUmbrellaIn l D cy ad σ q12.1 (hI.mv hz)) (cwV 1 hts gX1_driveCart_X1_firstUmbrellaIn rfl rfl rfl (by decide +kernel) ⟨Nat.le_of_ble_eq_true rfl, Nat.le_of_ble_eq_true rfl⟩) (RW_ob cy ad σ) rfl rfl rfl rfl (Nat.le_of_ble_eq_true rfl) dX1_driveCart_52 ⟨Nat.le_of_ble_eq_true rfl, Nat.le_of_ble_eq_true rfl⟩ rfl rfl ?_
  intro r13 er13 H locs hP hD hS
  replace hf := hf.trans (ltt_r er13)
  refine lv_istore_n (lv' := [(3, .int (r13)), (0, .ref (ad 0)), (1, .int (q12.1)), (2, .int (q12.2))]) hx hb dX1_driveCart_55 rfl hl (by decide) rfl (fun ls hl => ?_)
  refine lv_aload_n hx hb dX1_driveCart_56 rfl (lv_at hl 1 rfl) ?_
  refine lv_iload_n hx hb dX1_driveCart_57 rfl (lv_at hl 0 rfl) ?_
  refine g_callr (q0 := 0) (wf := (RW cy ad)) (σ := σ) (wfc := (RW cy ad)) (σc := σ) hx hb hml hown hts hK hP hD hS hA hl.1 [] pm_0 [.int (r13)] (c_X1_isUmbrella l D cy ad σ r13 ) (cwV 1 hts gX1_driveCart_X1_isUmbrella rfl rfl rfl (by decide +kernel) ⟨Nat.le_of_ble_eq_true rfl, Nat.le_of_ble_eq_true rfl⟩) (RW_ob cy ad σ) rfl rfl rfl rfl (Nat.le_of_ble_eq_true rfl) dX1_driveCart_58 ⟨Nat.le_of_ble_eq_true rfl, Nat.le_of_ble_eq_true rfl⟩ rfl rfl ?_
  intro r14 er14 H locs hP hD hS
  replace hf := hf.trans (ltt_r er14)
  refine lv_if_eq (tgt := 99) hx hb dX1_driveCart_61 (by decide) (fun c15 => ?_) (fun c15 => ?_)
  · replace hf := hf.trans (if_pos c15)
    exact g_endv hx hb hr hlocks hf hP hD hS (Nat.le_of_ble_eq_true rfl) (Nat.le_of_ble_eq_true rfl) dX1_driveCart_99
  · replace hf := hf.trans (if_neg c15)
    refine lv_aload_n hx hb dX1_driveCart_64 rfl (lv_at hl 1 rfl) ?_
    refine lv_iload_n hx hb dX1_driveCart_65 rfl (lv_at hl 2 rfl) ?_
    refine g_callr (q0 := 0) (wf := (RW cy ad)) (σ := σ) (wfc := (RW cy ad)) (σc := σ) hx hb hml hown hts hK hP hD hS hA hl.1 [] pm_0 [.int (q12.1)] (c_X1_umbrellasIn l D cy ad σ q12.1 (hI.mv hz)) (cwV 1 hts gX1_driveCart_X1_umbrellasIn rfl rfl rfl (by decide +kernel) ⟨Nat.le_of_ble_eq_true rfl, Nat.le_of_ble_eq_true rfl⟩) (RW_ob cy ad σ) rfl rfl rfl rfl (Nat.le_of_ble_eq_true rfl) dX1_driveCart_66 ⟨Nat.le_of_ble_eq_true rfl, Nat.le_of_ble_eq_true rfl⟩ rfl rfl ?_
    intro r16 er16 H locs hP hD hS
    replace hf := hf.trans (ltt_r er16)
    refine lv_aload_n hx hb dX1_driveCart_69 rfl (lv_at hl 1 rfl) ?_
    refine lv_iload_n hx hb dX1_driveCart_70 rfl (lv_at hl 3 rfl) ?_
    refine g_callr (q0 := 0) (wf := (RW cy ad)) (σ := σ) (wfc := (RW cy ad)) (σc := σ) hx hb hml hown hts hK hP hD hS hA hl.1 [] pm_0 [.int (q12.2)] (c_X1_umbrellasIn l D cy ad σ q12.2 (hI.mv hz)) (cwV 1 hts gX1_driveCart_X1_umbrellasIn rfl rfl rfl (by decide +kernel) ⟨Nat.le_of_ble_eq_true rfl, Nat.le_of_ble_eq_true rfl⟩) (RW_ob cy ad σ) rfl rfl rfl rfl (Nat.le_of_ble_eq_true rfl) dX1_driveCart_71 ⟨Nat.le_of_ble_eq_true rfl, Nat.le_of_ble_eq_true rfl⟩ rfl rfl ?_
    intro r17 er17 H locs hP hD hS
    replace hf := hf.trans (ltt_r er17)
    refine lv_isub hx hb dX1_driveCart_74 ?_
    refine lv_iconst (v := nI 2) hx hb dX1_driveCart_75 (by decide) ?_
    refine lv_icmp_lt (tgt := 99) hx hb dX1_driveCart_76 (by decide) (fun c18 => ?_) (fun c18 => ?_)
    · replace hf := hf.trans (if_pos c18)
      exact g_endv hx hb hr hlocks hf hP hD hS (Nat.le_of_ble_eq_true rfl) (Nat.le_of_ble_eq_true rfl) dX1_driveCart_99
    · replace hf := hf.trans (if_neg c18)
      refine lv_aload_n hx hb dX1_driveCart_79 rfl (lv_at hl 1 rfl) ?_
      refine va_get (D := D) (ci := 1) (v := .ref (ad 3)) (C := RX1) (T := TX1) (N := 9) hx hb hts hin1 hown hK hP (0) (RW_ob cy ad σ) rfl 2 (by decide) wd1 (fun _ h9 => h9) rfl dX1_driveCart_80 ?_
      refine lv_iload_n hx hb dX1_driveCart_83 rfl (lv_at hl 0 rfl) ?_
      have h19 : vp_in (r13) 40 := in_um (hI.mv hz) (fun h9 => c15 (er14.trans h9))
      have h19b : tn r13 < 40 := tn_in h19
      refine g_aald (b := ad (13 + (tn r13))) hx hb hK hP (3) 2 (tn r13) (RW_au cy ad σ) rfl rfl h19 rfl dX1_driveCart_84 ?_
      refine lv_iload_n hx hb dX1_driveCart_85 rfl (lv_at hl 3 rfl) ?_
      refine g_callv (q0 := 13 + (tn r13)) (wf := (RW cy ad)) (σ := σ) (wfc := (RW cy ad)) (σc := σ) hx hb hml hown hts hK hP hD hS hA hl.1 [] pm_0 (fun u => u) (fun _ => pm_0b) [.int (q12.2)] (c_X3_standIn l D cy ad σ (tn r13) q12.2 h19b) (cwV 1 hts gX1_driveCart_X3_standIn rfl rfl rfl (by decide +kernel) ⟨Nat.le_of_ble_eq_true rfl, Nat.le_of_ble_eq_true rfl⟩) (RW_um cy ad σ h19b) rfl rfl rfl rfl (Nat.le_of_ble_eq_true rfl) dX1_driveCart_86 ⟨Nat.le_of_ble_eq_true rfl, Nat.le_of_ble_eq_true rfl⟩ rfl rfl ?_
      intro u20 eu20 H locs hP hD hS
      replace hf := hf.trans (ltt_r eu20)
      have hz : u20 0 = σ 0 := by rw [eu20]; exact (z_X3_standIn σ (tn r13) q12.2).trans hz
      refine lv_aload_n hx hb dX1_driveCart_89 rfl (lv_at hl 1 rfl) ?_
      refine lv_dup hx hb dX1_driveCart_90 rfl ?_
      refine va_get (D := D) (ci := 1) (v := .int (u20 0 8)) (C := RX1) (T := TX1) (N := 9) hx hb hts hin1 hown hK hP (0) (RW_ob cy ad u20) rfl 8 (by decide) wd2 (fun _ h9 => h9) rfl dX1_driveCart_91 ?_
      refine lv_iconst (v := nI 1) hx hb dX1_driveCart_94 (by decide) ?_
      refine lv_iadd hx hb dX1_driveCart_95 ?_
      refine g_put (σ1 := up u20 0 8 ((u20 0 8) + (nI 1))) (fs := obF ad (u20 0)) (C := RX1) (T := TX1) (N := 9) hx hb hts hin1 tyX1_ok nmX1 hown hK hP hD hS (0) (RW_ob cy ad u20) rfl 8 (by decide) wd2 rfl rfl (Nat.le_of_ble_eq_true rfl) (RW_ob_set cy ad u20 8 (by decide) _) dX1_driveCart_96 ?_
      intro u21 eu21 H locs hP hD hS
      replace hf := hf.trans (ltt_r eu21)
      exact g_endv hx hb hr hlocks hf hP hD hS (Nat.le_of_ble_eq_true rfl) (Nat.le_of_ble_eq_true rfl) dX1_driveCart_99
def lp_X1_letGoBy_4   : Nat → Nat → Int32 → Sg → Int32 × (Sg)
  | 0, k, many, τ => (many, τ)
  | n + 1, k, many, τ => ltt (s_J9_floorMod_7cf53 (τ 0 4) (nI 24)) (fun r3 => ltt (s_X1_letUmbrellasWait τ) (fun u5 => ltt (s_X1_letCitizensLeave u5 (tn r3)) (fun r6 => ltt (s_X1_letCitizensWalk r6.2 (r6.2 1 (tn r3))) (fun u8 => if ((nI (tn r3)) - (nI (tn r3)) / (nI 6) * (nI 6)) = 0 then ltt (s_X1_driveCart u8) (fun u14 => if (nI (tn r3)) = (nI 23) then ltt (s_X1_endDay u14) (fun u17 => ltt (up u17 0 4 ((u17 0 4) + (nI 1))) (fun u18 => lp_X1_letGoBy_4 n (k + 1) (many + r6.1) u18)) else ltt (up u14 0 4 ((u14 0 4) + (nI 1))) (fun u16 => lp_X1_letGoBy_4 n (k + 1) (many + r6.1) u16)) else if (nI (tn r3)) = (nI 23) then ltt (s_X1_endDay u8) (fun u12 => ltt (up u12 0 4 ((u12 0 4) + (nI 1))) (fun u13 => lp_X1_letGoBy_4 n (k + 1) (many + r6.1) u13)) else ltt (up u8 0 4 ((u8 0 4) + (nI 1))) (fun u11 => lp_X1_letGoBy_4 n (k + 1) (many + r6.1) u11)))))
def s_X1_letGoBy (σ : Sg) (nh : Nat) : Int32 × (Sg) := ltt (lp_X1_letGoBy_4 nh 0 (nI 0) σ) (fun q19 => (q19.1, q19.2))
abbrev rm_X1_letGoBy : Room := { frames := 4, cells := 0, slots := 0, locals := 93 }
set_option maxHeartbeats 4000000 in
set_option maxRecDepth 100000 in
theorem c_X1_letGoBy (l : Launch) (D : va_G) (cy : Nat → ClassId) (ad : Nat → Nat) (σ : Sg) (nh : Nat) (hnh : nh ≤ 100) (hI : OkR σ) : gMi l yX1_letGoBy wsX1_letGoBy rm_X1_letGoBy D (Ty cy) (RW cy ad) [.ref (ad 0), .int (nI nh)] σ (s_X1_letGoBy σ nh) 0 0 := by
  refine gstarti cX1_letGoBy 5 RX1 (by decide) rfl rfl (Nat.le_of_ble_eq_true rfl) ?_
  intro p e s m below meth c A ls hx hb hml hown hts hr hlocks hK hP hD hA hS hl
  have hl : lv_has ls 5 [(0, .ref (ad 0)), (1, .int (nI nh))] := hl
  have hf : s_X1_letGoBy σ nh = s_X1_letGoBy σ nh := rfl
  have hin1 : ∀ w ∈ wsX10, w ∈ wsX1_letGoBy := by decide +kernel
  have wd0 := hts (.fieldLink RX1 42 "UmbrellaLand$Republic" "hour" "I") (by decide +kernel)
  have wd1 := hts (.fieldLink RX1 9 "UmbrellaLand$Republic" "rain" "[I") (by decide +kernel)
  have loop4 : ∀  (n k : Nat) (many : Int32) (τ : Sg) (H : Heap) (locs : List Loc) (ls : Array Slot), n = nh - k ∧ k ≤ nh + 1 → (OkR τ) → va_P D vwCl ((RW cy ad) τ) H → va_D A ((RW cy ad) τ) → va_S A s.heap H locs → lv_has ls 5 [(0, .ref (ad 0)), (1, .int (nI nh)), (2, .int (many)), (3, .int (nI k))] → (∀ u : Int32 × (Sg), u = lp_X1_letGoBy_4 n k many τ → ∀ (H : Heap) (locs : List Loc) (ls : Array Slot), va_P D vwCl ((RW cy ad) u.2) H → va_D A ((RW cy ad) u.2) → va_S A s.heap H locs → lv_has ls 5 [(0, .ref (ad 0)), (1, .int (nI nh)), (2, .int (u.1))] → W p l e rm_X1_letGoBy s m [.ref (ad 0), .int (nI nh)].toArray below meth c H locs 0 0 (MQ below (va_Qi (fun r u => (r, u) = s_X1_letGoBy σ nh) (gPost D (RW cy ad) A) A) [.ref (ad 0), .int (nI nh)].toArray s 0 0 A) (F0 m 83 ls [])) → W p l e rm_X1_letGoBy s m [.ref (ad 0), .int (nI nh)].toArray below meth c H locs 0 0 (MQ below (va_Qi (fun r u => (r, u) = s_X1_letGoBy σ nh) (gPost D (RW cy ad) A) A) [.ref (ad 0), .int (nI nh)].toArray s 0 0 A) (F0 m 4 ls []) := by
    intro n
    induction n with
    | zero =>
      intro k many τ H locs ls hN hi0 hP hD hS hl K
      have hf : lp_X1_letGoBy_4 0 k many τ = lp_X1_letGoBy_4 0 k many τ := rfl
      refine lv_iload_n hx hb dX1_letGoBy_4 rfl (lv_at hl 3 rfl) ?_
      refine lv_iload_n hx hb dX1_letGoBy_5 rfl (lv_at hl 1 rfl) ?_
      refine lv_icmp_ge (tgt := 83) hx hb dX1_letGoBy_6 (by decide) (fun c1 => ?_) (fun c1 => absurd (nI_le (by omega) (by omega)) c1)
      exact K (many, τ) hf.symm _ _ _ hP hD hS (lv_sub hl [0, 1, 2] rfl)
    | succ n ih =>
      intro k many τ H locs ls hN hi0 hP hD hS hl K
      have hf : lp_X1_letGoBy_4 (n + 1) k many τ = lp_X1_letGoBy_4 (n + 1) k many τ := rfl
      refine lv_iload_n hx hb dX1_letGoBy_4 rfl (lv_at hl 3 rfl) ?_
      refine lv_iload_n hx hb dX1_letGoBy_5 rfl (lv_at hl 1 rfl) ?_
      refine lv_icmp_ge (tgt := 83) hx hb dX1_letGoBy_6 (by decide) (fun c2 => absurd c2 (nI_ge (by omega) (by omega))) (fun c2 => ?_)
      refine lv_aload_n hx hb dX1_letGoBy_9 rfl (lv_at hl 0 rfl) ?_
      refine va_get (D := D) (ci := 1) (v := .int (τ 0 4)) (C := RX1) (T := TX1) (N := 9) hx hb hts hin1 hown hK hP (0) (RW_ob cy ad τ) rfl 4 (by decide) wd0 (fun _ h9 => h9) rfl dX1_letGoBy_10 ?_
      refine lv_bipush (v := nI 24) hx hb dX1_letGoBy_13 (by decide) ?_
      refine g_callsr (wf := (RW cy ad)) (σ := τ) (wfc := w0) (σc := ()) hx hb hml hown hts hK hP hD hS hA hl.1 ((RW cy ad) τ) (List.Perm.refl _) [.int (τ 0 4), .int (nI 24)] (c_J9_floorMod_7cf53 l D cy (τ 0 4) (nI 24) (by decide)) (va_cwS 2 hts gX1_letGoBy_J9_floorMod_7cf53 rfl rfl rfl (by decide +kernel) ⟨Nat.le_of_ble_eq_true rfl, Nat.le_of_ble_eq_true rfl⟩) rfl rfl (Nat.le_of_ble_eq_true rfl) dX1_letGoBy_15 ⟨Nat.le_of_ble_eq_true rfl, Nat.le_of_ble_eq_true rfl⟩ rfl rfl ?_
      intro r3 er3 H locs hP hD hS
      replace hf := hf.trans (ltt_r er3)
      have h4 : vp_in r3 24 := (by rw [er3]; exact fm_in _)
      have h4b : tn r3 < 24 := tn_in h4
      refine g_top (tn_eq h4 (by decide)) ?_
      refine lv_istore (lv' := [(4, .int (nI (tn r3))), (0, .ref (ad 0)), (1, .int (nI nh)), (2, .int (many)), (3, .int (nI k))]) hx hb dX1_letGoBy_18 hl (by decide) rfl (fun ls hl => ?_)
      refine lv_aload_n hx hb dX1_letGoBy_20 rfl (lv_at hl 1 rfl) ?_
      refine g_callv (q0 := 0) (wf := (RW cy ad)) (σ := τ) (wfc := (RW cy ad)) (σc := τ) hx hb hml hown hts hK hP hD hS hA hl.1 [] pm_0 (fun u => u) (fun _ => pm_0b) [] (c_X1_letUmbrellasWait l D cy ad τ hi0) (cwV 0 hts gX1_letGoBy_X1_letUmbrellasWait rfl rfl rfl (by decide +kernel) ⟨Nat.le_of_ble_eq_true rfl, Nat.le_of_ble_eq_true rfl⟩) (RW_ob cy ad τ) rfl rfl rfl rfl (Nat.le_of_ble_eq_true rfl) dX1_letGoBy_21 ⟨Nat.le_of_ble_eq_true rfl, Nat.le_of_ble_eq_true rfl⟩ rfl rfl ?_
      intro u5 eu5 H locs hP hD hS
      replace hf := hf.trans (ltt_r eu5)
      have oku5 : OkR u5 := (by rw [eu5]; exact ok_X1_letUmbrellasWait τ hi0)
      refine lv_iload_n hx hb dX1_letGoBy_24 rfl (lv_at hl 3 rfl) ?_
      refine lv_aload_n hx hb dX1_letGoBy_25 rfl (lv_at hl 1 rfl) ?_
      refine lv_iload hx hb dX1_letGoBy_26 (lv_at hl 0 rfl) ?_
      refine g_calli (q0 := 0) (wf := (RW cy ad)) (σ := u5) (wfc := (RW cy ad)) (σc := u5) hx hb hml hown hts hK hP hD hS hA hl.1 [] pm_0 (fun u => u) (fun _ => pm_0b) [.int (nI (tn r3))] (c_X1_letCitizensLeave l D cy ad u5 (tn r3) (by omega) oku5) (cwV 1 hts gX1_letGoBy_X1_letCitizensLeave rfl rfl rfl (by decide +kernel) ⟨Nat.le_of_ble_eq_true rfl, Nat.le_of_ble_eq_true rfl⟩) (RW_ob cy ad u5) rfl rfl rfl rfl (Nat.le_of_ble_eq_true rfl) dX1_letGoBy_28 ⟨Nat.le_of_ble_eq_true rfl, Nat.le_of_ble_eq_true rfl⟩ rfl rfl ?_
      intro r6 er6 H locs hP hD hS
      replace hf := hf.trans (ltt_r er6)
      have okr6 : OkR r6.2 := (by rw [er6]; exact ok_X1_letCitizensLeave u5 (tn r3) oku5)
      refine lv_iadd hx hb dX1_letGoBy_31 ?_
      refine lv_istore_n (lv' := [(2, .int (many + r6.1)), (4, .int (nI (tn r3))), (0, .ref (ad 0)), (1, .int (nI nh)), (3, .int (nI k))]) hx hb dX1_letGoBy_32 rfl hl (by decide) rfl (fun ls hl => ?_)
      refine lv_aload_n hx hb dX1_letGoBy_33 rfl (lv_at hl 2 rfl) ?_
      refine lv_aload_n hx hb dX1_letGoBy_34 rfl (lv_at hl 2 rfl) ?_
      refine va_get (D := D) (ci := 1) (v := .ref (ad 1)) (C := RX1) (T := TX1) (N := 9) hx hb hts hin1 hown hK hP (0) (RW_ob cy ad r6.2) rfl 0 (by decide) wd1 (fun _ h9 => h9) rfl dX1_letGoBy_35 ?_
      refine lv_iload hx hb dX1_letGoBy_38 (lv_at hl 1 rfl) ?_
      have h7 : tn r3 < 24 := by omega
      refine g_iald hx hb hK hP (1) 0 (tn r3) (RW_rn cy ad r6.2) rfl (nI_clamp (by omega)) (vp_in_nI h7 (by decide)) dX1_letGoBy_40 ?_
      refine g_callv (q0 := 0) (wf := (RW cy ad)) (σ := r6.2) (wfc := (RW cy ad)) (σc := r6.2) hx hb hml hown hts hK hP hD hS hA hl.1 [] pm_0 (fun u => u) (fun _ => pm_0b) [.int (r6.2 1 (tn r3))] (c_X1_letCitizensWalk l D cy ad r6.2 (r6.2 1 (tn r3)) okr6) (cwV 1 hts gX1_letGoBy_X1_letCitizensWalk rfl rfl rfl (by decide +kernel) ⟨Nat.le_of_ble_eq_true rfl, Nat.le_of_ble_eq_true rfl⟩) (RW_ob cy ad r6.2) rfl rfl rfl rfl (Nat.le_of_ble_eq_true rfl) dX1_letGoBy_41 ⟨Nat.le_of_ble_eq_true rfl, Nat.le_of_ble_eq_true rfl⟩ rfl rfl ?_
      intro u8 eu8 H locs hP hD hS
      replace hf := hf.trans (ltt_r eu8)
      have oku8 : OkR u8 := (by rw [eu8]; exact ok_X1_letCitizensWalk r6.2 (r6.2 1 (tn r3)) okr6)
      refine lv_iload hx hb dX1_letGoBy_44 (lv_at hl 1 rfl) ?_
      refine lv_bipush (v := nI 6) hx hb dX1_letGoBy_46 (by decide) ?_
      refine lv_irem hx hb dX1_letGoBy_48 (by decide) ?_
      refine lv_if_ne (tgt := 56) hx hb dX1_letGoBy_49 (by decide) (fun c9 => ?_) (fun c9 => ?_)
      · replace hf := hf.trans (if_neg c9)
        refine lv_iload hx hb dX1_letGoBy_56 (lv_at hl 1 rfl) ?_
        refine lv_bipush (v := nI 23) hx hb dX1_letGoBy_58 (by decide) ?_
        refine lv_icmp_ne (tgt := 67) hx hb dX1_letGoBy_60 (by decide) (fun c10 => ?_) (fun c10 => ?_)
        · replace hf := hf.trans (if_neg c10)
          refine lv_aload_n hx hb dX1_letGoBy_67 rfl (lv_at hl 2 rfl) ?_
          refine lv_dup hx hb dX1_letGoBy_68 rfl ?_
          refine va_get (D := D) (ci := 1) (v := .int (u8 0 4)) (C := RX1) (T := TX1) (N := 9) hx hb hts hin1 hown hK hP (0) (RW_ob cy ad u8) rfl 4 (by decide) wd0 (fun _ h9 => h9) rfl dX1_letGoBy_69 ?_
          refine lv_iconst (v := nI 1) hx hb dX1_letGoBy_72 (by decide) ?_
          refine lv_iadd hx hb dX1_letGoBy_73 ?_
          refine g_put (σ1 := up u8 0 4 ((u8 0 4) + (nI 1))) (fs := obF ad (u8 0)) (C := RX1) (T := TX1) (N := 9) hx hb hts hin1 tyX1_ok nmX1 hown hK hP hD hS (0) (RW_ob cy ad u8) rfl 4 (by decide) wd0 rfl rfl (Nat.le_of_ble_eq_true rfl) (RW_ob_set cy ad u8 4 (by decide) _) dX1_letGoBy_74 ?_
          intro u11 eu11 H locs hP hD hS
          replace hf := hf.trans (ltt_r eu11)
          have oku11 : OkR u11 := OkR_up0 eu11 (by decide) oku8
          refine lv_iinc (v := nI (k + 1)) (lv' := [(3, .int (nI (k + 1))), (2, .int (many + r6.1)), (4, .int (nI (tn r3))), (0, .ref (ad 0)), (1, .int (nI nh))]) hx hb dX1_letGoBy_77 hl (k := 4) rfl (nI_1 _) (by decide) rfl (fun ls hl => ?_)
          refine lv_goto (tgt := 4) hx hb dX1_letGoBy_80 (by decide) ?_
          exact ih (k + 1) (many + r6.1) u11 _ _ _ (by omega) oku11 hP hD hS (lv_sub hl [3, 4, 1, 0] rfl) (fun u eu => K u (eu.trans hf.symm))
        · replace hf := hf.trans (if_pos c10)
          refine lv_aload_n hx hb dX1_letGoBy_63 rfl (lv_at hl 2 rfl) ?_
          refine g_callv (q0 := 0) (wf := (RW cy ad)) (σ := u8) (wfc := (RW cy ad)) (σc := u8) hx hb hml hown hts hK hP hD hS hA hl.1 [] pm_0 (fun u => u) (fun _ => pm_0b) [] (c_X1_endDay l D cy ad u8 oku8) (cwV 0 hts gX1_letGoBy_X1_endDay rfl rfl rfl (by decide +kernel) ⟨Nat.le_of_ble_eq_true rfl, Nat.le_of_ble_eq_true rfl⟩) (RW_ob cy ad u8) rfl rfl rfl rfl (Nat.le_of_ble_eq_true rfl) dX1_letGoBy_64 ⟨Nat.le_of_ble_eq_true rfl, Nat.le_of_ble_eq_true rfl⟩ rfl rfl ?_
          intro u12 eu12 H locs hP hD hS
          replace hf := hf.trans (ltt_r eu12)
          have oku12 : OkR u12 := (by rw [eu12]; exact ok_X1_endDay u8 oku8)
          refine lv_aload_n hx hb dX1_letGoBy_67 rfl (lv_at hl 2 rfl) ?_
          refine lv_dup hx hb dX1_letGoBy_68 rfl ?_
          refine va_get (D := D) (ci := 1) (v := .int (u12 0 4)) (C := RX1) (T := TX1) (N := 9) hx hb hts hin1 hown hK hP (0) (RW_ob cy ad u12) rfl 4 (by decide) wd0 (fun _ h9 => h9) rfl dX1_letGoBy_69 ?_
          refine lv_iconst (v := nI 1) hx hb dX1_letGoBy_72 (by decide) ?_
          refine lv_iadd hx hb dX1_letGoBy_73 ?_
          refine g_put (σ1 := up u12 0 4 ((u12 0 4) + (nI 1))) (fs := obF ad (u12 0)) (C := RX1) (T := TX1) (N := 9) hx hb hts hin1 tyX1_ok nmX1 hown hK hP hD hS (0) (RW_ob cy ad u12) rfl 4 (by decide) wd0 rfl rfl (Nat.le_of_ble_eq_true rfl) (RW_ob_set cy ad u12 4 (by decide) _) dX1_letGoBy_74 ?_
          intro u13 eu13 H locs hP hD hS
          replace hf := hf.trans (ltt_r eu13)
          have oku13 : OkR u13 := OkR_up0 eu13 (by decide) oku12
          refine lv_iinc (v := nI (k + 1)) (lv' := [(3, .int (nI (k + 1))), (2, .int (many + r6.1)), (4, .int (nI (tn r3))), (0, .ref (ad 0)), (1, .int (nI nh))]) hx hb dX1_letGoBy_77 hl (k := 4) rfl (nI_1 _) (by decide) rfl (fun ls hl => ?_)
          refine lv_goto (tgt := 4) hx hb dX1_letGoBy_80 (by decide) ?_
          exact ih (k + 1) (many + r6.1) u13 _ _ _ (by omega) oku13 hP hD hS (lv_sub hl [3, 4, 1, 0] rfl) (fun u eu => K u (eu.trans hf.symm))
      · replace hf := hf.trans (if_pos c9)
        refine lv_aload_n hx hb dX1_letGoBy_52 rfl (lv_at hl 2 rfl) ?_
        refine g_callv (q0 := 0) (wf := (RW cy ad)) (σ := u8) (wfc := (RW cy ad)) (σc := u8) hx hb hml hown hts hK hP hD hS hA hl.1 [] pm_0 (fun u => u) (fun _ => pm_0b) [] (c_X1_driveCart l D cy ad u8 oku8) (cwV 0 hts gX1_letGoBy_X1_driveCart rfl rfl rfl (by decide +kernel) ⟨Nat.le_of_ble_eq_true rfl, Nat.le_of_ble_eq_true rfl⟩) (RW_ob cy ad u8) rfl rfl rfl rfl (Nat.le_of_ble_eq_true rfl) dX1_letGoBy_53 ⟨Nat.le_of_ble_eq_true rfl, Nat.le_of_ble_eq_true rfl⟩ rfl rfl ?_
        intro u14 eu14 H locs hP hD hS
        replace hf := hf.trans (ltt_r eu14)
        have oku14 : OkR u14 := (by rw [eu14]; exact ok_X1_driveCart u8 oku8)
        refine lv_iload hx hb dX1_letGoBy_56 (lv_at hl 1 rfl) ?_
        refine lv_bipush (v := nI 23) hx hb dX1_letGoBy_58 (by decide) ?_
        refine lv_icmp_ne (tgt := 67) hx hb dX1_letGoBy_60 (by decide) (fun c15 => ?_) (fun c15 => ?_)
        · replace hf := hf.trans (if_neg c15)
          refine lv_aload_n hx hb dX1_letGoBy_67 rfl (lv_at hl 2 rfl) ?_
          refine lv_dup hx hb dX1_letGoBy_68 rfl ?_
          refine va_get (D := D) (ci := 1) (v := .int (u14 0 4)) (C := RX1) (T := TX1) (N := 9) hx hb hts hin1 hown hK hP (0) (RW_ob cy ad u14) rfl 4 (by decide) wd0 (fun _ h9 => h9) rfl dX1_letGoBy_69 ?_
          refine lv_iconst (v := nI 1) hx hb dX1_letGoBy_72 (by decide) ?_
          refine lv_iadd hx hb dX1_letGoBy_73 ?_
          refine g_put (σ1 := up u14 0 4 ((u14 0 4) + (nI 1))) (fs := obF ad (u14 0)) (C := RX1) (T := TX1) (N := 9) hx hb hts hin1 tyX1_ok nmX1 hown hK hP hD hS (0) (RW_ob cy ad u14) rfl 4 (by decide) wd0 rfl rfl (Nat.le_of_ble_eq_true rfl) (RW_ob_set cy ad u14 4 (by decide) _) dX1_letGoBy_74 ?_
          intro u16 eu16 H locs hP hD hS
          replace hf := hf.trans (ltt_r eu16)
          have oku16 : OkR u16 := OkR_up0 eu16 (by decide) oku14
          refine lv_iinc (v := nI (k + 1)) (lv' := [(3, .int (nI (k + 1))), (2, .int (many + r6.1)), (4, .int (nI (tn r3))), (0, .ref (ad 0)), (1, .int (nI nh))]) hx hb dX1_letGoBy_77 hl (k := 4) rfl (nI_1 _) (by decide) rfl (fun ls hl => ?_)
          refine lv_goto (tgt := 4) hx hb dX1_letGoBy_80 (by decide) ?_
          exact ih (k + 1) (many + r6.1) u16 _ _ _ (by omega) oku16 hP hD hS (lv_sub hl [3, 4, 1, 0] rfl) (fun u eu => K u (eu.trans hf.symm))
        · replace hf := hf.trans (if_pos c15)
          refine lv_aload_n hx hb dX1_letGoBy_63 rfl (lv_at hl 2 rfl) ?_
          refine g_callv (q0 := 0) (wf := (RW cy ad)) (σ := u14) (wfc := (RW cy ad)) (σc := u14) hx hb hml hown hts hK hP hD hS hA hl.1 [] pm_0 (fun u => u) (fun _ => pm_0b) [] (c_X1_endDay l D cy ad u14 oku14) (cwV 0 hts gX1_letGoBy_X1_endDay rfl rfl rfl (by decide +kernel) ⟨Nat.le_of_ble_eq_true rfl, Nat.le_of_ble_eq_true rfl⟩) (RW_ob cy ad u14) rfl rfl rfl rfl (Nat.le_of_ble_eq_true rfl) dX1_letGoBy_64 ⟨Nat.le_of_ble_eq_true rfl, Nat.le_of_ble_eq_true rfl⟩ rfl rfl ?_
          intro u17 eu17 H locs hP hD hS
          replace hf := hf.trans (ltt_r eu17)
          have oku17 : OkR u17 := (by rw [eu17]; exact ok_X1_endDay u14 oku14)
          refine lv_aload_n hx hb dX1_letGoBy_67 rfl (lv_at hl 2 rfl) ?_
          refine lv_dup hx hb dX1_letGoBy_68 rfl ?_
          refine va_get (D := D) (ci := 1) (v := .int (u17 0 4)) (C := RX1) (T := TX1) (N := 9) hx hb hts hin1 hown hK hP (0) (RW_ob cy ad u17) rfl 4 (by decide) wd0 (fun _ h9 => h9) rfl dX1_letGoBy_69 ?_
          refine lv_iconst (v := nI 1) hx hb dX1_letGoBy_72 (by decide) ?_
          refine lv_iadd hx hb dX1_letGoBy_73 ?_
          refine g_put (σ1 := up u17 0 4 ((u17 0 4) + (nI 1))) (fs := obF ad (u17 0)) (C := RX1) (T := TX1) (N := 9) hx hb hts hin1 tyX1_ok nmX1 hown hK hP hD hS (0) (RW_ob cy ad u17) rfl 4 (by decide) wd0 rfl rfl (Nat.le_of_ble_eq_true rfl) (RW_ob_set cy ad u17 4 (by decide) _) dX1_letGoBy_74 ?_
          intro u18 eu18 H locs hP hD hS
          replace hf := hf.trans (ltt_r eu18)
          have oku18 : OkR u18 := OkR_up0 eu18 (by decide) oku17
          refine lv_iinc (v := nI (k + 1)) (lv' := [(3, .int (nI (k + 1))), (2, .int (many + r6.1)), (4, .int (nI (tn r3))), (0, .ref (ad 0)), (1, .int (nI nh))]) hx hb dX1_letGoBy_77 hl (k := 4) rfl (nI_1 _) (by decide) rfl (fun ls hl => ?_)
          refine lv_goto (tgt := 4) hx hb dX1_letGoBy_80 (by decide) ?_
          exact ih (k + 1) (many + r6.1) u18 _ _ _ (by omega) oku18 hP hD hS (lv_sub hl [3, 4, 1, 0] rfl) (fun u eu => K u (eu.trans hf.symm))
  refine lv_iconst (v := nI 0) hx hb dX1_letGoBy_0 (by decide) ?_
  refine lv_istore_n (lv' := [(2, .int (nI 0)), (0, .ref (ad 0)), (1, .int (nI nh))]) hx hb dX1_letGoBy_1 rfl hl (by decide) rfl (fun ls hl => ?_)
  refine lv_iconst (v := nI 0) hx hb dX1_letGoBy_2 (by decide) ?_
  refine lv_istore_n (lv' := [(3, .int (nI 0)), (2, .int (nI 0)), (0, .ref (ad 0)), (1, .int (nI nh))]) hx hb dX1_letGoBy_3 rfl hl (by decide) rfl (fun ls hl => ?_)
  refine loop4  nh 0 (nI 0) σ _ _ _ (by omega) hI hP hD hS (lv_sub hl [2, 3, 1, 0] rfl) ?_
  intro q19 eq19 H locs ls hP hD hS hl
  replace hf := hf.trans (ltt_r eq19)
  refine lv_iload_n hx hb dX1_letGoBy_83 rfl (lv_at hl 2 rfl) ?_
  exact g_endi hx hb hr hlocks rfl hf hP hD hS (Nat.le_of_ble_eq_true rfl) (Nat.le_of_ble_eq_true rfl) dX1_letGoBy_84
