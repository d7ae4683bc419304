def s_X4_isWithin (x : Int32) (y : Int32) (z : Int32) : Int32 := if x < y then nI 0 else if z < x then nI 0 else nI 1
abbrev rm_X4_isWithin : Room := { frames := 0, cells := 0, slots := 0, locals := 0 }
set_option maxHeartbeats 4000000 in
set_option maxRecDepth 100000 in
theorem c_X4_isWithin (l : Launch) (D : va_G) (cy : Nat → ClassId) (x : Int32) (y : Int32) (z : Int32)  : gMr l yX4_isWithin wsX4_isWithin rm_X4_isWithin D (Ty cy) w0 [.int (x), .int (y), .int (z)] () (s_X4_isWithin x y z) 0 0 := by
  refine gstarti cX4_isWithin 3 RX4 (by decide) rfl rfl (Nat.le_of_ble_eq_true rfl) ?_
  intro p e s m below meth c A ls hx hb hml hown hts hr hlocks hK hP hD hA hS hl
  have hl : lv_has ls 3 [(0, .int (x)), (1, .int (y)), (2, .int (z))] := hl
  have hf : s_X4_isWithin x y z = s_X4_isWithin x y z := rfl
  refine lv_iload_n hx hb dX4_isWithin_0 rfl (lv_at hl 0 rfl) ?_
  refine lv_iload_n hx hb dX4_isWithin_1 rfl (lv_at hl 1 rfl) ?_
  refine lv_icmp_lt (tgt := 14) hx hb dX4_isWithin_2 (by decide) (fun c1 => ?_) (fun c1 => ?_)
  · replace hf := hf.trans (if_pos c1)
    refine lv_iconst (v := nI 0) hx hb dX4_isWithin_14 (by decide) ?_
    exact g_endi hx hb hr hlocks rfl (congrArg (fun r => (r, ())) hf) hP hD hS (Nat.le_of_ble_eq_true rfl) (Nat.le_of_ble_eq_true rfl) dX4_isWithin_15
  · replace hf := hf.trans (if_neg c1)
    refine lv_iload_n hx hb dX4_isWithin_5 rfl (lv_at hl 0 rfl) ?_
    refine lv_iload_n hx hb dX4_isWithin_6 rfl (lv_at hl 2 rfl) ?_
    refine lv_icmp_gt (tgt := 14) hx hb dX4_isWithin_7 (by decide) (fun c2 => ?_) (fun c2 => ?_)
    · replace hf := hf.trans (if_pos c2)
      refine lv_iconst (v := nI 0) hx hb dX4_isWithin_14 (by decide) ?_
      exact g_endi hx hb hr hlocks rfl (congrArg (fun r => (r, ())) hf) hP hD hS (Nat.le_of_ble_eq_true rfl) (Nat.le_of_ble_eq_true rfl) dX4_isWithin_15
    · replace hf := hf.trans (if_neg c2)
      refine lv_iconst (v := nI 1) hx hb dX4_isWithin_10 (by decide) ?_
      refine lv_goto (tgt := 15) hx hb dX4_isWithin_11 (by decide) ?_
      exact g_endi hx hb hr hlocks rfl (congrArg (fun r => (r, ())) hf) hP hD hS (Nat.le_of_ble_eq_true rfl) (Nat.le_of_ble_eq_true rfl) dX4_isWithin_15
theorem b_X4_isWithin (x : Int32) (y : Int32) (z : Int32) : narrow .boolean (.int (s_X4_isWithin x y z)) = .int (s_X4_isWithin x y z) := by
  unfold s_X4_isWithin
  (try simp only [ltt])
  repeat' split
  all_goals rfl
def s_X4_isHourOfDay (x : Int32) : Int32 := ltt (s_X4_isWithin x (nI 0) (nI 23)) (fun r1 => r1)
abbrev rm_X4_isHourOfDay : Room := { frames := 1, cells := 0, slots := 0, locals := 22 }
set_option maxHeartbeats 4000000 in
set_option maxRecDepth 100000 in
theorem c_X4_isHourOfDay (l : Launch) (D : va_G) (cy : Nat → ClassId) (x : Int32)  : gMr l yX4_isHourOfDay wsX4_isHourOfDay rm_X4_isHourOfDay D (Ty cy) w0 [.int (x)] () (s_X4_isHourOfDay x) 0 0 := by
  refine gstarti cX4_isHourOfDay 1 RX4 (by decide) rfl rfl (Nat.le_of_ble_eq_true rfl) ?_
  intro p e s m below meth c A ls hx hb hml hown hts hr hlocks hK hP hD hA hS hl
  have hl : lv_has ls 1 [(0, .int (x))] := hl
  have hf : s_X4_isHourOfDay x = s_X4_isHourOfDay x := rfl
  refine lv_iload_n hx hb dX4_isHourOfDay_0 rfl (lv_at hl 0 rfl) ?_
  refine lv_iconst (v := nI 0) hx hb dX4_isHourOfDay_1 (by decide) ?_
  refine lv_bipush (v := nI 23) hx hb dX4_isHourOfDay_2 (by decide) ?_
  refine g_callsr (wf := w0) (σ := ()) (wfc := w0) (σc := ()) hx hb hml hown hts hK hP hD hS hA hl.1 (w0 ()) (List.Perm.refl _) [.int (x), .int (nI 0), .int (nI 23)] (c_X4_isWithin l D cy x (nI 0) (nI 23) ) (va_cwS 3 hts gX4_isHourOfDay_X4_isWithin rfl rfl rfl (by decide +kernel) ⟨Nat.le_of_ble_eq_true rfl, Nat.le_of_ble_eq_true rfl⟩) rfl rfl (Nat.le_of_ble_eq_true rfl) dX4_isHourOfDay_4 ⟨Nat.le_of_ble_eq_true rfl, Nat.le_of_ble_eq_true rfl⟩ rfl rfl ?_
  intro r1 er1 H locs hP hD hS
  replace hf := hf.trans (ltt_r er1)
  exact g_endi hx hb hr hlocks (by rw [er1]; apply b_X4_isWithin) (congrArg (fun r => (r, ())) hf) hP hD hS (Nat.le_of_ble_eq_true rfl) (Nat.le_of_ble_eq_true rfl) dX4_isHourOfDay_7
theorem b_X4_isHourOfDay (x : Int32) : narrow .boolean (.int (s_X4_isHourOfDay x)) = .int (s_X4_isHourOfDay x) := by
  unfold s_X4_isHourOfDay
  (try simp only [ltt])
  exact b_X4_isWithin _ _ _
def s_X4_checkWhat (x : Int32) (y : Int32) : String ⊕ Unit := ltt (s_X4_isWithin x (nI 0) (y - (nI 1))) (fun r1 => if r1 = 0 then .inl "java/lang/IndexOutOfBoundsException" else .inr ())
abbrev rm_X4_checkWhat : Room := { frames := 6, cells := 1, slots := 6, locals := 90 }
set_option maxHeartbeats 4000000 in
set_option maxRecDepth 100000 in
theorem c_X4_checkWhat (l : Launch) (D : va_G) (cy : Nat → ClassId) (x : Int32) (y : Int32)  : gMxv l yX4_checkWhat wsX4_checkWhat rm_X4_checkWhat D (Ty cy) w0 [.int (x), .int (y)] () (s_X4_checkWhat x y) 1 6 := by
  refine gstartxv cX4_checkWhat 2 RX4 (by decide) rfl rfl (Nat.le_of_ble_eq_true rfl) ?_
  intro p e s m below meth c A ls hx hb hml hown hts hr hlocks hK hP hD hA hS hl hl0 hT hst htx
  have hl : lv_has ls 2 [(0, .int (x)), (1, .int (y))] := hl
  have hf : s_X4_checkWhat x y = s_X4_checkWhat x y := rfl
  have hat179 := hat_x (names := ["java/lang/RuntimeException", "java/lang/Exception"]) (fun w hw => hts w (by unfold wsX4_checkWhat; simp only [List.mem_cons, List.mem_append, hw, true_or, or_true])) ng_179 (by decide) htx
  have wd0 := hts (.classLink RX4 179 "java/lang/IndexOutOfBoundsException") (by decide +kernel)
  have wd1 := hts (.initialized "java/lang/IndexOutOfBoundsException") (by decide +kernel)
  refine lv_iload_n hx hb dX4_checkWhat_0 rfl (lv_at hl 0 rfl) ?_
  refine lv_iconst (v := nI 0) hx hb dX4_checkWhat_1 (by decide) ?_
  refine lv_iload_n hx hb dX4_checkWhat_2 rfl (lv_at hl 1 rfl) ?_
  refine lv_iconst (v := nI 1) hx hb dX4_checkWhat_3 (by decide) ?_
  refine lv_isub hx hb dX4_checkWhat_4 ?_
  refine g_callsr (wf := w0) (σ := ()) (wfc := w0) (σc := ()) hx hb hml hown hts hK hP hD hS hA hl.1 (w0 ()) (List.Perm.refl _) [.int (x), .int (nI 0), .int (y - (nI 1))] (c_X4_isWithin l D cy x (nI 0) (y - (nI 1)) ) (va_cwS 3 hts gX4_checkWhat_X4_isWithin rfl rfl rfl (by decide +kernel) ⟨Nat.le_of_ble_eq_true rfl, Nat.le_of_ble_eq_true rfl⟩) rfl rfl (Nat.le_of_ble_eq_true rfl) dX4_checkWhat_5 ⟨Nat.le_of_ble_eq_true rfl, Nat.le_of_ble_eq_true rfl⟩ rfl rfl ?_
  intro r1 er1 H locs hP hD hS
  replace hf := hf.trans (ltt_r er1)
  refine lv_if_ne (tgt := 21) hx hb dX4_checkWhat_8 (by decide) (fun c2 => ?_) (fun c2 => ?_)
  · replace hf := hf.trans (if_neg c2)
    exact g_endxv hx hb hr hlocks hf hP hD hS (Nat.le_of_ble_eq_true rfl) (Nat.le_of_ble_eq_true rfl) dX4_checkWhat_21
  · replace hf := hf.trans (if_pos c2)
    exact g_throw hx hb (hml.trans hl.1.symm) hl0 hown (by decide +kernel) wd0 wd1 hat179 ot_179 htx (text := "nothing is told by this number") (by decide +kernel) hst hT hlocks hf hP hD hS dX4_checkWhat_11 dX4_checkWhat_14 dX4_checkWhat_15 dX4_checkWhat_17 dX4_checkWhat_20 (Nat.le_of_ble_eq_true rfl) (Nat.le_of_ble_eq_true rfl) (Nat.le_of_ble_eq_true rfl) (Nat.le_of_ble_eq_true rfl) (Nat.le_of_ble_eq_true rfl) (Nat.le_of_ble_eq_true rfl)
def s_X4_checkHourOfDay (x : Int32) : String ⊕ Unit := ltt (s_X4_isHourOfDay x) (fun r1 => if r1 = 0 then .inl "java/lang/IndexOutOfBoundsException" else .inr ())
abbrev rm_X4_checkHourOfDay : Room := { frames := 6, cells := 1, slots := 6, locals := 90 }
set_option maxHeartbeats 4000000 in
set_option maxRecDepth 100000 in
theorem c_X4_checkHourOfDay (l : Launch) (D : va_G) (cy : Nat → ClassId) (x : Int32)  : gMxv l yX4_checkHourOfDay wsX4_checkHourOfDay rm_X4_checkHourOfDay D (Ty cy) w0 [.int (x)] () (s_X4_checkHourOfDay x) 1 6 := by
  refine gstartxv cX4_checkHourOfDay 1 RX4 (by decide) rfl rfl (Nat.le_of_ble_eq_true rfl) ?_
  intro p e s m below meth c A ls hx hb hml hown hts hr hlocks hK hP hD hA hS hl hl0 hT hst htx
  have hl : lv_has ls 1 [(0, .int (x))] := hl
  have hf : s_X4_checkHourOfDay x = s_X4_checkHourOfDay x := rfl
  have hat179 := hat_x (names := ["java/lang/RuntimeException", "java/lang/Exception"]) (fun w hw => hts w (by unfold wsX4_checkHourOfDay; simp only [List.mem_cons, List.mem_append, hw, true_or, or_true])) ng_179 (by decide) htx
  have wd0 := hts (.classLink RX4 179 "java/lang/IndexOutOfBoundsException") (by decide +kernel)
  have wd1 := hts (.initialized "java/lang/IndexOutOfBoundsException") (by decide +kernel)
  refine lv_iload_n hx hb dX4_checkHourOfDay_0 rfl (lv_at hl 0 rfl) ?_
  refine g_callsr (wf := w0) (σ := ()) (wfc := w0) (σc := ()) hx hb hml hown hts hK hP hD hS hA hl.1 (w0 ()) (List.Perm.refl _) [.int (x)] (c_X4_isHourOfDay l D cy x ) (va_cwS 1 hts gX4_checkHourOfDay_X4_isHourOfDay rfl rfl rfl (by decide +kernel) ⟨Nat.le_of_ble_eq_true rfl, Nat.le_of_ble_eq_true rfl⟩) rfl rfl (Nat.le_of_ble_eq_true rfl) dX4_checkHourOfDay_1 ⟨Nat.le_of_ble_eq_true rfl, Nat.le_of_ble_eq_true rfl⟩ rfl rfl ?_
  intro r1 er1 H locs hP hD hS
  replace hf := hf.trans (ltt_r er1)
  refine lv_if_ne (tgt := 17) hx hb dX4_checkHourOfDay_4 (by decide) (fun c2 => ?_) (fun c2 => ?_)
  · replace hf := hf.trans (if_neg c2)
    exact g_endxv hx hb hr hlocks hf hP hD hS (Nat.le_of_ble_eq_true rfl) (Nat.le_of_ble_eq_true rfl) dX4_checkHourOfDay_17
  · replace hf := hf.trans (if_pos c2)
    exact g_throw hx hb (hml.trans hl.1.symm) hl0 hown (by decide +kernel) wd0 wd1 hat179 ot_179 htx (text := "hour is 0 to 23") (by decide +kernel) hst hT hlocks hf hP hD hS dX4_checkHourOfDay_7 dX4_checkHourOfDay_10 dX4_checkHourOfDay_11 dX4_checkHourOfDay_13 dX4_checkHourOfDay_16 (Nat.le_of_ble_eq_true rfl) (Nat.le_of_ble_eq_true rfl) (Nat.le_of_ble_eq_true rfl) (Nat.le_of_ble_eq_true rfl) (Nat.le_of_ble_eq_true rfl) (Nat.le_of_ble_eq_true rfl)
def s_X4_checkHours (x : Int32) (y : Int32) : String ⊕ Unit := ltt (s_X4_isWithin x (nI 1) y) (fun r1 => if r1 = 0 then .inl "java/lang/IllegalArgumentException" else .inr ())
abbrev rm_X4_checkHours : Room := { frames := 6, cells := 1, slots := 6, locals := 90 }
set_option maxHeartbeats 4000000 in
set_option maxRecDepth 100000 in
theorem c_X4_checkHours (l : Launch) (D : va_G) (cy : Nat → ClassId) (x : Int32) (y : Int32)  : gMxv l yX4_checkHours wsX4_checkHours rm_X4_checkHours D (Ty cy) w0 [.int (x), .int (y)] () (s_X4_checkHours x y) 1 6 := by
  refine gstartxv cX4_checkHours 2 RX4 (by decide) rfl rfl (Nat.le_of_ble_eq_true rfl) ?_
  intro p e s m below meth c A ls hx hb hml hown hts hr hlocks hK hP hD hA hS hl hl0 hT hst htx
  have hl : lv_has ls 2 [(0, .int (x)), (1, .int (y))] := hl
  have hf : s_X4_checkHours x y = s_X4_checkHours x y := rfl
  have hat23 := hat_x (names := ["java/lang/RuntimeException", "java/lang/Exception"]) (fun w hw => hts w (by unfold wsX4_checkHours; simp only [List.mem_cons, List.mem_append, hw, true_or, or_true])) ng_23 (by decide) htx
  have wd0 := hts (.classLink RX4 23 "java/lang/IllegalArgumentException") (by decide +kernel)
  have wd1 := hts (.initialized "java/lang/IllegalArgumentException") (by decide +kernel)
  refine lv_iload_n hx hb dX4_checkHours_0 rfl (lv_at hl 0 rfl) ?_
  refine lv_iconst (v := nI 1) hx hb dX4_checkHours_1 (by decide) ?_
  refine lv_iload_n hx hb dX4_checkHours_2 rfl (lv_at hl 1 rfl) ?_
  refine g_callsr (wf := w0) (σ := ()) (wfc := w0) (σc := ()) hx hb hml hown hts hK hP hD hS hA hl.1 (w0 ()) (List.Perm.refl _) [.int (x), .int (nI 1), .int (y)] (c_X4_isWithin l D cy x (nI 1) y ) (va_cwS 3 hts gX4_checkHours_X4_isWithin rfl rfl rfl (by decide +kernel) ⟨Nat.le_of_ble_eq_true rfl, Nat.le_of_ble_eq_true rfl⟩) rfl rfl (Nat.le_of_ble_eq_true rfl) dX4_checkHours_3 ⟨Nat.le_of_ble_eq_true rfl, Nat.le_of_ble_eq_true rfl⟩ rfl rfl ?_
  intro r1 er1 H locs hP hD hS
  replace hf := hf.trans (ltt_r er1)
  refine lv_if_ne (tgt := 19) hx hb dX4_checkHours_6 (by decide) (fun c2 => ?_) (fun c2 => ?_)
  · replace hf := hf.trans (if_neg c2)
    exact g_endxv hx hb hr hlocks hf hP hD hS (Nat.le_of_ble_eq_true rfl) (Nat.le_of_ble_eq_true rfl) dX4_checkHours_19
  · replace hf := hf.trans (if_pos c2)
    exact g_throw hx hb (hml.trans hl.1.symm) hl0 hown (by decide +kernel) wd0 wd1 hat23 ot_23 htx (text := "hours is less than 1, or too many") (by decide +kernel) hst hT hlocks hf hP hD hS dX4_checkHours_9 dX4_checkHours_12 dX4_checkHours_13 dX4_checkHours_15 dX4_checkHours_18 (Nat.le_of_ble_eq_true rfl) (Nat.le_of_ble_eq_true rfl) (Nat.le_of_ble_eq_true rfl) (Nat.le_of_ble_eq_true rfl) (Nat.le_of_ble_eq_true rfl) (Nat.le_of_ble_eq_true rfl)
def s_X4_checkShelter (σ : Sg × Sg) (x : Int32) : String ⊕ Unit := ltt (s_X1_isShelter σ.1 x) (fun r1 => if r1 = 0 then .inl "java/lang/IndexOutOfBoundsException" else .inr ())
abbrev rm_X4_checkShelter : Room := { frames := 6, cells := 1, slots := 6, locals := 90 }
set_option maxHeartbeats 4000000 in
set_option maxRecDepth 100000 in
theorem c_X4_checkShelter (l : Launch) (D : va_G) (cy : Nat → ClassId) (ax ad ad2 : Nat → Nat) (σ : Sg × Sg) (x : Int32)  : gMxv l yX4_checkShelter wsX4_checkShelter rm_X4_checkShelter D (Ty cy) (CW cy ax ad ad2) [.ref (ax 0), .int (x)] σ (s_X4_checkShelter σ x) 1 6 := by
  refine gstartxv cX4_checkShelter 2 RX4 (by decide) rfl rfl (Nat.le_of_ble_eq_true rfl) ?_
  intro p e s m below meth c A ls hx hb hml hown hts hr hlocks hK hP hD hA hS hl hl0 hT hst htx
  have hl : lv_has ls 2 [(0, .ref (ax 0)), (1, .int (x))] := hl
  have hf : s_X4_checkShelter σ x = s_X4_checkShelter σ x := rfl
  have hin4 : ∀ w ∈ wsX40, w ∈ wsX4_checkShelter := by decide +kernel
  have hat179 := hat_x (names := ["java/lang/RuntimeException", "java/lang/Exception"]) (fun w hw => hts w (by unfold wsX4_checkShelter; simp only [List.mem_cons, List.mem_append, hw, true_or, or_true])) ng_179 (by decide) htx
  have wd0 := hts (.fieldLink RX4 10 "UmbrellaLand" "now" "LUmbrellaLand$Republic;") (by decide +kernel)
  have wd1 := hts (.classLink RX4 179 "java/lang/IndexOutOfBoundsException") (by decide +kernel)
  have wd2 := hts (.initialized "java/lang/IndexOutOfBoundsException") (by decide +kernel)
  refine lv_aload_n hx hb dX4_checkShelter_0 rfl (lv_at hl 0 rfl) ?_
  refine va_get (D := D) (ci := 4) (v := .ref (ad 0)) (C := RX4) (T := TX4) (N := 2) hx hb hts hin4 hown hK hP (0) (CW_xo cy ax σ) rfl 0 (by decide) wd0 (fun _ h9 => h9) rfl dX4_checkShelter_1 ?_
  refine lv_iload_n hx hb dX4_checkShelter_4 rfl (lv_at hl 1 rfl) ?_
  refine g_callr (q0 := 1 + (0)) (wf := (CW cy ax ad ad2)) (σ := σ) (wfc := (RW cy ad)) (σc := σ.1) hx hb hml hown hts hK hP hD hS hA hl.1 (xoC ax ad ad2 ++ RW cy ad2 (σ.2)) pm_n [.int (x)] (c_X1_isShelter l D cy ad σ.1 x ) (cwV 1 hts gX4_checkShelter_X1_isShelter rfl rfl rfl (by decide +kernel) ⟨Nat.le_of_ble_eq_true rfl, Nat.le_of_ble_eq_true rfl⟩) (gx_r (n := 1) rfl (gx_l (RW_ob cy ad σ.1))) rfl rfl rfl rfl (Nat.le_of_ble_eq_true rfl) dX4_checkShelter_5 ⟨Nat.le_of_ble_eq_true rfl, Nat.le_of_ble_eq_true rfl⟩ rfl rfl ?_
  intro r1 er1 H locs hP hD hS
  replace hf := hf.trans (ltt_r er1)
  refine lv_if_ne (tgt := 21) hx hb dX4_checkShelter_8 (by decide) (fun c2 => ?_) (fun c2 => ?_)
  · replace hf := hf.trans (if_neg c2)
    exact g_endxv hx hb hr hlocks hf hP hD hS (Nat.le_of_ble_eq_true rfl) (Nat.le_of_ble_eq_true rfl) dX4_checkShelter_21
  · replace hf := hf.trans (if_pos c2)
    exact g_throw hx hb (hml.trans hl.1.symm) hl0 hown (by decide +kernel) wd1 wd2 hat179 ot_179 htx (text := "no such shelter") (by decide +kernel) hst hT hlocks hf hP hD hS dX4_checkShelter_11 dX4_checkShelter_14 dX4_checkShelter_15 dX4_checkShelter_17 dX4_checkShelter_20 (Nat.le_of_ble_eq_true rfl) (Nat.le_of_ble_eq_true rfl) (Nat.le_of_ble_eq_true rfl) (Nat.le_of_ble_eq_true rfl) (Nat.le_of_ble_eq_true rfl) (Nat.le_of_ble_eq_true rfl)
def s_X4_checkUmbrella (σ : Sg × Sg) (x : Int32) : String ⊕ Unit := ltt (s_X1_isUmbrella σ.1 x) (fun r1 => if r1 = 0 then .inl "java/lang/IndexOutOfBoundsException" else .inr ())
abbrev rm_X4_checkUmbrella : Room := { frames := 6, cells := 1, slots := 6, locals := 90 }
set_option maxHeartbeats 4000000 in
set_option maxRecDepth 100000 in
theorem c_X4_checkUmbrella (l : Launch) (D : va_G) (cy : Nat → ClassId) (ax ad ad2 : Nat → Nat) (σ : Sg × Sg) (x : Int32)  : gMxv l yX4_checkUmbrella wsX4_checkUmbrella rm_X4_checkUmbrella D (Ty cy) (CW cy ax ad ad2) [.ref (ax 0), .int (x)] σ (s_X4_checkUmbrella σ x) 1 6 := by
  refine gstartxv cX4_checkUmbrella 2 RX4 (by decide) rfl rfl (Nat.le_of_ble_eq_true rfl) ?_
  intro p e s m below meth c A ls hx hb hml hown hts hr hlocks hK hP hD hA hS hl hl0 hT hst htx
  have hl : lv_has ls 2 [(0, .ref (ax 0)), (1, .int (x))] := hl
  have hf : s_X4_checkUmbrella σ x = s_X4_checkUmbrella σ x := rfl
  have hin4 : ∀ w ∈ wsX40, w ∈ wsX4_checkUmbrella := by decide +kernel
  have hat179 := hat_x (names := ["java/lang/RuntimeException", "java/lang/Exception"]) (fun w hw => hts w (by unfold wsX4_checkUmbrella; simp only [List.mem_cons, List.mem_append, hw, true_or, or_true])) ng_179 (by decide) htx
  have wd0 := hts (.fieldLink RX4 10 "UmbrellaLand" "now" "LUmbrellaLand$Republic;") (by decide +kernel)
  have wd1 := hts (.classLink RX4 179 "java/lang/IndexOutOfBoundsException") (by decide +kernel)
  have wd2 := hts (.initialized "java/lang/IndexOutOfBoundsException") (by decide +kernel)
  refine lv_aload_n hx hb dX4_checkUmbrella_0 rfl (lv_at hl 0 rfl) ?_
  refine va_get (D := D) (ci := 4) (v := .ref (ad 0)) (C := RX4) (T := TX4) (N := 2) hx hb hts hin4 hown hK hP (0) (CW_xo cy ax σ) rfl 0 (by decide) wd0 (fun _ h9 => h9) rfl dX4_checkUmbrella_1 ?_
  refine lv_iload_n hx hb dX4_checkUmbrella_4 rfl (lv_at hl 1 rfl) ?_
  refine g_callr (q0 := 1 + (0)) (wf := (CW cy ax ad ad2)) (σ := σ) (wfc := (RW cy ad)) (σc := σ.1) hx hb hml hown hts hK hP hD hS hA hl.1 (xoC ax ad ad2 ++ RW cy ad2 (σ.2)) pm_n [.int (x)] (c_X1_isUmbrella l D cy ad σ.1 x ) (cwV 1 hts gX4_checkUmbrella_X1_isUmbrella rfl rfl rfl (by decide +kernel) ⟨Nat.le_of_ble_eq_true rfl, Nat.le_of_ble_eq_true rfl⟩) (gx_r (n := 1) rfl (gx_l (RW_ob cy ad σ.1))) rfl rfl rfl rfl (Nat.le_of_ble_eq_true rfl) dX4_checkUmbrella_5 ⟨Nat.le_of_ble_eq_true rfl, Nat.le_of_ble_eq_true rfl⟩ rfl rfl ?_
  intro r1 er1 H locs hP hD hS
  replace hf := hf.trans (ltt_r er1)
  refine lv_if_ne (tgt := 21) hx hb dX4_checkUmbrella_8 (by decide) (fun c2 => ?_) (fun c2 => ?_)
  · replace hf := hf.trans (if_neg c2)
    exact g_endxv hx hb hr hlocks hf hP hD hS (Nat.le_of_ble_eq_true rfl) (Nat.le_of_ble_eq_true rfl) dX4_checkUmbrella_21
  · replace hf := hf.trans (if_pos c2)
    exact g_throw hx hb (hml.trans hl.1.symm) hl0 hown (by decide +kernel) wd1 wd2 hat179 ot_179 htx (text := "no such umbrella") (by decide +kernel) hst hT hlocks hf hP hD hS dX4_checkUmbrella_11 dX4_checkUmbrella_14 dX4_checkUmbrella_15 dX4_checkUmbrella_17 dX4_checkUmbrella_20 (Nat.le_of_ble_eq_true rfl) (Nat.le_of_ble_eq_true rfl) (Nat.le_of_ble_eq_true rfl) (Nat.le_of_ble_eq_true rfl) (Nat.le_of_ble_eq_true rfl) (Nat.le_of_ble_eq_true rfl)
def s_X4_checkCitizen (σ : Sg × Sg) (x : Int32) : String ⊕ Unit := ltt (s_X1_isCitizen σ.1 x) (fun r1 => if r1 = 0 then .inl "java/lang/IndexOutOfBoundsException" else .inr ())
abbrev rm_X4_checkCitizen : Room := { frames := 6, cells := 1, slots := 6, locals := 90 }
set_option maxHeartbeats 4000000 in
set_option maxRecDepth 100000 in
theorem c_X4_checkCitizen (l : Launch) (D : va_G) (cy : Nat → ClassId) (ax ad ad2 : Nat → Nat) (σ : Sg × Sg) (x : Int32)  : gMxv l yX4_checkCitizen wsX4_checkCitizen rm_X4_checkCitizen D (Ty cy) (CW cy ax ad ad2) [.ref (ax 0), .int (x)] σ (s_X4_checkCitizen σ x) 1 6 := by
  refine gstartxv cX4_checkCitizen 2 RX4 (by decide) rfl rfl (Nat.le_of_ble_eq_true rfl) ?_
  intro p e s m below meth c A ls hx hb hml hown hts hr hlocks hK hP hD hA hS hl hl0 hT hst htx
  have hl : lv_has ls 2 [(0, .ref (ax 0)), (1, .int (x))] := hl
  have hf : s_X4_checkCitizen σ x = s_X4_checkCitizen σ x := rfl
  have hin4 : ∀ w ∈ wsX40, w ∈ wsX4_checkCitizen := by decide +kernel
  have hat179 := hat_x (names := ["java/lang/RuntimeException", "java/lang/Exception"]) (fun w hw => hts w (by unfold wsX4_checkCitizen; simp only [List.mem_cons, List.mem_append, hw, true_or, or_true])) ng_179 (by decide) htx
  have wd0 := hts (.fieldLink RX4 10 "UmbrellaLand" "now" "LUmbrellaLand$Republic;") (by decide +kernel)
  have wd1 := hts (.classLink RX4 179 "java/lang/IndexOutOfBoundsException") (by decide +kernel)
  have wd2 := hts (.initialized "java/lang/IndexOutOfBoundsException") (by decide +kernel)
  refine lv_aload_n hx hb dX4_checkCitizen_0 rfl (lv_at hl 0 rfl) ?_
  refine va_get (D := D) (ci := 4) (v := .ref (ad 0)) (C := RX4) (T := TX4) (N := 2) hx hb hts hin4 hown hK hP (0) (CW_xo cy ax σ) rfl 0 (by decide) wd0 (fun _ h9 => h9) rfl dX4_checkCitizen_1 ?_
  refine lv_iload_n hx hb dX4_checkCitizen_4 rfl (lv_at hl 1 rfl) ?_
  refine g_callr (q0 := 1 + (0)) (wf := (CW cy ax ad ad2)) (σ := σ) (wfc := (RW cy ad)) (σc := σ.1) hx hb hml hown hts hK hP hD hS hA hl.1 (xoC ax ad ad2 ++ RW cy ad2 (σ.2)) pm_n [.int (x)] (c_X1_isCitizen l D cy ad σ.1 x ) (cwV 1 hts gX4_checkCitizen_X1_isCitizen rfl rfl rfl (by decide +kernel) ⟨Nat.le_of_ble_eq_true rfl, Nat.le_of_ble_eq_true rfl⟩) (gx_r (n := 1) rfl (gx_l (RW_ob cy ad σ.1))) rfl rfl rfl rfl (Nat.le_of_ble_eq_true rfl) dX4_checkCitizen_5 ⟨Nat.le_of_ble_eq_true rfl, Nat.le_of_ble_eq_true rfl⟩ rfl rfl ?_
  intro r1 er1 H locs hP hD hS
  replace hf := hf.trans (ltt_r er1)
  refine lv_if_ne (tgt := 21) hx hb dX4_checkCitizen_8 (by decide) (fun c2 => ?_) (fun c2 => ?_)
  · replace hf := hf.trans (if_neg c2)
    exact g_endxv hx hb hr hlocks hf hP hD hS (Nat.le_of_ble_eq_true rfl) (Nat.le_of_ble_eq_true rfl) dX4_checkCitizen_21
  · replace hf := hf.trans (if_pos c2)
    exact g_throw hx hb (hml.trans hl.1.symm) hl0 hown (by decide +kernel) wd1 wd2 hat179 ot_179 htx (text := "no such citizen") (by decide +kernel) hst hT hlocks hf hP hD hS dX4_checkCitizen_11 dX4_checkCitizen_14 dX4_checkCitizen_15 dX4_checkCitizen_17 dX4_checkCitizen_20 (Nat.le_of_ble_eq_true rfl) (Nat.le_of_ble_eq_true rfl) (Nat.le_of_ble_eq_true rfl) (Nat.le_of_ble_eq_true rfl) (Nat.le_of_ble_eq_true rfl) (Nat.le_of_ble_eq_true rfl)
