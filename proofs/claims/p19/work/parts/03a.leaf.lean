def s_X3_standIn (σ : Sg) (i : Nat) (x : Int32) : Sg := ltt (up σ (13 + i) 0 (nI 0)) (fun u1 => ltt (up u1 (13 + i) 1 x) (fun u2 => ltt (up u2 (13 + i) 3 (nI 0)) (fun u3 => u3)))
abbrev rm_X3_standIn : Room := { frames := 0, cells := 0, slots := 0, locals := 0 }
set_option maxHeartbeats 4000000 in
set_option maxRecDepth 100000 in
theorem c_X3_standIn (l : Launch) (D : va_G) (cy : Nat → ClassId) (ad : Nat → Nat) (σ : Sg) (i : Nat) (x : Int32) (hi : i < 40) : gMv l yX3_standIn wsX3_standIn rm_X3_standIn D (Ty cy) (RW cy ad) [.ref (ad (13 + i)), .int (x)] σ (s_X3_standIn σ i x) 0 0 := by
  refine gstartv cX3_standIn 2 RX3 (by decide) rfl rfl (Nat.le_of_ble_eq_true rfl) ?_
  intro p e s m below meth c A ls hx hb hml hown hts hr hlocks hK hP hD hA hS hl
  have hl : lv_has ls 2 [(0, .ref (ad (13 + i))), (1, .int (x))] := hl
  have hf : s_X3_standIn σ i x = s_X3_standIn σ i x := rfl
  have hin3 : ∀ w ∈ wsX30, w ∈ wsX3_standIn := by decide +kernel
  have wd0 := hts (.fieldLink RX3 25 "UmbrellaLand$Umbrella" "state" "I") (by decide +kernel)
  have wd1 := hts (.fieldLink RX3 28 "UmbrellaLand$Umbrella" "holder" "I") (by decide +kernel)
  have wd2 := hts (.fieldLink RX3 31 "UmbrellaLand$Umbrella" "waits" "I") (by decide +kernel)
  refine lv_aload_n hx hb dX3_standIn_0 rfl (lv_at hl 0 rfl) ?_
  refine lv_iconst (v := nI 0) hx hb dX3_standIn_1 (by decide) ?_
  refine g_put (σ1 := up σ (13 + i) 0 (nI 0)) (fs := umF (σ (13 + i))) (C := RX3) (T := TX3) (N := 6) hx hb hts hin3 tyX3_ok nmX3 hown hK hP hD hS (13 + i) (RW_um cy ad σ hi) rfl 0 (by decide) wd0 rfl rfl (Nat.le_of_ble_eq_true rfl) (RW_um_set cy ad σ hi 0 (by decide) _) dX3_standIn_2 ?_
  intro u1 eu1 H locs hP hD hS
  replace hf := hf.trans (ltt_r eu1)
  refine lv_aload_n hx hb dX3_standIn_5 rfl (lv_at hl 0 rfl) ?_
  refine lv_iload_n hx hb dX3_standIn_6 rfl (lv_at hl 1 rfl) ?_
  refine g_put (σ1 := up u1 (13 + i) 1 x) (fs := umF (u1 (13 + i))) (C := RX3) (T := TX3) (N := 6) hx hb hts hin3 tyX3_ok nmX3 hown hK hP hD hS (13 + i) (RW_um cy ad u1 hi) rfl 1 (by decide) wd1 rfl rfl (Nat.le_of_ble_eq_true rfl) (RW_um_set cy ad u1 hi 1 (by decide) _) dX3_standIn_7 ?_
  intro u2 eu2 H locs hP hD hS
  replace hf := hf.trans (ltt_r eu2)
  refine lv_aload_n hx hb dX3_standIn_10 rfl (lv_at hl 0 rfl) ?_
  refine lv_iconst (v := nI 0) hx hb dX3_standIn_11 (by decide) ?_
  refine g_put (σ1 := up u2 (13 + i) 3 (nI 0)) (fs := umF (u2 (13 + i))) (C := RX3) (T := TX3) (N := 6) hx hb hts hin3 tyX3_ok nmX3 hown hK hP hD hS (13 + i) (RW_um cy ad u2 hi) rfl 3 (by decide) wd2 rfl rfl (Nat.le_of_ble_eq_true rfl) (RW_um_set cy ad u2 hi 3 (by decide) _) dX3_standIn_12 ?_
  intro u3 eu3 H locs hP hD hS
  replace hf := hf.trans (ltt_r eu3)
  exact g_endv hx hb hr hlocks hf hP hD hS (Nat.le_of_ble_eq_true rfl) (Nat.le_of_ble_eq_true rfl) dX3_standIn_15
def s_X3_beNewIn (σ : Sg) (i : Nat) (x : Int32) : Sg := ltt (up σ (13 + i) 2 (nI 0)) (fun u1 => ltt (up u1 (13 + i) 4 (nI 0)) (fun u2 => ltt (up u2 (13 + i) 5 (-1 : Int32)) (fun u3 => ltt (s_X3_standIn u3 i x) (fun u4 => u4))))
abbrev rm_X3_beNewIn : Room := { frames := 1, cells := 0, slots := 0, locals := 21 }
set_option maxHeartbeats 4000000 in
set_option maxRecDepth 100000 in
theorem c_X3_beNewIn (l : Launch) (D : va_G) (cy : Nat → ClassId) (ad : Nat → Nat) (σ : Sg) (i : Nat) (x : Int32) (hi : i < 40) : gMv l yX3_beNewIn wsX3_beNewIn rm_X3_beNewIn D (Ty cy) (RW cy ad) [.ref (ad (13 + i)), .int (x)] σ (s_X3_beNewIn σ i x) 0 0 := by
  refine gstartv cX3_beNewIn 2 RX3 (by decide) rfl rfl (Nat.le_of_ble_eq_true rfl) ?_
  intro p e s m below meth c A ls hx hb hml hown hts hr hlocks hK hP hD hA hS hl
  have hl : lv_has ls 2 [(0, .ref (ad (13 + i))), (1, .int (x))] := hl
  have hf : s_X3_beNewIn σ i x = s_X3_beNewIn σ i x := rfl
  have hin3 : ∀ w ∈ wsX30, w ∈ wsX3_beNewIn := by decide +kernel
  have wd0 := hts (.fieldLink RX3 9 "UmbrellaLand$Umbrella" "wear" "I") (by decide +kernel)
  have wd1 := hts (.fieldLink RX3 15 "UmbrellaLand$Umbrella" "taken" "I") (by decide +kernel)
  have wd2 := hts (.fieldLink RX3 18 "UmbrellaLand$Umbrella" "takenFrom" "I") (by decide +kernel)
  refine lv_aload_n hx hb dX3_beNewIn_0 rfl (lv_at hl 0 rfl) ?_
  refine lv_iconst (v := nI 0) hx hb dX3_beNewIn_1 (by decide) ?_
  refine g_put (σ1 := up σ (13 + i) 2 (nI 0)) (fs := umF (σ (13 + i))) (C := RX3) (T := TX3) (N := 6) hx hb hts hin3 tyX3_ok nmX3 hown hK hP hD hS (13 + i) (RW_um cy ad σ hi) rfl 2 (by decide) wd0 rfl rfl (Nat.le_of_ble_eq_true rfl) (RW_um_set cy ad σ hi 2 (by decide) _) dX3_beNewIn_2 ?_
  intro u1 eu1 H locs hP hD hS
  replace hf := hf.trans (ltt_r eu1)
  refine lv_aload_n hx hb dX3_beNewIn_5 rfl (lv_at hl 0 rfl) ?_
  refine lv_iconst (v := nI 0) hx hb dX3_beNewIn_6 (by decide) ?_
  refine g_put (σ1 := up u1 (13 + i) 4 (nI 0)) (fs := umF (u1 (13 + i))) (C := RX3) (T := TX3) (N := 6) hx hb hts hin3 tyX3_ok nmX3 hown hK hP hD hS (13 + i) (RW_um cy ad u1 hi) rfl 4 (by decide) wd1 rfl rfl (Nat.le_of_ble_eq_true rfl) (RW_um_set cy ad u1 hi 4 (by decide) _) dX3_beNewIn_7 ?_
  intro u2 eu2 H locs hP hD hS
  replace hf := hf.trans (ltt_r eu2)
  refine lv_aload_n hx hb dX3_beNewIn_10 rfl (lv_at hl 0 rfl) ?_
  refine lv_iconst (v := (-1 : Int32)) hx hb dX3_beNewIn_11 (by decide) ?_
  refine g_put (σ1 := up u2 (13 + i) 5 (-1 : Int32)) (fs := umF (u2 (13 + i))) (C := RX3) (T := TX3) (N := 6) hx hb hts hin3 tyX3_ok nmX3 hown hK hP hD hS (13 + i) (RW_um cy ad u2 hi) rfl 5 (by decide) wd2 rfl rfl (Nat.le_of_ble_eq_true rfl) (RW_um_set cy ad u2 hi 5 (by decide) _) dX3_beNewIn_12 ?_
  intro u3 eu3 H locs hP hD hS
  replace hf := hf.trans (ltt_r eu3)
  refine lv_aload_n hx hb dX3_beNewIn_15 rfl (lv_at hl 0 rfl) ?_
  refine lv_iload_n hx hb dX3_beNewIn_16 rfl (lv_at hl 1 rfl) ?_
  refine g_callv (q0 := 13 + i) (wf := (RW cy ad)) (σ := u3) (wfc := (RW cy ad)) (σc := u3) hx hb hml hown hts hK hP hD hS hA hl.1 [] pm_0 (fun u => u) (fun _ => pm_0b) [.int (x)] (c_X3_standIn l D cy ad u3 i x hi) (cwV 1 hts gX3_beNewIn_X3_standIn rfl rfl rfl (by decide +kernel) ⟨Nat.le_of_ble_eq_true rfl, Nat.le_of_ble_eq_true rfl⟩) (RW_um cy ad u3 hi) rfl rfl rfl rfl (Nat.le_of_ble_eq_true rfl) dX3_beNewIn_17 ⟨Nat.le_of_ble_eq_true rfl, Nat.le_of_ble_eq_true rfl⟩ rfl rfl ?_
  intro u4 eu4 H locs hP hD hS
  replace hf := hf.trans (ltt_r eu4)
  exact g_endv hx hb hr hlocks hf hP hD hS (Nat.le_of_ble_eq_true rfl) (Nat.le_of_ble_eq_true rfl) dX3_beNewIn_20
def s_X3_standsIn (σ : Sg) (i : Nat) (x : Int32) : Int32 := if (σ (13 + i) 0) = 0 then if (σ (13 + i) 1) = x then nI 1 else nI 0 else nI 0
abbrev rm_X3_standsIn : Room := { frames := 0, cells := 0, slots := 0, locals := 0 }
set_option maxHeartbeats 4000000 in
set_option maxRecDepth 100000 in
theorem c_X3_standsIn (l : Launch) (D : va_G) (cy : Nat → ClassId) (ad : Nat → Nat) (σ : Sg) (i : Nat) (x : Int32) (hi : i < 40) : gMr l yX3_standsIn wsX3_standsIn rm_X3_standsIn D (Ty cy) (RW cy ad) [.ref (ad (13 + i)), .int (x)] σ (s_X3_standsIn σ i x) 0 0 := by
  refine gstarti cX3_standsIn 2 RX3 (by decide) rfl rfl (Nat.le_of_ble_eq_true rfl) ?_
  intro p e s m below meth c A ls hx hb hml hown hts hr hlocks hK hP hD hA hS hl
  have hl : lv_has ls 2 [(0, .ref (ad (13 + i))), (1, .int (x))] := hl
  have hf : s_X3_standsIn σ i x = s_X3_standsIn σ i x := rfl
  have hin3 : ∀ w ∈ wsX30, w ∈ wsX3_standsIn := by decide +kernel
  have wd0 := hts (.fieldLink RX3 25 "UmbrellaLand$Umbrella" "state" "I") (by decide +kernel)
  have wd1 := hts (.fieldLink RX3 28 "UmbrellaLand$Umbrella" "holder" "I") (by decide +kernel)
  refine lv_aload_n hx hb dX3_standsIn_0 rfl (lv_at hl 0 rfl) ?_
  refine va_get (D := D) (ci := 3) (v := .int (σ (13 + i) 0)) (C := RX3) (T := TX3) (N := 6) hx hb hts hin3 hown hK hP (13 + i) (RW_um cy ad σ hi) rfl 0 (by decide) wd0 (fun _ h9 => h9) rfl dX3_standsIn_1 ?_
  refine lv_if_ne (tgt := 19) hx hb dX3_standsIn_4 (by decide) (fun c1 => ?_) (fun c1 => ?_)
  · replace hf := hf.trans (if_neg c1)
    refine lv_iconst (v := nI 0) hx hb dX3_standsIn_19 (by decide) ?_
    exact g_endi hx hb hr hlocks rfl (congrArg (fun r => (r, σ)) hf) hP hD hS (Nat.le_of_ble_eq_true rfl) (Nat.le_of_ble_eq_true rfl) dX3_standsIn_20
  · replace hf := hf.trans (if_pos c1)
    refine lv_aload_n hx hb dX3_standsIn_7 rfl (lv_at hl 0 rfl) ?_
    refine va_get (D := D) (ci := 3) (v := .int (σ (13 + i) 1)) (C := RX3) (T := TX3) (N := 6) hx hb hts hin3 hown hK hP (13 + i) (RW_um cy ad σ hi) rfl 1 (by decide) wd1 (fun _ h9 => h9) rfl dX3_standsIn_8 ?_
    refine lv_iload_n hx hb dX3_standsIn_11 rfl (lv_at hl 1 rfl) ?_
    refine lv_icmp_ne (tgt := 19) hx hb dX3_standsIn_12 (by decide) (fun c2 => ?_) (fun c2 => ?_)
    · replace hf := hf.trans (if_neg c2)
      refine lv_iconst (v := nI 0) hx hb dX3_standsIn_19 (by decide) ?_
      exact g_endi hx hb hr hlocks rfl (congrArg (fun r => (r, σ)) hf) hP hD hS (Nat.le_of_ble_eq_true rfl) (Nat.le_of_ble_eq_true rfl) dX3_standsIn_20
    · replace hf := hf.trans (if_pos c2)
      refine lv_iconst (v := nI 1) hx hb dX3_standsIn_15 (by decide) ?_
      refine lv_goto (tgt := 20) hx hb dX3_standsIn_16 (by decide) ?_
      exact g_endi hx hb hr hlocks rfl (congrArg (fun r => (r, σ)) hf) hP hD hS (Nat.le_of_ble_eq_true rfl) (Nat.le_of_ble_eq_true rfl) dX3_standsIn_20
theorem b_X3_standsIn (σ : Sg) (i : Nat) (x : Int32) : narrow .boolean (.int (s_X3_standsIn σ i x)) = .int (s_X3_standsIn σ i x) := by
  unfold s_X3_standsIn
  (try simp only [ltt])
  repeat' split
  all_goals rfl
def s_X3_goWith (σ : Sg) (i : Nat) (x : Int32) : Sg := ltt (up σ (13 + i) 5 (σ (13 + i) 1)) (fun u1 => ltt (up u1 (13 + i) 4 ((u1 (13 + i) 4) + (nI 1))) (fun u2 => ltt (up u2 (13 + i) 0 (nI 1)) (fun u3 => ltt (up u3 (13 + i) 1 x) (fun u4 => u4))))
abbrev rm_X3_goWith : Room := { frames := 0, cells := 0, slots := 0, locals := 0 }
set_option maxHeartbeats 4000000 in
set_option maxRecDepth 100000 in
theorem c_X3_goWith (l : Launch) (D : va_G) (cy : Nat → ClassId) (ad : Nat → Nat) (σ : Sg) (i : Nat) (x : Int32) (hi : i < 40) : gMv l yX3_goWith wsX3_goWith rm_X3_goWith D (Ty cy) (RW cy ad) [.ref (ad (13 + i)), .int (x)] σ (s_X3_goWith σ i x) 0 0 := by
  refine gstartv cX3_goWith 2 RX3 (by decide) rfl rfl (Nat.le_of_ble_eq_true rfl) ?_
  intro p e s m below meth c A ls hx hb hml hown hts hr hlocks hK hP hD hA hS hl
  have hl : lv_has ls 2 [(0, .ref (ad (13 + i))), (1, .int (x))] := hl
  have hf : s_X3_goWith σ i x = s_X3_goWith σ i x := rfl
  have hin3 : ∀ w ∈ wsX30, w ∈ wsX3_goWith := by decide +kernel
  have wd0 := hts (.fieldLink RX3 28 "UmbrellaLand$Umbrella" "holder" "I") (by decide +kernel)
  have wd1 := hts (.fieldLink RX3 18 "UmbrellaLand$Umbrella" "takenFrom" "I") (by decide +kernel)
  have wd2 := hts (.fieldLink RX3 15 "UmbrellaLand$Umbrella" "taken" "I") (by decide +kernel)
  have wd3 := hts (.fieldLink RX3 25 "UmbrellaLand$Umbrella" "state" "I") (by decide +kernel)
  refine lv_aload_n hx hb dX3_goWith_0 rfl (lv_at hl 0 rfl) ?_
  refine lv_aload_n hx hb dX3_goWith_1 rfl (lv_at hl 0 rfl) ?_
  refine va_get (D := D) (ci := 3) (v := .int (σ (13 + i) 1)) (C := RX3) (T := TX3) (N := 6) hx hb hts hin3 hown hK hP (13 + i) (RW_um cy ad σ hi) rfl 1 (by decide) wd0 (fun _ h9 => h9) rfl dX3_goWith_2 ?_
  refine g_put (σ1 := up σ (13 + i) 5 (σ (13 + i) 1)) (fs := umF (σ (13 + i))) (C := RX3) (T := TX3) (N := 6) hx hb hts hin3 tyX3_ok nmX3 hown hK hP hD hS (13 + i) (RW_um cy ad σ hi) rfl 5 (by decide) wd1 rfl rfl (Nat.le_of_ble_eq_true rfl) (RW_um_set cy ad σ hi 5 (by decide) _) dX3_goWith_5 ?_
  intro u1 eu1 H locs hP hD hS
  replace hf := hf.trans (ltt_r eu1)
  refine lv_aload_n hx hb dX3_goWith_8 rfl (lv_at hl 0 rfl) ?_
  refine lv_dup hx hb dX3_goWith_9 rfl ?_
  refine va_get (D := D) (ci := 3) (v := .int (u1 (13 + i) 4)) (C := RX3) (T := TX3) (N := 6) hx hb hts hin3 hown hK hP (13 + i) (RW_um cy ad u1 hi) rfl 4 (by decide) wd2 (fun _ h9 => h9) rfl dX3_goWith_10 ?_
  refine lv_iconst (v := nI 1) hx hb dX3_goWith_13 (by decide) ?_
  refine lv_iadd hx hb dX3_goWith_14 ?_
  refine g_put (σ1 := up u1 (13 + i) 4 ((u1 (13 + i) 4) + (nI 1))) (fs := umF (u1 (13 + i))) (C := RX3) (T := TX3) (N := 6) hx hb hts hin3 tyX3_ok nmX3 hown hK hP hD hS (13 + i) (RW_um cy ad u1 hi) rfl 4 (by decide) wd2 rfl rfl (Nat.le_of_ble_eq_true rfl) (RW_um_set cy ad u1 hi 4 (by decide) _) dX3_goWith_15 ?_
  intro u2 eu2 H locs hP hD hS
  replace hf := hf.trans (ltt_r eu2)
  refine lv_aload_n hx hb dX3_goWith_18 rfl (lv_at hl 0 rfl) ?_
  refine lv_iconst (v := nI 1) hx hb dX3_goWith_19 (by decide) ?_
  refine g_put (σ1 := up u2 (13 + i) 0 (nI 1)) (fs := umF (u2 (13 + i))) (C := RX3) (T := TX3) (N := 6) hx hb hts hin3 tyX3_ok nmX3 hown hK hP hD hS (13 + i) (RW_um cy ad u2 hi) rfl 0 (by decide) wd3 rfl rfl (Nat.le_of_ble_eq_true rfl) (RW_um_set cy ad u2 hi 0 (by decide) _) dX3_goWith_20 ?_
  intro u3 eu3 H locs hP hD hS
  replace hf := hf.trans (ltt_r eu3)
  refine lv_aload_n hx hb dX3_goWith_23 rfl (lv_at hl 0 rfl) ?_
  refine lv_iload_n hx hb dX3_goWith_24 rfl (lv_at hl 1 rfl) ?_
  refine g_put (σ1 := up u3 (13 + i) 1 x) (fs := umF (u3 (13 + i))) (C := RX3) (T := TX3) (N := 6) hx hb hts hin3 tyX3_ok nmX3 hown hK hP hD hS (13 + i) (RW_um cy ad u3 hi) rfl 1 (by decide) wd0 rfl rfl (Nat.le_of_ble_eq_true rfl) (RW_um_set cy ad u3 hi 1 (by decide) _) dX3_goWith_25 ?_
  intro u4 eu4 H locs hP hD hS
  replace hf := hf.trans (ltt_r eu4)
  exact g_endv hx hb hr hlocks hf hP hD hS (Nat.le_of_ble_eq_true rfl) (Nat.le_of_ble_eq_true rfl) dX3_goWith_28
def s_X3_stayAway (σ : Sg) (i : Nat) (x : Int32) (y : Int32) : Sg := ltt (up σ (13 + i) 0 x) (fun u1 => ltt (up u1 (13 + i) 1 (-1 : Int32)) (fun u2 => ltt (up u2 (13 + i) 3 y) (fun u3 => u3)))
abbrev rm_X3_stayAway : Room := { frames := 0, cells := 0, slots := 0, locals := 0 }
set_option maxHeartbeats 4000000 in
set_option maxRecDepth 100000 in
theorem c_X3_stayAway (l : Launch) (D : va_G) (cy : Nat → ClassId) (ad : Nat → Nat) (σ : Sg) (i : Nat) (x : Int32) (y : Int32) (hi : i < 40) : gMv l yX3_stayAway wsX3_stayAway rm_X3_stayAway D (Ty cy) (RW cy ad) [.ref (ad (13 + i)), .int (x), .int (y)] σ (s_X3_stayAway σ i x y) 0 0 := by
  refine gstartv cX3_stayAway 3 RX3 (by decide) rfl rfl (Nat.le_of_ble_eq_true rfl) ?_
  intro p e s m below meth c A ls hx hb hml hown hts hr hlocks hK hP hD hA hS hl
  have hl : lv_has ls 3 [(0, .ref (ad (13 + i))), (1, .int (x)), (2, .int (y))] := hl
  have hf : s_X3_stayAway σ i x y = s_X3_stayAway σ i x y := rfl
  have hin3 : ∀ w ∈ wsX30, w ∈ wsX3_stayAway := by decide +kernel
  have wd0 := hts (.fieldLink RX3 25 "UmbrellaLand$Umbrella" "state" "I") (by decide +kernel)
  have wd1 := hts (.fieldLink RX3 28 "UmbrellaLand$Umbrella" "holder" "I") (by decide +kernel)
  have wd2 := hts (.fieldLink RX3 31 "UmbrellaLand$Umbrella" "waits" "I") (by decide +kernel)
  refine lv_aload_n hx hb dX3_stayAway_0 rfl (lv_at hl 0 rfl) ?_
  refine lv_iload_n hx hb dX3_stayAway_1 rfl (lv_at hl 1 rfl) ?_
  refine g_put (σ1 := up σ (13 + i) 0 x) (fs := umF (σ (13 + i))) (C := RX3) (T := TX3) (N := 6) hx hb hts hin3 tyX3_ok nmX3 hown hK hP hD hS (13 + i) (RW_um cy ad σ hi) rfl 0 (by decide) wd0 rfl rfl (Nat.le_of_ble_eq_true rfl) (RW_um_set cy ad σ hi 0 (by decide) _) dX3_stayAway_2 ?_
  intro u1 eu1 H locs hP hD hS
  replace hf := hf.trans (ltt_r eu1)
  refine lv_aload_n hx hb dX3_stayAway_5 rfl (lv_at hl 0 rfl) ?_
  refine lv_iconst (v := (-1 : Int32)) hx hb dX3_stayAway_6 (by decide) ?_
  refine g_put (σ1 := up u1 (13 + i) 1 (-1 : Int32)) (fs := umF (u1 (13 + i))) (C := RX3) (T := TX3) (N := 6) hx hb hts hin3 tyX3_ok nmX3 hown hK hP hD hS (13 + i) (RW_um cy ad u1 hi) rfl 1 (by decide) wd1 rfl rfl (Nat.le_of_ble_eq_true rfl) (RW_um_set cy ad u1 hi 1 (by decide) _) dX3_stayAway_7 ?_
  intro u2 eu2 H locs hP hD hS
  replace hf := hf.trans (ltt_r eu2)
  refine lv_aload_n hx hb dX3_stayAway_10 rfl (lv_at hl 0 rfl) ?_
  refine lv_iload_n hx hb dX3_stayAway_11 rfl (lv_at hl 2 rfl) ?_
  refine g_put (σ1 := up u2 (13 + i) 3 y) (fs := umF (u2 (13 + i))) (C := RX3) (T := TX3) (N := 6) hx hb hts hin3 tyX3_ok nmX3 hown hK hP hD hS (13 + i) (RW_um cy ad u2 hi) rfl 3 (by decide) wd2 rfl rfl (Nat.le_of_ble_eq_true rfl) (RW_um_set cy ad u2 hi 3 (by decide) _) dX3_stayAway_12 ?_
  intro u3 eu3 H locs hP hD hS
  replace hf := hf.trans (ltt_r eu3)
  exact g_endv hx hb hr hlocks hf hP hD hS (Nat.le_of_ble_eq_true rfl) (Nat.le_of_ble_eq_true rfl) dX3_stayAway_15
def s_X3_waitAnHour (σ : Sg) (i : Nat) : Sg := if (σ (13 + i) 3) = 0 then σ else ltt (up σ (13 + i) 3 ((σ (13 + i) 3) - (nI 1))) (fun u2 => if (u2 (13 + i) 3) ≤ 0 then if (u2 (13 + i) 0) = (nI 3) then ltt (up u2 (13 + i) 2 (nI 0)) (fun u6 => ltt (s_X3_standIn u6 i (nI 0)) (fun u7 => u7)) else ltt (s_X3_standIn u2 i (u2 (13 + i) 5)) (fun u5 => u5) else u2)
abbrev rm_X3_waitAnHour : Room := { frames := 1, cells := 0, slots := 0, locals := 21 }
set_option maxHeartbeats 4000000 in
set_option maxRecDepth 100000 in
theorem c_X3_waitAnHour (l : Launch) (D : va_G) (cy : Nat → ClassId) (ad : Nat → Nat) (σ : Sg) (i : Nat) (hi : i < 40) : gMv l yX3_waitAnHour wsX3_waitAnHour rm_X3_waitAnHour D (Ty cy) (RW cy ad) [.ref (ad (13 + i))] σ (s_X3_waitAnHour σ i) 0 0 := by
  refine gstartv cX3_waitAnHour 1 RX3 (by decide) rfl rfl (Nat.le_of_ble_eq_true rfl) ?_
  intro p e s m below meth c A ls hx hb hml hown hts hr hlocks hK hP hD hA hS hl
  have hl : lv_has ls 1 [(0, .ref (ad (13 + i)))] := hl
  have hf : s_X3_waitAnHour σ i = s_X3_waitAnHour σ i := rfl
  have hin3 : ∀ w ∈ wsX30, w ∈ wsX3_waitAnHour := by decide +kernel
  have wd0 := hts (.fieldLink RX3 31 "UmbrellaLand$Umbrella" "waits" "I") (by decide +kernel)
  have wd1 := hts (.fieldLink RX3 25 "UmbrellaLand$Umbrella" "state" "I") (by decide +kernel)
  have wd2 := hts (.fieldLink RX3 18 "UmbrellaLand$Umbrella" "takenFrom" "I") (by decide +kernel)
  have wd3 := hts (.fieldLink RX3 9 "UmbrellaLand$Umbrella" "wear" "I") (by decide +kernel)
  refine lv_aload_n hx hb dX3_waitAnHour_0 rfl (lv_at hl 0 rfl) ?_
  refine va_get (D := D) (ci := 3) (v := .int (σ (13 + i) 3)) (C := RX3) (T := TX3) (N := 6) hx hb hts hin3 hown hK hP (13 + i) (RW_um cy ad σ hi) rfl 3 (by decide) wd0 (fun _ h9 => h9) rfl dX3_waitAnHour_1 ?_
  refine lv_if_ne (tgt := 8) hx hb dX3_waitAnHour_4 (by decide) (fun c1 => ?_) (fun c1 => ?_)
  · replace hf := hf.trans (if_neg c1)
    refine lv_aload_n hx hb dX3_waitAnHour_8 rfl (lv_at hl 0 rfl) ?_
    refine lv_dup hx hb dX3_waitAnHour_9 rfl ?_
    refine va_get (D := D) (ci := 3) (v := .int (σ (13 + i) 3)) (C := RX3) (T := TX3) (N := 6) hx hb hts hin3 hown hK hP (13 + i) (RW_um cy ad σ hi) rfl 3 (by decide) wd0 (fun _ h9 => h9) rfl dX3_waitAnHour_10 ?_
    refine lv_iconst (v := nI 1) hx hb dX3_waitAnHour_13 (by decide) ?_
    refine lv_isub hx hb dX3_waitAnHour_14 ?_
    refine g_put (σ1 := up σ (13 + i) 3 ((σ (13 + i) 3) - (nI 1))) (fs := umF (σ (13 + i))) (C := RX3) (T := TX3) (N := 6) hx hb hts hin3 tyX3_ok nmX3 hown hK hP hD hS (13 + i) (RW_um cy ad σ hi) rfl 3 (by decide) wd0 rfl rfl (Nat.le_of_ble_eq_true rfl) (RW_um_set cy ad σ hi 3 (by decide) _) dX3_waitAnHour_15 ?_
    intro u2 eu2 H locs hP hD hS
    replace hf := hf.trans (ltt_r eu2)
    refine lv_aload_n hx hb dX3_waitAnHour_18 rfl (lv_at hl 0 rfl) ?_
    refine va_get (D := D) (ci := 3) (v := .int (u2 (13 + i) 3)) (C := RX3) (T := TX3) (N := 6) hx hb hts hin3 hown hK hP (13 + i) (RW_um cy ad u2 hi) rfl 3 (by decide) wd0 (fun _ h9 => h9) rfl dX3_waitAnHour_19 ?_
    refine lv_if_le (tgt := 26) hx hb dX3_waitAnHour_22 (by decide) (fun c3 => ?_) (fun c3 => ?_)
    · replace hf := hf.trans (if_pos c3)
      refine lv_aload_n hx hb dX3_waitAnHour_26 rfl (lv_at hl 0 rfl) ?_
      refine va_get (D := D) (ci := 3) (v := .int (u2 (13 + i) 0)) (C := RX3) (T := TX3) (N := 6) hx hb hts hin3 hown hK hP (13 + i) (RW_um cy ad u2 hi) rfl 0 (by decide) wd1 (fun _ h9 => h9) rfl dX3_waitAnHour_27 ?_
      refine lv_iconst (v := nI 3) hx hb dX3_waitAnHour_30 (by decide) ?_
      refine lv_icmp_ne (tgt := 47) hx hb dX3_waitAnHour_31 (by decide) (fun c4 => ?_) (fun c4 => ?_)
      · replace hf := hf.trans (if_neg c4)
        refine lv_aload_n hx hb dX3_waitAnHour_47 rfl (lv_at hl 0 rfl) ?_
        refine lv_aload_n hx hb dX3_waitAnHour_48 rfl (lv_at hl 0 rfl) ?_
        refine va_get (D := D) (ci := 3) (v := .int (u2 (13 + i) 5)) (C := RX3) (T := TX3) (N := 6) hx hb hts hin3 hown hK hP (13 + i) (RW_um cy ad u2 hi) rfl 5 (by decide) wd2 (fun _ h9 => h9) rfl dX3_waitAnHour_49 ?_
        refine g_callv (q0 := 13 + i) (wf := (RW cy ad)) (σ := u2) (wfc := (RW cy ad)) (σc := u2) hx hb hml hown hts hK hP hD hS hA hl.1 [] pm_0 (fun u => u) (fun _ => pm_0b) [.int (u2 (13 + i) 5)] (c_X3_standIn l D cy ad u2 i (u2 (13 + i) 5) hi) (cwV 1 hts gX3_waitAnHour_X3_standIn rfl rfl rfl (by decide +kernel) ⟨Nat.le_of_ble_eq_true rfl, Nat.le_of_ble_eq_true rfl⟩) (RW_um cy ad u2 hi) rfl rfl rfl rfl (Nat.le_of_ble_eq_true rfl) dX3_waitAnHour_52 ⟨Nat.le_of_ble_eq_true rfl, Nat.le_of_ble_eq_true rfl⟩ rfl rfl ?_
        intro u5 eu5 H locs hP hD hS
        replace hf := hf.trans (ltt_r eu5)
        exact g_endv hx hb hr hlocks hf hP hD hS (Nat.le_of_ble_eq_true rfl) (Nat.le_of_ble_eq_true rfl) dX3_waitAnHour_55
      · replace hf := hf.trans (if_pos c4)
        refine lv_aload_n hx hb dX3_waitAnHour_34 rfl (lv_at hl 0 rfl) ?_
        refine lv_iconst (v := nI 0) hx hb dX3_waitAnHour_35 (by decide) ?_
        refine g_put (σ1 := up u2 (13 + i) 2 (nI 0)) (fs := umF (u2 (13 + i))) (C := RX3) (T := TX3) (N := 6) hx hb hts hin3 tyX3_ok nmX3 hown hK hP hD hS (13 + i) (RW_um cy ad u2 hi) rfl 2 (by decide) wd3 rfl rfl (Nat.le_of_ble_eq_true rfl) (RW_um_set cy ad u2 hi 2 (by decide) _) dX3_waitAnHour_36 ?_
        intro u6 eu6 H locs hP hD hS
        replace hf := hf.trans (ltt_r eu6)
        refine lv_aload_n hx hb dX3_waitAnHour_39 rfl (lv_at hl 0 rfl) ?_
        refine lv_iconst (v := nI 0) hx hb dX3_waitAnHour_40 (by decide) ?_
        refine g_callv (q0 := 13 + i) (wf := (RW cy ad)) (σ := u6) (wfc := (RW cy ad)) (σc := u6) hx hb hml hown hts hK hP hD hS hA hl.1 [] pm_0 (fun u => u) (fun _ => pm_0b) [.int (nI 0)] (c_X3_standIn l D cy ad u6 i (nI 0) hi) (cwV 1 hts gX3_waitAnHour_X3_standIn rfl rfl rfl (by decide +kernel) ⟨Nat.le_of_ble_eq_true rfl, Nat.le_of_ble_eq_true rfl⟩) (RW_um cy ad u6 hi) rfl rfl rfl rfl (Nat.le_of_ble_eq_true rfl) dX3_waitAnHour_41 ⟨Nat.le_of_ble_eq_true rfl, Nat.le_of_ble_eq_true rfl⟩ rfl rfl ?_
        intro u7 eu7 H locs hP hD hS
        replace hf := hf.trans (ltt_r eu7)
        refine lv_goto (tgt := 55) hx hb dX3_waitAnHour_44 (by decide) ?_
        exact g_endv hx hb hr hlocks hf hP hD hS (Nat.le_of_ble_eq_true rfl) (Nat.le_of_ble_eq_true rfl) dX3_waitAnHour_55
    · replace hf := hf.trans (if_neg c3)
      exact g_endv hx hb hr hlocks hf hP hD hS (Nat.le_of_ble_eq_true rfl) (Nat.le_of_ble_eq_true rfl) dX3_waitAnHour_25
  · replace hf := hf.trans (if_pos c1)
    exact g_endv hx hb hr hlocks hf hP hD hS (Nat.le_of_ble_eq_true rfl) (Nat.le_of_ble_eq_true rfl) dX3_waitAnHour_7
def s_X0_settle (σ : Sg) (i : Nat) (x : Int32) (y : Int32) (z : Int32) : Sg := ltt (up σ (53 + i) 0 x) (fun u1 => ltt (up u1 (53 + i) 1 y) (fun u2 => ltt (up u2 (53 + i) 5 z) (fun u3 => ltt (up u3 (53 + i) 6 x) (fun u4 => ltt (up u4 (53 + i) 7 x) (fun u5 => ltt (up u5 (53 + i) 9 (-1 : Int32)) (fun u6 => ltt (up u6 (53 + i) 10 (nI 5)) (fun u7 => u7)))))))
abbrev rm_X0_settle : Room := { frames := 0, cells := 0, slots := 0, locals := 0 }
set_option maxHeartbeats 4000000 in
set_option maxRecDepth 100000 in
theorem c_X0_settle (l : Launch) (D : va_G) (cy : Nat → ClassId) (ad : Nat → Nat) (σ : Sg) (i : Nat) (x : Int32) (y : Int32) (z : Int32) (hi : i < 10) : gMv l yX0_settle wsX0_settle rm_X0_settle D (Ty cy) (RW cy ad) [.ref (ad (53 + i)), .int (x), .int (y), .int (z)] σ (s_X0_settle σ i x y z) 0 0 := by
  refine gstartv cX0_settle 4 RX0 (by decide) rfl rfl (Nat.le_of_ble_eq_true rfl) ?_
  intro p e s m below meth c A ls hx hb hml hown hts hr hlocks hK hP hD hA hS hl
  have hl : lv_has ls 4 [(0, .ref (ad (53 + i))), (1, .int (x)), (2, .int (y)), (3, .int (z))] := hl
  have hf : s_X0_settle σ i x y z = s_X0_settle σ i x y z := rfl
  have hin0 : ∀ w ∈ wsX00, w ∈ wsX0_settle := by decide +kernel
  have wd0 := hts (.fieldLink RX0 9 "UmbrellaLand$Citizen" "home" "I") (by decide +kernel)
  have wd1 := hts (.fieldLink RX0 15 "UmbrellaLand$Citizen" "work" "I") (by decide +kernel)
  have wd2 := hts (.fieldLink RX0 18 "UmbrellaLand$Citizen" "hoursOfWalk" "I") (by decide +kernel)
  have wd3 := hts (.fieldLink RX0 21 "UmbrellaLand$Citizen" "stays" "I") (by decide +kernel)
  have wd4 := hts (.fieldLink RX0 24 "UmbrellaLand$Citizen" "goal" "I") (by decide +kernel)
  have wd5 := hts (.fieldLink RX0 27 "UmbrellaLand$Citizen" "inHand" "I") (by decide +kernel)
  have wd6 := hts (.fieldLink RX0 30 "UmbrellaLand$Citizen" "trust" "I") (by decide +kernel)
  refine lv_aload_n hx hb dX0_settle_0 rfl (lv_at hl 0 rfl) ?_
  refine lv_iload_n hx hb dX0_settle_1 rfl (lv_at hl 1 rfl) ?_
  refine g_put (σ1 := up σ (53 + i) 0 x) (fs := ciF (σ (53 + i))) (C := RX0) (T := TX0) (N := 15) hx hb hts hin0 tyX0_ok nmX0 hown hK hP hD hS (53 + i) (RW_ci cy ad σ hi) rfl 0 (by decide) wd0 rfl rfl (Nat.le_of_ble_eq_true rfl) (RW_ci_set cy ad σ hi 0 (by decide) _) dX0_settle_2 ?_
  intro u1 eu1 H locs hP hD hS
  replace hf := hf.trans (ltt_r eu1)
  refine lv_aload_n hx hb dX0_settle_5 rfl (lv_at hl 0 rfl) ?_
  refine lv_iload_n hx hb dX0_settle_6 rfl (lv_at hl 2 rfl) ?_
  refine g_put (σ1 := up u1 (53 + i) 1 y) (fs := ciF (u1 (53 + i))) (C := RX0) (T := TX0) (N := 15) hx hb hts hin0 tyX0_ok nmX0 hown hK hP hD hS (53 + i) (RW_ci cy ad u1 hi) rfl 1 (by decide) wd1 rfl rfl (Nat.le_of_ble_eq_true rfl) (RW_ci_set cy ad u1 hi 1 (by decide) _) dX0_settle_7 ?_
  intro u2 eu2 H locs hP hD hS
  replace hf := hf.trans (ltt_r eu2)
  refine lv_aload_n hx hb dX0_settle_10 rfl (lv_at hl 0 rfl) ?_
  refine lv_iload_n hx hb dX0_settle_11 rfl (lv_at hl 3 rfl) ?_
  refine g_put (σ1 := up u2 (53 + i) 5 z) (fs := ciF (u2 (53 + i))) (C := RX0) (T := TX0) (N := 15) hx hb hts hin0 tyX0_ok nmX0 hown hK hP hD hS (53 + i) (RW_ci cy ad u2 hi) rfl 5 (by decide) wd2 rfl rfl (Nat.le_of_ble_eq_true rfl) (RW_ci_set cy ad u2 hi 5 (by decide) _) dX0_settle_12 ?_
  intro u3 eu3 H locs hP hD hS
  replace hf := hf.trans (ltt_r eu3)
  refine lv_aload_n hx hb dX0_settle_15 rfl (lv_at hl 0 rfl) ?_
  refine lv_iload_n hx hb dX0_settle_16 rfl (lv_at hl 1 rfl) ?_
  refine g_put (σ1 := up u3 (53 + i) 6 x) (fs := ciF (u3 (53 + i))) (C := RX0) (T := TX0) (N := 15) hx hb hts hin0 tyX0_ok nmX0 hown hK hP hD hS (53 + i) (RW_ci cy ad u3 hi) rfl 6 (by decide) wd3 rfl rfl (Nat.le_of_ble_eq_true rfl) (RW_ci_set cy ad u3 hi 6 (by decide) _) dX0_settle_17 ?_
  intro u4 eu4 H locs hP hD hS
  replace hf := hf.trans (ltt_r eu4)
  refine lv_aload_n hx hb dX0_settle_20 rfl (lv_at hl 0 rfl) ?_
  refine lv_iload_n hx hb dX0_settle_21 rfl (lv_at hl 1 rfl) ?_
  refine g_put (σ1 := up u4 (53 + i) 7 x) (fs := ciF (u4 (53 + i))) (C := RX0) (T := TX0) (N := 15) hx hb hts hin0 tyX0_ok nmX0 hown hK hP hD hS (53 + i) (RW_ci cy ad u4 hi) rfl 7 (by decide) wd4 rfl rfl (Nat.le_of_ble_eq_true rfl) (RW_ci_set cy ad u4 hi 7 (by decide) _) dX0_settle_22 ?_
  intro u5 eu5 H locs hP hD hS
  replace hf := hf.trans (ltt_r eu5)
  refine lv_aload_n hx hb dX0_settle_25 rfl (lv_at hl 0 rfl) ?_
  refine lv_iconst (v := (-1 : Int32)) hx hb dX0_settle_26 (by decide) ?_
  refine g_put (σ1 := up u5 (53 + i) 9 (-1 : Int32)) (fs := ciF (u5 (53 + i))) (C := RX0) (T := TX0) (N := 15) hx hb hts hin0 tyX0_ok nmX0 hown hK hP hD hS (53 + i) (RW_ci cy ad u5 hi) rfl 9 (by decide) wd5 rfl rfl (Nat.le_of_ble_eq_true rfl) (RW_ci_set cy ad u5 hi 9 (by decide) _) dX0_settle_27 ?_
  intro u6 eu6 H locs hP hD hS
  replace hf := hf.trans (ltt_r eu6)
  refine lv_aload_n hx hb dX0_settle_30 rfl (lv_at hl 0 rfl) ?_
  refine lv_iconst (v := nI 5) hx hb dX0_settle_31 (by decide) ?_
  refine g_put (σ1 := up u6 (53 + i) 10 (nI 5)) (fs := ciF (u6 (53 + i))) (C := RX0) (T := TX0) (N := 15) hx hb hts hin0 tyX0_ok nmX0 hown hK hP hD hS (53 + i) (RW_ci cy ad u6 hi) rfl 10 (by decide) wd6 rfl rfl (Nat.le_of_ble_eq_true rfl) (RW_ci_set cy ad u6 hi 10 (by decide) _) dX0_settle_32 ?_
  intro u7 eu7 H locs hP hD hS
  replace hf := hf.trans (ltt_r eu7)
  exact g_endv hx hb hr hlocks hf hP hD hS (Nat.le_of_ble_eq_true rfl) (Nat.le_of_ble_eq_true rfl) dX0_settle_35
def s_X0_leavesAt (σ : Sg) (i : Nat) (x : Int32) : Int32 := if (σ (53 + i) 6) = (σ (53 + i) 0) then if (σ (53 + i) 2) = x then nI 1 else if (σ (53 + i) 6) = (σ (53 + i) 1) then if (σ (53 + i) 3) = x then nI 1 else nI 0 else nI 0 else if (σ (53 + i) 6) = (σ (53 + i) 1) then if (σ (53 + i) 3) = x then nI 1 else nI 0 else nI 0
abbrev rm_X0_leavesAt : Room := { frames := 0, cells := 0, slots := 0, locals := 0 }
set_option maxHeartbeats 4000000 in
set_option maxRecDepth 100000 in
theorem c_X0_leavesAt (l : Launch) (D : va_G) (cy : Nat → ClassId) (ad : Nat → Nat) (σ : Sg) (i : Nat) (x : Int32) (hi : i < 10) : gMr l yX0_leavesAt wsX0_leavesAt rm_X0_leavesAt D (Ty cy) (RW cy ad) [.ref (ad (53 + i)), .int (x)] σ (s_X0_leavesAt σ i x) 0 0 := by
  refine gstarti cX0_leavesAt 2 RX0 (by decide) rfl rfl (Nat.le_of_ble_eq_true rfl) ?_
  intro p e s m below meth c A ls hx hb hml hown hts hr hlocks hK hP hD hA hS hl
  have hl : lv_has ls 2 [(0, .ref (ad (53 + i))), (1, .int (x))] := hl
  have hf : s_X0_leavesAt σ i x = s_X0_leavesAt σ i x := rfl
  have hin0 : ∀ w ∈ wsX00, w ∈ wsX0_leavesAt := by decide +kernel
  have wd0 := hts (.fieldLink RX0 21 "UmbrellaLand$Citizen" "stays" "I") (by decide +kernel)
  have wd1 := hts (.fieldLink RX0 9 "UmbrellaLand$Citizen" "home" "I") (by decide +kernel)
  have wd2 := hts (.fieldLink RX0 15 "UmbrellaLand$Citizen" "work" "I") (by decide +kernel)
  have wd3 := hts (.fieldLink RX0 36 "UmbrellaLand$Citizen" "returns" "I") (by decide +kernel)
  have wd4 := hts (.fieldLink RX0 33 "UmbrellaLand$Citizen" "leaves" "I") (by decide +kernel)
  refine lv_aload_n hx hb dX0_leavesAt_0 rfl (lv_at hl 0 rfl) ?_
  refine va_get (D := D) (ci := 0) (v := .int (σ (53 + i) 6)) (C := RX0) (T := TX0) (N := 15) hx hb hts hin0 hown hK hP (53 + i) (RW_ci cy ad σ hi) rfl 6 (by decide) wd0 (fun _ h9 => h9) rfl dX0_leavesAt_1 ?_
  refine lv_aload_n hx hb dX0_leavesAt_4 rfl (lv_at hl 0 rfl) ?_
  refine va_get (D := D) (ci := 0) (v := .int (σ (53 + i) 0)) (C := RX0) (T := TX0) (N := 15) hx hb hts hin0 hown hK hP (53 + i) (RW_ci cy ad σ hi) rfl 0 (by decide) wd1 (fun _ h9 => h9) rfl dX0_leavesAt_5 ?_
  refine lv_icmp_ne (tgt := 19) hx hb dX0_leavesAt_8 (by decide) (fun c1 => ?_) (fun c1 => ?_)
  · replace hf := hf.trans (if_neg c1)
    refine lv_aload_n hx hb dX0_leavesAt_19 rfl (lv_at hl 0 rfl) ?_
    refine va_get (D := D) (ci := 0) (v := .int (σ (53 + i) 6)) (C := RX0) (T := TX0) (N := 15) hx hb hts hin0 hown hK hP (53 + i) (RW_ci cy ad σ hi) rfl 6 (by decide) wd0 (fun _ h9 => h9) rfl dX0_leavesAt_20 ?_
    refine lv_aload_n hx hb dX0_leavesAt_23 rfl (lv_at hl 0 rfl) ?_
    refine va_get (D := D) (ci := 0) (v := .int (σ (53 + i) 1)) (C := RX0) (T := TX0) (N := 15) hx hb hts hin0 hown hK hP (53 + i) (RW_ci cy ad σ hi) rfl 1 (by decide) wd2 (fun _ h9 => h9) rfl dX0_leavesAt_24 ?_
    refine lv_icmp_ne (tgt := 42) hx hb dX0_leavesAt_27 (by decide) (fun c2 => ?_) (fun c2 => ?_)
    · replace hf := hf.trans (if_neg c2)
      refine lv_iconst (v := nI 0) hx hb dX0_leavesAt_42 (by decide) ?_
      exact g_endi hx hb hr hlocks rfl (congrArg (fun r => (r, σ)) hf) hP hD hS (Nat.le_of_ble_eq_true rfl) (Nat.le_of_ble_eq_true rfl) dX0_leavesAt_43
    · replace hf := hf.trans (if_pos c2)
      refine lv_aload_n hx hb dX0_leavesAt_30 rfl (lv_at hl 0 rfl) ?_
      refine va_get (D := D) (ci := 0) (v := .int (σ (53 + i) 3)) (C := RX0) (T := TX0) (N := 15) hx hb hts hin0 hown hK hP (53 + i) (RW_ci cy ad σ hi) rfl 3 (by decide) wd3 (fun _ h9 => h9) rfl dX0_leavesAt_31 ?_
      refine lv_iload_n hx hb dX0_leavesAt_34 rfl (lv_at hl 1 rfl) ?_
      refine lv_icmp_ne (tgt := 42) hx hb dX0_leavesAt_35 (by decide) (fun c3 => ?_) (fun c3 => ?_)
      · replace hf := hf.trans (if_neg c3)
        refine lv_iconst (v := nI 0) hx hb dX0_leavesAt_42 (by decide) ?_
        exact g_endi hx hb hr hlocks rfl (congrArg (fun r => (r, σ)) hf) hP hD hS (Nat.le_of_ble_eq_true rfl) (Nat.le_of_ble_eq_true rfl) dX0_leavesAt_43
      · replace hf := hf.trans (if_pos c3)
        refine lv_iconst (v := nI 1) hx hb dX0_leavesAt_38 (by decide) ?_
        refine lv_goto (tgt := 43) hx hb dX0_leavesAt_39 (by decide) ?_
        exact g_endi hx hb hr hlocks rfl (congrArg (fun r => (r, σ)) hf) hP hD hS (Nat.le_of_ble_eq_true rfl) (Nat.le_of_ble_eq_true rfl) dX0_leavesAt_43
  · replace hf := hf.trans (if_pos c1)
    refine lv_aload_n hx hb dX0_leavesAt_11 rfl (lv_at hl 0 rfl) ?_
    refine va_get (D := D) (ci := 0) (v := .int (σ (53 + i) 2)) (C := RX0) (T := TX0) (N := 15) hx hb hts hin0 hown hK hP (53 + i) (RW_ci cy ad σ hi) rfl 2 (by decide) wd4 (fun _ h9 => h9) rfl dX0_leavesAt_12 ?_
    refine lv_iload_n hx hb dX0_leavesAt_15 rfl (lv_at hl 1 rfl) ?_
    refine lv_icmp_eq (tgt := 38) hx hb dX0_leavesAt_16 (by decide) (fun c4 => ?_) (fun c4 => ?_)
    · replace hf := hf.trans (if_pos c4)
      refine lv_iconst (v := nI 1) hx hb dX0_leavesAt_38 (by decide) ?_
      refine lv_goto (tgt := 43) hx hb dX0_leavesAt_39 (by decide) ?_
      exact g_endi hx hb hr hlocks rfl (congrArg (fun r => (r, σ)) hf) hP hD hS (Nat.le_of_ble_eq_true rfl) (Nat.le_of_ble_eq_true rfl) dX0_leavesAt_43
    · replace hf := hf.trans (if_neg c4)
      refine lv_aload_n hx hb dX0_leavesAt_19 rfl (lv_at hl 0 rfl) ?_
      refine va_get (D := D) (ci := 0) (v := .int (σ (53 + i) 6)) (C := RX0) (T := TX0) (N := 15) hx hb hts hin0 hown hK hP (53 + i) (RW_ci cy ad σ hi) rfl 6 (by decide) wd0 (fun _ h9 => h9) rfl dX0_leavesAt_20 ?_
      refine lv_aload_n hx hb dX0_leavesAt_23 rfl (lv_at hl 0 rfl) ?_
      refine va_get (D := D) (ci := 0) (v := .int (σ (53 + i) 1)) (C := RX0) (T := TX0) (N := 15) hx hb hts hin0 hown hK hP (53 + i) (RW_ci cy ad σ hi) rfl 1 (by decide) wd2 (fun _ h9 => h9) rfl dX0_leavesAt_24 ?_
      refine lv_icmp_ne (tgt := 42) hx hb dX0_leavesAt_27 (by decide) (fun c5 => ?_) (fun c5 => ?_)
      · replace hf := hf.trans (if_neg c5)
        refine lv_iconst (v := nI 0) hx hb dX0_leavesAt_42 (by decide) ?_
        exact g_endi hx hb hr hlocks rfl (congrArg (fun r => (r, σ)) hf) hP hD hS (Nat.le_of_ble_eq_true rfl) (Nat.le_of_ble_eq_true rfl) dX0_leavesAt_43
      · replace hf := hf.trans (if_pos c5)
        refine lv_aload_n hx hb dX0_leavesAt_30 rfl (lv_at hl 0 rfl) ?_
        refine va_get (D := D) (ci := 0) (v := .int (σ (53 + i) 3)) (C := RX0) (T := TX0) (N := 15) hx hb hts hin0 hown hK hP (53 + i) (RW_ci cy ad σ hi) rfl 3 (by decide) wd3 (fun _ h9 => h9) rfl dX0_leavesAt_31 ?_
        refine lv_iload_n hx hb dX0_leavesAt_34 rfl (lv_at hl 1 rfl) ?_
        refine lv_icmp_ne (tgt := 42) hx hb dX0_leavesAt_35 (by decide) (fun c6 => ?_) (fun c6 => ?_)
        · replace hf := hf.trans (if_neg c6)
          refine lv_iconst (v := nI 0) hx hb dX0_leavesAt_42 (by decide) ?_
          exact g_endi hx hb hr hlocks rfl (congrArg (fun r => (r, σ)) hf) hP hD hS (Nat.le_of_ble_eq_true rfl) (Nat.le_of_ble_eq_true rfl) dX0_leavesAt_43
        · replace hf := hf.trans (if_pos c6)
          refine lv_iconst (v := nI 1) hx hb dX0_leavesAt_38 (by decide) ?_
          refine lv_goto (tgt := 43) hx hb dX0_leavesAt_39 (by decide) ?_
          exact g_endi hx hb hr hlocks rfl (congrArg (fun r => (r, σ)) hf) hP hD hS (Nat.le_of_ble_eq_true rfl) (Nat.le_of_ble_eq_true rfl) dX0_leavesAt_43
theorem b_X0_leavesAt (σ : Sg) (i : Nat) (x : Int32) : narrow .boolean (.int (s_X0_leavesAt σ i x)) = .int (s_X0_leavesAt σ i x) := by
  unfold s_X0_leavesAt
  (try simp only [ltt])
  repeat' split
  all_goals rfl
def s_X0_setOut (σ : Sg) (i : Nat) : Sg := if (σ (53 + i) 6) = (σ (53 + i) 0) then ltt (up σ (53 + i) 7 (σ (53 + i) 1)) (fun u5 => ltt (up u5 (53 + i) 6 (-1 : Int32)) (fun u6 => ltt (up u6 (53 + i) 8 (u6 (53 + i) 5)) (fun u7 => u7))) else ltt (up σ (53 + i) 7 (σ (53 + i) 0)) (fun u2 => ltt (up u2 (53 + i) 6 (-1 : Int32)) (fun u3 => ltt (up u3 (53 + i) 8 (u3 (53 + i) 5)) (fun u4 => u4)))
abbrev rm_X0_setOut : Room := { frames := 0, cells := 0, slots := 0, locals := 0 }
set_option maxHeartbeats 4000000 in
set_option maxRecDepth 100000 in
theorem c_X0_setOut (l : Launch) (D : va_G) (cy : Nat → ClassId) (ad : Nat → Nat) (σ : Sg) (i : Nat) (hi : i < 10) : gMv l yX0_setOut wsX0_setOut rm_X0_setOut D (Ty cy) (RW cy ad) [.ref (ad (53 + i))] σ (s_X0_setOut σ i) 0 0 := by
  refine gstartv cX0_setOut 1 RX0 (by decide) rfl rfl (Nat.le_of_ble_eq_true rfl) ?_
  intro p e s m below meth c A ls hx hb hml hown hts hr hlocks hK hP hD hA hS hl
  have hl : lv_has ls 1 [(0, .ref (ad (53 + i)))] := hl
  have hf : s_X0_setOut σ i = s_X0_setOut σ i := rfl
  have hin0 : ∀ w ∈ wsX00, w ∈ wsX0_setOut := by decide +kernel
  have wd0 := hts (.fieldLink RX0 21 "UmbrellaLand$Citizen" "stays" "I") (by decide +kernel)
  have wd1 := hts (.fieldLink RX0 9 "UmbrellaLand$Citizen" "home" "I") (by decide +kernel)
  have wd2 := hts (.fieldLink RX0 24 "UmbrellaLand$Citizen" "goal" "I") (by decide +kernel)
  have wd3 := hts (.fieldLink RX0 18 "UmbrellaLand$Citizen" "hoursOfWalk" "I") (by decide +kernel)
  have wd4 := hts (.fieldLink RX0 42 "UmbrellaLand$Citizen" "hoursToWalk" "I") (by decide +kernel)
  have wd5 := hts (.fieldLink RX0 15 "UmbrellaLand$Citizen" "work" "I") (by decide +kernel)
  refine lv_aload_n hx hb dX0_setOut_0 rfl (lv_at hl 0 rfl) ?_
  refine lv_aload_n hx hb dX0_setOut_1 rfl (lv_at hl 0 rfl) ?_
  refine va_get (D := D) (ci := 0) (v := .int (σ (53 + i) 6)) (C := RX0) (T := TX0) (N := 15) hx hb hts hin0 hown hK hP (53 + i) (RW_ci cy ad σ hi) rfl 6 (by decide) wd0 (fun _ h9 => h9) rfl dX0_setOut_2 ?_
  refine lv_aload_n hx hb dX0_setOut_5 rfl (lv_at hl 0 rfl) ?_
  refine va_get (D := D) (ci := 0) (v := .int (σ (53 + i) 0)) (C := RX0) (T := TX0) (N := 15) hx hb hts hin0 hown hK hP (53 + i) (RW_ci cy ad σ hi) rfl 0 (by decide) wd1 (fun _ h9 => h9) rfl dX0_setOut_6 ?_
  refine lv_icmp_ne (tgt := 19) hx hb dX0_setOut_9 (by decide) (fun c1 => ?_) (fun c1 => ?_)
  · replace hf := hf.trans (if_neg c1)
    refine lv_aload_n hx hb dX0_setOut_19 rfl (lv_at hl 0 rfl) ?_
    refine va_get (D := D) (ci := 0) (v := .int (σ (53 + i) 0)) (C := RX0) (T := TX0) (N := 15) hx hb hts hin0 hown hK hP (53 + i) (RW_ci cy ad σ hi) rfl 0 (by decide) wd1 (fun _ h9 => h9) rfl dX0_setOut_20 ?_
    refine g_put (σ1 := up σ (53 + i) 7 (σ (53 + i) 0)) (fs := ciF (σ (53 + i))) (C := RX0) (T := TX0) (N := 15) hx hb hts hin0 tyX0_ok nmX0 hown hK hP hD hS (53 + i) (RW_ci cy ad σ hi) rfl 7 (by decide) wd2 rfl rfl (Nat.le_of_ble_eq_true rfl) (RW_ci_set cy ad σ hi 7 (by decide) _) dX0_setOut_23 ?_
    intro u2 eu2 H locs hP hD hS
    replace hf := hf.trans (ltt_r eu2)
    refine lv_aload_n hx hb dX0_setOut_26 rfl (lv_at hl 0 rfl) ?_
    refine lv_iconst (v := (-1 : Int32)) hx hb dX0_setOut_27 (by decide) ?_
    refine g_put (σ1 := up u2 (53 + i) 6 (-1 : Int32)) (fs := ciF (u2 (53 + i))) (C := RX0) (T := TX0) (N := 15) hx hb hts hin0 tyX0_ok nmX0 hown hK hP hD hS (53 + i) (RW_ci cy ad u2 hi) rfl 6 (by decide) wd0 rfl rfl (Nat.le_of_ble_eq_true rfl) (RW_ci_set cy ad u2 hi 6 (by decide) _) dX0_setOut_28 ?_
    intro u3 eu3 H locs hP hD hS
    replace hf := hf.trans (ltt_r eu3)
    refine lv_aload_n hx hb dX0_setOut_31 rfl (lv_at hl 0 rfl) ?_
    refine lv_aload_n hx hb dX0_setOut_32 rfl (lv_at hl 0 rfl) ?_
    refine va_get (D := D) (ci := 0) (v := .int (u3 (53 + i) 5)) (C := RX0) (T := TX0) (N := 15) hx hb hts hin0 hown hK hP (53 + i) (RW_ci cy ad u3 hi) rfl 5 (by decide) wd3 (fun _ h9 => h9) rfl dX0_setOut_33 ?_
    refine g_put (σ1 := up u3 (53 + i) 8 (u3 (53 + i) 5)) (fs := ciF (u3 (53 + i))) (C := RX0) (T := TX0) (N := 15) hx hb hts hin0 tyX0_ok nmX0 hown hK hP hD hS (53 + i) (RW_ci cy ad u3 hi) rfl 8 (by decide) wd4 rfl rfl (Nat.le_of_ble_eq_true rfl) (RW_ci_set cy ad u3 hi 8 (by decide) _) dX0_setOut_36 ?_
    intro u4 eu4 H locs hP hD hS
    replace hf := hf.trans (ltt_r eu4)
    exact g_endv hx hb hr hlocks hf hP hD hS (Nat.le_of_ble_eq_true rfl) (Nat.le_of_ble_eq_true rfl) dX0_setOut_39
  · replace hf := hf.trans (if_pos c1)
    refine lv_aload_n hx hb dX0_setOut_12 rfl (lv_at hl 0 rfl) ?_
    refine va_get (D := D) (ci := 0) (v := .int (σ (53 + i) 1)) (C := RX0) (T := TX0) (N := 15) hx hb hts hin0 hown hK hP (53 + i) (RW_ci cy ad σ hi) rfl 1 (by decide) wd5 (fun _ h9 => h9) rfl dX0_setOut_13 ?_
    refine lv_goto (tgt := 23) hx hb dX0_setOut_16 (by decide) ?_
    refine g_put (σ1 := up σ (53 + i) 7 (σ (53 + i) 1)) (fs := ciF (σ (53 + i))) (C := RX0) (T := TX0) (N := 15) hx hb hts hin0 tyX0_ok nmX0 hown hK hP hD hS (53 + i) (RW_ci cy ad σ hi) rfl 7 (by decide) wd2 rfl rfl (Nat.le_of_ble_eq_true rfl) (RW_ci_set cy ad σ hi 7 (by decide) _) dX0_setOut_23 ?_
    intro u5 eu5 H locs hP hD hS
    replace hf := hf.trans (ltt_r eu5)
    refine lv_aload_n hx hb dX0_setOut_26 rfl (lv_at hl 0 rfl) ?_
    refine lv_iconst (v := (-1 : Int32)) hx hb dX0_setOut_27 (by decide) ?_
    refine g_put (σ1 := up u5 (53 + i) 6 (-1 : Int32)) (fs := ciF (u5 (53 + i))) (C := RX0) (T := TX0) (N := 15) hx hb hts hin0 tyX0_ok nmX0 hown hK hP hD hS (53 + i) (RW_ci cy ad u5 hi) rfl 6 (by decide) wd0 rfl rfl (Nat.le_of_ble_eq_true rfl) (RW_ci_set cy ad u5 hi 6 (by decide) _) dX0_setOut_28 ?_
    intro u6 eu6 H locs hP hD hS
    replace hf := hf.trans (ltt_r eu6)
    refine lv_aload_n hx hb dX0_setOut_31 rfl (lv_at hl 0 rfl) ?_
    refine lv_aload_n hx hb dX0_setOut_32 rfl (lv_at hl 0 rfl) ?_
    refine va_get (D := D) (ci := 0) (v := .int (u6 (53 + i) 5)) (C := RX0) (T := TX0) (N := 15) hx hb hts hin0 hown hK hP (53 + i) (RW_ci cy ad u6 hi) rfl 5 (by decide) wd3 (fun _ h9 => h9) rfl dX0_setOut_33 ?_
    refine g_put (σ1 := up u6 (53 + i) 8 (u6 (53 + i) 5)) (fs := ciF (u6 (53 + i))) (C := RX0) (T := TX0) (N := 15) hx hb hts hin0 tyX0_ok nmX0 hown hK hP hD hS (53 + i) (RW_ci cy ad u6 hi) rfl 8 (by decide) wd4 rfl rfl (Nat.le_of_ble_eq_true rfl) (RW_ci_set cy ad u6 hi 8 (by decide) _) dX0_setOut_36 ?_
    intro u7 eu7 H locs hP hD hS
    replace hf := hf.trans (ltt_r eu7)
    exact g_endv hx hb hr hlocks hf hP hD hS (Nat.le_of_ble_eq_true rfl) (Nat.le_of_ble_eq_true rfl) dX0_setOut_39
def s_X0_noteForgotten (σ : Sg) (i : Nat) : Sg := ltt (up σ (53 + i) 13 ((σ (53 + i) 13) + (nI 1))) (fun u1 => ltt (up u1 (53 + i) 10 (m_max (nI 0) ((u1 (53 + i) 10) - (nI 2)))) (fun u2 => u2))
abbrev rm_X0_noteForgotten : Room := { frames := 1, cells := 0, slots := 0, locals := 21 }
set_option maxHeartbeats 4000000 in
set_option maxRecDepth 100000 in
theorem c_X0_noteForgotten (l : Launch) (D : va_G) (cy : Nat → ClassId) (ad : Nat → Nat) (σ : Sg) (i : Nat) (hi : i < 10) : gMv l yX0_noteForgotten wsX0_noteForgotten rm_X0_noteForgotten D (Ty cy) (RW cy ad) [.ref (ad (53 + i))] σ (s_X0_noteForgotten σ i) 0 0 := by
  refine gstartv cX0_noteForgotten 1 RX0 (by decide) rfl rfl (Nat.le_of_ble_eq_true rfl) ?_
  intro p e s m below meth c A ls hx hb hml hown hts hr hlocks hK hP hD hA hS hl
  have hl : lv_has ls 1 [(0, .ref (ad (53 + i)))] := hl
  have hf : s_X0_noteForgotten σ i = s_X0_noteForgotten σ i := rfl
  have hin0 : ∀ w ∈ wsX00, w ∈ wsX0_noteForgotten := by decide +kernel
  have wd0 := hts (.fieldLink RX0 51 "UmbrellaLand$Citizen" "forgotten" "I") (by decide +kernel)
  have wd1 := hts (.fieldLink RX0 30 "UmbrellaLand$Citizen" "trust" "I") (by decide +kernel)
  have wd2 := hts (.methodLink RX0 57 Lib.Math.max.name) (by decide +kernel)
  have wd3 := hts (.static Lib.Math.max.name) (by decide +kernel)
  have wd4 := hts (.initialized "java/lang/Math") (by decide +kernel)
  have wd5 := hts (.code Lib.Math.max.name Lib.Math.max.code 2 (some .int)) (by decide +kernel)
  refine lv_aload_n hx hb dX0_noteForgotten_0 rfl (lv_at hl 0 rfl) ?_
  refine lv_dup hx hb dX0_noteForgotten_1 rfl ?_
  refine va_get (D := D) (ci := 0) (v := .int (σ (53 + i) 13)) (C := RX0) (T := TX0) (N := 15) hx hb hts hin0 hown hK hP (53 + i) (RW_ci cy ad σ hi) rfl 13 (by decide) wd0 (fun _ h9 => h9) rfl dX0_noteForgotten_2 ?_
  refine lv_iconst (v := nI 1) hx hb dX0_noteForgotten_5 (by decide) ?_
  refine lv_iadd hx hb dX0_noteForgotten_6 ?_
  refine g_put (σ1 := up σ (53 + i) 13 ((σ (53 + i) 13) + (nI 1))) (fs := ciF (σ (53 + i))) (C := RX0) (T := TX0) (N := 15) hx hb hts hin0 tyX0_ok nmX0 hown hK hP hD hS (53 + i) (RW_ci cy ad σ hi) rfl 13 (by decide) wd0 rfl rfl (Nat.le_of_ble_eq_true rfl) (RW_ci_set cy ad σ hi 13 (by decide) _) dX0_noteForgotten_7 ?_
  intro u1 eu1 H locs hP hD hS
  replace hf := hf.trans (ltt_r eu1)
  refine lv_aload_n hx hb dX0_noteForgotten_10 rfl (lv_at hl 0 rfl) ?_
  refine lv_iconst (v := nI 0) hx hb dX0_noteForgotten_11 (by decide) ?_
  refine lv_aload_n hx hb dX0_noteForgotten_12 rfl (lv_at hl 0 rfl) ?_
  refine va_get (D := D) (ci := 0) (v := .int (u1 (53 + i) 10)) (C := RX0) (T := TX0) (N := 15) hx hb hts hin0 hown hK hP (53 + i) (RW_ci cy ad u1 hi) rfl 10 (by decide) wd1 (fun _ h9 => h9) rfl dX0_noteForgotten_13 ?_
  refine lv_iconst (v := nI 2) hx hb dX0_noteForgotten_16 (by decide) ?_
  refine lv_isub hx hb dX0_noteForgotten_17 ?_
  refine va_mmax hx hb (hml.trans hl.1.symm) hown wd2 wd3 wd4 wd5 (Nat.le_of_ble_eq_true rfl) (Nat.le_of_ble_eq_true rfl) (Nat.le_of_ble_eq_true rfl) (Nat.le_of_ble_eq_true rfl) dX0_noteForgotten_18 ?_
  refine g_put (σ1 := up u1 (53 + i) 10 (m_max (nI 0) ((u1 (53 + i) 10) - (nI 2)))) (fs := ciF (u1 (53 + i))) (C := RX0) (T := TX0) (N := 15) hx hb hts hin0 tyX0_ok nmX0 hown hK hP hD hS (53 + i) (RW_ci cy ad u1 hi) rfl 10 (by decide) wd1 rfl rfl (Nat.le_of_ble_eq_true rfl) (RW_ci_set cy ad u1 hi 10 (by decide) _) dX0_noteForgotten_21 ?_
  intro u2 eu2 H locs hP hD hS
  replace hf := hf.trans (ltt_r eu2)
  exact g_endv hx hb hr hlocks hf hP hD hS (Nat.le_of_ble_eq_true rfl) (Nat.le_of_ble_eq_true rfl) dX0_noteForgotten_24
def s_X0_noteBroughtBack (σ : Sg) (i : Nat) : Sg := ltt (up σ (53 + i) 10 (m_min (nI 10) ((σ (53 + i) 10) + (nI 1)))) (fun u1 => u1)
abbrev rm_X0_noteBroughtBack : Room := { frames := 1, cells := 0, slots := 0, locals := 21 }
set_option maxHeartbeats 4000000 in
set_option maxRecDepth 100000 in
theorem c_X0_noteBroughtBack (l : Launch) (D : va_G) (cy : Nat → ClassId) (ad : Nat → Nat) (σ : Sg) (i : Nat) (hi : i < 10) : gMv l yX0_noteBroughtBack wsX0_noteBroughtBack rm_X0_noteBroughtBack D (Ty cy) (RW cy ad) [.ref (ad (53 + i))] σ (s_X0_noteBroughtBack σ i) 0 0 := by
  refine gstartv cX0_noteBroughtBack 1 RX0 (by decide) rfl rfl (Nat.le_of_ble_eq_true rfl) ?_
  intro p e s m below meth c A ls hx hb hml hown hts hr hlocks hK hP hD hA hS hl
  have hl : lv_has ls 1 [(0, .ref (ad (53 + i)))] := hl
  have hf : s_X0_noteBroughtBack σ i = s_X0_noteBroughtBack σ i := rfl
  have hin0 : ∀ w ∈ wsX00, w ∈ wsX0_noteBroughtBack := by decide +kernel
  have wd0 := hts (.fieldLink RX0 30 "UmbrellaLand$Citizen" "trust" "I") (by decide +kernel)
  have wd1 := hts (.methodLink RX0 63 Lib.Math.min.name) (by decide +kernel)
  have wd2 := hts (.static Lib.Math.min.name) (by decide +kernel)
  have wd3 := hts (.initialized "java/lang/Math") (by decide +kernel)
  have wd4 := hts (.code Lib.Math.min.name Lib.Math.min.code 2 (some .int)) (by decide +kernel)
  refine lv_aload_n hx hb dX0_noteBroughtBack_0 rfl (lv_at hl 0 rfl) ?_
  refine lv_bipush (v := nI 10) hx hb dX0_noteBroughtBack_1 (by decide) ?_
  refine lv_aload_n hx hb dX0_noteBroughtBack_3 rfl (lv_at hl 0 rfl) ?_
  refine va_get (D := D) (ci := 0) (v := .int (σ (53 + i) 10)) (C := RX0) (T := TX0) (N := 15) hx hb hts hin0 hown hK hP (53 + i) (RW_ci cy ad σ hi) rfl 10 (by decide) wd0 (fun _ h9 => h9) rfl dX0_noteBroughtBack_4 ?_
  refine lv_iconst (v := nI 1) hx hb dX0_noteBroughtBack_7 (by decide) ?_
  refine lv_iadd hx hb dX0_noteBroughtBack_8 ?_
  refine va_mmin hx hb (hml.trans hl.1.symm) hown wd1 wd2 wd3 wd4 (Nat.le_of_ble_eq_true rfl) (Nat.le_of_ble_eq_true rfl) (Nat.le_of_ble_eq_true rfl) (Nat.le_of_ble_eq_true rfl) dX0_noteBroughtBack_9 ?_
  refine g_put (σ1 := up σ (53 + i) 10 (m_min (nI 10) ((σ (53 + i) 10) + (nI 1)))) (fs := ciF (σ (53 + i))) (C := RX0) (T := TX0) (N := 15) hx hb hts hin0 tyX0_ok nmX0 hown hK hP hD hS (53 + i) (RW_ci cy ad σ hi) rfl 10 (by decide) wd0 rfl rfl (Nat.le_of_ble_eq_true rfl) (RW_ci_set cy ad σ hi 10 (by decide) _) dX0_noteBroughtBack_12 ?_
  intro u1 eu1 H locs hP hD hS
  replace hf := hf.trans (ltt_r eu1)
  exact g_endv hx hb hr hlocks hf hP hD hS (Nat.le_of_ble_eq_true rfl) (Nat.le_of_ble_eq_true rfl) dX0_noteBroughtBack_15
def s_X2_open (σ : Sg) (i : Nat) (x : Int32) (y : Int32) : Sg := ltt (up σ (5 + i) 0 x) (fun u1 => ltt (up u1 (5 + i) 1 y) (fun u2 => u2))
abbrev rm_X2_open : Room := { frames := 0, cells := 0, slots := 0, locals := 0 }
set_option maxHeartbeats 4000000 in
set_option maxRecDepth 100000 in
theorem c_X2_open (l : Launch) (D : va_G) (cy : Nat → ClassId) (ad : Nat → Nat) (σ : Sg) (i : Nat) (x : Int32) (y : Int32) (hi : i < 8) : gMv l yX2_open wsX2_open rm_X2_open D (Ty cy) (RW cy ad) [.ref (ad (5 + i)), .int (x), .int (y)] σ (s_X2_open σ i x y) 0 0 := by
  refine gstartv cX2_open 3 RX2 (by decide) rfl rfl (Nat.le_of_ble_eq_true rfl) ?_
  intro p e s m below meth c A ls hx hb hml hown hts hr hlocks hK hP hD hA hS hl
  have hl : lv_has ls 3 [(0, .ref (ad (5 + i))), (1, .int (x)), (2, .int (y))] := hl
  have hf : s_X2_open σ i x y = s_X2_open σ i x y := rfl
  have hin2 : ∀ w ∈ wsX20, w ∈ wsX2_open := by decide +kernel
  have wd0 := hts (.fieldLink RX2 9 "UmbrellaLand$Shelter" "place" "I") (by decide +kernel)
  have wd1 := hts (.fieldLink RX2 15 "UmbrellaLand$Shelter" "demand" "I") (by decide +kernel)
  refine lv_aload_n hx hb dX2_open_0 rfl (lv_at hl 0 rfl) ?_
  refine lv_iload_n hx hb dX2_open_1 rfl (lv_at hl 1 rfl) ?_
  refine g_put (σ1 := up σ (5 + i) 0 x) (fs := shF (σ (5 + i))) (C := RX2) (T := TX2) (N := 7) hx hb hts hin2 tyX2_ok nmX2 hown hK hP hD hS (5 + i) (RW_sh cy ad σ hi) rfl 0 (by decide) wd0 rfl rfl (Nat.le_of_ble_eq_true rfl) (RW_sh_set cy ad σ hi 0 (by decide) _) dX2_open_2 ?_
  intro u1 eu1 H locs hP hD hS
  replace hf := hf.trans (ltt_r eu1)
  refine lv_aload_n hx hb dX2_open_5 rfl (lv_at hl 0 rfl) ?_
  refine lv_iload_n hx hb dX2_open_6 rfl (lv_at hl 2 rfl) ?_
  refine g_put (σ1 := up u1 (5 + i) 1 y) (fs := shF (u1 (5 + i))) (C := RX2) (T := TX2) (N := 7) hx hb hts hin2 tyX2_ok nmX2 hown hK hP hD hS (5 + i) (RW_sh cy ad u1 hi) rfl 1 (by decide) wd1 rfl rfl (Nat.le_of_ble_eq_true rfl) (RW_sh_set cy ad u1 hi 1 (by decide) _) dX2_open_7 ?_
  intro u2 eu2 H locs hP hD hS
  replace hf := hf.trans (ltt_r eu2)
  exact g_endv hx hb hr hlocks hf hP hD hS (Nat.le_of_ble_eq_true rfl) (Nat.le_of_ble_eq_true rfl) dX2_open_10
def s_X2_noteRefusal (σ : Sg) (i : Nat) : Sg := ltt (up σ (5 + i) 4 ((σ (5 + i) 4) + (nI 1))) (fun u1 => ltt (up u1 (5 + i) 6 ((u1 (5 + i) 6) + (nI 1))) (fun u2 => u2))
abbrev rm_X2_noteRefusal : Room := { frames := 0, cells := 0, slots := 0, locals := 0 }
set_option maxHeartbeats 4000000 in
set_option maxRecDepth 100000 in
theorem c_X2_noteRefusal (l : Launch) (D : va_G) (cy : Nat → ClassId) (ad : Nat → Nat) (σ : Sg) (i : Nat) (hi : i < 8) : gMv l yX2_noteRefusal wsX2_noteRefusal rm_X2_noteRefusal D (Ty cy) (RW cy ad) [.ref (ad (5 + i))] σ (s_X2_noteRefusal σ i) 0 0 := by
  refine gstartv cX2_noteRefusal 1 RX2 (by decide) rfl rfl (Nat.le_of_ble_eq_true rfl) ?_
  intro p e s m below meth c A ls hx hb hml hown hts hr hlocks hK hP hD hA hS hl
  have hl : lv_has ls 1 [(0, .ref (ad (5 + i)))] := hl
  have hf : s_X2_noteRefusal σ i = s_X2_noteRefusal σ i := rfl
  have hin2 : ∀ w ∈ wsX20, w ∈ wsX2_noteRefusal := by decide +kernel
  have wd0 := hts (.fieldLink RX2 24 "UmbrellaLand$Shelter" "refused" "I") (by decide +kernel)
  have wd1 := hts (.fieldLink RX2 30 "UmbrellaLand$Shelter" "refusedToday" "I") (by decide +kernel)
  refine lv_aload_n hx hb dX2_noteRefusal_0 rfl (lv_at hl 0 rfl) ?_
  refine lv_dup hx hb dX2_noteRefusal_1 rfl ?_
  refine va_get (D := D) (ci := 2) (v := .int (σ (5 + i) 4)) (C := RX2) (T := TX2) (N := 7) hx hb hts hin2 hown hK hP (5 + i) (RW_sh cy ad σ hi) rfl 4 (by decide) wd0 (fun _ h9 => h9) rfl dX2_noteRefusal_2 ?_
  refine lv_iconst (v := nI 1) hx hb dX2_noteRefusal_5 (by decide) ?_
  refine lv_iadd hx hb dX2_noteRefusal_6 ?_
  refine g_put (σ1 := up σ (5 + i) 4 ((σ (5 + i) 4) + (nI 1))) (fs := shF (σ (5 + i))) (C := RX2) (T := TX2) (N := 7) hx hb hts hin2 tyX2_ok nmX2 hown hK hP hD hS (5 + i) (RW_sh cy ad σ hi) rfl 4 (by decide) wd0 rfl rfl (Nat.le_of_ble_eq_true rfl) (RW_sh_set cy ad σ hi 4 (by decide) _) dX2_noteRefusal_7 ?_
  intro u1 eu1 H locs hP hD hS
  replace hf := hf.trans (ltt_r eu1)
  refine lv_aload_n hx hb dX2_noteRefusal_10 rfl (lv_at hl 0 rfl) ?_
  refine lv_dup hx hb dX2_noteRefusal_11 rfl ?_
  refine va_get (D := D) (ci := 2) (v := .int (u1 (5 + i) 6)) (C := RX2) (T := TX2) (N := 7) hx hb hts hin2 hown hK hP (5 + i) (RW_sh cy ad u1 hi) rfl 6 (by decide) wd1 (fun _ h9 => h9) rfl dX2_noteRefusal_12 ?_
  refine lv_iconst (v := nI 1) hx hb dX2_noteRefusal_15 (by decide) ?_
  refine lv_iadd hx hb dX2_noteRefusal_16 ?_
  refine g_put (σ1 := up u1 (5 + i) 6 ((u1 (5 + i) 6) + (nI 1))) (fs := shF (u1 (5 + i))) (C := RX2) (T := TX2) (N := 7) hx hb hts hin2 tyX2_ok nmX2 hown hK hP hD hS (5 + i) (RW_sh cy ad u1 hi) rfl 6 (by decide) wd1 rfl rfl (Nat.le_of_ble_eq_true rfl) (RW_sh_set cy ad u1 hi 6 (by decide) _) dX2_noteRefusal_17 ?_
  intro u2 eu2 H locs hP hD hS
  replace hf := hf.trans (ltt_r eu2)
  exact g_endv hx hb hr hlocks hf hP hD hS (Nat.le_of_ble_eq_true rfl) (Nat.le_of_ble_eq_true rfl) dX2_noteRefusal_20
def s_X2_noteForgotten (σ : Sg) (i : Nat) : Sg := ltt (up σ (5 + i) 3 ((σ (5 + i) 3) + (nI 1))) (fun u1 => ltt (up u1 (5 + i) 5 ((u1 (5 + i) 5) + (nI 1))) (fun u2 => u2))
abbrev rm_X2_noteForgotten : Room := { frames := 0, cells := 0, slots := 0, locals := 0 }
set_option maxHeartbeats 4000000 in
set_option maxRecDepth 100000 in
theorem c_X2_noteForgotten (l : Launch) (D : va_G) (cy : Nat → ClassId) (ad : Nat → Nat) (σ : Sg) (i : Nat) (hi : i < 8) : gMv l yX2_noteForgotten wsX2_noteForgotten rm_X2_noteForgotten D (Ty cy) (RW cy ad) [.ref (ad (5 + i))] σ (s_X2_noteForgotten σ i) 0 0 := by
  refine gstartv cX2_noteForgotten 1 RX2 (by decide) rfl rfl (Nat.le_of_ble_eq_true rfl) ?_
  intro p e s m below meth c A ls hx hb hml hown hts hr hlocks hK hP hD hA hS hl
  have hl : lv_has ls 1 [(0, .ref (ad (5 + i)))] := hl
  have hf : s_X2_noteForgotten σ i = s_X2_noteForgotten σ i := rfl
  have hin2 : ∀ w ∈ wsX20, w ∈ wsX2_noteForgotten := by decide +kernel
  have wd0 := hts (.fieldLink RX2 21 "UmbrellaLand$Shelter" "forgotten" "I") (by decide +kernel)
  have wd1 := hts (.fieldLink RX2 27 "UmbrellaLand$Shelter" "forgottenToday" "I") (by decide +kernel)
  refine lv_aload_n hx hb dX2_noteForgotten_0 rfl (lv_at hl 0 rfl) ?_
  refine lv_dup hx hb dX2_noteForgotten_1 rfl ?_
  refine va_get (D := D) (ci := 2) (v := .int (σ (5 + i) 3)) (C := RX2) (T := TX2) (N := 7) hx hb hts hin2 hown hK hP (5 + i) (RW_sh cy ad σ hi) rfl 3 (by decide) wd0 (fun _ h9 => h9) rfl dX2_noteForgotten_2 ?_
  refine lv_iconst (v := nI 1) hx hb dX2_noteForgotten_5 (by decide) ?_
  refine lv_iadd hx hb dX2_noteForgotten_6 ?_
  refine g_put (σ1 := up σ (5 + i) 3 ((σ (5 + i) 3) + (nI 1))) (fs := shF (σ (5 + i))) (C := RX2) (T := TX2) (N := 7) hx hb hts hin2 tyX2_ok nmX2 hown hK hP hD hS (5 + i) (RW_sh cy ad σ hi) rfl 3 (by decide) wd0 rfl rfl (Nat.le_of_ble_eq_true rfl) (RW_sh_set cy ad σ hi 3 (by decide) _) dX2_noteForgotten_7 ?_
  intro u1 eu1 H locs hP hD hS
  replace hf := hf.trans (ltt_r eu1)
  refine lv_aload_n hx hb dX2_noteForgotten_10 rfl (lv_at hl 0 rfl) ?_
  refine lv_dup hx hb dX2_noteForgotten_11 rfl ?_
  refine va_get (D := D) (ci := 2) (v := .int (u1 (5 + i) 5)) (C := RX2) (T := TX2) (N := 7) hx hb hts hin2 hown hK hP (5 + i) (RW_sh cy ad u1 hi) rfl 5 (by decide) wd1 (fun _ h9 => h9) rfl dX2_noteForgotten_12 ?_
  refine lv_iconst (v := nI 1) hx hb dX2_noteForgotten_15 (by decide) ?_
  refine lv_iadd hx hb dX2_noteForgotten_16 ?_
  refine g_put (σ1 := up u1 (5 + i) 5 ((u1 (5 + i) 5) + (nI 1))) (fs := shF (u1 (5 + i))) (C := RX2) (T := TX2) (N := 7) hx hb hts hin2 tyX2_ok nmX2 hown hK hP hD hS (5 + i) (RW_sh cy ad u1 hi) rfl 5 (by decide) wd1 rfl rfl (Nat.le_of_ble_eq_true rfl) (RW_sh_set cy ad u1 hi 5 (by decide) _) dX2_noteForgotten_17 ?_
  intro u2 eu2 H locs hP hD hS
  replace hf := hf.trans (ltt_r eu2)
  exact g_endv hx hb hr hlocks hf hP hD hS (Nat.le_of_ble_eq_true rfl) (Nat.le_of_ble_eq_true rfl) dX2_noteForgotten_20
def s_X2_endDay (σ : Sg) (i : Nat) : Sg := if (σ (5 + i) 5) < (nI 2) then if (σ (5 + i) 5) = 0 then if (σ (5 + i) 6) ≤ 0 then ltt (up σ (5 + i) 5 (nI 0)) (fun u6 => ltt (up u6 (5 + i) 6 (nI 0)) (fun u7 => u7)) else ltt (up σ (5 + i) 1 (m_max (nI 0) ((σ (5 + i) 1) - (nI 1)))) (fun u8 => ltt (up u8 (5 + i) 5 (nI 0)) (fun u9 => ltt (up u9 (5 + i) 6 (nI 0)) (fun u10 => u10))) else ltt (up σ (5 + i) 5 (nI 0)) (fun u3 => ltt (up u3 (5 + i) 6 (nI 0)) (fun u4 => u4)) else ltt (up σ (5 + i) 1 (m_min (nI 10) ((σ (5 + i) 1) + (nI 1)))) (fun u11 => ltt (up u11 (5 + i) 5 (nI 0)) (fun u12 => ltt (up u12 (5 + i) 6 (nI 0)) (fun u13 => u13)))
abbrev rm_X2_endDay : Room := { frames := 1, cells := 0, slots := 0, locals := 21 }
set_option maxHeartbeats 4000000 in
set_option maxRecDepth 100000 in
theorem c_X2_endDay (l : Launch) (D : va_G) (cy : Nat → ClassId) (ad : Nat → Nat) (σ : Sg) (i : Nat) (hi : i < 8) : gMv l yX2_endDay wsX2_endDay rm_X2_endDay D (Ty cy) (RW cy ad) [.ref (ad (5 + i))] σ (s_X2_endDay σ i) 0 0 := by
  refine gstartv cX2_endDay 1 RX2 (by decide) rfl rfl (Nat.le_of_ble_eq_true rfl) ?_
  intro p e s m below meth c A ls hx hb hml hown hts hr hlocks hK hP hD hA hS hl
  have hl : lv_has ls 1 [(0, .ref (ad (5 + i)))] := hl
  have hf : s_X2_endDay σ i = s_X2_endDay σ i := rfl
  have hin2 : ∀ w ∈ wsX20, w ∈ wsX2_endDay := by decide +kernel
  have wd0 := hts (.fieldLink RX2 27 "UmbrellaLand$Shelter" "forgottenToday" "I") (by decide +kernel)
  have wd1 := hts (.fieldLink RX2 30 "UmbrellaLand$Shelter" "refusedToday" "I") (by decide +kernel)
  have wd2 := hts (.fieldLink RX2 15 "UmbrellaLand$Shelter" "demand" "I") (by decide +kernel)
  have wd3 := hts (.methodLink RX2 39 Lib.Math.max.name) (by decide +kernel)
  have wd4 := hts (.static Lib.Math.max.name) (by decide +kernel)
  have wd5 := hts (.initialized "java/lang/Math") (by decide +kernel)
  have wd6 := hts (.code Lib.Math.max.name Lib.Math.max.code 2 (some .int)) (by decide +kernel)
  have wd7 := hts (.methodLink RX2 33 Lib.Math.min.name) (by decide +kernel)
  have wd8 := hts (.static Lib.Math.min.name) (by decide +kernel)
  have wd9 := hts (.code Lib.Math.min.name Lib.Math.min.code 2 (some .int)) (by decide +kernel)
  refine lv_aload_n hx hb dX2_endDay_0 rfl (lv_at hl 0 rfl) ?_
  refine va_get (D := D) (ci := 2) (v := .int (σ (5 + i) 5)) (C := RX2) (T := TX2) (N := 7) hx hb hts hin2 hown hK hP (5 + i) (RW_sh cy ad σ hi) rfl 5 (by decide) wd0 (fun _ h9 => h9) rfl dX2_endDay_1 ?_
  refine lv_iconst (v := nI 2) hx hb dX2_endDay_4 (by decide) ?_
  refine lv_icmp_lt (tgt := 26) hx hb dX2_endDay_5 (by decide) (fun c1 => ?_) (fun c1 => ?_)
  · replace hf := hf.trans (if_pos c1)
    refine lv_aload_n hx hb dX2_endDay_26 rfl (lv_at hl 0 rfl) ?_
    refine va_get (D := D) (ci := 2) (v := .int (σ (5 + i) 5)) (C := RX2) (T := TX2) (N := 7) hx hb hts hin2 hown hK hP (5 + i) (RW_sh cy ad σ hi) rfl 5 (by decide) wd0 (fun _ h9 => h9) rfl dX2_endDay_27 ?_
    refine lv_if_ne (tgt := 54) hx hb dX2_endDay_30 (by decide) (fun c2 => ?_) (fun c2 => ?_)
    · replace hf := hf.trans (if_neg c2)
      refine lv_aload_n hx hb dX2_endDay_54 rfl (lv_at hl 0 rfl) ?_
      refine lv_iconst (v := nI 0) hx hb dX2_endDay_55 (by decide) ?_
      refine g_put (σ1 := up σ (5 + i) 5 (nI 0)) (fs := shF (σ (5 + i))) (C := RX2) (T := TX2) (N := 7) hx hb hts hin2 tyX2_ok nmX2 hown hK hP hD hS (5 + i) (RW_sh cy ad σ hi) rfl 5 (by decide) wd0 rfl rfl (Nat.le_of_ble_eq_true rfl) (RW_sh_set cy ad σ hi 5 (by decide) _) dX2_endDay_56 ?_
      intro u3 eu3 H locs hP hD hS
      replace hf := hf.trans (ltt_r eu3)
      refine lv_aload_n hx hb dX2_endDay_59 rfl (lv_at hl 0 rfl) ?_
      refine lv_iconst (v := nI 0) hx hb dX2_endDay_60 (by decide) ?_
      refine g_put (σ1 := up u3 (5 + i) 6 (nI 0)) (fs := shF (u3 (5 + i))) (C := RX2) (T := TX2) (N := 7) hx hb hts hin2 tyX2_ok nmX2 hown hK hP hD hS (5 + i) (RW_sh cy ad u3 hi) rfl 6 (by decide) wd1 rfl rfl (Nat.le_of_ble_eq_true rfl) (RW_sh_set cy ad u3 hi 6 (by decide) _) dX2_endDay_61 ?_
      intro u4 eu4 H locs hP hD hS
      replace hf := hf.trans (ltt_r eu4)
      exact g_endv hx hb hr hlocks hf hP hD hS (Nat.le_of_ble_eq_true rfl) (Nat.le_of_ble_eq_true rfl) dX2_endDay_64
    · replace hf := hf.trans (if_pos c2)
      refine lv_aload_n hx hb dX2_endDay_33 rfl (lv_at hl 0 rfl) ?_
      refine va_get (D := D) (ci := 2) (v := .int (σ (5 + i) 6)) (C := RX2) (T := TX2) (N := 7) hx hb hts hin2 hown hK hP (5 + i) (RW_sh cy ad σ hi) rfl 6 (by decide) wd1 (fun _ h9 => h9) rfl dX2_endDay_34 ?_
      refine lv_if_le (tgt := 54) hx hb dX2_endDay_37 (by decide) (fun c5 => ?_) (fun c5 => ?_)
      · replace hf := hf.trans (if_pos c5)
        refine lv_aload_n hx hb dX2_endDay_54 rfl (lv_at hl 0 rfl) ?_
        refine lv_iconst (v := nI 0) hx hb dX2_endDay_55 (by decide) ?_
        refine g_put (σ1 := up σ (5 + i) 5 (nI 0)) (fs := shF (σ (5 + i))) (C := RX2) (T := TX2) (N := 7) hx hb hts hin2 tyX2_ok nmX2 hown hK hP hD hS (5 + i) (RW_sh cy ad σ hi) rfl 5 (by decide) wd0 rfl rfl (Nat.le_of_ble_eq_true rfl) (RW_sh_set cy ad σ hi 5 (by decide) _) dX2_endDay_56 ?_
        intro u6 eu6 H locs hP hD hS
        replace hf := hf.trans (ltt_r eu6)
        refine lv_aload_n hx hb dX2_endDay_59 rfl (lv_at hl 0 rfl) ?_
        refine lv_iconst (v := nI 0) hx hb dX2_endDay_60 (by decide) ?_
        refine g_put (σ1 := up u6 (5 + i) 6 (nI 0)) (fs := shF (u6 (5 + i))) (C := RX2) (T := TX2) (N := 7) hx hb hts hin2 tyX2_ok nmX2 hown hK hP hD hS (5 + i) (RW_sh cy ad u6 hi) rfl 6 (by decide) wd1 rfl rfl (Nat.le_of_ble_eq_true rfl) (RW_sh_set cy ad u6 hi 6 (by decide) _) dX2_endDay_61 ?_
        intro u7 eu7 H locs hP hD hS
        replace hf := hf.trans (ltt_r eu7)
        exact g_endv hx hb hr hlocks hf hP hD hS (Nat.le_of_ble_eq_true rfl) (Nat.le_of_ble_eq_true rfl) dX2_endDay_64
      · replace hf := hf.trans (if_neg c5)
        refine lv_aload_n hx hb dX2_endDay_40 rfl (lv_at hl 0 rfl) ?_
        refine lv_iconst (v := nI 0) hx hb dX2_endDay_41 (by decide) ?_
        refine lv_aload_n hx hb dX2_endDay_42 rfl (lv_at hl 0 rfl) ?_
        refine va_get (D := D) (ci := 2) (v := .int (σ (5 + i) 1)) (C := RX2) (T := TX2) (N := 7) hx hb hts hin2 hown hK hP (5 + i) (RW_sh cy ad σ hi) rfl 1 (by decide) wd2 (fun _ h9 => h9) rfl dX2_endDay_43 ?_
        refine lv_iconst (v := nI 1) hx hb dX2_endDay_46 (by decide) ?_
        refine lv_isub hx hb dX2_endDay_47 ?_
        refine va_mmax hx hb (hml.trans hl.1.symm) hown wd3 wd4 wd5 wd6 (Nat.le_of_ble_eq_true rfl) (Nat.le_of_ble_eq_true rfl) (Nat.le_of_ble_eq_true rfl) (Nat.le_of_ble_eq_true rfl) dX2_endDay_48 ?_
        refine g_put (σ1 := up σ (5 + i) 1 (m_max (nI 0) ((σ (5 + i) 1) - (nI 1)))) (fs := shF (σ (5 + i))) (C := RX2) (T := TX2) (N := 7) hx hb hts hin2 tyX2_ok nmX2 hown hK hP hD hS (5 + i) (RW_sh cy ad σ hi) rfl 1 (by decide) wd2 rfl rfl (Nat.le_of_ble_eq_true rfl) (RW_sh_set cy ad σ hi 1 (by decide) _) dX2_endDay_51 ?_
        intro u8 eu8 H locs hP hD hS
        replace hf := hf.trans (ltt_r eu8)
        refine lv_aload_n hx hb dX2_endDay_54 rfl (lv_at hl 0 rfl) ?_
        refine lv_iconst (v := nI 0) hx hb dX2_endDay_55 (by decide) ?_
        refine g_put (σ1 := up u8 (5 + i) 5 (nI 0)) (fs := shF (u8 (5 + i))) (C := RX2) (T := TX2) (N := 7) hx hb hts hin2 tyX2_ok nmX2 hown hK hP hD hS (5 + i) (RW_sh cy ad u8 hi) rfl 5 (by decide) wd0 rfl rfl (Nat.le_of_ble_eq_true rfl) (RW_sh_set cy ad u8 hi 5 (by decide) _) dX2_endDay_56 ?_
        intro u9 eu9 H locs hP hD hS
        replace hf := hf.trans (ltt_r eu9)
        refine lv_aload_n hx hb dX2_endDay_59 rfl (lv_at hl 0 rfl) ?_
        refine lv_iconst (v := nI 0) hx hb dX2_endDay_60 (by decide) ?_
        refine g_put (σ1 := up u9 (5 + i) 6 (nI 0)) (fs := shF (u9 (5 + i))) (C := RX2) (T := TX2) (N := 7) hx hb hts hin2 tyX2_ok nmX2 hown hK hP hD hS (5 + i) (RW_sh cy ad u9 hi) rfl 6 (by decide) wd1 rfl rfl (Nat.le_of_ble_eq_true rfl) (RW_sh_set cy ad u9 hi 6 (by decide) _) dX2_endDay_61 ?_
        intro u10 eu10 H locs hP hD hS
        replace hf := hf.trans (ltt_r eu10)
        exact g_endv hx hb hr hlocks hf hP hD hS (Nat.le_of_ble_eq_true rfl) (Nat.le_of_ble_eq_true rfl) dX2_endDay_64
  · replace hf := hf.trans (if_neg c1)
    refine lv_aload_n hx hb dX2_endDay_8 rfl (lv_at hl 0 rfl) ?_
    refine lv_bipush (v := nI 10) hx hb dX2_endDay_9 (by decide) ?_
    refine lv_aload_n hx hb dX2_endDay_11 rfl (lv_at hl 0 rfl) ?_
    refine va_get (D := D) (ci := 2) (v := .int (σ (5 + i) 1)) (C := RX2) (T := TX2) (N := 7) hx hb hts hin2 hown hK hP (5 + i) (RW_sh cy ad σ hi) rfl 1 (by decide) wd2 (fun _ h9 => h9) rfl dX2_endDay_12 ?_
    refine lv_iconst (v := nI 1) hx hb dX2_endDay_15 (by decide) ?_
    refine lv_iadd hx hb dX2_endDay_16 ?_
    refine va_mmin hx hb (hml.trans hl.1.symm) hown wd7 wd8 wd5 wd9 (Nat.le_of_ble_eq_true rfl) (Nat.le_of_ble_eq_true rfl) (Nat.le_of_ble_eq_true rfl) (Nat.le_of_ble_eq_true rfl) dX2_endDay_17 ?_
    refine g_put (σ1 := up σ (5 + i) 1 (m_min (nI 10) ((σ (5 + i) 1) + (nI 1)))) (fs := shF (σ (5 + i))) (C := RX2) (T := TX2) (N := 7) hx hb hts hin2 tyX2_ok nmX2 hown hK hP hD hS (5 + i) (RW_sh cy ad σ hi) rfl 1 (by decide) wd2 rfl rfl (Nat.le_of_ble_eq_true rfl) (RW_sh_set cy ad σ hi 1 (by decide) _) dX2_endDay_20 ?_
    intro u11 eu11 H locs hP hD hS
    replace hf := hf.trans (ltt_r eu11)
    refine lv_goto (tgt := 54) hx hb dX2_endDay_23 (by decide) ?_
    refine lv_aload_n hx hb dX2_endDay_54 rfl (lv_at hl 0 rfl) ?_
    refine lv_iconst (v := nI 0) hx hb dX2_endDay_55 (by decide) ?_
    refine g_put (σ1 := up u11 (5 + i) 5 (nI 0)) (fs := shF (u11 (5 + i))) (C := RX2) (T := TX2) (N := 7) hx hb hts hin2 tyX2_ok nmX2 hown hK hP hD hS (5 + i) (RW_sh cy ad u11 hi) rfl 5 (by decide) wd0 rfl rfl (Nat.le_of_ble_eq_true rfl) (RW_sh_set cy ad u11 hi 5 (by decide) _) dX2_endDay_56 ?_
    intro u12 eu12 H locs hP hD hS
    replace hf := hf.trans (ltt_r eu12)
    refine lv_aload_n hx hb dX2_endDay_59 rfl (lv_at hl 0 rfl) ?_
    refine lv_iconst (v := nI 0) hx hb dX2_endDay_60 (by decide) ?_
    refine g_put (σ1 := up u12 (5 + i) 6 (nI 0)) (fs := shF (u12 (5 + i))) (C := RX2) (T := TX2) (N := 7) hx hb hts hin2 tyX2_ok nmX2 hown hK hP hD hS (5 + i) (RW_sh cy ad u12 hi) rfl 6 (by decide) wd1 rfl rfl (Nat.le_of_ble_eq_true rfl) (RW_sh_set cy ad u12 hi 6 (by decide) _) dX2_endDay_61 ?_
    intro u13 eu13 H locs hP hD hS
    replace hf := hf.trans (ltt_r eu13)
    exact g_endv hx hb hr hlocks hf hP hD hS (Nat.le_of_ble_eq_true rfl) (Nat.le_of_ble_eq_true rfl) dX2_endDay_64
