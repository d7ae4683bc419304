def s_X5_copy (σ : Sg × Sg) (j : Nat) : Sg × Sg := (σ.1, upr σ.2 j (va_cpy (σ.1 j) (σ.2 j) 0 0 (sLen j)))
abbrev rm_X5_copy : Room := { frames := 1, cells := 0, slots := 0, locals := 26 }
theorem sLen_lt (j : Nat) : sLen j < 2 ^ 31 := by
  unfold sLen
  repeat' split
  all_goals decide
set_option maxHeartbeats 4000000 in
set_option maxRecDepth 100000 in
theorem c_X5_copy (l : Launch) (D : va_G) (cy : Nat → ClassId) (x0 : Nat) (ad ad2 : Nat → Nat) (σ : Sg × Sg) (j : Nat) (hj : 0 < j ∧ j < 17) : gMv l yX5_copy wsX5_copy rm_X5_copy D (Ty cy) (BW cy x0 ad ad2) [.ref (ad2 0), .ref (ad j), .ref (ad2 j)] σ (s_X5_copy σ j) 0 0 := by
  refine gstartv cX5_copy 3 RX5 (by decide) rfl rfl (Nat.le_of_ble_eq_true rfl) ?_
  intro p e s m below meth c A ls hx hb hml hown hts hr hlocks hK hP hD hA hS hl
  have hl : lv_has ls 3 [(0, .ref (ad2 0)), (1, .ref (ad j)), (2, .ref (ad2 j))] := hl
  have hf : s_X5_copy σ j = s_X5_copy σ j := rfl
  have w1 := hts (.methodLink RX5 64 arraycopyName) (by decide +kernel)
  have w2 := hts (.native arraycopyName) (by decide +kernel)
  have w3 := hts (.static arraycopyName) (by decide +kernel)
  have w4 := hts (.initialized "java/lang/System") (by decide +kernel)
  have h0 : (BW cy x0 ad ad2 σ)[j]? = some (ad j, .inl (cy 0, sLen j, .inl (σ.1 j))) := gx_l (SW_ar cy x0 ad σ.1 hj)
  have h1 : (BW cy x0 ad ad2 σ)[17 + j]? = some (ad2 j, .inl (cy 0, sLen j, .inl (σ.2 j))) := gx_r (WD_len _ _ _ _) (SW_ar cy x0 ad2 σ.2 hj)
  have hb4 := sLen_lt j
  refine lv_aload_n hx hb dX5_copy_0 rfl (lv_at hl 1 rfl) ?_
  refine lv_iconst (v := nI 0) hx hb dX5_copy_1 (by decide) ?_
  refine lv_aload_n hx hb dX5_copy_2 rfl (lv_at hl 2 rfl) ?_
  refine lv_iconst (v := nI 0) hx hb dX5_copy_3 (by decide) ?_
  refine lv_aload_n hx hb dX5_copy_4 rfl (lv_at hl 1 rfl) ?_
  refine va_alen hx hb hK hP j 0 h0 rfl (v := nI (sLen j)) rfl dX5_copy_5 ?_
  refine g_copyi (σ1 := (σ.1, upr σ.2 j (va_cpy (σ.1 j) (σ.2 j) 0 0 (sLen j)))) hx hb (hml.trans hl.1.symm) hown w1 w2 w3 w4 hK hP hD hS j (17 + j) 0 0 h0 h1 rfl rfl ⟨by omega, hb4⟩ ⟨by omega, hb4⟩ (Nat.le_of_ble_eq_true rfl) (Nat.le_of_ble_eq_true rfl) (gx_setr (WD_len _ _ _ _) (SW_ar_setr cy x0 ad2 σ.2 hj _)) dX5_copy_6 ?_
  intro u eu H locs hP hD hS
  exact g_endv hx hb hr hlocks (hf.trans eu.symm) hP hD hS (Nat.le_of_ble_eq_true rfl) (Nat.le_of_ble_eq_true rfl) dX5_copy_9
def s_X5_become (σ : Sg × Sg) : Sg × Sg := ltt ((σ.1, up σ.2 0 0 (σ.1 0 0))) (fun u1 => ltt ((u1.1, up u1.2 0 1 (u1.1 0 1))) (fun u2 => ltt ((u2.1, up u2.2 0 5 (u2.1 0 5))) (fun u3 => ltt ((u3.1, up u3.2 0 12 (u3.1 0 12))) (fun u4 => ltt ((u4.1, up u4.2 0 20 (u4.1 0 20))) (fun u5 => ltt (s_X5_copy u5 1) (fun u6 => ltt (s_X5_copy u6 2) (fun u7 => ltt (s_X5_copy u7 3) (fun u8 => ltt (s_X5_copy u8 4) (fun u9 => ltt (s_X5_copy u9 5) (fun u10 => ltt (s_X5_copy u10 6) (fun u11 => ltt (s_X5_copy u11 7) (fun u12 => ltt (s_X5_copy u12 8) (fun u13 => ltt (s_X5_copy u13 9) (fun u14 => ltt (s_X5_copy u14 10) (fun u15 => ltt (s_X5_copy u15 11) (fun u16 => ltt (s_X5_copy u16 12) (fun u17 => ltt (s_X5_copy u17 13) (fun u18 => ltt (s_X5_copy u18 14) (fun u19 => ltt (s_X5_copy u19 15) (fun u20 => ltt (s_X5_copy u20 16) (fun u21 => u21)))))))))))))))))))))
abbrev rm_X5_become : Room := { frames := 2, cells := 0, slots := 0, locals := 48 }
set_option maxHeartbeats 4000000 in
set_option maxRecDepth 100000 in
theorem c_X5_become (l : Launch) (D : va_G) (cy : Nat → ClassId) (x0 : Nat) (ad ad2 : Nat → Nat) (σ : Sg × Sg)  : gMv l yX5_become wsX5_become rm_X5_become D (Ty cy) (BW cy x0 ad ad2) [.ref (ad2 0), .ref (ad 0)] σ (s_X5_become σ) 0 0 := by
  refine gstartv cX5_become 2 RX5 (by decide) rfl rfl (Nat.le_of_ble_eq_true rfl) ?_
  intro p e s m below meth c A ls hx hb hml hown hts hr hlocks hK hP hD hA hS hl
  have hl : lv_has ls 2 [(0, .ref (ad2 0)), (1, .ref (ad 0))] := hl
  have hf : s_X5_become σ = s_X5_become σ := rfl
  have hin5 : ∀ w ∈ wsX50, w ∈ wsX5_become := by decide +kernel
  have wd0 := hts (.fieldLink RX5 70 "UmbrellaLandModel$State" "hour" "I") (by decide +kernel)
  have wd1 := hts (.fieldLink RX5 74 "UmbrellaLandModel$State" "shelters" "I") (by decide +kernel)
  have wd2 := hts (.fieldLink RX5 77 "UmbrellaLandModel$State" "umbrellas" "I") (by decide +kernel)
  have wd3 := hts (.fieldLink RX5 80 "UmbrellaLandModel$State" "citizens" "I") (by decide +kernel)
  have wd4 := hts (.fieldLink RX5 83 "UmbrellaLandModel$State" "carried" "I") (by decide +kernel)
  have wd5 := hts (.fieldLink RX5 15 "UmbrellaLandModel$State" "place" "[I") (by decide +kernel)
  have wd6 := hts (.fieldLink RX5 19 "UmbrellaLandModel$State" "demand" "[I") (by decide +kernel)
  have wd7 := hts (.fieldLink RX5 22 "UmbrellaLandModel$State" "told" "[I") (by decide +kernel)
  have wd8 := hts (.fieldLink RX5 25 "UmbrellaLandModel$State" "kind" "[I") (by decide +kernel)
  have wd9 := hts (.fieldLink RX5 28 "UmbrellaLandModel$State" "at" "[I") (by decide +kernel)
  have wd10 := hts (.fieldLink RX5 31 "UmbrellaLandModel$State" "wear" "[I") (by decide +kernel)
  have wd11 := hts (.fieldLink RX5 34 "UmbrellaLandModel$State" "waits" "[I") (by decide +kernel)
  have wd12 := hts (.fieldLink RX5 37 "UmbrellaLandModel$State" "taken" "[I") (by decide +kernel)
  have wd13 := hts (.fieldLink RX5 40 "UmbrellaLandModel$State" "from" "[I") (by decide +kernel)
  have wd14 := hts (.fieldLink RX5 43 "UmbrellaLandModel$State" "citizen" "[I") (by decide +kernel)
  have wd15 := hts (.fieldLink RX5 46 "UmbrellaLandModel$State" "is" "[I") (by decide +kernel)
  have wd16 := hts (.fieldLink RX5 49 "UmbrellaLandModel$State" "to" "[I") (by decide +kernel)
  have wd17 := hts (.fieldLink RX5 52 "UmbrellaLandModel$State" "left" "[I") (by decide +kernel)
  have wd18 := hts (.fieldLink RX5 55 "UmbrellaLandModel$State" "holds" "[I") (by decide +kernel)
  have wd19 := hts (.fieldLink RX5 58 "UmbrellaLandModel$State" "trust" "[I") (by decide +kernel)
  have wd20 := hts (.fieldLink RX5 61 "UmbrellaLandModel$State" "own" "[I") (by decide +kernel)
  refine lv_aload_n hx hb dX5_become_0 rfl (lv_at hl 0 rfl) ?_
  refine lv_aload_n hx hb dX5_become_1 rfl (lv_at hl 1 rfl) ?_
  refine va_get (D := D) (ci := 5) (v := .int (σ.1 0 0)) (C := RX5) (T := TX5) (N := 22) hx hb hts hin5 hown hK hP (0) (gx_l (SW_ob cy x0 ad σ.1)) rfl 0 (by decide) wd0 (fun _ h9 => h9) rfl dX5_become_2 ?_
  refine g_put (σ1 := (σ.1, up σ.2 0 0 (σ.1 0 0))) (fs := stF x0 ad2 (σ.2 0)) (C := RX5) (T := TX5) (N := 22) hx hb hts hin5 tyX5_ok nmX5 hown hK hP hD hS (17 + (0)) (gx_r (WD_len _ _ _ _) (SW_ob cy x0 ad2 σ.2)) rfl 0 (by decide) wd0 rfl rfl (Nat.le_of_ble_eq_true rfl) (gx_setr (WD_len _ _ _ _) (SW_ob_set cy x0 ad2 σ.2 0 (by decide) _)) dX5_become_5 ?_
  intro u1 eu1 H locs hP hD hS
  replace hf := hf.trans (ltt_r eu1)
  refine lv_aload_n hx hb dX5_become_8 rfl (lv_at hl 0 rfl) ?_
  refine lv_aload_n hx hb dX5_become_9 rfl (lv_at hl 1 rfl) ?_
  refine va_get (D := D) (ci := 5) (v := .int (u1.1 0 1)) (C := RX5) (T := TX5) (N := 22) hx hb hts hin5 hown hK hP (0) (gx_l (SW_ob cy x0 ad u1.1)) rfl 1 (by decide) wd1 (fun _ h9 => h9) rfl dX5_become_10 ?_
  refine g_put (σ1 := (u1.1, up u1.2 0 1 (u1.1 0 1))) (fs := stF x0 ad2 (u1.2 0)) (C := RX5) (T := TX5) (N := 22) hx hb hts hin5 tyX5_ok nmX5 hown hK hP hD hS (17 + (0)) (gx_r (WD_len _ _ _ _) (SW_ob cy x0 ad2 u1.2)) rfl 1 (by decide) wd1 rfl rfl (Nat.le_of_ble_eq_true rfl) (gx_setr (WD_len _ _ _ _) (SW_ob_set cy x0 ad2 u1.2 1 (by decide) _)) dX5_become_13 ?_
  intro u2 eu2 H locs hP hD hS
  replace hf := hf.trans (ltt_r eu2)
  refine lv_aload_n hx hb dX5_become_16 rfl (lv_at hl 0 rfl) ?_
  refine lv_aload_n hx hb dX5_become_17 rfl (lv_at hl 1 rfl) ?_
  refine va_get (D := D) (ci := 5) (v := .int (u2.1 0 5)) (C := RX5) (T := TX5) (N := 22) hx hb hts hin5 hown hK hP (0) (gx_l (SW_ob cy x0 ad u2.1)) rfl 5 (by decide) wd2 (fun _ h9 => h9) rfl dX5_become_18 ?_
  refine g_put (σ1 := (u2.1, up u2.2 0 5 (u2.1 0 5))) (fs := stF x0 ad2 (u2.2 0)) (C := RX5) (T := TX5) (N := 22) hx hb hts hin5 tyX5_ok nmX5 hown hK hP hD hS (17 + (0)) (gx_r (WD_len _ _ _ _) (SW_ob cy x0 ad2 u2.2)) rfl 5 (by decide) wd2 rfl rfl (Nat.le_of_ble_eq_true rfl) (gx_setr (WD_len _ _ _ _) (SW_ob_set cy x0 ad2 u2.2 5 (by decide) _)) dX5_become_21 ?_
  intro u3 eu3 H locs hP hD hS
  replace hf := hf.trans (ltt_r eu3)
  refine lv_aload_n hx hb dX5_become_24 rfl (lv_at hl 0 rfl) ?_
  refine lv_aload_n hx hb dX5_become_25 rfl (lv_at hl 1 rfl) ?_
  refine va_get (D := D) (ci := 5) (v := .int (u3.1 0 12)) (C := RX5) (T := TX5) (N := 22) hx hb hts hin5 hown hK hP (0) (gx_l (SW_ob cy x0 ad u3.1)) rfl 12 (by decide) wd3 (fun _ h9 => h9) rfl dX5_become_26 ?_
  refine g_put (σ1 := (u3.1, up u3.2 0 12 (u3.1 0 12))) (fs := stF x0 ad2 (u3.2 0)) (C := RX5) (T := TX5) (N := 22) hx hb hts hin5 tyX5_ok nmX5 hown hK hP hD hS (17 + (0)) (gx_r (WD_len _ _ _ _) (SW_ob cy x0 ad2 u3.2)) rfl 12 (by decide) wd3 rfl rfl (Nat.le_of_ble_eq_true rfl) (gx_setr (WD_len _ _ _ _) (SW_ob_set cy x0 ad2 u3.2 12 (by decide) _)) dX5_become_29 ?_
  intro u4 eu4 H locs hP hD hS
  replace hf := hf.trans (ltt_r eu4)
  refine lv_aload_n hx hb dX5_become_32 rfl (lv_at hl 0 rfl) ?_
  refine lv_aload_n hx hb dX5_become_33 rfl (lv_at hl 1 rfl) ?_
  refine va_get (D := D) (ci := 5) (v := .int (u4.1 0 20)) (C := RX5) (T := TX5) (N := 22) hx hb hts hin5 hown hK hP (0) (gx_l (SW_ob cy x0 ad u4.1)) rfl 20 (by decide) wd4 (fun _ h9 => h9) rfl dX5_become_34 ?_
  refine g_put (σ1 := (u4.1, up u4.2 0 20 (u4.1 0 20))) (fs := stF x0 ad2 (u4.2 0)) (C := RX5) (T := TX5) (N := 22) hx hb hts hin5 tyX5_ok nmX5 hown hK hP hD hS (17 + (0)) (gx_r (WD_len _ _ _ _) (SW_ob cy x0 ad2 u4.2)) rfl 20 (by decide) wd4 rfl rfl (Nat.le_of_ble_eq_true rfl) (gx_setr (WD_len _ _ _ _) (SW_ob_set cy x0 ad2 u4.2 20 (by decide) _)) dX5_become_37 ?_
  intro u5 eu5 H locs hP hD hS
  replace hf := hf.trans (ltt_r eu5)
  refine lv_aload_n hx hb dX5_become_40 rfl (lv_at hl 0 rfl) ?_
  refine lv_aload_n hx hb dX5_become_41 rfl (lv_at hl 1 rfl) ?_
  refine va_get (D := D) (ci := 5) (v := .ref (ad 1)) (C := RX5) (T := TX5) (N := 22) hx hb hts hin5 hown hK hP (0) (gx_l (SW_ob cy x0 ad u5.1)) rfl 2 (by decide) wd5 (fun _ h9 => h9) rfl dX5_become_42 ?_
  refine lv_aload_n hx hb dX5_become_45 rfl (lv_at hl 0 rfl) ?_
  refine va_get (D := D) (ci := 5) (v := .ref (ad2 1)) (C := RX5) (T := TX5) (N := 22) hx hb hts hin5 hown hK hP (17 + (0)) (gx_r (WD_len _ _ _ _) (SW_ob cy x0 ad2 u5.2)) rfl 2 (by decide) wd5 (fun _ h9 => h9) rfl dX5_become_46 ?_
  refine g_callv (q0 := 17 + (0)) (wf := (BW cy x0 ad ad2)) (σ := u5) (wfc := (BW cy x0 ad ad2)) (σc := u5) hx hb hml hown hts hK hP hD hS hA hl.1 [] pm_0 (fun u => u) (fun _ => pm_0b) [.ref (ad 1), .ref (ad2 1)] (c_X5_copy l D cy x0 ad ad2 u5 1 ⟨by decide, by decide⟩) (cwV 2 hts gX5_become_X5_copy rfl rfl rfl (by decide +kernel) ⟨Nat.le_of_ble_eq_true rfl, Nat.le_of_ble_eq_true rfl⟩) (gx_r (WD_len _ _ _ _) (SW_ob cy x0 ad2 u5.2)) rfl rfl rfl rfl (Nat.le_of_ble_eq_true rfl) dX5_become_49 ⟨Nat.le_of_ble_eq_true rfl, Nat.le_of_ble_eq_true rfl⟩ rfl rfl ?_
  intro u6 eu6 H locs hP hD hS
  replace hf := hf.trans (ltt_r eu6)
  refine lv_aload_n hx hb dX5_become_52 rfl (lv_at hl 0 rfl) ?_
  refine lv_aload_n hx hb dX5_become_53 rfl (lv_at hl 1 rfl) ?_
  refine va_get (D := D) (ci := 5) (v := .ref (ad 2)) (C := RX5) (T := TX5) (N := 22) hx hb hts hin5 hown hK hP (0) (gx_l (SW_ob cy x0 ad u6.1)) rfl 3 (by decide) wd6 (fun _ h9 => h9) rfl dX5_become_54 ?_
  refine lv_aload_n hx hb dX5_become_57 rfl (lv_at hl 0 rfl) ?_
  refine va_get (D := D) (ci := 5) (v := .ref (ad2 2)) (C := RX5) (T := TX5) (N := 22) hx hb hts hin5 hown hK hP (17 + (0)) (gx_r (WD_len _ _ _ _) (SW_ob cy x0 ad2 u6.2)) rfl 3 (by decide) wd6 (fun _ h9 => h9) rfl dX5_become_58 ?_
  refine g_callv (q0 := 17 + (0)) (wf := (BW cy x0 ad ad2)) (σ := u6) (wfc := (BW cy x0 ad ad2)) (σc := u6) hx hb hml hown hts hK hP hD hS hA hl.1 [] pm_0 (fun u => u) (fun _ => pm_0b) [.ref (ad 2), .ref (ad2 2)] (c_X5_copy l D cy x0 ad ad2 u6 2 ⟨by decide, by decide⟩) (cwV 2 hts gX5_become_X5_copy rfl rfl rfl (by decide +kernel) ⟨Nat.le_of_ble_eq_true rfl, Nat.le_of_ble_eq_true rfl⟩) (gx_r (WD_len _ _ _ _) (SW_ob cy x0 ad2 u6.2)) rfl rfl rfl rfl (Nat.le_of_ble_eq_true rfl) dX5_become_61 ⟨Nat.le_of_ble_eq_true rfl, Nat.le_of_ble_eq_true rfl⟩ rfl rfl ?_
  intro u7 eu7 H locs hP hD hS
  replace hf := hf.trans (ltt_r eu7)
  refine lv_aload_n hx hb dX5_become_64 rfl (lv_at hl 0 rfl) ?_
  refine lv_aload_n hx hb dX5_become_65 rfl (lv_at hl 1 rfl) ?_
  refine va_get (D := D) (ci := 5) (v := .ref (ad 3)) (C := RX5) (T := TX5) (N := 22) hx hb hts hin5 hown hK hP (0) (gx_l (SW_ob cy x0 ad u7.1)) rfl 4 (by decide) wd7 (fun _ h9 => h9) rfl dX5_become_66 ?_
  refine lv_aload_n hx hb dX5_become_69 rfl (lv_at hl 0 rfl) ?_
  refine va_get (D := D) (ci := 5) (v := .ref (ad2 3)) (C := RX5) (T := TX5) (N := 22) hx hb hts hin5 hown hK hP (17 + (0)) (gx_r (WD_len _ _ _ _) (SW_ob cy x0 ad2 u7.2)) rfl 4 (by decide) wd7 (fun _ h9 => h9) rfl dX5_become_70 ?_
  refine g_callv (q0 := 17 + (0)) (wf := (BW cy x0 ad ad2)) (σ := u7) (wfc := (BW cy x0 ad ad2)) (σc := u7) hx hb hml hown hts hK hP hD hS hA hl.1 [] pm_0 (fun u => u) (fun _ => pm_0b) [.ref (ad 3), .ref (ad2 3)] (c_X5_copy l D cy x0 ad ad2 u7 3 ⟨by decide, by decide⟩) (cwV 2 hts gX5_become_X5_copy rfl rfl rfl (by decide +kernel) ⟨Nat.le_of_ble_eq_true rfl, Nat.le_of_ble_eq_true rfl⟩) (gx_r (WD_len _ _ _ _) (SW_ob cy x0 ad2 u7.2)) rfl rfl rfl rfl (Nat.le_of_ble_eq_true rfl) dX5_become_73 ⟨Nat.le_of_ble_eq_true rfl, Nat.le_of_ble_eq_true rfl⟩ rfl rfl ?_
  intro u8 eu8 H locs hP hD hS
  replace hf := hf.trans (ltt_r eu8)
  refine lv_aload_n hx hb dX5_become_76 rfl (lv_at hl 0 rfl) ?_
  refine lv_aload_n hx hb dX5_become_77 rfl (lv_at hl 1 rfl) ?_
  refine va_get (D := D) (ci := 5) (v := .ref (ad 4)) (C := RX5) (T := TX5) (N := 22) hx hb hts hin5 hown hK hP (0) (gx_l (SW_ob cy x0 ad u8.1)) rfl 6 (by decide) wd8 (fun _ h9 => h9) rfl dX5_become_78 ?_
  refine lv_aload_n hx hb dX5_become_81 rfl (lv_at hl 0 rfl) ?_
  refine va_get (D := D) (ci := 5) (v := .ref (ad2 4)) (C := RX5) (T := TX5) (N := 22) hx hb hts hin5 hown hK hP (17 + (0)) (gx_r (WD_len _ _ _ _) (SW_ob cy x0 ad2 u8.2)) rfl 6 (by decide) wd8 (fun _ h9 => h9) rfl dX5_become_82 ?_
  refine g_callv (q0 := 17 + (0)) (wf := (BW cy x0 ad ad2)) (σ := u8) (wfc := (BW cy x0 ad ad2)) (σc := u8) hx hb hml hown hts hK hP hD hS hA hl.1 [] pm_0 (fun u => u) (fun _ => pm_0b) [.ref (ad 4), .ref (ad2 4)] (c_X5_copy l D cy x0 ad ad2 u8 4 ⟨by decide, by decide⟩) (cwV 2 hts gX5_become_X5_copy rfl rfl rfl (by decide +kernel) ⟨Nat.le_of_ble_eq_true rfl, Nat.le_of_ble_eq_true rfl⟩) (gx_r (WD_len _ _ _ _) (SW_ob cy x0 ad2 u8.2)) rfl rfl rfl rfl (Nat.le_of_ble_eq_true rfl) dX5_become_85 ⟨Nat.le_of_ble_eq_true rfl, Nat.le_of_ble_eq_true rfl⟩ rfl rfl ?_
  intro u9 eu9 H locs hP hD hS
  replace hf := hf.trans (ltt_r eu9)
  refine lv_aload_n hx hb dX5_become_88 rfl (lv_at hl 0 rfl) ?_
  refine lv_aload_n hx hb dX5_become_89 rfl (lv_at hl 1 rfl) ?_
  refine va_get (D := D) (ci := 5) (v := .ref (ad 5)) (C := RX5) (T := TX5) (N := 22) hx hb hts hin5 hown hK hP (0) (gx_l (SW_ob cy x0 ad u9.1)) rfl 7 (by decide) wd9 (fun _ h9 => h9) rfl dX5_become_90 ?_
  refine lv_aload_n hx hb dX5_become_93 rfl (lv_at hl 0 rfl) ?_
  refine va_get (D := D) (ci := 5) (v := .ref (ad2 5)) (C := RX5) (T := TX5) (N := 22) hx hb hts hin5 hown hK hP (17 + (0)) (gx_r (WD_len _ _ _ _) (SW_ob cy x0 ad2 u9.2)) rfl 7 (by decide) wd9 (fun _ h9 => h9) rfl dX5_become_94 ?_
  refine g_callv (q0 := 17 + (0)) (wf := (BW cy x0 ad ad2)) (σ := u9) (wfc := (BW cy x0 ad ad2)) (σc := u9) hx hb hml hown hts hK hP hD hS hA hl.1 [] pm_0 (fun u => u) (fun _ => pm_0b) [.ref (ad 5), .ref (ad2 5)] (c_X5_copy l D cy x0 ad ad2 u9 5 ⟨by decide, by decide⟩) (cwV 2 hts gX5_become_X5_copy rfl rfl rfl (by decide +kernel) ⟨Nat.le_of_ble_eq_true rfl, Nat.le_of_ble_eq_true rfl⟩) (gx_r (WD_len _ _ _ _) (SW_ob cy x0 ad2 u9.2)) rfl rfl rfl rfl (Nat.le_of_ble_eq_true rfl) dX5_become_97 ⟨Nat.le_of_ble_eq_true rfl, Nat.le_of_ble_eq_true rfl⟩ rfl rfl ?_
  intro u10 eu10 H locs hP hD hS
  replace hf := hf.trans (ltt_r eu10)
  refine lv_aload_n hx hb dX5_become_100 rfl (lv_at hl 0 rfl) ?_
  refine lv_aload_n hx hb dX5_become_101 rfl (lv_at hl 1 rfl) ?_
  refine va_get (D := D) (ci := 5) (v := .ref (ad 6)) (C := RX5) (T := TX5) (N := 22) hx hb hts hin5 hown hK hP (0) (gx_l (SW_ob cy x0 ad u10.1)) rfl 8 (by decide) wd10 (fun _ h9 => h9) rfl dX5_become_102 ?_
  refine lv_aload_n hx hb dX5_become_105 rfl (lv_at hl 0 rfl) ?_
  refine va_get (D := D) (ci := 5) (v := .ref (ad2 6)) (C := RX5) (T := TX5) (N := 22) hx hb hts hin5 hown hK hP (17 + (0)) (gx_r (WD_len _ _ _ _) (SW_ob cy x0 ad2 u10.2)) rfl 8 (by decide) wd10 (fun _ h9 => h9) rfl dX5_become_106 ?_
  refine g_callv (q0 := 17 + (0)) (wf := (BW cy x0 ad ad2)) (σ := u10) (wfc := (BW cy x0 ad ad2)) (σc := u10) hx hb hml hown hts hK hP hD hS hA hl.1 [] pm_0 (fun u => u) (fun _ => pm_0b) [.ref (ad 6), .ref (ad2 6)] (c_X5_copy l D cy x0 ad ad2 u10 6 ⟨by decide, by decide⟩) (cwV 2 hts gX5_become_X5_copy rfl rfl rfl (by decide +kernel) ⟨Nat.le_of_ble_eq_true rfl, Nat.le_of_ble_eq_true rfl⟩) (gx_r (WD_len _ _ _ _) (SW_ob cy x0 ad2 u10.2)) rfl rfl rfl rfl (Nat.le_of_ble_eq_true rfl) dX5_become_109 ⟨Nat.le_of_ble_eq_true rfl, Nat.le_of_ble_eq_true rfl⟩ rfl rfl ?_
  intro u11 eu11 H locs hP hD hS
  replace hf := hf.trans (ltt_r eu11)
  refine lv_aload_n hx hb dX5_become_112 rfl (lv_at hl 0 rfl) ?_
  refine lv_aload_n hx hb dX5_become_113 rfl (lv_at hl 1 rfl) ?_
  refine va_get (D := D) (ci := 5) (v := .ref (ad 7)) (C := RX5) (T := TX5) (N := 22) hx hb hts hin5 hown hK hP (0) (gx_l (SW_ob cy x0 ad u11.1)) rfl 9 (by decide) wd11 (fun _ h9 => h9) rfl dX5_become_114 ?_
  refine lv_aload_n hx hb dX5_become_117 rfl (lv_at hl 0 rfl) ?_
  refine va_get (D := D) (ci := 5) (v := .ref (ad2 7)) (C := RX5) (T := TX5) (N := 22) hx hb hts hin5 hown hK hP (17 + (0)) (gx_r (WD_len _ _ _ _) (SW_ob cy x0 ad2 u11.2)) rfl 9 (by decide) wd11 (fun _ h9 => h9) rfl dX5_become_118 ?_
  refine g_callv (q0 := 17 + (0)) (wf := (BW cy x0 ad ad2)) (σ := u11) (wfc := (BW cy x0 ad ad2)) (σc := u11) hx hb hml hown hts hK hP hD hS hA hl.1 [] pm_0 (fun u => u) (fun _ => pm_0b) [.ref (ad 7), .ref (ad2 7)] (c_X5_copy l D cy x0 ad ad2 u11 7 ⟨by decide, by decide⟩) (cwV 2 hts gX5_become_X5_copy rfl rfl rfl (by decide +kernel) ⟨Nat.le_of_ble_eq_true rfl, Nat.le_of_ble_eq_true rfl⟩) (gx_r (WD_len _ _ _ _) (SW_ob cy x0 ad2 u11.2)) rfl rfl rfl rfl (Nat.le_of_ble_eq_true rfl) dX5_become_121 ⟨Nat.le_of_ble_eq_true rfl, Nat.le_of_ble_eq_true rfl⟩ rfl rfl ?_
  intro u12 eu12 H locs hP hD hS
  replace hf := hf.trans (ltt_r eu12)
  refine lv_aload_n hx hb dX5_become_124 rfl (lv_at hl 0 rfl) ?_
  refine lv_aload_n hx hb dX5_become_125 rfl (lv_at hl 1 rfl) ?_
  refine va_get (D := D) (ci := 5) (v := .ref (ad 8)) (C := RX5) (T := TX5) (N := 22) hx hb hts hin5 hown hK hP (0) (gx_l (SW_ob cy x0 ad u12.1)) rfl 10 (by decide) wd12 (fun _ h9 => h9) rfl dX5_become_126 ?_
  refine lv_aload_n hx hb dX5_become_129 rfl (lv_at hl 0 rfl) ?_
  refine va_get (D := D) (ci := 5) (v := .ref (ad2 8)) (C := RX5) (T := TX5) (N := 22) hx hb hts hin5 hown hK hP (17 + (0)) (gx_r (WD_len _ _ _ _) (SW_ob cy x0 ad2 u12.2)) rfl 10 (by decide) wd12 (fun _ h9 => h9) rfl dX5_become_130 ?_
  refine g_callv (q0 := 17 + (0)) (wf := (BW cy x0 ad ad2)) (σ := u12) (wfc := (BW cy x0 ad ad2)) (σc := u12) hx hb hml hown hts hK hP hD hS hA hl.1 [] pm_0 (fun u => u) (fun _ => pm_0b) [.ref (ad 8), .ref (ad2 8)] (c_X5_copy l D cy x0 ad ad2 u12 8 ⟨by decide, by decide⟩) (cwV 2 hts gX5_become_X5_copy rfl rfl rfl (by decide +kernel) ⟨Nat.le_of_ble_eq_true rfl, Nat.le_of_ble_eq_true rfl⟩) (gx_r (WD_len _ _ _ _) (SW_ob cy x0 ad2 u12.2)) rfl rfl rfl rfl (Nat.le_of_ble_eq_true rfl) dX5_become_133 ⟨Nat.le_of_ble_eq_true rfl, Nat.le_of_ble_eq_true rfl⟩ rfl rfl ?_
  intro u13 eu13 H locs hP hD hS
  replace hf := hf.trans (ltt_r eu13)
  refine lv_aload_n hx hb dX5_become_136 rfl (lv_at hl 0 rfl) ?_
  refine lv_aload_n hx hb dX5_become_137 rfl (lv_at hl 1 rfl) ?_
  refine va_get (D := D) (ci := 5) (v := .ref (ad 9)) (C := RX5) (T := TX5) (N := 22) hx hb hts hin5 hown hK hP (0) (gx_l (SW_ob cy x0 ad u13.1)) rfl 11 (by decide) wd13 (fun _ h9 => h9) rfl dX5_become_138 ?_
  refine lv_aload_n hx hb dX5_become_141 rfl (lv_at hl 0 rfl) ?_
  refine va_get (D := D) (ci := 5) (v := .ref (ad2 9)) (C := RX5) (T := TX5) (N := 22) hx hb hts hin5 hown hK hP (17 + (0)) (gx_r (WD_len _ _ _ _) (SW_ob cy x0 ad2 u13.2)) rfl 11 (by decide) wd13 (fun _ h9 => h9) rfl dX5_become_142 ?_
  refine g_callv (q0 := 17 + (0)) (wf := (BW cy x0 ad ad2)) (σ := u13) (wfc := (BW cy x0 ad ad2)) (σc := u13) hx hb hml hown hts hK hP hD hS hA hl.1 [] pm_0 (fun u => u) (fun _ => pm_0b) [.ref (ad 9), .ref (ad2 9)] (c_X5_copy l D cy x0 ad ad2 u13 9 ⟨by decide, by decide⟩) (cwV 2 hts gX5_become_X5_copy rfl rfl rfl (by decide +kernel) ⟨Nat.le_of_ble_eq_true rfl, Nat.le_of_ble_eq_true rfl⟩) (gx_r (WD_len _ _ _ _) (SW_ob cy x0 ad2 u13.2)) rfl rfl rfl rfl (Nat.le_of_ble_eq_true rfl) dX5_become_145 ⟨Nat.le_of_ble_eq_true rfl, Nat.le_of_ble_eq_true rfl⟩ rfl rfl ?_
  intro u14 eu14 H locs hP hD hS
  replace hf := hf.trans (ltt_r eu14)
  refine lv_aload_n hx hb dX5_become_148 rfl (lv_at hl 0 rfl) ?_
  refine lv_aload_n hx hb dX5_become_149 rfl (lv_at hl 1 rfl) ?_
  refine va_get (D := D) (ci := 5) (v := .ref (ad 10)) (C := RX5) (T := TX5) (N := 22) hx hb hts hin5 hown hK hP (0) (gx_l (SW_ob cy x0 ad u14.1)) rfl 13 (by decide) wd14 (fun _ h9 => h9) rfl dX5_become_150 ?_
  refine lv_aload_n hx hb dX5_become_153 rfl (lv_at hl 0 rfl) ?_
  refine va_get (D := D) (ci := 5) (v := .ref (ad2 10)) (C := RX5) (T := TX5) (N := 22) hx hb hts hin5 hown hK hP (17 + (0)) (gx_r (WD_len _ _ _ _) (SW_ob cy x0 ad2 u14.2)) rfl 13 (by decide) wd14 (fun _ h9 => h9) rfl dX5_become_154 ?_
  refine g_callv (q0 := 17 + (0)) (wf := (BW cy x0 ad ad2)) (σ := u14) (wfc := (BW cy x0 ad ad2)) (σc := u14) hx hb hml hown hts hK hP hD hS hA hl.1 [] pm_0 (fun u => u) (fun _ => pm_0b) [.ref (ad 10), .ref (ad2 10)] (c_X5_copy l D cy x0 ad ad2 u14 10 ⟨by decide, by decide⟩) (cwV 2 hts gX5_become_X5_copy rfl rfl rfl (by decide +kernel) ⟨Nat.le_of_ble_eq_true rfl, Nat.le_of_ble_eq_true rfl⟩) (gx_r (WD_len _ _ _ _) (SW_ob cy x0 ad2 u14.2)) rfl rfl rfl rfl (Nat.le_of_ble_eq_true rfl) dX5_become_157 ⟨Nat.le_of_ble_eq_true rfl, Nat.le_of_ble_eq_true rfl⟩ rfl rfl ?_
  intro u15 eu15 H locs hP hD hS
  replace hf := hf.trans (ltt_r eu15)
  refine lv_aload_n hx hb dX5_become_160 rfl (lv_at hl 0 rfl) ?_
  refine lv_aload_n hx hb dX5_become_161 rfl (lv_at hl 1 rfl) ?_
  refine va_get (D := D) (ci := 5) (v := .ref (ad 11)) (C := RX5) (T := TX5) (N := 22) hx hb hts hin5 hown hK hP (0) (gx_l (SW_ob cy x0 ad u15.1)) rfl 14 (by decide) wd15 (fun _ h9 => h9) rfl dX5_become_162 ?_
  refine lv_aload_n hx hb dX5_become_165 rfl (lv_at hl 0 rfl) ?_
  refine va_get (D := D) (ci := 5) (v := .ref (ad2 11)) (C := RX5) (T := TX5) (N := 22) hx hb hts hin5 hown hK hP (17 + (0)) (gx_r (WD_len _ _ _ _) (SW_ob cy x0 ad2 u15.2)) rfl 14 (by decide) wd15 (fun _ h9 => h9) rfl dX5_become_166 ?_
  refine g_callv (q0 := 17 + (0)) (wf := (BW cy x0 ad ad2)) (σ := u15) (wfc := (BW cy x0 ad ad2)) (σc := u15) hx hb hml hown hts hK hP hD hS hA hl.1 [] pm_0 (fun u => u) (fun _ => pm_0b) [.ref (ad 11), .ref (ad2 11)] (c_X5_copy l D cy x0 ad ad2 u15 11 ⟨by decide, by decide⟩) (cwV 2 hts gX5_become_X5_copy rfl rfl rfl (by decide +kernel) ⟨Nat.le_of_ble_eq_true rfl, Nat.le_of_ble_eq_true rfl⟩) (gx_r (WD_len _ _ _ _) (SW_ob cy x0 ad2 u15.2)) rfl rfl rfl rfl (Nat.le_of_ble_eq_true rfl) dX5_become_169 ⟨Nat.le_of_ble_eq_true rfl, Nat.le_of_ble_eq_true rfl⟩ rfl rfl ?_
  intro u16 eu16 H locs hP hD hS
  replace hf := hf.trans (ltt_r eu16)
  refine lv_aload_n hx hb dX5_become_172 rfl (lv_at hl 0 rfl) ?_
  refine lv_aload_n hx hb dX5_become_173 rfl (lv_at hl 1 rfl) ?_
  refine va_get (D := D) (ci := 5) (v := .ref (ad 12)) (C := RX5) (T := TX5) (N := 22) hx hb hts hin5 hown hK hP (0) (gx_l (SW_ob cy x0 ad u16.1)) rfl 15 (by decide) wd16 (fun _ h9 => h9) rfl dX5_become_174 ?_
  refine lv_aload_n hx hb dX5_become_177 rfl (lv_at hl 0 rfl) ?_
  refine va_get (D := D) (ci := 5) (v := .ref (ad2 12)) (C := RX5) (T := TX5) (N := 22) hx hb hts hin5 hown hK hP (17 + (0)) (gx_r (WD_len _ _ _ _) (SW_ob cy x0 ad2 u16.2)) rfl 15 (by decide) wd16 (fun _ h9 => h9) rfl dX5_become_178 ?_
  refine g_callv (q0 := 17 + (0)) (wf := (BW cy x0 ad ad2)) (σ := u16) (wfc := (BW cy x0 ad ad2)) (σc := u16) hx hb hml hown hts hK hP hD hS hA hl.1 [] pm_0 (fun u => u) (fun _ => pm_0b) [.ref (ad 12), .ref (ad2 12)] (c_X5_copy l D cy x0 ad ad2 u16 12 ⟨by decide, by decide⟩) (cwV 2 hts gX5_become_X5_copy rfl rfl rfl (by decide +kernel) ⟨Nat.le_of_ble_eq_true rfl, Nat.le_of_ble_eq_true rfl⟩) (gx_r (WD_len _ _ _ _) (SW_ob cy x0 ad2 u16.2)) rfl rfl rfl rfl (Nat.le_of_ble_eq_true rfl) dX5_become_181 ⟨Nat.le_of_ble_eq_true rfl, Nat.le_of_ble_eq_true rfl⟩ rfl rfl ?_
  intro u17 eu17 H locs hP hD hS
  replace hf := hf.trans (ltt_r eu17)
  refine lv_aload_n hx hb dX5_become_184 rfl (lv_at hl 0 rfl) ?_
  refine lv_aload_n hx hb dX5_become_185 rfl (lv_at hl 1 rfl) ?_
  refine va_get (D := D) (ci := 5) (v := .ref (ad 13)) (C := RX5) (T := TX5) (N := 22) hx hb hts hin5 hown hK hP (0) (gx_l (SW_ob cy x0 ad u17.1)) rfl 16 (by decide) wd17 (fun _ h9 => h9) rfl dX5_become_186 ?_
  refine lv_aload_n hx hb dX5_become_189 rfl (lv_at hl 0 rfl) ?_
  refine va_get (D := D) (ci := 5) (v := .ref (ad2 13)) (C := RX5) (T := TX5) (N := 22) hx hb hts hin5 hown hK hP (17 + (0)) (gx_r (WD_len _ _ _ _) (SW_ob cy x0 ad2 u17.2)) rfl 16 (by decide) wd17 (fun _ h9 => h9) rfl dX5_become_190 ?_
  refine g_callv (q0 := 17 + (0)) (wf := (BW cy x0 ad ad2)) (σ := u17) (wfc := (BW cy x0 ad ad2)) (σc := u17) hx hb hml hown hts hK hP hD hS hA hl.1 [] pm_0 (fun u => u) (fun _ => pm_0b) [.ref (ad 13), .ref (ad2 13)] (c_X5_copy l D cy x0 ad ad2 u17 13 ⟨by decide, by decide⟩) (cwV 2 hts gX5_become_X5_copy rfl rfl rfl (by decide +kernel) ⟨Nat.le_of_ble_eq_true rfl, Nat.le_of_ble_eq_true rfl⟩) (gx_r (WD_len _ _ _ _) (SW_ob cy x0 ad2 u17.2)) rfl rfl rfl rfl (Nat.le_of_ble_eq_true rfl) dX5_become_193 ⟨Nat.le_of_ble_eq_true rfl, Nat.le_of_ble_eq_true rfl⟩ rfl rfl ?_
  intro u18 eu18 H locs hP hD hS
  replace hf := hf.trans (ltt_r eu18)
  refine lv_aload_n hx hb dX5_become_196 rfl (lv_at hl 0 rfl) ?_
  refine lv_aload_n hx hb dX5_become_197 rfl (lv_at hl 1 rfl) ?_
  refine va_get (D := D) (ci := 5) (v := .ref (ad 14)) (C := RX5) (T := TX5) (N := 22) hx hb hts hin5 hown hK hP (0) (gx_l (SW_ob cy x0 ad u18.1)) rfl 17 (by decide) wd18 (fun _ h9 => h9) rfl dX5_become_198 ?_
  refine lv_aload_n hx hb dX5_become_201 rfl (lv_at hl 0 rfl) ?_
  refine va_get (D := D) (ci := 5) (v := .ref (ad2 14)) (C := RX5) (T := TX5) (N := 22) hx hb hts hin5 hown hK hP (17 + (0)) (gx_r (WD_len _ _ _ _) (SW_ob cy x0 ad2 u18.2)) rfl 17 (by decide) wd18 (fun _ h9 => h9) rfl dX5_become_202 ?_
  refine g_callv (q0 := 17 + (0)) (wf := (BW cy x0 ad ad2)) (σ := u18) (wfc := (BW cy x0 ad ad2)) (σc := u18) hx hb hml hown hts hK hP hD hS hA hl.1 [] pm_0 (fun u => u) (fun _ => pm_0b) [.ref (ad 14), .ref (ad2 14)] (c_X5_copy l D cy x0 ad ad2 u18 14 ⟨by decide, by decide⟩) (cwV 2 hts gX5_become_X5_copy rfl rfl rfl (by decide +kernel) ⟨Nat.le_of_ble_eq_true rfl, Nat.le_of_ble_eq_true rfl⟩) (gx_r (WD_len _ _ _ _) (SW_ob cy x0 ad2 u18.2)) rfl rfl rfl rfl (Nat.le_of_ble_eq_true rfl) dX5_become_205 ⟨Nat.le_of_ble_eq_true rfl, Nat.le_of_ble_eq_true rfl⟩ rfl rfl ?_
  intro u19 eu19 H locs hP hD hS
  replace hf := hf.trans (ltt_r eu19)
  refine lv_aload_n hx hb dX5_become_208 rfl (lv_at hl 0 rfl) ?_
  refine lv_aload_n hx hb dX5_become_209 rfl (lv_at hl 1 rfl) ?_
  refine va_get (D := D) (ci := 5) (v := .ref (ad 15)) (C := RX5) (T := TX5) (N := 22) hx hb hts hin5 hown hK hP (0) (gx_l (SW_ob cy x0 ad u19.1)) rfl 18 (by decide) wd19 (fun _ h9 => h9) rfl dX5_become_210 ?_
  refine lv_aload_n hx hb dX5_become_213 rfl (lv_at hl 0 rfl) ?_
  refine va_get (D := D) (ci := 5) (v := .ref (ad2 15)) (C := RX5) (T := TX5) (N := 22) hx hb hts hin5 hown hK hP (17 + (0)) (gx_r (WD_len _ _ _ _) (SW_ob cy x0 ad2 u19.2)) rfl 18 (by decide) wd19 (fun _ h9 => h9) rfl dX5_become_214 ?_
  refine g_callv (q0 := 17 + (0)) (wf := (BW cy x0 ad ad2)) (σ := u19) (wfc := (BW cy x0 ad ad2)) (σc := u19) hx hb hml hown hts hK hP hD hS hA hl.1 [] pm_0 (fun u => u) (fun _ => pm_0b) [.ref (ad 15), .ref (ad2 15)] (c_X5_copy l D cy x0 ad ad2 u19 15 ⟨by decide, by decide⟩) (cwV 2 hts gX5_become_X5_copy rfl rfl rfl (by decide +kernel) ⟨Nat.le_of_ble_eq_true rfl, Nat.le_of_ble_eq_true rfl⟩) (gx_r (WD_len _ _ _ _) (SW_ob cy x0 ad2 u19.2)) rfl rfl rfl rfl (Nat.le_of_ble_eq_true rfl) dX5_become_217 ⟨Nat.le_of_ble_eq_true rfl, Nat.le_of_ble_eq_true rfl⟩ rfl rfl ?_
  intro u20 eu20 H locs hP hD hS
  replace hf := hf.trans (ltt_r eu20)
  refine lv_aload_n hx hb dX5_become_220 rfl (lv_at hl 0 rfl) ?_
  refine lv_aload_n hx hb dX5_become_221 rfl (lv_at hl 1 rfl) ?_
  refine va_get (D := D) (ci := 5) (v := .ref (ad 16)) (C := RX5) (T := TX5) (N := 22) hx hb hts hin5 hown hK hP (0) (gx_l (SW_ob cy x0 ad u20.1)) rfl 19 (by decide) wd20 (fun _ h9 => h9) rfl dX5_become_222 ?_
  refine lv_aload_n hx hb dX5_become_225 rfl (lv_at hl 0 rfl) ?_
  refine va_get (D := D) (ci := 5) (v := .ref (ad2 16)) (C := RX5) (T := TX5) (N := 22) hx hb hts hin5 hown hK hP (17 + (0)) (gx_r (WD_len _ _ _ _) (SW_ob cy x0 ad2 u20.2)) rfl 19 (by decide) wd20 (fun _ h9 => h9) rfl dX5_become_226 ?_
  refine g_callv (q0 := 17 + (0)) (wf := (BW cy x0 ad ad2)) (σ := u20) (wfc := (BW cy x0 ad ad2)) (σc := u20) hx hb hml hown hts hK hP hD hS hA hl.1 [] pm_0 (fun u => u) (fun _ => pm_0b) [.ref (ad 16), .ref (ad2 16)] (c_X5_copy l D cy x0 ad ad2 u20 16 ⟨by decide, by decide⟩) (cwV 2 hts gX5_become_X5_copy rfl rfl rfl (by decide +kernel) ⟨Nat.le_of_ble_eq_true rfl, Nat.le_of_ble_eq_true rfl⟩) (gx_r (WD_len _ _ _ _) (SW_ob cy x0 ad2 u20.2)) rfl rfl rfl rfl (Nat.le_of_ble_eq_true rfl) dX5_become_229 ⟨Nat.le_of_ble_eq_true rfl, Nat.le_of_ble_eq_true rfl⟩ rfl rfl ?_
  intro u21 eu21 H locs hP hD hS
  replace hf := hf.trans (ltt_r eu21)
  exact g_endv hx hb hr hlocks hf hP hD hS (Nat.le_of_ble_eq_true rfl) (Nat.le_of_ble_eq_true rfl) dX5_become_232
