theorem pm_rev {X N B : va_W} : (B ++ (N ++ X)).Perm (X ++ (N ++ B)) := by
  have h1 : (B ++ (N ++ X)).Perm ((N ++ X) ++ B) := List.perm_append_comm
  have h2 : ((N ++ X) ++ B).Perm ((X ++ N) ++ B) := List.Perm.append_right B List.perm_append_comm
  rw [List.append_assoc X N B] at h2
  exact h1.trans h2
set_option maxHeartbeats 4000000 in
set_option maxRecDepth 100000 in
theorem c_X4_init (l : Launch) (D : va_G) (cy : Nat → ClassId) (a : Nat) : gCon (S := (Nat → Nat) × (Nat → Nat)) l yX4_init wsX4_init ({ frames := 3, cells := 126, slots := 1074, locals := 53 }) D cy (fun u => CW cy (fun _ => a) u.1 u.2 (zz, zz)) [.ref a] [(a, .inr (4, [.null, .null]))] (fun _ => True) 126 1074 := by
  refine gstartC cX4_init 1 RX4 (by decide) rfl rfl rfl (Nat.le_of_ble_eq_true rfl) ?_
  intro p e s m below meth c A ls hx hb hml hown hts hr hlocks hK hP hD hA hS hl hcw hin
  have hl : lv_has ls 1 [(0, .ref a)] := hl
  have hinw : ∀ w ∈ wsX40, w ∈ wsX4_init := by decide +kernel
  have hin1 : ∀ w ∈ wsX10, w ∈ wsX4_init := by decide +kernel
  refine lv_aload_n hx hb dX4_init_0 rfl (lv_at hl 0 rfl) ?_
  refine W.objInit hx hb hown (hts (.methodLink RX4 1 objectInit) (by decide +kernel)) (hts (.instanceMethod objectInit) (by decide +kernel)) (hts _ (List.mem_of_getElem? (i := 3) rfl)) rfl (by rw [hml]; exact hl.1) rfl dX4_init_1 (Nat.le_of_ble_eq_true rfl) (Nat.le_of_ble_eq_true rfl) ?_
  refine lv_aload_n hx hb dX4_init_4 rfl (lv_at hl 0 rfl) ?_
  refine va_new (ci := 1) (fs := [.null, .null, .null, .null, .int 0, .int 0, .int 0, .int 0, .int 0]) (C := RX1) (T := TX1) (N := 9) hx hb hts hin1 tyX1 tyX1_ok hown (hts (.classLink RX4 7 RX1) (by decide +kernel)) (hts (.instantiable RX1 9) (by decide +kernel)) (hts (.initialized RX1) (by decide +kernel)) hK hP hD hS hA rfl (fun j hj => by rcases (show j = 0 ∨ j = 1 ∨ j = 2 ∨ j = 3 ∨ j = 4 ∨ j = 5 ∨ j = 6 ∨ j = 7 ∨ j = 8 by omega) with rfl | rfl | rfl | rfl | rfl | rfl | rfl | rfl | rfl <;> rfl) (Nat.le_of_ble_eq_true rfl) (Nat.le_of_ble_eq_true rfl) dX4_init_5 (fun q1 H hP hD hS => ?_)
  refine lv_dup hx hb dX4_init_8 rfl ?_
  refine g_callC hcw hx hb hml hown hts hK hP hD hS hA hl.1 [(q1, .inr (1, [.null, .null, .null, .null, .int 0, .int 0, .int 0, .int 0, .int 0]))] [(a, .inr (4, [.null, .null]))] List.perm_append_comm [] (c_X1_init l D cy q1) (cwI 0 hts gX4_init_X1_init rfl rfl rfl (hts (.initialized RX1) (by decide +kernel)) (hts (.methodLink RX4 9 yX1_init) (by decide +kernel)) (hts (.instanceMethod yX1_init) (by decide +kernel)) rfl (by decide +kernel) ⟨Nat.le_of_ble_eq_true rfl, Nat.le_of_ble_eq_true rfl⟩) rfl rfl (Nat.le_of_ble_eq_true rfl) dX4_init_9 ⟨Nat.le_of_ble_eq_true rfl, Nat.le_of_ble_eq_true rfl⟩ rfl rfl (fun ad had H2 locs2 hP2 hD2 hS2 => ?_)
  subst had
  have hP : va_P D vwCl (RW cy ad zz ++ [(a, .inr (4, [.null, .null]))]) H2 := hP2
  have hD : va_D A (RW cy ad zz ++ [(a, .inr (4, [.null, .null]))]) := hD2
  have hS := hS2
  refine va_putF (D := D) (ci := 4) (fs := [.null, .null]) (v := .ref (ad 0)) (ty := .object "UmbrellaLand$Republic") (C := RX4) (T := TX4) (N := 2) hx hb hts hinw tyX4 tyX4_ok nmX4 hown hK hP hD hS (63 + 0) (gx_r (p := 0) (WD_len _ _ _ _) rfl) rfl 0 (by decide) (hts (.fieldLink RX4 10 "UmbrellaLand" "now" "LUmbrellaLand$Republic;") (by decide +kernel)) (fun _ h9 => h9) rfl hin rfl (by decide +kernel) rfl rfl (Nat.le_of_ble_eq_true rfl) dX4_init_12 (fun H locs hP hD hS => ?_)
  rw [gx_setr (p := 0) (w2' := [(a, .inr (4, [.ref (ad 0), .null]))]) (WD_len _ _ _ _) rfl] at hP hD
  refine lv_aload_n hx hb dX4_init_15 rfl (lv_at hl 0 rfl) ?_
  refine va_new (ci := 1) (fs := [.null, .null, .null, .null, .int 0, .int 0, .int 0, .int 0, .int 0]) (C := RX1) (T := TX1) (N := 9) hx hb hts hin1 tyX1 tyX1_ok hown (hts (.classLink RX4 7 RX1) (by decide +kernel)) (hts (.instantiable RX1 9) (by decide +kernel)) (hts (.initialized RX1) (by decide +kernel)) hK hP hD hS hA rfl (fun j hj => by rcases (show j = 0 ∨ j = 1 ∨ j = 2 ∨ j = 3 ∨ j = 4 ∨ j = 5 ∨ j = 6 ∨ j = 7 ∨ j = 8 by omega) with rfl | rfl | rfl | rfl | rfl | rfl | rfl | rfl | rfl <;> rfl) (Nat.le_of_ble_eq_true rfl) (Nat.le_of_ble_eq_true rfl) dX4_init_16 (fun q2 H hP hD hS => ?_)
  refine lv_dup hx hb dX4_init_19 rfl ?_
  refine g_callC hcw hx hb hml hown hts hK hP hD hS hA hl.1 [(q2, .inr (1, [.null, .null, .null, .null, .int 0, .int 0, .int 0, .int 0, .int 0]))] (RW cy ad zz ++ [(a, .inr (4, [.ref (ad 0), .null]))]) List.perm_append_comm [] (c_X1_init l D cy q2) (cwI 0 hts gX4_init_X1_init rfl rfl rfl (hts (.initialized RX1) (by decide +kernel)) (hts (.methodLink RX4 9 yX1_init) (by decide +kernel)) (hts (.instanceMethod yX1_init) (by decide +kernel)) rfl (by decide +kernel) ⟨Nat.le_of_ble_eq_true rfl, Nat.le_of_ble_eq_true rfl⟩) rfl rfl (Nat.le_of_ble_eq_true rfl) dX4_init_20 ⟨Nat.le_of_ble_eq_true rfl, Nat.le_of_ble_eq_true rfl⟩ rfl rfl (fun ad2 had2 H2 locs2 hP2 hD2 hS2 => ?_)
  subst had2
  have hP : va_P D vwCl (RW cy ad2 zz ++ (RW cy ad zz ++ [(a, .inr (4, [.ref (ad 0), .null]))])) H2 := hP2
  have hD : va_D A (RW cy ad2 zz ++ (RW cy ad zz ++ [(a, .inr (4, [.ref (ad 0), .null]))])) := hD2
  have hS := hS2
  refine va_putF (D := D) (ci := 4) (fs := [.ref (ad 0), .null]) (v := .ref (ad2 0)) (ty := .object "UmbrellaLand$Republic") (C := RX4) (T := TX4) (N := 2) hx hb hts hinw tyX4 tyX4_ok nmX4 hown hK hP hD hS (63 + (63 + 0)) (gx_r (p := 63 + 0) (WD_len _ _ _ _) (gx_r (p := 0) (WD_len _ _ _ _) rfl)) rfl 1 (by decide) (hts (.fieldLink RX4 16 "UmbrellaLand" "ahead" "LUmbrellaLand$Republic;") (by decide +kernel)) (fun _ h9 => h9) rfl hin rfl (by decide +kernel) rfl rfl (Nat.le_of_ble_eq_true rfl) dX4_init_23 (fun H locs hP hD hS => ?_)
  rw [gx_setr (p := 63 + 0) (w2' := RW cy ad zz ++ [(a, .inr (4, [.ref (ad 0), .ref (ad2 0)]))]) (WD_len _ _ _ _) (gx_setr (p := 0) (WD_len _ _ _ _) rfl)] at hP hD
  have hp : (RW cy ad2 zz ++ (RW cy ad zz ++ ([(a, .inr (4, [.ref (ad 0), .ref (ad2 0)]))] : va_W))).Perm (CW cy (fun _ => a) ad ad2 (zz, zz)) := pm_rev
  exact g_endC (u := (ad, ad2)) hx hb hr hlocks trivial (va_P_perm hp hP) (va_D_perm hp hD) hS (Nat.le_of_ble_eq_true rfl) (Nat.le_of_ble_eq_true rfl) dX4_init_26
set_option maxHeartbeats 4000000 in
set_option maxRecDepth 100000 in
theorem c_X6_init (l : Launch) (D : va_G) (cy : Nat → ClassId) (a : Nat) : gCon (S := (Nat → Nat) × (Nat → Nat) × (Nat → Nat)) l yX6_init wsX6_init ({ frames := 2, cells := 35, slots := 940, locals := 35 }) D cy (fun u => MW cy u.1 u.2.1 u.2.2 (zz, zz, zz)) [.ref a] [(a, .inr (6, [.int 0, .null, .null, .null]))] (fun u => u.1 0 = a) 35 940 := by
  refine gstartC cX6_init 1 RX6 (by decide) rfl rfl rfl (Nat.le_of_ble_eq_true rfl) ?_
  intro p e s m below meth c A ls hx hb hml hown hts hr hlocks hK hP hD hA hS hl hcw hin
  have hl : lv_has ls 1 [(0, .ref a)] := hl
  have hinw : ∀ w ∈ wsX60, w ∈ wsX6_init := by decide +kernel
  have hin5 : ∀ w ∈ wsX50, w ∈ wsX6_init := by decide +kernel
  have hia := hts (.arrayClass .int) (by decide +kernel)
  refine lv_aload_n hx hb dX6_init_0 rfl (lv_at hl 0 rfl) ?_
  refine W.objInit hx hb hown (hts (.methodLink RX6 1 objectInit) (by decide +kernel)) (hts (.instanceMethod objectInit) (by decide +kernel)) (hts _ (List.mem_of_getElem? (i := 3) rfl)) rfl (by rw [hml]; exact hl.1) rfl dX6_init_1 (Nat.le_of_ble_eq_true rfl) (Nat.le_of_ble_eq_true rfl) ?_
  refine lv_aload_n hx hb dX6_init_4 rfl (lv_at hl 0 rfl) ?_
  refine lv_bipush (v := nI 24) hx hb dX6_init_5 (by decide) ?_
  refine g_newi (n := 24) hx hb hia hK hP hD hS hA (by decide) (Nat.le_of_ble_eq_true rfl) (Nat.le_of_ble_eq_true rfl) dX6_init_7 (fun r H hP hD hS => ?_)
  have hP : va_P D vwCl ([(a, .inr (6, [.int 0, .null, .null, .null])), (r, .inl (cy 0, 24, .inl (fun _ => (0 : Int32))))]) H := hP
  have hD : va_D A ([(a, .inr (6, [.int 0, .null, .null, .null])), (r, .inl (cy 0, 24, .inl (fun _ => (0 : Int32))))]) := hD
  refine va_putF (D := D) (ci := 6) (v := .ref r) (ty := .array .int) (C := RX6) (T := TX6) (N := 4) hx hb hts hinw tyX6 tyX6_ok nmX6 hown hK hP hD hS 0 rfl rfl 1 (by decide) (hts (.fieldLink RX6 9 "UmbrellaLandModel" "rain" "[I") (by decide +kernel)) (fun _ h9 => h9) rfl hin rfl (by decide +kernel) rfl rfl (Nat.le_of_ble_eq_true rfl) dX6_init_9 (fun H locs hP hD hS => ?_)
  have hP : va_P D vwCl ([(a, .inr (6, [.int 0, .ref r, .null, .null])), (r, .inl (cy 0, 24, .inl (fun _ => (0 : Int32))))]) H := hP
  have hD : va_D A ([(a, .inr (6, [.int 0, .ref r, .null, .null])), (r, .inl (cy 0, 24, .inl (fun _ => (0 : Int32))))]) := hD
  refine lv_aload_n hx hb dX6_init_12 rfl (lv_at hl 0 rfl) ?_
  refine va_new (ci := 5) (fs := [.int 0, .int 0, .null, .null, .null, .int 0, .null, .null, .null, .null, .null, .null, .int 0, .null, .null, .null, .null, .null, .null, .null, .int 0, .null]) (C := RX5) (T := TX5) (N := 22) hx hb hts hin5 tyX5 tyX5_ok hown (hts (.classLink RX6 13 RX5) (by decide +kernel)) (hts (.instantiable RX5 22) (by decide +kernel)) (hts (.initialized RX5) (by decide +kernel)) hK hP hD hS hA rfl (fun j hj => by rcases (show j = 0 ∨ j = 1 ∨ j = 2 ∨ j = 3 ∨ j = 4 ∨ j = 5 ∨ j = 6 ∨ j = 7 ∨ j = 8 ∨ j = 9 ∨ j = 10 ∨ j = 11 ∨ j = 12 ∨ j = 13 ∨ j = 14 ∨ j = 15 ∨ j = 16 ∨ j = 17 ∨ j = 18 ∨ j = 19 ∨ j = 20 ∨ j = 21 by omega) with rfl | rfl | rfl | rfl | rfl | rfl | rfl | rfl | rfl | rfl | rfl | rfl | rfl | rfl | rfl | rfl | rfl | rfl | rfl | rfl | rfl | rfl <;> rfl) (Nat.le_of_ble_eq_true rfl) (Nat.le_of_ble_eq_true rfl) dX6_init_13 (fun q1 H hP hD hS => ?_)
  refine lv_dup hx hb dX6_init_16 rfl ?_
  refine lv_aload_n hx hb dX6_init_17 rfl (lv_at hl 0 rfl) ?_
  refine g_callCN hcw hx hb hml hown hts hK hP hD hS hA hl.1 [(q1, .inr (5, [.int 0, .int 0, .null, .null, .null, .int 0, .null, .null, .null, .null, .null, .null, .int 0, .null, .null, .null, .null, .null, .null, .null, .int 0, .null]))] [(a, .inr (6, [.int 0, .ref r, .null, .null])), (r, .inl (cy 0, 24, .inl (fun _ => (0 : Int32))))] List.perm_append_comm [.ref a] (c_X5_init l D cy a q1) ⟨va_cnB 1 hts gX6_init_X5_init_n15 rfl rfl rfl hcw.2.2 (hts (.initialized RX5) (by decide +kernel)) (by decide +kernel) ⟨Nat.le_of_ble_eq_true rfl, Nat.le_of_ble_eq_true rfl⟩, rfl, hts (.instanceMethod yX5_init) (by decide +kernel)⟩ rfl rfl (Nat.le_of_ble_eq_true rfl) dX6_init_18 ⟨Nat.le_of_ble_eq_true rfl, Nat.le_of_ble_eq_true rfl⟩ rfl rfl (fun ad had H2 locs2 hP2 hD2 hS2 => ?_)
  subst had
  have hP : va_P D vwCl (SW cy a ad zz ++ [(a, .inr (6, [.int 0, .ref r, .null, .null])), (r, .inl (cy 0, 24, .inl (fun _ => (0 : Int32))))]) H2 := hP2
  have hD : va_D A (SW cy a ad zz ++ [(a, .inr (6, [.int 0, .ref r, .null, .null])), (r, .inl (cy 0, 24, .inl (fun _ => (0 : Int32))))]) := hD2
  have hS := hS2
  refine va_putF (D := D) (ci := 6) (fs := [.int 0, .ref r, .null, .null]) (v := .ref (ad 0)) (ty := .object "UmbrellaLandModel$State") (C := RX6) (T := TX6) (N := 4) hx hb hts hinw tyX6 tyX6_ok nmX6 hown hK hP hD hS (17 + 0) (gx_r (p := 0) (WD_len _ _ _ _) rfl) rfl 2 (by decide) (hts (.fieldLink RX6 18 "UmbrellaLandModel" "s" "LUmbrellaLandModel$State;") (by decide +kernel)) (fun _ h9 => h9) rfl hin rfl (by decide +kernel) rfl rfl (Nat.le_of_ble_eq_true rfl) dX6_init_21 (fun H locs hP hD hS => ?_)
  rw [gx_setr (p := 0) (w2' := [(a, .inr (6, [.int 0, .ref r, .ref (ad 0), .null])), (r, .inl (cy 0, 24, .inl (fun _ => (0 : Int32))))]) (WD_len _ _ _ _) rfl] at hP hD
  refine lv_aload_n hx hb dX6_init_24 rfl (lv_at hl 0 rfl) ?_
  refine va_new (ci := 5) (fs := [.int 0, .int 0, .null, .null, .null, .int 0, .null, .null, .null, .null, .null, .null, .int 0, .null, .null, .null, .null, .null, .null, .null, .int 0, .null]) (C := RX5) (T := TX5) (N := 22) hx hb hts hin5 tyX5 tyX5_ok hown (hts (.classLink RX6 13 RX5) (by decide +kernel)) (hts (.instantiable RX5 22) (by decide +kernel)) (hts (.initialized RX5) (by decide +kernel)) hK hP hD hS hA rfl (fun j hj => by rcases (show j = 0 ∨ j = 1 ∨ j = 2 ∨ j = 3 ∨ j = 4 ∨ j = 5 ∨ j = 6 ∨ j = 7 ∨ j = 8 ∨ j = 9 ∨ j = 10 ∨ j = 11 ∨ j = 12 ∨ j = 13 ∨ j = 14 ∨ j = 15 ∨ j = 16 ∨ j = 17 ∨ j = 18 ∨ j = 19 ∨ j = 20 ∨ j = 21 by omega) with rfl | rfl | rfl | rfl | rfl | rfl | rfl | rfl | rfl | rfl | rfl | rfl | rfl | rfl | rfl | rfl | rfl | rfl | rfl | rfl | rfl | rfl <;> rfl) (Nat.le_of_ble_eq_true rfl) (Nat.le_of_ble_eq_true rfl) dX6_init_25 (fun q2 H hP hD hS => ?_)
  refine lv_dup hx hb dX6_init_28 rfl ?_
  refine lv_aload_n hx hb dX6_init_29 rfl (lv_at hl 0 rfl) ?_
  refine g_callCN hcw hx hb hml hown hts hK hP hD hS hA hl.1 [(q2, .inr (5, [.int 0, .int 0, .null, .null, .null, .int 0, .null, .null, .null, .null, .null, .null, .int 0, .null, .null, .null, .null, .null, .null, .null, .int 0, .null]))] (SW cy a ad zz ++ [(a, .inr (6, [.int 0, .ref r, .ref (ad 0), .null])), (r, .inl (cy 0, 24, .inl (fun _ => (0 : Int32))))]) List.perm_append_comm [.ref a] (c_X5_init l D cy a q2) ⟨va_cnB 1 hts gX6_init_X5_init_n15 rfl rfl rfl hcw.2.2 (hts (.initialized RX5) (by decide +kernel)) (by decide +kernel) ⟨Nat.le_of_ble_eq_true rfl, Nat.le_of_ble_eq_true rfl⟩, rfl, hts (.instanceMethod yX5_init) (by decide +kernel)⟩ rfl rfl (Nat.le_of_ble_eq_true rfl) dX6_init_30 ⟨Nat.le_of_ble_eq_true rfl, Nat.le_of_ble_eq_true rfl⟩ rfl rfl (fun ad2 had2 H2 locs2 hP2 hD2 hS2 => ?_)
  subst had2
  have hP : va_P D vwCl (SW cy a ad2 zz ++ (SW cy a ad zz ++ [(a, .inr (6, [.int 0, .ref r, .ref (ad 0), .null])), (r, .inl (cy 0, 24, .inl (fun _ => (0 : Int32))))])) H2 := hP2
  have hD : va_D A (SW cy a ad2 zz ++ (SW cy a ad zz ++ [(a, .inr (6, [.int 0, .ref r, .ref (ad 0), .null])), (r, .inl (cy 0, 24, .inl (fun _ => (0 : Int32))))])) := hD2
  have hS := hS2
  refine va_putF (D := D) (ci := 6) (fs := [.int 0, .ref r, .ref (ad 0), .null]) (v := .ref (ad2 0)) (ty := .object "UmbrellaLandModel$State") (C := RX6) (T := TX6) (N := 4) hx hb hts hinw tyX6 tyX6_ok nmX6 hown hK hP hD hS (17 + (17 + 0)) (gx_r (p := 17 + 0) (WD_len _ _ _ _) (gx_r (p := 0) (WD_len _ _ _ _) rfl)) rfl 3 (by decide) (hts (.fieldLink RX6 22 "UmbrellaLandModel" "ahead" "LUmbrellaLandModel$State;") (by decide +kernel)) (fun _ h9 => h9) rfl hin rfl (by decide +kernel) rfl rfl (Nat.le_of_ble_eq_true rfl) dX6_init_33 (fun H locs hP hD hS => ?_)
  rw [gx_setr (p := 17 + 0) (w2' := SW cy a ad zz ++ [(a, .inr (6, [.int 0, .ref r, .ref (ad 0), .ref (ad2 0)])), (r, .inl (cy 0, 24, .inl (fun _ => (0 : Int32))))]) (WD_len _ _ _ _) (gx_setr (p := 0) (WD_len _ _ _ _) rfl)] at hP hD
  have hp : (SW cy a ad2 zz ++ (SW cy a ad zz ++ ([(a, .inr (6, [.int 0, .ref r, .ref (ad 0), .ref (ad2 0)])), (r, .inl (cy 0, 24, .inl (fun _ => (0 : Int32))))] : va_W))).Perm (MW cy (fun j => if j = 0 then a else r) ad ad2 (zz, zz, zz)) := pm_rev
  exact g_endC (u := ((fun j => if j = 0 then a else r), ad, ad2)) hx hb hr hlocks rfl (va_P_perm hp hP) (va_D_perm hp hD) hS (Nat.le_of_ble_eq_true rfl) (Nat.le_of_ble_eq_true rfl) dX6_init_36
