theorem pm_rev {X N B : va_W} : (B ++ (N ++ X)).Perm (X ++ (N ++ B)) := by
  have h1 : (B ++ (N ++ X)).Perm ((N ++ X) ++ B) := List.perm_append_comm
  have h2 : ((N ++ X) ++ B).Perm ((X ++ N) ++ B) := List.Perm.append_right B List.perm_append_comm
  rw [List.append_assoc X N B] at h2
  exact h1.trans h2
set_option maxHeartbeats 4000000 in
set_option maxRecDepth 100000 in
theorem c_X4_init (l : Launch) (D : va_G) (cy : Nat → ClassId) (a : Nat) : gCon (S := (Nat → Nat) × (Nat → Nat)) l yX4_init wsX4_init ({ frames := 3, cells := 126, slots := 1074, locals := 53 }) D cy (fun u => CW cy (fun _ => a) u.1 u.2 (zz, zz)) [.ref a] [(a, .inr (4, [.null, .null]))] (fun _ => True) 126 1074 := by
  refine gstartC cX4_init 1 RX4 (by decide) rfl rfl rfl (Nat.le_of_ble_eq_true rfl) ?_
  intro p e s m below meth c A ls hx hb hml hown hts hr hlocks hK hP hD hA hS hl hcw hin
  have hl : lv_has ls 1 [(0, .ref a)] := hl
  have hinw : ∀ w ∈ wsX40, w ∈ wsX4_init := by decide +kernel
  have hin1 : ∀ w ∈ wsX10, w ∈ wsX4_init := by decide +kernel
  refine lv_aload_n hx hb dX4_init_0 rfl (lv_at hl 0 rfl) ?_
  refine W.objInit hx hb hown (hts (.methodLink RX4 1 objectInit) (by decide +kernel)) (hts (.instanceMethod objectInit) (by decide +kernel)) (hts _ (List.mem_of_getElem? (i := 3) rfl)) rfl (by rw [hml]; exact hl.1) rfl dX4_init_1 (Nat.le_of_ble_eq_true rfl) (Nat.le_of_ble_eq_true rfl) ?_
  refine lv_aload_n hx hb dX4_init_4 rfl (lv_at hl 0 rfl) ?_
  refine va_new (ci := 1) (fs := [.null, .null, .null, .null, .int 0, .int 0, .int 0, .int 0, .int 0]) (C := RX1) (T := TX1) (N := 9) hx hb hts hin1 tyX1 tyX1_ok hown (hts (.classLink RX4 7 RX1) (by decide +kernel)) (hts (.instantiable RX1 9) (by decide +kernel)) (hts (.initialized RX1) (by decide +kernel)) hK hP hD hS hA rfl (fun j hj => by rcases (show j = 0 ∨ j = 1 ∨ j = 2 ∨ j = 3 ∨ j = 4 ∨ j = 5 ∨ j = 6 ∨ j = 7 ∨ j = 8 by omega) with rfl | rfl | rfl | rfl | rfl | rfl | rfl | rfl | rfl <;> rfl) (Nat.le_of_ble_eq_true rfl) (Nat.le_of_ble_eq_true rfl) dX4_init_5 (fun q1 H hP hD hS => ?_)
  refine lv_dup hx hb dX4_init_8 rfl ?_
  refine g_callC hcw hx hb hml hown hts hK hP hD hS hA hl.1 [(q1, .inr (1, [.null, .null, .null, .null, .int 0, .int 0, .int 0, .int 0, .int 0]))] [(a, .inr (4, [.null, .null]))] List.perm_append_comm [] (c_X1_init l D cy q1) (cwI 0 hts gX4_init_X1_init rfl rfl rfl (hts (.initialized RX1) (by decide +kernel)) (hts (.methodLink RX4 9 yX1_init) (by decide +kernel)) (hts (.instanceMethod yX1_init) (by decide +kernel)) rfl (by decide +kernel) ⟨Nat.le_of_ble_eq_true rfl, Nat.le_of_ble_eq_true rfl⟩) rfl rfl (Nat.le_of_ble_eq_true rfl) dX4_init_9 ⟨Nat.le_of_ble_eq_true rfl, Nat.le_of_ble_eq_true rfl⟩ rfl rfl (fun ad had H2 locs2 hP2 hD2 hS2 => ?_)
  subst had
  have hP : va_P D vwCl (RW cy ad zz ++ [(a, .inr (4, [.null, .null]))]) H2 := hP2
  have hD : va_D A (RW cy ad zz ++ [(a, .inr (4, [.null, .null]))]) := hD2
  have hS := hS2
  refine va_putF (D := D) (ci := 4) (fs := [.null, .null]) (v := .ref (ad 0)) (ty := .object "UmbrellaLand$Republic") (C := RX4) (T := TX4) (N := 2) hx hb hts hinw tyX4 tyX4_ok nmX4 hown hK hP hD hS (63 + 0) (gx_r (p := 0) (WD_len _ _ _ _) rfl) rfl 0 (by decide) (hts (.fieldLink RX4 10 "UmbrellaLand" "now" "LUmbrellaLand$Republic;") (by decide +kernel)) (fun _ h9 => h9) rfl hin rfl (by decide +kernel) rfl rfl (Nat.le_of_ble_eq_true rfl) dX4_init_12 (fun H locs hP hD hS => ?_)
  rw [gx_setr (p := 0) (w2' := [(a, .inr (4, [.ref (ad 0), .null]))]) (WD_len _ _ _ _) rfl] at hP hD
  refine lv_aload_n hx hb dX4_init_15 rfl (lv_at hl 0 rfl) ?_
  refine va_new (ci := 1) (fs := [.null, .null, .null, .null, .int 0, .int 0, .int 0, .int 0, .int 0]) (C := RX1) (T := TX1) (N := 9) hx hb hts hin1 tyX1 tyX1_ok hown (hts (.classLink RX4 7 RX1) (by decide +kernel)) (hts (.instantiable RX1 9) (by decide +kernel)) (hts (.initialized RX1) (by decide +kernel)) hK hP hD hS hA rfl (fun j hj => by rcases (show j = 0 ∨ j = 1 ∨ j = 2 ∨ j = 3 ∨ j = 4 ∨ j = 5 ∨ j = 6 ∨ j = 7 ∨ j = 8 by omega) with rfl | rfl | rfl | rfl | rfl | rfl | rfl | rfl | rfl <;> rfl) (Nat.le_of_ble_eq_true rfl) (Nat.le_of_ble_eq_true rfl) dX4_init_16 (fun q2 H hP hD hS => ?_)
  refine lv_dup hx hb dX4_init_19 rfl ?_
  refine g_callC hcw hx hb hml hown hts hK hP hD hS hA hl.1 [(q2, .inr (1, [.null, .null, .null, .null, .int 0, .int 0, .int 0, .int 0, .int 0]))] (RW cy ad zz ++ [(a, .inr (4, [.ref (ad 0), .null]))]) List.perm_append_comm [] (c_X1_init l D cy q2) (cwI 0 hts gX4_init_X1_init rfl rfl rfl (hts (.initialized RX1) (by decide +kernel)) (hts (.methodLink RX4 9 yX1_init) (by decide +kernel)) (hts (.instanceMethod yX1_init) (by decide +kernel)) rfl (by decide +kernel) ⟨Nat.le_of_ble_eq_true rfl, Nat.le_of_ble_eq_true rfl⟩) rfl rfl (Nat.le_of_ble_eq_true rfl) dX4_init_20 ⟨Nat.le_of_ble_eq_true rfl, Nat.le_of_ble_eq_true rfl⟩ rfl rfl (fun ad2 had2 H2 locs2 hP2 hD2 hS2 => ?_)
  subst had2
  have hP : va_P D vwCl (RW cy ad2 zz ++ (RW cy ad zz ++ [(a, .inr (4, [.ref (ad 0), .null]))])) H2 := hP2
  have hD : va_D A (RW cy ad2 zz ++ (RW cy ad zz ++ [(a, .inr (4, [.ref (ad 0), .null]))])) := hD2
  have hS := hS2
  refine va_putF (D := D) (ci := 4) (fs := [.ref (ad 0), .null]) (v := .ref (ad2 0)) (ty := .object "UmbrellaLand$Republic") (C := RX4) (T := TX4) (N := 2) hx hb hts hinw tyX4 tyX4_ok nmX4 hown hK hP hD hS (63 + (63 + 0)) (gx_r (p := 63 + 0) (WD_len _ _ _ _) (gx_r (p := 0) (WD_len _ _ _ _) rfl)) rfl 1 (by decide) (hts (.fieldLink RX4 16 "UmbrellaLand" "ahead" "LUmbrellaLand$Republic;") (by decide +kernel)) (fun _ h9 => h9) rfl hin rfl (by decide +kernel) rfl rfl (Nat.le_of_ble_eq_true rfl) dX4_init_23 (fun H locs hP hD hS => ?_)
  rw [gx_setr (p := 63 + 0) (w2' := RW cy ad zz ++ [(a, .inr (4, [.ref (ad 0), .ref (ad2 0)]))]) (WD_len _ _ _ _) (gx_setr (p := 0) (WD_len _ _ _ _) rfl)] at hP hD
  have hp : (RW cy ad2 zz ++ (RW cy ad zz ++ ([(a, .inr (4, [.ref (ad 0), .ref (ad2 0)]))] : va_W))).Perm (CW cy (fun _ => a) ad ad2 (zz, zz)) := pm_rev
  exact g_endC (u := (ad, ad2)) hx hb hr hlocks trivial (va_P_perm hp hP) (va_D_perm hp hD) hS (Nat.le_of_ble_eq_true rfl) (Nat.le_of_ble_eq_true rfl) dX4_init_26
