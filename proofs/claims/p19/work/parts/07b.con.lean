theorem c_X0_init (l : Launch) (D : va_G) (cy : Nat → ClassId) (a : Nat) (fs : List Value) : gCon (S := Unit) l yX0_init wsX0_init ({ frames := 1, cells := 0, slots := 0, locals := 12 }) D cy (fun _ => [(a, .inr (0, fs))]) [.ref a] [(a, .inr (0, fs))] (fun _ => True) 0 0 := by
  refine gstartC cX0_init 1 RX0 (by decide) rfl rfl rfl (Nat.le_of_ble_eq_true rfl) ?_
  intro p e s m below meth c A ls hx hb hml hown hts hr hlocks hK hP hD hA hS hl hcw hin
  have hl : lv_has ls 1 [(0, .ref a)] := hl
  refine lv_aload_n hx hb dX0_init_0 rfl (lv_at hl 0 rfl) ?_
  refine W.objInit hx hb hown (hts (.methodLink RX0 3 objectInit) (by decide +kernel)) (hts (.instanceMethod objectInit) (by decide +kernel)) (hts _ (List.mem_of_getElem? (i := 3) rfl)) rfl (by rw [hml]; exact hl.1) rfl dX0_init_1 (Nat.le_of_ble_eq_true rfl) (Nat.le_of_ble_eq_true rfl) ?_
  exact g_endC (u := ()) hx hb hr hlocks trivial hP hD hS (Nat.le_of_ble_eq_true rfl) (Nat.le_of_ble_eq_true rfl) dX0_init_4
theorem c_X2_init (l : Launch) (D : va_G) (cy : Nat → ClassId) (a : Nat) (fs : List Value) : gCon (S := Unit) l yX2_init wsX2_init ({ frames := 1, cells := 0, slots := 0, locals := 12 }) D cy (fun _ => [(a, .inr (2, fs))]) [.ref a] [(a, .inr (2, fs))] (fun _ => True) 0 0 := by
  refine gstartC cX2_init 1 RX2 (by decide) rfl rfl rfl (Nat.le_of_ble_eq_true rfl) ?_
  intro p e s m below meth c A ls hx hb hml hown hts hr hlocks hK hP hD hA hS hl hcw hin
  have hl : lv_has ls 1 [(0, .ref a)] := hl
  refine lv_aload_n hx hb dX2_init_0 rfl (lv_at hl 0 rfl) ?_
  refine W.objInit hx hb hown (hts (.methodLink RX2 3 objectInit) (by decide +kernel)) (hts (.instanceMethod objectInit) (by decide +kernel)) (hts _ (List.mem_of_getElem? (i := 3) rfl)) rfl (by rw [hml]; exact hl.1) rfl dX2_init_1 (Nat.le_of_ble_eq_true rfl) (Nat.le_of_ble_eq_true rfl) ?_
  exact g_endC (u := ()) hx hb hr hlocks trivial hP hD hS (Nat.le_of_ble_eq_true rfl) (Nat.le_of_ble_eq_true rfl) dX2_init_4
theorem c_X3_init (l : Launch) (D : va_G) (cy : Nat → ClassId) (a : Nat) (fs : List Value) : gCon (S := Unit) l yX3_init wsX3_init ({ frames := 1, cells := 0, slots := 0, locals := 12 }) D cy (fun _ => [(a, .inr (3, fs))]) [.ref a] [(a, .inr (3, fs))] (fun _ => True) 0 0 := by
  refine gstartC cX3_init 1 RX3 (by decide) rfl rfl rfl (Nat.le_of_ble_eq_true rfl) ?_
  intro p e s m below meth c A ls hx hb hml hown hts hr hlocks hK hP hD hA hS hl hcw hin
  have hl : lv_has ls 1 [(0, .ref a)] := hl
  refine lv_aload_n hx hb dX3_init_0 rfl (lv_at hl 0 rfl) ?_
  refine W.objInit hx hb hown (hts (.methodLink RX3 3 objectInit) (by decide +kernel)) (hts (.instanceMethod objectInit) (by decide +kernel)) (hts _ (List.mem_of_getElem? (i := 3) rfl)) rfl (by rw [hml]; exact hl.1) rfl dX3_init_1 (Nat.le_of_ble_eq_true rfl) (Nat.le_of_ble_eq_true rfl) ?_
  exact g_endC (u := ()) hx hb hr hlocks trivial hP hD hS (Nat.le_of_ble_eq_true rfl) (Nat.le_of_ble_eq_true rfl) dX3_init_4
set_option maxHeartbeats 4000000 in
set_option maxRecDepth 100000 in
theorem c_X1_init (l : Launch) (D : va_G) (cy : Nat → ClassId) (a : Nat) : gCon (S := Nat → Nat) l yX1_init wsX1_init ({ frames := 2, cells := 62, slots := 528, locals := 32 }) D cy (fun ad => RW cy ad zz) [.ref a] [(a, .inr (1, [.null, .null, .null, .null, .int 0, .int 0, .int 0, .int 0, .int 0]))] (fun ad => ad 0 = a) 62 528 := by
  refine gstartC cX1_init 2 RX1 (by decide) rfl rfl rfl (Nat.le_of_ble_eq_true rfl) ?_
  intro p e s m below meth c A ls hx hb hml hown hts hr hlocks hK hP hD hA hS hl hcw hin
  have hl : lv_has ls 2 [(0, .ref a)] := hl
  have hinw : ∀ w ∈ wsX10, w ∈ wsX1_init := by decide +kernel
  have hin2 : ∀ w ∈ wsX20, w ∈ wsX1_init := by decide +kernel
  have hin3 : ∀ w ∈ wsX30, w ∈ wsX1_init := by decide +kernel
  have hin0 : ∀ w ∈ wsX00, w ∈ wsX1_init := by decide +kernel
  have hia := hts (.arrayClass .int) (by decide +kernel)
  have loop41 : ∀ (n k : Nat) (ad : Nat → Nat) (H : Heap) (locs : List Loc) (ls : Array Slot), n + k = 8 → ad 0 = a → va_P D vwCl (NC cy ad (0 + k)) H → va_D A (NC cy ad (0 + k)) → va_S A s.heap H locs → lv_has ls 2 [(1, .int (nI k)), (0, .ref a)] → (∀ (ad : Nat → Nat) (H : Heap) (locs : List Loc) (ls : Array Slot), ad 0 = a → va_P D vwCl (NC cy ad (0 + 8)) H → va_D A (NC cy ad (0 + 8)) → va_S A s.heap H locs → lv_has ls 2 [(1, .int (nI 8)), (0, .ref a)] → W p l e ({ frames := 2, cells := 62, slots := 528, locals := 32 }) s m [Value.ref a].toArray below meth c H locs (4 + 8) (82 + 7 * 8) (MQ below (va_Qv (fun ad => ad 0 = a) (gPost D (fun ad => RW cy ad zz) A) A) [Value.ref a].toArray s 62 528 A) (F0 m 66 ls [])) → W p l e ({ frames := 2, cells := 62, slots := 528, locals := 32 }) s m [Value.ref a].toArray below meth c H locs (4 + k) (82 + 7 * k) (MQ below (va_Qv (fun ad => ad 0 = a) (gPost D (fun ad => RW cy ad zz) A) A) [Value.ref a].toArray s 62 528 A) (F0 m 41 ls []) := by
    intro n
    induction n with
    | zero =>
      intro k ad H locs ls hN ha hP hD hS hl K
      refine lv_iload_n hx hb dX1_init_41 rfl (lv_at hl 0 rfl) ?_
      refine lv_bipush (v := nI 8) hx hb dX1_init_42 (by decide) ?_
      refine lv_icmp_ge (tgt := 66) hx hb dX1_init_44 (by decide) (fun c1 => ?_) (fun c1 => absurd (nI_le (by omega) (by omega)) c1)
      obtain rfl : k = 8 := by omega
      exact K ad H locs ls ha hP hD hS hl
    | succ n ih =>
      intro k ad H locs ls hN ha hP hD hS hl K
      refine lv_iload_n hx hb dX1_init_41 rfl (lv_at hl 0 rfl) ?_
      refine lv_bipush (v := nI 8) hx hb dX1_init_42 (by decide) ?_
      refine lv_icmp_ge (tgt := 66) hx hb dX1_init_44 (by decide) (fun c1 => absurd c1 (nI_ge (by omega) (by omega))) (fun c1 => ?_)
      have hlt : k < 8 := by omega
      refine lv_aload_n hx hb dX1_init_47 rfl (lv_at hl 1 rfl) ?_
      have hob : (NC cy ad (0 + k))[0]? = some (a, .inr (1, obF ad z0)) := by rw [← ha]; rfl
      refine va_get (D := D) (ci := 1) (v := .ref (ad 2)) (C := RX1) (T := TX1) (N := 9) hx hb hts hinw hown hK hP 0 hob rfl 1 (by decide) (hts (.fieldLink RX1 17 "UmbrellaLand$Republic" "shelters" "[LUmbrellaLand$Shelter;") (by decide +kernel)) (fun _ h9 => h9) rfl dX1_init_48 ?_
      refine lv_iload_n hx hb dX1_init_51 rfl (lv_at hl 0 rfl) ?_
      refine va_new (ci := 2) (fs := shF z0) (C := RX2) (T := TX2) (N := 7) hx hb hts hin2 tyX2 tyX2_ok hown (hts (.classLink RX1 15 RX2) (by decide +kernel)) (hts (.instantiable RX2 7) (by decide +kernel)) (hts (.initialized RX2) (by decide +kernel)) hK hP hD hS hA rfl (fun j hj => by rcases (show j = 0 ∨ j = 1 ∨ j = 2 ∨ j = 3 ∨ j = 4 ∨ j = 5 ∨ j = 6 by omega) with rfl | rfl | rfl | rfl | rfl | rfl | rfl <;> rfl) (by show _ + 1 ≤ 62; omega) (by show _ + 7 ≤ 528; omega) dX1_init_52 (fun q H hP hD hS => ?_)
      refine lv_dup hx hb dX1_init_55 rfl ?_
      refine g_callCN (S := Unit) hcw hx hb hml hown hts hK hP hD hS hA hl.1 [(q, .inr (2, shF z0))] (NC cy ad (0 + k)) List.perm_append_comm [] (c_X2_init l D cy q (shF z0)) ⟨va_cnB 0 hts gX1_init_X2_init_n33 rfl rfl rfl hcw.2.1 (hts (.initialized RX2) (by decide +kernel)) (by decide +kernel) ⟨Nat.le_of_ble_eq_true rfl, Nat.le_of_ble_eq_true rfl⟩, rfl, hts (.instanceMethod yX2_init) (by decide +kernel)⟩ rfl rfl (Nat.le_of_ble_eq_true rfl) dX1_init_56 ⟨by show _ + 0 ≤ 62; omega, by show _ + 0 ≤ 528; omega⟩ rfl rfl (fun _ _ H locs hP hD hS => ?_)
      have hP : va_P D vwCl (NC cy ad (0 + k) ++ [(q, .inr (2, shF z0))]) H := va_P_perm List.perm_append_comm hP
      have hD : va_D A (NC cy ad (0 + k) ++ [(q, .inr (2, shF z0))]) := va_D_perm List.perm_append_comm hD
      have har : (NC cy ad (0 + k) ++ [(q, .inr (2, shF z0))])[2]? = some (ad 2, .inl (cy 1, 8, .inr (.inr (.inr (.inr (rf ad 0 8 (0 + k))))))) := rfl
      have hobj : (NC cy ad (0 + k) ++ [(q, .inr (2, shF z0))])[5 + (0 + k)]? = some (q, .inr (2, shF z0)) := gx_r (p := 0) (NC_len cy ad _) rfl
      refine va_astq (r := (RX2, TX2, 7)) hx hb hK hP hD hS 2 1 (5 + (0 + k)) 2 har rfl hobj rfl (vp_in_nI hlt (by decide)) dX1_init_59 (fun H locs hP hD hS => ?_)
      rw [nI_clamp (by omega)] at hP hD
      rw [show va_up (rf ad 0 8 (0 + k)) k = va_up (rf ad 0 8 (0 + k)) (0 + k) by rw [Nat.zero_add]] at hP hD
      rw [NC_2 cy ad (m := 0 + k) (by omega) (RC_sh cy ad (i := 0 + k) (by omega) z0)] at hP hD
      refine lv_iinc (v := nI (k + 1)) (lv' := [(1, .int (nI (k + 1))), (0, .ref a)]) hx hb dX1_init_60 hl (k := 0) rfl (nI_1 _) (by decide) rfl (fun ls hl => ?_)
      refine lv_goto (tgt := 41) hx hb dX1_init_63 (by decide) ?_
      refine W.widen (k := 4 + (k + 1)) (n := 82 + 7 * (k + 1)) (by omega) (by omega) ?_
      exact ih (k + 1) (au ad (5 + (0 + k)) q) H locs ls (by omega) ((au_ne ad (by omega)).trans ha) hP hD hS hl K
  have loop68 : ∀ (n k : Nat) (ad : Nat → Nat) (H : Heap) (locs : List Loc) (ls : Array Slot), n + k = 40 → ad 0 = a → va_P D vwCl (NC cy ad (8 + k)) H → va_D A (NC cy ad (8 + k)) → va_S A s.heap H locs → lv_has ls 2 [(1, .int (nI k)), (0, .ref a)] → (∀ (ad : Nat → Nat) (H : Heap) (locs : List Loc) (ls : Array Slot), ad 0 = a → va_P D vwCl (NC cy ad (8 + 40)) H → va_D A (NC cy ad (8 + 40)) → va_S A s.heap H locs → lv_has ls 2 [(1, .int (nI 40)), (0, .ref a)] → W p l e ({ frames := 2, cells := 62, slots := 528, locals := 32 }) s m [Value.ref a].toArray below meth c H locs (12 + 40) (138 + 6 * 40) (MQ below (va_Qv (fun ad => ad 0 = a) (gPost D (fun ad => RW cy ad zz) A) A) [Value.ref a].toArray s 62 528 A) (F0 m 93 ls [])) → W p l e ({ frames := 2, cells := 62, slots := 528, locals := 32 }) s m [Value.ref a].toArray below meth c H locs (12 + k) (138 + 6 * k) (MQ below (va_Qv (fun ad => ad 0 = a) (gPost D (fun ad => RW cy ad zz) A) A) [Value.ref a].toArray s 62 528 A) (F0 m 68 ls []) := by
    intro n
    induction n with
    | zero =>
      intro k ad H locs ls hN ha hP hD hS hl K
      refine lv_iload_n hx hb dX1_init_68 rfl (lv_at hl 0 rfl) ?_
      refine lv_bipush (v := nI 40) hx hb dX1_init_69 (by decide) ?_
      refine lv_icmp_ge (tgt := 93) hx hb dX1_init_71 (by decide) (fun c1 => ?_) (fun c1 => absurd (nI_le (by omega) (by omega)) c1)
      obtain rfl : k = 40 := by omega
      exact K ad H locs ls ha hP hD hS hl
    | succ n ih =>
      intro k ad H locs ls hN ha hP hD hS hl K
      refine lv_iload_n hx hb dX1_init_68 rfl (lv_at hl 0 rfl) ?_
      refine lv_bipush (v := nI 40) hx hb dX1_init_69 (by decide) ?_
      refine lv_icmp_ge (tgt := 93) hx hb dX1_init_71 (by decide) (fun c1 => absurd c1 (nI_ge (by omega) (by omega))) (fun c1 => ?_)
      have hlt : k < 40 := by omega
      refine lv_aload_n hx hb dX1_init_74 rfl (lv_at hl 1 rfl) ?_
      have hob : (NC cy ad (8 + k))[0]? = some (a, .inr (1, obF ad z0)) := by rw [← ha]; rfl
      refine va_get (D := D) (ci := 1) (v := .ref (ad 3)) (C := RX1) (T := TX1) (N := 9) hx hb hts hinw hown hK hP 0 hob rfl 2 (by decide) (hts (.fieldLink RX1 23 "UmbrellaLand$Republic" "umbrellas" "[LUmbrellaLand$Umbrella;") (by decide +kernel)) (fun _ h9 => h9) rfl dX1_init_75 ?_
      refine lv_iload_n hx hb dX1_init_78 rfl (lv_at hl 0 rfl) ?_
      refine va_new (ci := 3) (fs := umF z0) (C := RX3) (T := TX3) (N := 6) hx hb hts hin3 tyX3 tyX3_ok hown (hts (.classLink RX1 21 RX3) (by decide +kernel)) (hts (.instantiable RX3 6) (by decide +kernel)) (hts (.initialized RX3) (by decide +kernel)) hK hP hD hS hA rfl (fun j hj => by rcases (show j = 0 ∨ j = 1 ∨ j = 2 ∨ j = 3 ∨ j = 4 ∨ j = 5 by omega) with rfl | rfl | rfl | rfl | rfl | rfl <;> rfl) (by show _ + 1 ≤ 62; omega) (by show _ + 6 ≤ 528; omega) dX1_init_79 (fun q H hP hD hS => ?_)
      refine lv_dup hx hb dX1_init_82 rfl ?_
      refine g_callCN (S := Unit) hcw hx hb hml hown hts hK hP hD hS hA hl.1 [(q, .inr (3, umF z0))] (NC cy ad (8 + k)) List.perm_append_comm [] (c_X3_init l D cy q (umF z0)) ⟨va_cnB 0 hts gX1_init_X3_init_n34 rfl rfl rfl hcw.2.2.1 (hts (.initialized RX3) (by decide +kernel)) (by decide +kernel) ⟨Nat.le_of_ble_eq_true rfl, Nat.le_of_ble_eq_true rfl⟩, rfl, hts (.instanceMethod yX3_init) (by decide +kernel)⟩ rfl rfl (Nat.le_of_ble_eq_true rfl) dX1_init_83 ⟨by show _ + 0 ≤ 62; omega, by show _ + 0 ≤ 528; omega⟩ rfl rfl (fun _ _ H locs hP hD hS => ?_)
      have hP : va_P D vwCl (NC cy ad (8 + k) ++ [(q, .inr (3, umF z0))]) H := va_P_perm List.perm_append_comm hP
      have hD : va_D A (NC cy ad (8 + k) ++ [(q, .inr (3, umF z0))]) := va_D_perm List.perm_append_comm hD
      have har : (NC cy ad (8 + k) ++ [(q, .inr (3, umF z0))])[3]? = some (ad 3, .inl (cy 2, 40, .inr (.inr (.inr (.inr (rf ad 8 40 (8 + k))))))) := rfl
      have hobj : (NC cy ad (8 + k) ++ [(q, .inr (3, umF z0))])[5 + (8 + k)]? = some (q, .inr (3, umF z0)) := gx_r (p := 0) (NC_len cy ad _) rfl
      refine va_astq (r := (RX3, TX3, 6)) hx hb hK hP hD hS 3 2 (5 + (8 + k)) 3 har rfl hobj rfl (vp_in_nI hlt (by decide)) dX1_init_86 (fun H locs hP hD hS => ?_)
      rw [nI_clamp (by omega)] at hP hD
      rw [NC_3 cy ad (m := 8 + k) (k := k) rfl hlt ((congrArg (fun z => RC cy ad z z0) (by omega : 5 + (8 + k) = 13 + k)).trans (RC_um cy ad hlt z0))] at hP hD
      refine lv_iinc (v := nI (k + 1)) (lv' := [(1, .int (nI (k + 1))), (0, .ref a)]) hx hb dX1_init_87 hl (k := 0) rfl (nI_1 _) (by decide) rfl (fun ls hl => ?_)
      refine lv_goto (tgt := 68) hx hb dX1_init_90 (by decide) ?_
      refine W.widen (k := 12 + (k + 1)) (n := 138 + 6 * (k + 1)) (by omega) (by omega) ?_
      exact ih (k + 1) (au ad (5 + (8 + k)) q) H locs ls (by omega) ((au_ne ad (by omega)).trans ha) hP hD hS hl K
  have loop95 : ∀ (n k : Nat) (ad : Nat → Nat) (H : Heap) (locs : List Loc) (ls : Array Slot), n + k = 10 → ad 0 = a → va_P D vwCl (NC cy ad (48 + k)) H → va_D A (NC cy ad (48 + k)) → va_S A s.heap H locs → lv_has ls 2 [(1, .int (nI k)), (0, .ref a)] → (∀ (ad : Nat → Nat) (H : Heap) (locs : List Loc) (ls : Array Slot), ad 0 = a → va_P D vwCl (NC cy ad (48 + 10)) H → va_D A (NC cy ad (48 + 10)) → va_S A s.heap H locs → lv_has ls 2 [(1, .int (nI 10)), (0, .ref a)] → W p l e ({ frames := 2, cells := 62, slots := 528, locals := 32 }) s m [Value.ref a].toArray below meth c H locs (52 + 10) (378 + 15 * 10) (MQ below (va_Qv (fun ad => ad 0 = a) (gPost D (fun ad => RW cy ad zz) A) A) [Value.ref a].toArray s 62 528 A) (F0 m 120 ls [])) → W p l e ({ frames := 2, cells := 62, slots := 528, locals := 32 }) s m [Value.ref a].toArray below meth c H locs (52 + k) (378 + 15 * k) (MQ below (va_Qv (fun ad => ad 0 = a) (gPost D (fun ad => RW cy ad zz) A) A) [Value.ref a].toArray s 62 528 A) (F0 m 95 ls []) := by
    intro n
    induction n with
    | zero =>
      intro k ad H locs ls hN ha hP hD hS hl K
      refine lv_iload_n hx hb dX1_init_95 rfl (lv_at hl 0 rfl) ?_
      refine lv_bipush (v := nI 10) hx hb dX1_init_96 (by decide) ?_
      refine lv_icmp_ge (tgt := 120) hx hb dX1_init_98 (by decide) (fun c1 => ?_) (fun c1 => absurd (nI_le (by omega) (by omega)) c1)
      obtain rfl : k = 10 := by omega
      exact K ad H locs ls ha hP hD hS hl
    | succ n ih =>
      intro k ad H locs ls hN ha hP hD hS hl K
      refine lv_iload_n hx hb dX1_init_95 rfl (lv_at hl 0 rfl) ?_
      refine lv_bipush (v := nI 10) hx hb dX1_init_96 (by decide) ?_
      refine lv_icmp_ge (tgt := 120) hx hb dX1_init_98 (by decide) (fun c1 => absurd c1 (nI_ge (by omega) (by omega))) (fun c1 => ?_)
      have hlt : k < 10 := by omega
      refine lv_aload_n hx hb dX1_init_101 rfl (lv_at hl 1 rfl) ?_
      have hob : (NC cy ad (48 + k))[0]? = some (a, .inr (1, obF ad z0)) := by rw [← ha]; rfl
      refine va_get (D := D) (ci := 1) (v := .ref (ad 4)) (C := RX1) (T := TX1) (N := 9) hx hb hts hinw hown hK hP 0 hob rfl 3 (by decide) (hts (.fieldLink RX1 29 "UmbrellaLand$Republic" "citizens" "[LUmbrellaLand$Citizen;") (by decide +kernel)) (fun _ h9 => h9) rfl dX1_init_102 ?_
      refine lv_iload_n hx hb dX1_init_105 rfl (lv_at hl 0 rfl) ?_
      refine va_new (ci := 0) (fs := ciF z0) (C := RX0) (T := TX0) (N := 15) hx hb hts hin0 tyX0 tyX0_ok hown (hts (.classLink RX1 27 RX0) (by decide +kernel)) (hts (.instantiable RX0 15) (by decide +kernel)) (hts (.initialized RX0) (by decide +kernel)) hK hP hD hS hA rfl (fun j hj => by rcases (show j = 0 ∨ j = 1 ∨ j = 2 ∨ j = 3 ∨ j = 4 ∨ j = 5 ∨ j = 6 ∨ j = 7 ∨ j = 8 ∨ j = 9 ∨ j = 10 ∨ j = 11 ∨ j = 12 ∨ j = 13 ∨ j = 14 by omega) with rfl | rfl | rfl | rfl | rfl | rfl | rfl | rfl | rfl | rfl | rfl | rfl | rfl | rfl | rfl <;> rfl) (by show _ + 1 ≤ 62; omega) (by show _ + 15 ≤ 528; omega) dX1_init_106 (fun q H hP hD hS => ?_)
      refine lv_dup hx hb dX1_init_109 rfl ?_
      refine g_callCN (S := Unit) hcw hx hb hml hown hts hK hP hD hS hA hl.1 [(q, .inr (0, ciF z0))] (NC cy ad (48 + k)) List.perm_append_comm [] (c_X0_init l D cy q (ciF z0)) ⟨va_cnB 0 hts gX1_init_X0_init_n35 rfl rfl rfl hcw.2.2.2 (hts (.initialized RX0) (by decide +kernel)) (by decide +kernel) ⟨Nat.le_of_ble_eq_true rfl, Nat.le_of_ble_eq_true rfl⟩, rfl, hts (.instanceMethod yX0_init) (by decide +kernel)⟩ rfl rfl (Nat.le_of_ble_eq_true rfl) dX1_init_110 ⟨by show _ + 0 ≤ 62; omega, by show _ + 0 ≤ 528; omega⟩ rfl rfl (fun _ _ H locs hP hD hS => ?_)
      have hP : va_P D vwCl (NC cy ad (48 + k) ++ [(q, .inr (0, ciF z0))]) H := va_P_perm List.perm_append_comm hP
      have hD : va_D A (NC cy ad (48 + k) ++ [(q, .inr (0, ciF z0))]) := va_D_perm List.perm_append_comm hD
      have har : (NC cy ad (48 + k) ++ [(q, .inr (0, ciF z0))])[4]? = some (ad 4, .inl (cy 3, 10, .inr (.inr (.inr (.inr (rf ad 48 10 (48 + k))))))) := rfl
      have hobj : (NC cy ad (48 + k) ++ [(q, .inr (0, ciF z0))])[5 + (48 + k)]? = some (q, .inr (0, ciF z0)) := gx_r (p := 0) (NC_len cy ad _) rfl
      refine va_astq (r := (RX0, TX0, 15)) hx hb hK hP hD hS 4 3 (5 + (48 + k)) 0 har rfl hobj rfl (vp_in_nI hlt (by decide)) dX1_init_113 (fun H locs hP hD hS => ?_)
      rw [nI_clamp (by omega)] at hP hD
      rw [NC_4 cy ad (m := 48 + k) (k := k) rfl hlt ((congrArg (fun z => RC cy ad z z0) (by omega : 5 + (48 + k) = 53 + k)).trans (RC_ci cy ad hlt z0))] at hP hD
      refine lv_iinc (v := nI (k + 1)) (lv' := [(1, .int (nI (k + 1))), (0, .ref a)]) hx hb dX1_init_114 hl (k := 0) rfl (nI_1 _) (by decide) rfl (fun ls hl => ?_)
      refine lv_goto (tgt := 95) hx hb dX1_init_117 (by decide) ?_
      refine W.widen (k := 52 + (k + 1)) (n := 378 + 15 * (k + 1)) (by omega) (by omega) ?_
      exact ih (k + 1) (au ad (5 + (48 + k)) q) H locs ls (by omega) ((au_ne ad (by omega)).trans ha) hP hD hS hl K
  refine lv_aload_n hx hb dX1_init_0 rfl (lv_at hl 0 rfl) ?_
  refine W.objInit hx hb hown (hts (.methodLink RX1 3 objectInit) (by decide +kernel)) (hts (.instanceMethod objectInit) (by decide +kernel)) (hts _ (List.mem_of_getElem? (i := 3) rfl)) rfl (by rw [hml]; exact hl.1) rfl dX1_init_1 (Nat.le_of_ble_eq_true rfl) (Nat.le_of_ble_eq_true rfl) ?_
  refine lv_aload_n hx hb dX1_init_4 rfl (lv_at hl 0 rfl) ?_
  refine lv_bipush (v := nI 24) hx hb dX1_init_5 (by decide) ?_
  refine g_newi (n := 24) hx hb hia hK hP hD hS hA (by decide) (Nat.le_of_ble_eq_true rfl) (Nat.le_of_ble_eq_true rfl) dX1_init_7 (fun q1 H hP hD hS => ?_)
  have hP : va_P D vwCl ([(a, .inr (1, [.null, .null, .null, .null, .int 0, .int 0, .int 0, .int 0, .int 0])), (q1, .inl (cy 0, 24, .inl z0))]) H := hP
  have hD : va_D A ([(a, .inr (1, [.null, .null, .null, .null, .int 0, .int 0, .int 0, .int 0, .int 0])), (q1, .inl (cy 0, 24, .inl z0))]) := hD
  refine va_putF (D := D) (ci := 1) (v := .ref q1) (ty := .array .int) (C := RX1) (T := TX1) (N := 9) hx hb hts hinw tyX1 tyX1_ok nmX1 hown hK hP hD hS 0 rfl rfl 0 (by decide) (hts (.fieldLink RX1 9 "UmbrellaLand$Republic" "rain" "[I") (by decide +kernel)) (fun _ h9 => h9) rfl hin rfl (by decide +kernel) rfl rfl (Nat.le_of_ble_eq_true rfl) dX1_init_9 (fun H locs hP hD hS => ?_)
  have hP : va_P D vwCl ([(a, .inr (1, [.ref q1, .null, .null, .null, .int 0, .int 0, .int 0, .int 0, .int 0])), (q1, .inl (cy 0, 24, .inl z0))]) H := hP
  have hD : va_D A ([(a, .inr (1, [.ref q1, .null, .null, .null, .int 0, .int 0, .int 0, .int 0, .int 0])), (q1, .inl (cy 0, 24, .inl z0))]) := hD
  refine lv_aload_n hx hb dX1_init_12 rfl (lv_at hl 0 rfl) ?_
  refine lv_bipush (v := nI 8) hx hb dX1_init_13 (by decide) ?_
  refine g_newq (n := 8) (C := "UmbrellaLand$Shelter") 1 rfl hx hb hown (hts (.classLink RX1 15 RX2) (by decide +kernel)) hcw.1.1 hK hP hD hS hA (by decide) (Nat.le_of_ble_eq_true rfl) (Nat.le_of_ble_eq_true rfl) dX1_init_15 (fun q2 H hP hD hS => ?_)
  have hP : va_P D vwCl ([(a, .inr (1, [.ref q1, .null, .null, .null, .int 0, .int 0, .int 0, .int 0, .int 0])), (q1, .inl (cy 0, 24, .inl z0)), (q2, .inl (cy 1, 8, .inr (.inr (.inr (.inr (fun _ => none))))))]) H := hP
  have hD : va_D A ([(a, .inr (1, [.ref q1, .null, .null, .null, .int 0, .int 0, .int 0, .int 0, .int 0])), (q1, .inl (cy 0, 24, .inl z0)), (q2, .inl (cy 1, 8, .inr (.inr (.inr (.inr (fun _ => none))))))]) := hD
  refine va_putF (D := D) (ci := 1) (v := .ref q2) (ty := .array (.object "UmbrellaLand$Shelter")) (C := RX1) (T := TX1) (N := 9) hx hb hts hinw tyX1 tyX1_ok nmX1 hown hK hP hD hS 0 rfl rfl 1 (by decide) (hts (.fieldLink RX1 17 "UmbrellaLand$Republic" "shelters" "[LUmbrellaLand$Shelter;") (by decide +kernel)) (fun _ h9 => h9) rfl hin rfl (by decide +kernel) rfl rfl (Nat.le_of_ble_eq_true rfl) dX1_init_18 (fun H locs hP hD hS => ?_)
  have hP : va_P D vwCl ([(a, .inr (1, [.ref q1, .ref q2, .null, .null, .int 0, .int 0, .int 0, .int 0, .int 0])), (q1, .inl (cy 0, 24, .inl z0)), (q2, .inl (cy 1, 8, .inr (.inr (.inr (.inr (fun _ => none))))))]) H := hP
  have hD : va_D A ([(a, .inr (1, [.ref q1, .ref q2, .null, .null, .int 0, .int 0, .int 0, .int 0, .int 0])), (q1, .inl (cy 0, 24, .inl z0)), (q2, .inl (cy 1, 8, .inr (.inr (.inr (.inr (fun _ => none))))))]) := hD
  refine lv_aload_n hx hb dX1_init_21 rfl (lv_at hl 0 rfl) ?_
  refine lv_bipush (v := nI 40) hx hb dX1_init_22 (by decide) ?_
  refine g_newq (n := 40) (C := "UmbrellaLand$Umbrella") 2 rfl hx hb hown (hts (.classLink RX1 21 RX3) (by decide +kernel)) hcw.1.2.1 hK hP hD hS hA (by decide) (Nat.le_of_ble_eq_true rfl) (Nat.le_of_ble_eq_true rfl) dX1_init_24 (fun q3 H hP hD hS => ?_)
  have hP : va_P D vwCl ([(a, .inr (1, [.ref q1, .ref q2, .null, .null, .int 0, .int 0, .int 0, .int 0, .int 0])), (q1, .inl (cy 0, 24, .inl z0)), (q2, .inl (cy 1, 8, .inr (.inr (.inr (.inr (fun _ => none)))))), (q3, .inl (cy 2, 40, .inr (.inr (.inr (.inr (fun _ => none))))))]) H := hP
  have hD : va_D A ([(a, .inr (1, [.ref q1, .ref q2, .null, .null, .int 0, .int 0, .int 0, .int 0, .int 0])), (q1, .inl (cy 0, 24, .inl z0)), (q2, .inl (cy 1, 8, .inr (.inr (.inr (.inr (fun _ => none)))))), (q3, .inl (cy 2, 40, .inr (.inr (.inr (.inr (fun _ => none))))))]) := hD
  refine va_putF (D := D) (ci := 1) (v := .ref q3) (ty := .array (.object "UmbrellaLand$Umbrella")) (C := RX1) (T := TX1) (N := 9) hx hb hts hinw tyX1 tyX1_ok nmX1 hown hK hP hD hS 0 rfl rfl 2 (by decide) (hts (.fieldLink RX1 23 "UmbrellaLand$Republic" "umbrellas" "[LUmbrellaLand$Umbrella;") (by decide +kernel)) (fun _ h9 => h9) rfl hin rfl (by decide +kernel) rfl rfl (Nat.le_of_ble_eq_true rfl) dX1_init_27 (fun H locs hP hD hS => ?_)
  have hP : va_P D vwCl ([(a, .inr (1, [.ref q1, .ref q2, .ref q3, .null, .int 0, .int 0, .int 0, .int 0, .int 0])), (q1, .inl (cy 0, 24, .inl z0)), (q2, .inl (cy 1, 8, .inr (.inr (.inr (.inr (fun _ => none)))))), (q3, .inl (cy 2, 40, .inr (.inr (.inr (.inr (fun _ => none))))))]) H := hP
  have hD : va_D A ([(a, .inr (1, [.ref q1, .ref q2, .ref q3, .null, .int 0, .int 0, .int 0, .int 0, .int 0])), (q1, .inl (cy 0, 24, .inl z0)), (q2, .inl (cy 1, 8, .inr (.inr (.inr (.inr (fun _ => none)))))), (q3, .inl (cy 2, 40, .inr (.inr (.inr (.inr (fun _ => none))))))]) := hD
  refine lv_aload_n hx hb dX1_init_30 rfl (lv_at hl 0 rfl) ?_
  refine lv_bipush (v := nI 10) hx hb dX1_init_31 (by decide) ?_
  refine g_newq (n := 10) (C := "UmbrellaLand$Citizen") 3 rfl hx hb hown (hts (.classLink RX1 27 RX0) (by decide +kernel)) hcw.1.2.2 hK hP hD hS hA (by decide) (Nat.le_of_ble_eq_true rfl) (Nat.le_of_ble_eq_true rfl) dX1_init_33 (fun q4 H hP hD hS => ?_)
  have hP : va_P D vwCl ([(a, .inr (1, [.ref q1, .ref q2, .ref q3, .null, .int 0, .int 0, .int 0, .int 0, .int 0])), (q1, .inl (cy 0, 24, .inl z0)), (q2, .inl (cy 1, 8, .inr (.inr (.inr (.inr (fun _ => none)))))), (q3, .inl (cy 2, 40, .inr (.inr (.inr (.inr (fun _ => none)))))), (q4, .inl (cy 3, 10, .inr (.inr (.inr (.inr (fun _ => none))))))]) H := hP
  have hD : va_D A ([(a, .inr (1, [.ref q1, .ref q2, .ref q3, .null, .int 0, .int 0, .int 0, .int 0, .int 0])), (q1, .inl (cy 0, 24, .inl z0)), (q2, .inl (cy 1, 8, .inr (.inr (.inr (.inr (fun _ => none)))))), (q3, .inl (cy 2, 40, .inr (.inr (.inr (.inr (fun _ => none)))))), (q4, .inl (cy 3, 10, .inr (.inr (.inr (.inr (fun _ => none))))))]) := hD
  refine va_putF (D := D) (ci := 1) (v := .ref q4) (ty := .array (.object "UmbrellaLand$Citizen")) (C := RX1) (T := TX1) (N := 9) hx hb hts hinw tyX1 tyX1_ok nmX1 hown hK hP hD hS 0 rfl rfl 3 (by decide) (hts (.fieldLink RX1 29 "UmbrellaLand$Republic" "citizens" "[LUmbrellaLand$Citizen;") (by decide +kernel)) (fun _ h9 => h9) rfl hin rfl (by decide +kernel) rfl rfl (Nat.le_of_ble_eq_true rfl) dX1_init_36 (fun H locs hP hD hS => ?_)
  have hP : va_P D vwCl ([(a, .inr (1, [.ref q1, .ref q2, .ref q3, .ref q4, .int 0, .int 0, .int 0, .int 0, .int 0])), (q1, .inl (cy 0, 24, .inl z0)), (q2, .inl (cy 1, 8, .inr (.inr (.inr (.inr (fun _ => none)))))), (q3, .inl (cy 2, 40, .inr (.inr (.inr (.inr (fun _ => none)))))), (q4, .inl (cy 3, 10, .inr (.inr (.inr (.inr (fun _ => none))))))]) H := hP
  have hD : va_D A ([(a, .inr (1, [.ref q1, .ref q2, .ref q3, .ref q4, .int 0, .int 0, .int 0, .int 0, .int 0])), (q1, .inl (cy 0, 24, .inl z0)), (q2, .inl (cy 1, 8, .inr (.inr (.inr (.inr (fun _ => none)))))), (q3, .inl (cy 2, 40, .inr (.inr (.inr (.inr (fun _ => none)))))), (q4, .inl (cy 3, 10, .inr (.inr (.inr (.inr (fun _ => none))))))]) := hD
  have hnc : NC cy (fun j => ([a, q1, q2, q3, q4] : List Nat).getD j 0) (0 + 0) = [(a, .inr (1, [.ref q1, .ref q2, .ref q3, .ref q4, .int 0, .int 0, .int 0, .int 0, .int 0])), (q1, .inl (cy 0, 24, .inl z0)), (q2, .inl (cy 1, 8, .inr (.inr (.inr (.inr (fun _ => none)))))), (q3, .inl (cy 2, 40, .inr (.inr (.inr (.inr (fun _ => none)))))), (q4, .inl (cy 3, 10, .inr (.inr (.inr (.inr (fun _ => none))))))] := by
    have e : ∀ off n, rf (fun j => ([a, q1, q2, q3, q4] : List Nat).getD j 0) off n 0 = fun _ => none := fun off n => by funext i; unfold rf; rw [if_neg (by omega)]
    show NC cy (fun j => ([a, q1, q2, q3, q4] : List Nat).getD j 0) 0 = _
    unfold NC NB
    rw [e, e, e]
    rfl
  rw [← hnc] at hP hD
  refine lv_iconst (v := nI 0) hx hb dX1_init_39 (by decide) ?_
  refine lv_istore_n (lv' := [(1, .int (nI 0)), (0, .ref a)]) hx hb dX1_init_40 rfl hl (by decide) rfl (fun ls hl => ?_)
  refine loop41 8 0 (fun j => ([a, q1, q2, q3, q4] : List Nat).getD j 0) _ _ _ rfl rfl hP hD hS hl (fun ad H locs ls ha hP hD hS hl => ?_)
  refine lv_iconst (v := nI 0) hx hb dX1_init_66 (by decide) ?_
  refine lv_istore_n (lv' := [(1, .int (nI 0)), (0, .ref a)]) hx hb dX1_init_67 rfl hl (by decide) rfl (fun ls hl => ?_)
  refine W.widen (k := 12 + 0) (n := 138 + 6 * 0) (by omega) (by omega) ?_
  refine loop68 40 0 ad _ _ _ rfl ha hP hD hS hl (fun ad H locs ls ha hP hD hS hl => ?_)
  refine lv_iconst (v := nI 0) hx hb dX1_init_93 (by decide) ?_
  refine lv_istore_n (lv' := [(1, .int (nI 0)), (0, .ref a)]) hx hb dX1_init_94 rfl hl (by decide) rfl (fun ls hl => ?_)
  refine W.widen (k := 52 + 0) (n := 378 + 15 * 0) (by omega) (by omega) ?_
  refine loop95 10 0 ad _ _ _ rfl ha hP hD hS hl (fun ad H locs ls ha hP hD hS hl => ?_)
  exact g_endC (u := ad) hx hb hr hlocks ha (RW_of_NC hP) (RW_D_of_NC hD) hS (by omega) (by omega) dX1_init_120
