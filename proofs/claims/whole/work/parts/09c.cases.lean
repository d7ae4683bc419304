set_option maxHeartbeats 4000000 in
set_option maxRecDepth 100000 in
theorem cs_trust {p : Program} {e : Env} {s : State} {m : MethodId} {below : List Frame} {meth : Method} {c : Code} {Q : State → Prop} (l : Launch) (D : va_G) (cy : Nat → ClassId) {b L : Nat} {xs : Nat → Int32} (C0 : LC p l s m c D cy b L xs) (IV : Nat → Sg × Sg → Prop) (LI : Nat → (Sg × Sg) → MS → Prop) (hLI : LIok IV LI) (hSt : St_trust LI) (hMono : ∀ h h2 σ μ, h ≤ h2 → LI h σ μ → LI h2 σ μ) (ax ad ad2 : Nat → Nat) (ao : Nat) (am sd sd2 : Nat → Nat) (σ : Sg × Sg) (fo : Nat → Int64) (μ : MS) (k : Nat) (hk : 6 * k + 6 ≤ L) (hI : LI (100 * k) σ μ) (H : Heap) (locs : List Loc) (ls : Array Slot) (hP : va_P D vwCl (TW cy ax ad ad2 ao am sd sd2 ((σ, fo), μ)) H) (hD : va_D (fun q : Nat => s.heap.size ≤ q) (TW cy ax ad ad2 ao am sd sd2 ((σ, fo), μ))) (hS : va_S (fun q : Nat => s.heap.size ≤ q) s.heap H locs) (hl : lv_has ls 9 [(4, .int (nI (6 * k))), (0, .ref b), (1, .ref (ax 0)), (2, .ref (am 0)), (3, .ref ao)])
    (K : ∀ (σ : Sg × Sg) (fo : Nat → Int64) (μ : MS) (H : Heap) (locs : List Loc) (ls : Array Slot), LI (100 * k + 100) σ μ → va_P D vwCl (TW cy ax ad ad2 ao am sd sd2 ((σ, fo), μ)) H → va_D (fun q : Nat => s.heap.size ≤ q) (TW cy ax ad ad2 ao am sd sd2 ((σ, fo), μ)) → va_S (fun q : Nat => s.heap.size ≤ q) s.heap H locs → lv_has ls 9 [(4, .int (nI (6 * k))), (0, .ref b), (1, .ref (ax 0)), (2, .ref (am 0)), (3, .ref ao)] → W p l e room_1 s m #[Value.ref b] below meth c H locs (164 + 420 * (k + 1)) (2021 + 3100 * (k + 1)) Q (F0 m 1134 ls [])) : W p l e room_1 s m #[Value.ref b] below meth c H locs (164 + 420 * k) (2021 + 3100 * k) Q (F0 m 1079 ls []) := by
  obtain ⟨hx, hb, hml, hown, hts, hX, hbl, hK, hst, htx, hnc, hnw, hl0, hL⟩ := id C0
  have hA : ∀ q : Nat, s.heap.size ≤ q → (fun q : Nat => s.heap.size ≤ q) q := fun _ h => h
  obtain ⟨hQ, hLI2⟩ := hLI
  obtain ⟨hR, hN, ⟨h0, hh0, hiv⟩, hn4, hn6⟩ := hLI2 _ _ _ hI
  have hm := hSt _ _ _ hI
  refine lv_aload_n hx hb dL_law_1079 rfl (lv_at hl 2 rfl) ?_
  refine g_calld (q0 := 0) (wf := (TW cy ax ad ad2 ao am sd sd2)) (σ := ((σ, fo), μ)) (wfc := (CW cy ax ad ad2)) (σc := σ) hx hb hml hown hts hK hP hD hS hA hl.1 ([(ao, .inl (cy 4, 1, .inr (.inl fo)))] ++ MW cy am sd sd2 μ) (List.Perm.of_eq (List.append_assoc _ _ _)) (fun u => ((u, fo), μ)) (fun _ => List.Perm.of_eq (List.append_assoc _ _ _).symm) [] (c_X4_trust l D cy ax ad ad2 σ hR hn4) (cwV 0 hts gL_law_X4_trust rfl rfl rfl (by decide +kernel) ⟨Nat.le_of_ble_eq_true rfl, Nat.le_of_ble_eq_true rfl⟩) rfl rfl rfl rfl rfl (Nat.le_of_ble_eq_true rfl) dL_law_1080 ⟨by show _ + 0 ≤ 633360; omega, by show _ + 0 ≤ 7196024; omega⟩ rfl rfl ?_
  intro r1 er1 H locs hP hD hS
  refine lv_dstore (lv' := [(5, .double r1.1), (4, .int (nI (6 * k))), (0, .ref b), (1, .ref (ax 0)), (2, .ref (am 0)), (3, .ref ao)]) hx hb dL_law_1083 hl (by decide) rfl (fun ls hl => ?_)
  refine lv_aload_n hx hb dL_law_1085 rfl (lv_at hl 4 rfl) ?_
  refine g_calldN (q0 := 128 + 0) hnw (wf := (TW cy ax ad ad2 ao am sd sd2)) (σ := ((r1.2, fo), μ)) (wfc := (MW cy am sd sd2)) (σc := μ) hx hb hml hown hts hK hP hD hS hA hl.1 (LW cy ax ad ad2 ao (r1.2, fo)) List.perm_append_comm (fun u => ((r1.2, fo), u)) (fun _ => List.perm_append_comm) [] (c_X6_trust l D cy am sd sd2 μ hN hn6) (cwV 0 hts gL_law_X6_trust rfl rfl rfl (by decide +kernel) ⟨Nat.le_of_ble_eq_true rfl, Nat.le_of_ble_eq_true rfl⟩) (gx_r (LW_len _ _ _ _ _ _) (gx_l (OW_ob cy am (sd 0) (sd2 0) μ.1))) rfl rfl rfl rfl (Nat.le_of_ble_eq_true rfl) dL_law_1086 ⟨by show _ + 0 ≤ 633360; omega, by show _ + 0 ≤ 7196024; omega⟩ rfl rfl ?_
  intro r2 er2 H locs hP hD hS
  refine lv_dstore (lv' := [(7, .double r2.1), (5, .double r1.1), (4, .int (nI (6 * k))), (0, .ref b), (1, .ref (ax 0)), (2, .ref (am 0)), (3, .ref ao)]) hx hb dL_law_1089 hl (by decide) rfl (fun ls hl => ?_)
  have hv : r2.1 = r1.1 := by rw [er1, er2]; exact hm.1.symm
  have hI2 : LI (100 * k + 100) r1.2 r2.2 := hMono (100 * k) _ _ _ (by omega) (by rw [er1, er2]; exact hm.2)
  refine lv_dload hx hb dL_law_1091 (lv_at hl 1 rfl) ?_
  refine lv_dload hx hb dL_law_1093 (lv_at hl 0 rfl) ?_
  rw [hv]
  refine lv_dcmp hx hb dL_law_1095 ?_
  refine lv_if_eq (tgt := 1117) hx hb dL_law_1096 (by decide) (fun c1 => ?_) (fun c1 => ?_)
  · refine lv_goto (tgt := 1134) hx hb dL_law_1117 (by decide) ?_
    refine W.widen (k := 164 + 420 * (k + 1)) (n := 2021 + 3100 * (k + 1)) (by omega) (by omega) ?_
    exact K r1.2 fo r2.2 H locs ls hI2 hP hD hS (lv_sub hl [2, 3, 4, 5, 6] rfl)
  · refine lv_dload hx hb dL_law_1099 (lv_at hl 1 rfl) ?_
    refine lv_dload hx hb dL_law_1101 (lv_at hl 1 rfl) ?_
    refine lv_dcmp hx hb dL_law_1103 ?_
    refine lv_if_eq (tgt := 1115) hx hb dL_law_1104 (by decide) (fun c2 => absurd c2 c1) (fun c2 => ?_)
    refine lv_dload hx hb dL_law_1107 (lv_at hl 0 rfl) ?_
    refine lv_dload hx hb dL_law_1109 (lv_at hl 0 rfl) ?_
    rw [hv]
    refine lv_dcmp hx hb dL_law_1111 ?_
    refine lv_if_ne (tgt := 1117) hx hb dL_law_1112 (by decide) (fun c3 => ?_) (fun c3 => absurd c3 c1)
    refine lv_goto (tgt := 1134) hx hb dL_law_1117 (by decide) ?_
    refine W.widen (k := 164 + 420 * (k + 1)) (n := 2021 + 3100 * (k + 1)) (by omega) (by omega) ?_
    exact K r1.2 fo r2.2 H locs ls hI2 hP hD hS (lv_sub hl [2, 3, 4, 5, 6] rfl)
set_option maxHeartbeats 4000000 in
set_option maxRecDepth 100000 in
theorem cs_digest {p : Program} {e : Env} {s : State} {m : MethodId} {below : List Frame} {meth : Method} {c : Code} {Q : State → Prop} (l : Launch) (D : va_G) (cy : Nat → ClassId) {b L : Nat} {xs : Nat → Int32} (C0 : LC p l s m c D cy b L xs) (IV : Nat → Sg × Sg → Prop) (LI : Nat → (Sg × Sg) → MS → Prop) (hLI : LIok IV LI) (hSt : St_digest LI) (hMono : ∀ h h2 σ μ, h ≤ h2 → LI h σ μ → LI h2 σ μ) (ax ad ad2 : Nat → Nat) (ao : Nat) (am sd sd2 : Nat → Nat) (σ : Sg × Sg) (fo : Nat → Int64) (μ : MS) (k : Nat) (hk : 6 * k + 6 ≤ L) (hI : LI (100 * k) σ μ) (H : Heap) (locs : List Loc) (ls : Array Slot) (hP : va_P D vwCl (TW cy ax ad ad2 ao am sd sd2 ((σ, fo), μ)) H) (hD : va_D (fun q : Nat => s.heap.size ≤ q) (TW cy ax ad ad2 ao am sd sd2 ((σ, fo), μ))) (hS : va_S (fun q : Nat => s.heap.size ≤ q) s.heap H locs) (hl : lv_has ls 9 [(4, .int (nI (6 * k))), (0, .ref b), (1, .ref (ax 0)), (2, .ref (am 0)), (3, .ref ao)])
    (K : ∀ (σ : Sg × Sg) (fo : Nat → Int64) (μ : MS) (H : Heap) (locs : List Loc) (ls : Array Slot), LI (100 * k + 100) σ μ → va_P D vwCl (TW cy ax ad ad2 ao am sd sd2 ((σ, fo), μ)) H → va_D (fun q : Nat => s.heap.size ≤ q) (TW cy ax ad ad2 ao am sd sd2 ((σ, fo), μ)) → va_S (fun q : Nat => s.heap.size ≤ q) s.heap H locs → lv_has ls 9 [(4, .int (nI (6 * k))), (0, .ref b), (1, .ref (ax 0)), (2, .ref (am 0)), (3, .ref ao)] → W p l e room_1 s m #[Value.ref b] below meth c H locs (164 + 420 * (k + 1)) (2021 + 3100 * (k + 1)) Q (F0 m 1134 ls [])) : W p l e room_1 s m #[Value.ref b] below meth c H locs (164 + 420 * k) (2021 + 3100 * k) Q (F0 m 1120 ls []) := by
  obtain ⟨hx, hb, hml, hown, hts, hX, hbl, hK, hst, htx, hnc, hnw, hl0, hL⟩ := id C0
  have hA : ∀ q : Nat, s.heap.size ≤ q → (fun q : Nat => s.heap.size ≤ q) q := fun _ h => h
  obtain ⟨hQ, hLI2⟩ := hLI
  obtain ⟨hR, hN, ⟨h0, hh0, hiv⟩, hn4, hn6⟩ := hLI2 _ _ _ hI
  have hm := hSt _ _ _ hI
  refine lv_aload_n hx hb dL_law_1120 rfl (lv_at hl 2 rfl) ?_
  refine g_calll (q0 := 0) (wf := (TW cy ax ad ad2 ao am sd sd2)) (σ := ((σ, fo), μ)) (wfc := (CW cy ax ad ad2)) (σc := σ) hx hb hml hown hts hK hP hD hS hA hl.1 ([(ao, .inl (cy 4, 1, .inr (.inl fo)))] ++ MW cy am sd sd2 μ) (List.Perm.of_eq (List.append_assoc _ _ _)) (fun u => ((u, fo), μ)) (fun _ => List.Perm.of_eq (List.append_assoc _ _ _).symm) [] (c_X4_digest l D cy ax ad ad2 σ hR) (cwV 0 hts gL_law_X4_digest rfl rfl rfl (by decide +kernel) ⟨Nat.le_of_ble_eq_true rfl, Nat.le_of_ble_eq_true rfl⟩) rfl rfl rfl rfl rfl (Nat.le_of_ble_eq_true rfl) dL_law_1121 ⟨by show _ + 0 ≤ 633360; omega, by show _ + 0 ≤ 7196024; omega⟩ rfl rfl ?_
  intro r1 er1 H locs hP hD hS
  refine lv_aload_n hx hb dL_law_1124 rfl (lv_at hl 3 rfl) ?_
  refine g_calllN (q0 := 128 + 0) hnw (wf := (TW cy ax ad ad2 ao am sd sd2)) (σ := ((r1.2, fo), μ)) (wfc := (MW cy am sd sd2)) (σc := μ) hx hb hml hown hts hK hP hD hS hA hl.1 (LW cy ax ad ad2 ao (r1.2, fo)) List.perm_append_comm (fun u => ((r1.2, fo), u)) (fun _ => List.perm_append_comm) [] (c_X6_digest l D cy am sd sd2 μ hN) (cwV 0 hts gL_law_X6_digest rfl rfl rfl (by decide +kernel) ⟨Nat.le_of_ble_eq_true rfl, Nat.le_of_ble_eq_true rfl⟩) (gx_r (LW_len _ _ _ _ _ _) (gx_l (OW_ob cy am (sd 0) (sd2 0) μ.1))) rfl rfl rfl rfl (Nat.le_of_ble_eq_true rfl) dL_law_1125 ⟨by show _ + 415 ≤ 633360; omega, by show _ + 3073 ≤ 7196024; omega⟩ rfl rfl ?_
  intro r2 er2 H locs hP hD hS
  have hv : r2.1 = r1.1 := by rw [er1, er2]; exact hm.1.symm
  have hI2 : LI (100 * k + 100) r1.2 r2.2 := hMono (100 * k) _ _ _ (by omega) (by rw [er1, er2]; exact hm.2)
  rw [hv]
  refine W.lcmp hx hb dL_law_1128 ?_
  refine lv_if_eq (tgt := 1134) hx hb dL_law_1129 (by decide) (fun c1 => ?_) (fun c1 => absurd (lg_self _) c1)
  refine W.widen (k := 164 + 420 * (k + 1)) (n := 2021 + 3100 * (k + 1)) (by omega) (by omega) ?_
  exact K r1.2 fo r2.2 H locs ls hI2 hP hD hS (lv_sub hl [0, 1, 2, 3, 4] rfl)
