set_option maxHeartbeats 4000000 in
set_option maxRecDepth 100000 in
theorem cs_build {p : Program} {e : Env} {s : State} {m : MethodId} {below : List Frame} {meth : Method} {c : Code} {Q : State → Prop} (l : Launch) (D : va_G) (cy : Nat → ClassId) {b L : Nat} {xs : Nat → Int32} (C0 : LC p l s m c D cy b L xs) (IV : Nat → Sg × Sg → Prop) (LI : Nat → (Sg × Sg) → MS → Prop) (hLI : LIok IV LI) (hSt : St_build LI) (ax ad ad2 : Nat → Nat) (ao : Nat) (am sd sd2 : Nat → Nat) (σ : Sg × Sg) (fo : Nat → Int64) (μ : MS) (k : Nat) (hk : 6 * k + 6 ≤ L) (hI : LI (100 * k) σ μ) (H : Heap) (locs : List Loc) (ls : Array Slot) (hP : va_P D vwCl (TW cy ax ad ad2 ao am sd sd2 ((σ, fo), μ)) H) (hD : va_D (fun q : Nat => s.heap.size ≤ q) (TW cy ax ad ad2 ao am sd sd2 ((σ, fo), μ))) (hS : va_S (fun q : Nat => s.heap.size ≤ q) s.heap H locs) (hl : lv_has ls 9 [(4, .int (nI (6 * k))), (0, .ref b), (1, .ref (ax 0)), (2, .ref (am 0)), (3, .ref ao)])
    (K : ∀ (σ : Sg × Sg) (fo : Nat → Int64) (μ : MS) (H : Heap) (locs : List Loc) (ls : Array Slot), LI (100 * k + 100) σ μ → va_P D vwCl (TW cy ax ad ad2 ao am sd sd2 ((σ, fo), μ)) H → va_D (fun q : Nat => s.heap.size ≤ q) (TW cy ax ad ad2 ao am sd sd2 ((σ, fo), μ)) → va_S (fun q : Nat => s.heap.size ≤ q) s.heap H locs → lv_has ls 9 [(4, .int (nI (6 * k))), (0, .ref b), (1, .ref (ax 0)), (2, .ref (am 0)), (3, .ref ao)] → W p l e room_1 s m #[Value.ref b] below meth c H locs (164 + 420 * (k + 1)) (2021 + 3100 * (k + 1)) Q (F0 m 1134 ls [])) : W p l e room_1 s m #[Value.ref b] below meth c H locs (164 + 420 * k) (2021 + 3100 * k) Q (F0 m 120 ls []) := by
  obtain ⟨hx, hb, hml, hown, hts, hX, hbl, hK, hst, htx, hnc, hnw, hl0, hL⟩ := id C0
  have hA : ∀ q : Nat, s.heap.size ≤ q → (fun q : Nat => s.heap.size ≤ q) q := fun _ h => h
  have hbA : ¬ (fun q : Nat => s.heap.size ≤ q) b := Nat.not_le.mpr hbl
  obtain ⟨hQ, hLI2⟩ := hLI
  obtain ⟨hR, hN, ⟨h0, hh0, hiv⟩, -, -⟩ := hLI2 _ _ _ hI
  refine lv_aload_n hx hb dL_law_120 rfl (lv_at hl 2 rfl) ?_
  refine lv_aload_n hx hb dL_law_121 rfl (lv_at hl 1 rfl) ?_
  refine lv_iload hx hb dL_law_122 (lv_at hl 0 rfl) ?_
  refine lv_iconst (v := nI 1) hx hb dL_law_124 (by decide) ?_
  refine lv_iadd hx hb dL_law_125 ?_
  refine g_top (nI_add (6 * k) 1) ?_
  refine va_sld hx hb hX hbl hbA hS (vp_in_nI (show 6 * k + 1 < L by omega) (by omega)) dL_law_126 ?_
  refine lv_aload_n hx hb dL_law_127 rfl (lv_at hl 1 rfl) ?_
  refine lv_iload hx hb dL_law_128 (lv_at hl 0 rfl) ?_
  refine lv_iconst (v := nI 2) hx hb dL_law_130 (by decide) ?_
  refine lv_iadd hx hb dL_law_131 ?_
  refine g_top (nI_add (6 * k) 2) ?_
  refine va_sld hx hb hX hbl hbA hS (vp_in_nI (show 6 * k + 2 < L by omega) (by omega)) dL_law_132 ?_
  refine lv_aload_n hx hb dL_law_133 rfl (lv_at hl 4 rfl) ?_
  have hm := hSt _ _ _ hI (by omega) (xs (tn (nI (6 * k + 1)))) (xs (tn (nI (6 * k + 2))))
  refine g_callL (wf := (TW cy ax ad ad2 ao am sd sd2)) (σ := ((σ, fo), μ)) (wfc := (LW cy ax ad ad2 ao)) (σc := (σ, fo)) hl0 hst htx hnc hx hb hml hown hts hK hP hD hS hA hl.1 (MW cy am sd sd2 μ) (List.Perm.refl _) (fun u => (u, μ)) (fun _ => List.Perm.refl _) [.ref (ax 0), .int (xs (tn (nI (6 * k + 1)))), .int (xs (tn (nI (6 * k + 2)))), .ref ao] (c_L_build l D cy ax ad ad2 ao σ fo (xs (tn (nI (6 * k + 1)))) (xs (tn (nI (6 * k + 2)))) hR hm.1) (vx_cwSW 4 hts gL_law_L_build rfl rfl rfl (by decide +kernel) ⟨Nat.le_of_ble_eq_true rfl, Nat.le_of_ble_eq_true rfl⟩) rfl rfl (Nat.le_of_ble_eq_true rfl) dL_law_134 ⟨by show _ + 1 ≤ 633360; omega, by show _ + 6 ≤ 7196024; omega⟩ rfl rfl ?_
  intro r1 er1 H locs hP hD hS
  refine lv_istore (lv' := [(5, .int r1.1), (4, .int (nI (6 * k))), (0, .ref b), (1, .ref (ax 0)), (2, .ref (am 0)), (3, .ref ao)]) hx hb dL_law_137 hl (by decide) rfl (fun ls hl => ?_)
  refine lv_aload_n hx hb dL_law_139 rfl (lv_at hl 4 rfl) ?_
  refine lv_aload_n hx hb dL_law_140 rfl (lv_at hl 2 rfl) ?_
  refine lv_iload hx hb dL_law_141 (lv_at hl 1 rfl) ?_
  refine lv_iconst (v := nI 1) hx hb dL_law_143 (by decide) ?_
  refine lv_iadd hx hb dL_law_144 ?_
  refine g_top (nI_add (6 * k) 1) ?_
  refine va_sld hx hb hX hbl hbA hS (vp_in_nI (show 6 * k + 1 < L by omega) (by omega)) dL_law_145 ?_
  refine lv_aload_n hx hb dL_law_146 rfl (lv_at hl 2 rfl) ?_
  refine lv_iload hx hb dL_law_147 (lv_at hl 1 rfl) ?_
  refine lv_iconst (v := nI 2) hx hb dL_law_149 (by decide) ?_
  refine lv_iadd hx hb dL_law_150 ?_
  refine g_top (nI_add (6 * k) 2) ?_
  refine va_sld hx hb hX hbl hbA hS (vp_in_nI (show 6 * k + 2 < L by omega) (by omega)) dL_law_151 ?_
  refine g_calliN (q0 := 128 + 0) hnw (wf := (TW cy ax ad ad2 ao am sd sd2)) (σ := (r1.2, μ)) (wfc := (MW cy am sd sd2)) (σc := μ) hx hb hml hown hts hK hP hD hS hA hl.1 (LW cy ax ad ad2 ao r1.2) List.perm_append_comm (fun u => (r1.2, u)) (fun _ => List.perm_append_comm) [.int (xs (tn (nI (6 * k + 1)))), .int (xs (tn (nI (6 * k + 2))))] (c_X6_build l D cy am sd sd2 μ (xs (tn (nI (6 * k + 1)))) (xs (tn (nI (6 * k + 2)))) hN) (cwV 2 hts gL_law_X6_build rfl rfl rfl (by decide +kernel) ⟨Nat.le_of_ble_eq_true rfl, Nat.le_of_ble_eq_true rfl⟩) (gx_r (LW_len _ _ _ _ _ _) (gx_l (OW_ob cy am (sd 0) (sd2 0) μ.1))) rfl rfl rfl rfl (Nat.le_of_ble_eq_true rfl) dL_law_152 ⟨by show _ + 0 ≤ 633360; omega, by show _ + 0 ≤ 7196024; omega⟩ rfl rfl ?_
  intro r2 er2 H locs hP hD hS
  refine lv_istore (lv' := [(6, .int r2.1), (5, .int r1.1), (4, .int (nI (6 * k))), (0, .ref b), (1, .ref (ax 0)), (2, .ref (am 0)), (3, .ref ao)]) hx hb dL_law_155 hl (by decide) rfl (fun ls hl => ?_)
  refine lv_aload_n hx hb dL_law_157 rfl (lv_at hl 5 rfl) ?_
  refine g_callrN (q0 := 128 + 0) hnw (wf := (TW cy ax ad ad2 ao am sd sd2)) (σ := (r1.2, r2.2)) (wfc := (MW cy am sd sd2)) (σc := r2.2) hx hb hml hown hts hK hP hD hS hA hl.1 (LW cy ax ad ad2 ao r1.2) List.perm_append_comm [] (c_X6_thrown l D cy am sd sd2 r2.2) (cwV 0 hts gL_law_X6_thrown rfl rfl rfl (by decide +kernel) ⟨Nat.le_of_ble_eq_true rfl, Nat.le_of_ble_eq_true rfl⟩) (gx_r (LW_len _ _ _ _ _ _) (gx_l (OW_ob cy am (sd 0) (sd2 0) r2.2.1))) rfl rfl rfl rfl (Nat.le_of_ble_eq_true rfl) dL_law_158 ⟨by show _ + 0 ≤ 633360; omega, by show _ + 0 ≤ 7196024; omega⟩ rfl rfl ?_
  intro r3 er3 H locs hP hD hS
  have e13 : r3 = r1.1 := by rw [er3, er2, er1]; exact (hm.2 fo).1.symm
  have hI2 : LI (100 * k + 100) r1.2.1 r2.2 := by rw [er1, er2]; exact (hm.2 fo).2.2
  refine lv_iload hx hb dL_law_161 (lv_at hl 1 rfl) ?_
  refine lv_icmp_eq (tgt := 168) hx hb dL_law_163 (by decide) (fun c1 => ?_) (fun c1 => absurd e13 c1)
  refine lv_iload hx hb dL_law_168 (lv_at hl 1 rfl) ?_
  refine lv_if_ne (tgt := 185) hx hb dL_law_170 (by decide) (fun c2 => ?_) (fun c2 => ?_)
  · refine lv_goto (tgt := 1134) hx hb dL_law_185 (by decide) ?_
    refine W.widen (k := 164 + 420 * (k + 1)) (n := 2021 + 3100 * (k + 1)) (by omega) (by omega) ?_
    exact K r1.2.1 r1.2.2 r2.2 H locs ls hI2 hP hD hS (lv_sub hl [2, 3, 4, 5, 6] rfl)
  · refine lv_aload_n hx hb dL_law_173 rfl (lv_at hl 6 rfl) ?_
    have hout : r1.2.2 (nI 0).toNatClampNeg = cvI r2.1 := by rw [er1, er2]; rw [er1] at c2; exact (hm.2 fo).2.1 c2
    refine lv_iconst (v := nI 0) hx hb dL_law_174 (by decide) ?_
    refine va_lald hx hb hK hP 127 4 (gx_l LW_get) rfl (vp_in_nI (by decide) (by decide)) dL_law_175 ?_
    refine lv_iload hx hb dL_law_176 (lv_at hl 0 rfl) ?_
    refine lv_i2l hx hb dL_law_178 rfl ?_
    refine W.lcmp hx hb dL_law_179 ?_
    refine lv_if_eq (tgt := 185) hx hb dL_law_180 (by decide) (fun c3 => ?_) (fun c3 => absurd (by rw [hout]; exact lg_self _) c3)
    refine lv_goto (tgt := 1134) hx hb dL_law_185 (by decide) ?_
    refine W.widen (k := 164 + 420 * (k + 1)) (n := 2021 + 3100 * (k + 1)) (by omega) (by omega) ?_
    exact K r1.2.1 r1.2.2 r2.2 H locs ls hI2 hP hD hS (lv_sub hl [2, 3, 4, 5, 6] rfl)
set_option maxHeartbeats 4000000 in
set_option maxRecDepth 100000 in
theorem cs_bring {p : Program} {e : Env} {s : State} {m : MethodId} {below : List Frame} {meth : Method} {c : Code} {Q : State → Prop} (l : Launch) (D : va_G) (cy : Nat → ClassId) {b L : Nat} {xs : Nat → Int32} (C0 : LC p l s m c D cy b L xs) (IV : Nat → Sg × Sg → Prop) (LI : Nat → (Sg × Sg) → MS → Prop) (hLI : LIok IV LI) (hSt : St_bring LI) (ax ad ad2 : Nat → Nat) (ao : Nat) (am sd sd2 : Nat → Nat) (σ : Sg × Sg) (fo : Nat → Int64) (μ : MS) (k : Nat) (hk : 6 * k + 6 ≤ L) (hI : LI (100 * k) σ μ) (H : Heap) (locs : List Loc) (ls : Array Slot) (hP : va_P D vwCl (TW cy ax ad ad2 ao am sd sd2 ((σ, fo), μ)) H) (hD : va_D (fun q : Nat => s.heap.size ≤ q) (TW cy ax ad ad2 ao am sd sd2 ((σ, fo), μ))) (hS : va_S (fun q : Nat => s.heap.size ≤ q) s.heap H locs) (hl : lv_has ls 9 [(4, .int (nI (6 * k))), (0, .ref b), (1, .ref (ax 0)), (2, .ref (am 0)), (3, .ref ao)])
    (K : ∀ (σ : Sg × Sg) (fo : Nat → Int64) (μ : MS) (H : Heap) (locs : List Loc) (ls : Array Slot), LI (100 * k + 100) σ μ → va_P D vwCl (TW cy ax ad ad2 ao am sd sd2 ((σ, fo), μ)) H → va_D (fun q : Nat => s.heap.size ≤ q) (TW cy ax ad ad2 ao am sd sd2 ((σ, fo), μ)) → va_S (fun q : Nat => s.heap.size ≤ q) s.heap H locs → lv_has ls 9 [(4, .int (nI (6 * k))), (0, .ref b), (1, .ref (ax 0)), (2, .ref (am 0)), (3, .ref ao)] → W p l e room_1 s m #[Value.ref b] below meth c H locs (164 + 420 * (k + 1)) (2021 + 3100 * (k + 1)) Q (F0 m 1134 ls [])) : W p l e room_1 s m #[Value.ref b] below meth c H locs (164 + 420 * k) (2021 + 3100 * k) Q (F0 m 188 ls []) := by
  obtain ⟨hx, hb, hml, hown, hts, hX, hbl, hK, hst, htx, hnc, hnw, hl0, hL⟩ := id C0
  have hA : ∀ q : Nat, s.heap.size ≤ q → (fun q : Nat => s.heap.size ≤ q) q := fun _ h => h
  have hbA : ¬ (fun q : Nat => s.heap.size ≤ q) b := Nat.not_le.mpr hbl
  obtain ⟨hQ, hLI2⟩ := hLI
  obtain ⟨hR, hN, ⟨h0, hh0, hiv⟩, -, -⟩ := hLI2 _ _ _ hI
  refine lv_aload_n hx hb dL_law_188 rfl (lv_at hl 2 rfl) ?_
  refine lv_aload_n hx hb dL_law_189 rfl (lv_at hl 1 rfl) ?_
  refine lv_iload hx hb dL_law_190 (lv_at hl 0 rfl) ?_
  refine lv_iconst (v := nI 1) hx hb dL_law_192 (by decide) ?_
  refine lv_iadd hx hb dL_law_193 ?_
  refine g_top (nI_add (6 * k) 1) ?_
  refine va_sld hx hb hX hbl hbA hS (vp_in_nI (show 6 * k + 1 < L by omega) (by omega)) dL_law_194 ?_
  refine lv_aload_n hx hb dL_law_195 rfl (lv_at hl 1 rfl) ?_
  refine lv_iload hx hb dL_law_196 (lv_at hl 0 rfl) ?_
  refine lv_iconst (v := nI 2) hx hb dL_law_198 (by decide) ?_
  refine lv_iadd hx hb dL_law_199 ?_
  refine g_top (nI_add (6 * k) 2) ?_
  refine va_sld hx hb hX hbl hbA hS (vp_in_nI (show 6 * k + 2 < L by omega) (by omega)) dL_law_200 ?_
  refine lv_aload_n hx hb dL_law_201 rfl (lv_at hl 4 rfl) ?_
  have hm := hSt _ _ _ hI (by omega) (xs (tn (nI (6 * k + 1)))) (xs (tn (nI (6 * k + 2))))
  refine g_callL (wf := (TW cy ax ad ad2 ao am sd sd2)) (σ := ((σ, fo), μ)) (wfc := (LW cy ax ad ad2 ao)) (σc := (σ, fo)) hl0 hst htx hnc hx hb hml hown hts hK hP hD hS hA hl.1 (MW cy am sd sd2 μ) (List.Perm.refl _) (fun u => (u, μ)) (fun _ => List.Perm.refl _) [.ref (ax 0), .int (xs (tn (nI (6 * k + 1)))), .int (xs (tn (nI (6 * k + 2)))), .ref ao] (c_L_bring l D cy ax ad ad2 ao σ fo (xs (tn (nI (6 * k + 1)))) (xs (tn (nI (6 * k + 2)))) hR hm.1) (vx_cwSW 4 hts gL_law_L_bring rfl rfl rfl (by decide +kernel) ⟨Nat.le_of_ble_eq_true rfl, Nat.le_of_ble_eq_true rfl⟩) rfl rfl (Nat.le_of_ble_eq_true rfl) dL_law_202 ⟨by show _ + 2 ≤ 633360; omega, by show _ + 12 ≤ 7196024; omega⟩ rfl rfl ?_
  intro r1 er1 H locs hP hD hS
  refine lv_istore (lv' := [(5, .int r1.1), (4, .int (nI (6 * k))), (0, .ref b), (1, .ref (ax 0)), (2, .ref (am 0)), (3, .ref ao)]) hx hb dL_law_205 hl (by decide) rfl (fun ls hl => ?_)
  refine lv_aload_n hx hb dL_law_207 rfl (lv_at hl 4 rfl) ?_
  refine lv_aload_n hx hb dL_law_208 rfl (lv_at hl 2 rfl) ?_
  refine lv_iload hx hb dL_law_209 (lv_at hl 1 rfl) ?_
  refine lv_iconst (v := nI 1) hx hb dL_law_211 (by decide) ?_
  refine lv_iadd hx hb dL_law_212 ?_
  refine g_top (nI_add (6 * k) 1) ?_
  refine va_sld hx hb hX hbl hbA hS (vp_in_nI (show 6 * k + 1 < L by omega) (by omega)) dL_law_213 ?_
  refine lv_aload_n hx hb dL_law_214 rfl (lv_at hl 2 rfl) ?_
  refine lv_iload hx hb dL_law_215 (lv_at hl 1 rfl) ?_
  refine lv_iconst (v := nI 2) hx hb dL_law_217 (by decide) ?_
  refine lv_iadd hx hb dL_law_218 ?_
  refine g_top (nI_add (6 * k) 2) ?_
  refine va_sld hx hb hX hbl hbA hS (vp_in_nI (show 6 * k + 2 < L by omega) (by omega)) dL_law_219 ?_
  refine g_calliN (q0 := 128 + 0) hnw (wf := (TW cy ax ad ad2 ao am sd sd2)) (σ := (r1.2, μ)) (wfc := (MW cy am sd sd2)) (σc := μ) hx hb hml hown hts hK hP hD hS hA hl.1 (LW cy ax ad ad2 ao r1.2) List.perm_append_comm (fun u => (r1.2, u)) (fun _ => List.perm_append_comm) [.int (xs (tn (nI (6 * k + 1)))), .int (xs (tn (nI (6 * k + 2))))] (c_X6_bring l D cy am sd sd2 μ (xs (tn (nI (6 * k + 1)))) (xs (tn (nI (6 * k + 2)))) hN) (cwV 2 hts gL_law_X6_bring rfl rfl rfl (by decide +kernel) ⟨Nat.le_of_ble_eq_true rfl, Nat.le_of_ble_eq_true rfl⟩) (gx_r (LW_len _ _ _ _ _ _) (gx_l (OW_ob cy am (sd 0) (sd2 0) μ.1))) rfl rfl rfl rfl (Nat.le_of_ble_eq_true rfl) dL_law_220 ⟨by show _ + 0 ≤ 633360; omega, by show _ + 0 ≤ 7196024; omega⟩ rfl rfl ?_
  intro r2 er2 H locs hP hD hS
  refine lv_istore (lv' := [(6, .int r2.1), (5, .int r1.1), (4, .int (nI (6 * k))), (0, .ref b), (1, .ref (ax 0)), (2, .ref (am 0)), (3, .ref ao)]) hx hb dL_law_223 hl (by decide) rfl (fun ls hl => ?_)
  refine lv_aload_n hx hb dL_law_225 rfl (lv_at hl 5 rfl) ?_
  refine g_callrN (q0 := 128 + 0) hnw (wf := (TW cy ax ad ad2 ao am sd sd2)) (σ := (r1.2, r2.2)) (wfc := (MW cy am sd sd2)) (σc := r2.2) hx hb hml hown hts hK hP hD hS hA hl.1 (LW cy ax ad ad2 ao r1.2) List.perm_append_comm [] (c_X6_thrown l D cy am sd sd2 r2.2) (cwV 0 hts gL_law_X6_thrown rfl rfl rfl (by decide +kernel) ⟨Nat.le_of_ble_eq_true rfl, Nat.le_of_ble_eq_true rfl⟩) (gx_r (LW_len _ _ _ _ _ _) (gx_l (OW_ob cy am (sd 0) (sd2 0) r2.2.1))) rfl rfl rfl rfl (Nat.le_of_ble_eq_true rfl) dL_law_226 ⟨by show _ + 0 ≤ 633360; omega, by show _ + 0 ≤ 7196024; omega⟩ rfl rfl ?_
  intro r3 er3 H locs hP hD hS
  have e13 : r3 = r1.1 := by rw [er3, er2, er1]; exact (hm.2 fo).1.symm
  have hI2 : LI (100 * k + 100) r1.2.1 r2.2 := by rw [er1, er2]; exact (hm.2 fo).2.2
  refine lv_iload hx hb dL_law_229 (lv_at hl 1 rfl) ?_
  refine lv_icmp_eq (tgt := 236) hx hb dL_law_231 (by decide) (fun c1 => ?_) (fun c1 => absurd e13 c1)
  refine lv_iload hx hb dL_law_236 (lv_at hl 1 rfl) ?_
  refine lv_if_ne (tgt := 253) hx hb dL_law_238 (by decide) (fun c2 => ?_) (fun c2 => ?_)
  · refine lv_goto (tgt := 1134) hx hb dL_law_253 (by decide) ?_
    refine W.widen (k := 164 + 420 * (k + 1)) (n := 2021 + 3100 * (k + 1)) (by omega) (by omega) ?_
    exact K r1.2.1 r1.2.2 r2.2 H locs ls hI2 hP hD hS (lv_sub hl [2, 3, 4, 5, 6] rfl)
  · refine lv_aload_n hx hb dL_law_241 rfl (lv_at hl 6 rfl) ?_
    have hout : r1.2.2 (nI 0).toNatClampNeg = cvI r2.1 := by rw [er1, er2]; rw [er1] at c2; exact (hm.2 fo).2.1 c2
    refine lv_iconst (v := nI 0) hx hb dL_law_242 (by decide) ?_
    refine va_lald hx hb hK hP 127 4 (gx_l LW_get) rfl (vp_in_nI (by decide) (by decide)) dL_law_243 ?_
    refine lv_iload hx hb dL_law_244 (lv_at hl 0 rfl) ?_
    refine lv_i2l hx hb dL_law_246 rfl ?_
    refine W.lcmp hx hb dL_law_247 ?_
    refine lv_if_eq (tgt := 253) hx hb dL_law_248 (by decide) (fun c3 => ?_) (fun c3 => absurd (by rw [hout]; exact lg_self _) c3)
    refine lv_goto (tgt := 1134) hx hb dL_law_253 (by decide) ?_
    refine W.widen (k := 164 + 420 * (k + 1)) (n := 2021 + 3100 * (k + 1)) (by omega) (by omega) ?_
    exact K r1.2.1 r1.2.2 r2.2 H locs ls hI2 hP hD hS (lv_sub hl [2, 3, 4, 5, 6] rfl)
set_option maxHeartbeats 4000000 in
set_option maxRecDepth 100000 in
theorem cs_addCitizen {p : Program} {e : Env} {s : State} {m : MethodId} {below : List Frame} {meth : Method} {c : Code} {Q : State → Prop} (l : Launch) (D : va_G) (cy : Nat → ClassId) {b L : Nat} {xs : Nat → Int32} (C0 : LC p l s m c D cy b L xs) (IV : Nat → Sg × Sg → Prop) (LI : Nat → (Sg × Sg) → MS → Prop) (hLI : LIok IV LI) (hSt : St_addCitizen LI) (ax ad ad2 : Nat → Nat) (ao : Nat) (am sd sd2 : Nat → Nat) (σ : Sg × Sg) (fo : Nat → Int64) (μ : MS) (k : Nat) (hk : 6 * k + 6 ≤ L) (hI : LI (100 * k) σ μ) (H : Heap) (locs : List Loc) (ls : Array Slot) (hP : va_P D vwCl (TW cy ax ad ad2 ao am sd sd2 ((σ, fo), μ)) H) (hD : va_D (fun q : Nat => s.heap.size ≤ q) (TW cy ax ad ad2 ao am sd sd2 ((σ, fo), μ))) (hS : va_S (fun q : Nat => s.heap.size ≤ q) s.heap H locs) (hl : lv_has ls 9 [(4, .int (nI (6 * k))), (0, .ref b), (1, .ref (ax 0)), (2, .ref (am 0)), (3, .ref ao)])
    (K : ∀ (σ : Sg × Sg) (fo : Nat → Int64) (μ : MS) (H : Heap) (locs : List Loc) (ls : Array Slot), LI (100 * k + 100) σ μ → va_P D vwCl (TW cy ax ad ad2 ao am sd sd2 ((σ, fo), μ)) H → va_D (fun q : Nat => s.heap.size ≤ q) (TW cy ax ad ad2 ao am sd sd2 ((σ, fo), μ)) → va_S (fun q : Nat => s.heap.size ≤ q) s.heap H locs → lv_has ls 9 [(4, .int (nI (6 * k))), (0, .ref b), (1, .ref (ax 0)), (2, .ref (am 0)), (3, .ref ao)] → W p l e room_1 s m #[Value.ref b] below meth c H locs (164 + 420 * (k + 1)) (2021 + 3100 * (k + 1)) Q (F0 m 1134 ls [])) : W p l e room_1 s m #[Value.ref b] below meth c H locs (164 + 420 * k) (2021 + 3100 * k) Q (F0 m 256 ls []) := by
  obtain ⟨hx, hb, hml, hown, hts, hX, hbl, hK, hst, htx, hnc, hnw, hl0, hL⟩ := id C0
  have hA : ∀ q : Nat, s.heap.size ≤ q → (fun q : Nat => s.heap.size ≤ q) q := fun _ h => h
  have hbA : ¬ (fun q : Nat => s.heap.size ≤ q) b := Nat.not_le.mpr hbl
  obtain ⟨hQ, hLI2⟩ := hLI
  obtain ⟨hR, hN, ⟨h0, hh0, hiv⟩, -, -⟩ := hLI2 _ _ _ hI
  refine lv_aload_n hx hb dL_law_256 rfl (lv_at hl 2 rfl) ?_
  refine lv_aload_n hx hb dL_law_257 rfl (lv_at hl 1 rfl) ?_
  refine lv_iload hx hb dL_law_258 (lv_at hl 0 rfl) ?_
  refine lv_iconst (v := nI 1) hx hb dL_law_260 (by decide) ?_
  refine lv_iadd hx hb dL_law_261 ?_
  refine g_top (nI_add (6 * k) 1) ?_
  refine va_sld hx hb hX hbl hbA hS (vp_in_nI (show 6 * k + 1 < L by omega) (by omega)) dL_law_262 ?_
  refine lv_aload_n hx hb dL_law_263 rfl (lv_at hl 1 rfl) ?_
  refine lv_iload hx hb dL_law_264 (lv_at hl 0 rfl) ?_
  refine lv_iconst (v := nI 2) hx hb dL_law_266 (by decide) ?_
  refine lv_iadd hx hb dL_law_267 ?_
  refine g_top (nI_add (6 * k) 2) ?_
  refine va_sld hx hb hX hbl hbA hS (vp_in_nI (show 6 * k + 2 < L by omega) (by omega)) dL_law_268 ?_
  refine lv_aload_n hx hb dL_law_269 rfl (lv_at hl 1 rfl) ?_
  refine lv_iload hx hb dL_law_270 (lv_at hl 0 rfl) ?_
  refine lv_iconst (v := nI 3) hx hb dL_law_272 (by decide) ?_
  refine lv_iadd hx hb dL_law_273 ?_
  refine g_top (nI_add (6 * k) 3) ?_
  refine va_sld hx hb hX hbl hbA hS (vp_in_nI (show 6 * k + 3 < L by omega) (by omega)) dL_law_274 ?_
  refine lv_aload_n hx hb dL_law_275 rfl (lv_at hl 1 rfl) ?_
  refine lv_iload hx hb dL_law_276 (lv_at hl 0 rfl) ?_
  refine lv_iconst (v := nI 4) hx hb dL_law_278 (by decide) ?_
  refine lv_iadd hx hb dL_law_279 ?_
  refine g_top (nI_add (6 * k) 4) ?_
  refine va_sld hx hb hX hbl hbA hS (vp_in_nI (show 6 * k + 4 < L by omega) (by omega)) dL_law_280 ?_
  refine lv_aload_n hx hb dL_law_281 rfl (lv_at hl 1 rfl) ?_
  refine lv_iload hx hb dL_law_282 (lv_at hl 0 rfl) ?_
  refine lv_iconst (v := nI 5) hx hb dL_law_284 (by decide) ?_
  refine lv_iadd hx hb dL_law_285 ?_
  refine g_top (nI_add (6 * k) 5) ?_
  refine va_sld hx hb hX hbl hbA hS (vp_in_nI (show 6 * k + 5 < L by omega) (by omega)) dL_law_286 ?_
  refine lv_aload_n hx hb dL_law_287 rfl (lv_at hl 4 rfl) ?_
  have hm := hSt _ _ _ hI (by omega) (xs (tn (nI (6 * k + 1)))) (xs (tn (nI (6 * k + 2)))) (xs (tn (nI (6 * k + 3)))) (xs (tn (nI (6 * k + 4)))) (xs (tn (nI (6 * k + 5))))
  refine g_callL (wf := (TW cy ax ad ad2 ao am sd sd2)) (σ := ((σ, fo), μ)) (wfc := (LW cy ax ad ad2 ao)) (σc := (σ, fo)) hl0 hst htx hnc hx hb hml hown hts hK hP hD hS hA hl.1 (MW cy am sd sd2 μ) (List.Perm.refl _) (fun u => (u, μ)) (fun _ => List.Perm.refl _) [.ref (ax 0), .int (xs (tn (nI (6 * k + 1)))), .int (xs (tn (nI (6 * k + 2)))), .int (xs (tn (nI (6 * k + 3)))), .int (xs (tn (nI (6 * k + 4)))), .int (xs (tn (nI (6 * k + 5)))), .ref ao] (c_L_addCitizen l D cy ax ad ad2 ao σ fo (xs (tn (nI (6 * k + 1)))) (xs (tn (nI (6 * k + 2)))) (xs (tn (nI (6 * k + 3)))) (xs (tn (nI (6 * k + 4)))) (xs (tn (nI (6 * k + 5)))) hR hm.1) (vx_cwSW 7 hts gL_law_L_addCitizen rfl rfl rfl (by decide +kernel) ⟨Nat.le_of_ble_eq_true rfl, Nat.le_of_ble_eq_true rfl⟩) rfl rfl (Nat.le_of_ble_eq_true rfl) dL_law_288 ⟨by show _ + 3 ≤ 633360; omega, by show _ + 18 ≤ 7196024; omega⟩ rfl rfl ?_
  intro r1 er1 H locs hP hD hS
  refine lv_istore (lv' := [(5, .int r1.1), (4, .int (nI (6 * k))), (0, .ref b), (1, .ref (ax 0)), (2, .ref (am 0)), (3, .ref ao)]) hx hb dL_law_291 hl (by decide) rfl (fun ls hl => ?_)
  refine lv_aload_n hx hb dL_law_293 rfl (lv_at hl 4 rfl) ?_
  refine lv_aload_n hx hb dL_law_294 rfl (lv_at hl 2 rfl) ?_
  refine lv_iload hx hb dL_law_295 (lv_at hl 1 rfl) ?_
  refine lv_iconst (v := nI 1) hx hb dL_law_297 (by decide) ?_
  refine lv_iadd hx hb dL_law_298 ?_
  refine g_top (nI_add (6 * k) 1) ?_
  refine va_sld hx hb hX hbl hbA hS (vp_in_nI (show 6 * k + 1 < L by omega) (by omega)) dL_law_299 ?_
  refine lv_aload_n hx hb dL_law_300 rfl (lv_at hl 2 rfl) ?_
  refine lv_iload hx hb dL_law_301 (lv_at hl 1 rfl) ?_
  refine lv_iconst (v := nI 2) hx hb dL_law_303 (by decide) ?_
  refine lv_iadd hx hb dL_law_304 ?_
  refine g_top (nI_add (6 * k) 2) ?_
  refine va_sld hx hb hX hbl hbA hS (vp_in_nI (show 6 * k + 2 < L by omega) (by omega)) dL_law_305 ?_
  refine lv_aload_n hx hb dL_law_306 rfl (lv_at hl 2 rfl) ?_
  refine lv_iload hx hb dL_law_307 (lv_at hl 1 rfl) ?_
  refine lv_iconst (v := nI 3) hx hb dL_law_309 (by decide) ?_
  refine lv_iadd hx hb dL_law_310 ?_
  refine g_top (nI_add (6 * k) 3) ?_
  refine va_sld hx hb hX hbl hbA hS (vp_in_nI (show 6 * k + 3 < L by omega) (by omega)) dL_law_311 ?_
  refine lv_aload_n hx hb dL_law_312 rfl (lv_at hl 2 rfl) ?_
  refine lv_iload hx hb dL_law_313 (lv_at hl 1 rfl) ?_
  refine lv_iconst (v := nI 4) hx hb dL_law_315 (by decide) ?_
  refine lv_iadd hx hb dL_law_316 ?_
  refine g_top (nI_add (6 * k) 4) ?_
  refine va_sld hx hb hX hbl hbA hS (vp_in_nI (show 6 * k + 4 < L by omega) (by omega)) dL_law_317 ?_
  refine lv_aload_n hx hb dL_law_318 rfl (lv_at hl 2 rfl) ?_
  refine lv_iload hx hb dL_law_319 (lv_at hl 1 rfl) ?_
  refine lv_iconst (v := nI 5) hx hb dL_law_321 (by decide) ?_
  refine lv_iadd hx hb dL_law_322 ?_
  refine g_top (nI_add (6 * k) 5) ?_
  refine va_sld hx hb hX hbl hbA hS (vp_in_nI (show 6 * k + 5 < L by omega) (by omega)) dL_law_323 ?_
  refine g_calliN (q0 := 128 + 0) hnw (wf := (TW cy ax ad ad2 ao am sd sd2)) (σ := (r1.2, μ)) (wfc := (MW cy am sd sd2)) (σc := μ) hx hb hml hown hts hK hP hD hS hA hl.1 (LW cy ax ad ad2 ao r1.2) List.perm_append_comm (fun u => (r1.2, u)) (fun _ => List.perm_append_comm) [.int (xs (tn (nI (6 * k + 1)))), .int (xs (tn (nI (6 * k + 2)))), .int (xs (tn (nI (6 * k + 3)))), .int (xs (tn (nI (6 * k + 4)))), .int (xs (tn (nI (6 * k + 5))))] (c_X6_addCitizen l D cy am sd sd2 μ (xs (tn (nI (6 * k + 1)))) (xs (tn (nI (6 * k + 2)))) (xs (tn (nI (6 * k + 3)))) (xs (tn (nI (6 * k + 4)))) (xs (tn (nI (6 * k + 5)))) hN) (cwV 5 hts gL_law_X6_addCitizen rfl rfl rfl (by decide +kernel) ⟨Nat.le_of_ble_eq_true rfl, Nat.le_of_ble_eq_true rfl⟩) (gx_r (LW_len _ _ _ _ _ _) (gx_l (OW_ob cy am (sd 0) (sd2 0) μ.1))) rfl rfl rfl rfl (Nat.le_of_ble_eq_true rfl) dL_law_324 ⟨by show _ + 1 ≤ 633360; omega, by show _ + 5 ≤ 7196024; omega⟩ rfl rfl ?_
  intro r2 er2 H locs hP hD hS
  refine lv_istore (lv' := [(6, .int r2.1), (5, .int r1.1), (4, .int (nI (6 * k))), (0, .ref b), (1, .ref (ax 0)), (2, .ref (am 0)), (3, .ref ao)]) hx hb dL_law_327 hl (by decide) rfl (fun ls hl => ?_)
  refine lv_aload_n hx hb dL_law_329 rfl (lv_at hl 5 rfl) ?_
  refine g_callrN (q0 := 128 + 0) hnw (wf := (TW cy ax ad ad2 ao am sd sd2)) (σ := (r1.2, r2.2)) (wfc := (MW cy am sd sd2)) (σc := r2.2) hx hb hml hown hts hK hP hD hS hA hl.1 (LW cy ax ad ad2 ao r1.2) List.perm_append_comm [] (c_X6_thrown l D cy am sd sd2 r2.2) (cwV 0 hts gL_law_X6_thrown rfl rfl rfl (by decide +kernel) ⟨Nat.le_of_ble_eq_true rfl, Nat.le_of_ble_eq_true rfl⟩) (gx_r (LW_len _ _ _ _ _ _) (gx_l (OW_ob cy am (sd 0) (sd2 0) r2.2.1))) rfl rfl rfl rfl (Nat.le_of_ble_eq_true rfl) dL_law_330 ⟨by show _ + 0 ≤ 633360; omega, by show _ + 0 ≤ 7196024; omega⟩ rfl rfl ?_
  intro r3 er3 H locs hP hD hS
  have e13 : r3 = r1.1 := by rw [er3, er2, er1]; exact (hm.2 fo).1.symm
  have hI2 : LI (100 * k + 100) r1.2.1 r2.2 := by rw [er1, er2]; exact (hm.2 fo).2.2
  refine lv_iload hx hb dL_law_333 (lv_at hl 1 rfl) ?_
  refine lv_icmp_eq (tgt := 340) hx hb dL_law_335 (by decide) (fun c1 => ?_) (fun c1 => absurd e13 c1)
  refine lv_iload hx hb dL_law_340 (lv_at hl 1 rfl) ?_
  refine lv_if_ne (tgt := 357) hx hb dL_law_342 (by decide) (fun c2 => ?_) (fun c2 => ?_)
  · refine lv_goto (tgt := 1134) hx hb dL_law_357 (by decide) ?_
    refine W.widen (k := 164 + 420 * (k + 1)) (n := 2021 + 3100 * (k + 1)) (by omega) (by omega) ?_
    exact K r1.2.1 r1.2.2 r2.2 H locs ls hI2 hP hD hS (lv_sub hl [2, 3, 4, 5, 6] rfl)
  · refine lv_aload_n hx hb dL_law_345 rfl (lv_at hl 6 rfl) ?_
    have hout : r1.2.2 (nI 0).toNatClampNeg = cvI r2.1 := by rw [er1, er2]; rw [er1] at c2; exact (hm.2 fo).2.1 c2
    refine lv_iconst (v := nI 0) hx hb dL_law_346 (by decide) ?_
    refine va_lald hx hb hK hP 127 4 (gx_l LW_get) rfl (vp_in_nI (by decide) (by decide)) dL_law_347 ?_
    refine lv_iload hx hb dL_law_348 (lv_at hl 0 rfl) ?_
    refine lv_i2l hx hb dL_law_350 rfl ?_
    refine W.lcmp hx hb dL_law_351 ?_
    refine lv_if_eq (tgt := 357) hx hb dL_law_352 (by decide) (fun c3 => ?_) (fun c3 => absurd (by rw [hout]; exact lg_self _) c3)
    refine lv_goto (tgt := 1134) hx hb dL_law_357 (by decide) ?_
    refine W.widen (k := 164 + 420 * (k + 1)) (n := 2021 + 3100 * (k + 1)) (by omega) (by omega) ?_
    exact K r1.2.1 r1.2.2 r2.2 H locs ls hI2 hP hD hS (lv_sub hl [2, 3, 4, 5, 6] rfl)
set_option maxHeartbeats 4000000 in
set_option maxRecDepth 100000 in
theorem cs_setRain {p : Program} {e : Env} {s : State} {m : MethodId} {below : List Frame} {meth : Method} {c : Code} {Q : State → Prop} (l : Launch) (D : va_G) (cy : Nat → ClassId) {b L : Nat} {xs : Nat → Int32} (C0 : LC p l s m c D cy b L xs) (IV : Nat → Sg × Sg → Prop) (LI : Nat → (Sg × Sg) → MS → Prop) (hLI : LIok IV LI) (hSt : St_setRain LI) (ax ad ad2 : Nat → Nat) (ao : Nat) (am sd sd2 : Nat → Nat) (σ : Sg × Sg) (fo : Nat → Int64) (μ : MS) (k : Nat) (hk : 6 * k + 6 ≤ L) (hI : LI (100 * k) σ μ) (H : Heap) (locs : List Loc) (ls : Array Slot) (hP : va_P D vwCl (TW cy ax ad ad2 ao am sd sd2 ((σ, fo), μ)) H) (hD : va_D (fun q : Nat => s.heap.size ≤ q) (TW cy ax ad ad2 ao am sd sd2 ((σ, fo), μ))) (hS : va_S (fun q : Nat => s.heap.size ≤ q) s.heap H locs) (hl : lv_has ls 9 [(4, .int (nI (6 * k))), (0, .ref b), (1, .ref (ax 0)), (2, .ref (am 0)), (3, .ref ao)])
    (K : ∀ (σ : Sg × Sg) (fo : Nat → Int64) (μ : MS) (H : Heap) (locs : List Loc) (ls : Array Slot), LI (100 * k + 100) σ μ → va_P D vwCl (TW cy ax ad ad2 ao am sd sd2 ((σ, fo), μ)) H → va_D (fun q : Nat => s.heap.size ≤ q) (TW cy ax ad ad2 ao am sd sd2 ((σ, fo), μ)) → va_S (fun q : Nat => s.heap.size ≤ q) s.heap H locs → lv_has ls 9 [(4, .int (nI (6 * k))), (0, .ref b), (1, .ref (ax 0)), (2, .ref (am 0)), (3, .ref ao)] → W p l e room_1 s m #[Value.ref b] below meth c H locs (164 + 420 * (k + 1)) (2021 + 3100 * (k + 1)) Q (F0 m 1134 ls [])) : W p l e room_1 s m #[Value.ref b] below meth c H locs (164 + 420 * k) (2021 + 3100 * k) Q (F0 m 360 ls []) := by
  obtain ⟨hx, hb, hml, hown, hts, hX, hbl, hK, hst, htx, hnc, hnw, hl0, hL⟩ := id C0
  have hA : ∀ q : Nat, s.heap.size ≤ q → (fun q : Nat => s.heap.size ≤ q) q := fun _ h => h
  have hbA : ¬ (fun q : Nat => s.heap.size ≤ q) b := Nat.not_le.mpr hbl
  obtain ⟨hQ, hLI2⟩ := hLI
  obtain ⟨hR, hN, ⟨h0, hh0, hiv⟩, -, -⟩ := hLI2 _ _ _ hI
  refine lv_aload_n hx hb dL_law_360 rfl (lv_at hl 2 rfl) ?_
  refine lv_aload_n hx hb dL_law_361 rfl (lv_at hl 1 rfl) ?_
  refine lv_iload hx hb dL_law_362 (lv_at hl 0 rfl) ?_
  refine lv_iconst (v := nI 1) hx hb dL_law_364 (by decide) ?_
  refine lv_iadd hx hb dL_law_365 ?_
  refine g_top (nI_add (6 * k) 1) ?_
  refine va_sld hx hb hX hbl hbA hS (vp_in_nI (show 6 * k + 1 < L by omega) (by omega)) dL_law_366 ?_
  refine lv_aload_n hx hb dL_law_367 rfl (lv_at hl 1 rfl) ?_
  refine lv_iload hx hb dL_law_368 (lv_at hl 0 rfl) ?_
  refine lv_iconst (v := nI 2) hx hb dL_law_370 (by decide) ?_
  refine lv_iadd hx hb dL_law_371 ?_
  refine g_top (nI_add (6 * k) 2) ?_
  refine va_sld hx hb hX hbl hbA hS (vp_in_nI (show 6 * k + 2 < L by omega) (by omega)) dL_law_372 ?_
  refine lv_aload_n hx hb dL_law_373 rfl (lv_at hl 4 rfl) ?_
  have hm := hSt _ _ _ hI (by omega) (xs (tn (nI (6 * k + 1)))) (xs (tn (nI (6 * k + 2))))
  refine g_callL (wf := (TW cy ax ad ad2 ao am sd sd2)) (σ := ((σ, fo), μ)) (wfc := (LW cy ax ad ad2 ao)) (σc := (σ, fo)) hl0 hst htx hnc hx hb hml hown hts hK hP hD hS hA hl.1 (MW cy am sd sd2 μ) (List.Perm.refl _) (fun u => (u, μ)) (fun _ => List.Perm.refl _) [.ref (ax 0), .int (xs (tn (nI (6 * k + 1)))), .int (xs (tn (nI (6 * k + 2)))), .ref ao] (c_L_setRain l D cy ax ad ad2 ao σ fo (xs (tn (nI (6 * k + 1)))) (xs (tn (nI (6 * k + 2)))) hR hm.1) (vx_cwSW 4 hts gL_law_L_setRain rfl rfl rfl (by decide +kernel) ⟨Nat.le_of_ble_eq_true rfl, Nat.le_of_ble_eq_true rfl⟩) rfl rfl (Nat.le_of_ble_eq_true rfl) dL_law_374 ⟨by show _ + 2 ≤ 633360; omega, by show _ + 12 ≤ 7196024; omega⟩ rfl rfl ?_
  intro r1 er1 H locs hP hD hS
  refine lv_istore (lv' := [(5, .int r1.1), (4, .int (nI (6 * k))), (0, .ref b), (1, .ref (ax 0)), (2, .ref (am 0)), (3, .ref ao)]) hx hb dL_law_377 hl (by decide) rfl (fun ls hl => ?_)
  refine lv_aload_n hx hb dL_law_379 rfl (lv_at hl 4 rfl) ?_
  refine lv_aload_n hx hb dL_law_380 rfl (lv_at hl 2 rfl) ?_
  refine lv_iload hx hb dL_law_381 (lv_at hl 1 rfl) ?_
  refine lv_iconst (v := nI 1) hx hb dL_law_383 (by decide) ?_
  refine lv_iadd hx hb dL_law_384 ?_
  refine g_top (nI_add (6 * k) 1) ?_
  refine va_sld hx hb hX hbl hbA hS (vp_in_nI (show 6 * k + 1 < L by omega) (by omega)) dL_law_385 ?_
  refine lv_aload_n hx hb dL_law_386 rfl (lv_at hl 2 rfl) ?_
  refine lv_iload hx hb dL_law_387 (lv_at hl 1 rfl) ?_
  refine lv_iconst (v := nI 2) hx hb dL_law_389 (by decide) ?_
  refine lv_iadd hx hb dL_law_390 ?_
  refine g_top (nI_add (6 * k) 2) ?_
  refine va_sld hx hb hX hbl hbA hS (vp_in_nI (show 6 * k + 2 < L by omega) (by omega)) dL_law_391 ?_
  refine g_calliN (q0 := 128 + 0) hnw (wf := (TW cy ax ad ad2 ao am sd sd2)) (σ := (r1.2, μ)) (wfc := (MW cy am sd sd2)) (σc := μ) hx hb hml hown hts hK hP hD hS hA hl.1 (LW cy ax ad ad2 ao r1.2) List.perm_append_comm (fun u => (r1.2, u)) (fun _ => List.perm_append_comm) [.int (xs (tn (nI (6 * k + 1)))), .int (xs (tn (nI (6 * k + 2))))] (c_X6_setRain l D cy am sd sd2 μ (xs (tn (nI (6 * k + 1)))) (xs (tn (nI (6 * k + 2)))) ) (cwV 2 hts gL_law_X6_setRain rfl rfl rfl (by decide +kernel) ⟨Nat.le_of_ble_eq_true rfl, Nat.le_of_ble_eq_true rfl⟩) (gx_r (LW_len _ _ _ _ _ _) (gx_l (OW_ob cy am (sd 0) (sd2 0) μ.1))) rfl rfl rfl rfl (Nat.le_of_ble_eq_true rfl) dL_law_392 ⟨by show _ + 0 ≤ 633360; omega, by show _ + 0 ≤ 7196024; omega⟩ rfl rfl ?_
  intro r2 er2 H locs hP hD hS
  refine lv_istore (lv' := [(6, .int r2.1), (5, .int r1.1), (4, .int (nI (6 * k))), (0, .ref b), (1, .ref (ax 0)), (2, .ref (am 0)), (3, .ref ao)]) hx hb dL_law_395 hl (by decide) rfl (fun ls hl => ?_)
  refine lv_aload_n hx hb dL_law_397 rfl (lv_at hl 5 rfl) ?_
  refine g_callrN (q0 := 128 + 0) hnw (wf := (TW cy ax ad ad2 ao am sd sd2)) (σ := (r1.2, r2.2)) (wfc := (MW cy am sd sd2)) (σc := r2.2) hx hb hml hown hts hK hP hD hS hA hl.1 (LW cy ax ad ad2 ao r1.2) List.perm_append_comm [] (c_X6_thrown l D cy am sd sd2 r2.2) (cwV 0 hts gL_law_X6_thrown rfl rfl rfl (by decide +kernel) ⟨Nat.le_of_ble_eq_true rfl, Nat.le_of_ble_eq_true rfl⟩) (gx_r (LW_len _ _ _ _ _ _) (gx_l (OW_ob cy am (sd 0) (sd2 0) r2.2.1))) rfl rfl rfl rfl (Nat.le_of_ble_eq_true rfl) dL_law_398 ⟨by show _ + 0 ≤ 633360; omega, by show _ + 0 ≤ 7196024; omega⟩ rfl rfl ?_
  intro r3 er3 H locs hP hD hS
  have e13 : r3 = r1.1 := by rw [er3, er2, er1]; exact (hm.2 fo).1.symm
  have hI2 : LI (100 * k + 100) r1.2.1 r2.2 := by rw [er1, er2]; exact (hm.2 fo).2.2
  refine lv_iload hx hb dL_law_401 (lv_at hl 1 rfl) ?_
  refine lv_icmp_eq (tgt := 408) hx hb dL_law_403 (by decide) (fun c1 => ?_) (fun c1 => absurd e13 c1)
  refine lv_iload hx hb dL_law_408 (lv_at hl 1 rfl) ?_
  refine lv_if_ne (tgt := 425) hx hb dL_law_410 (by decide) (fun c2 => ?_) (fun c2 => ?_)
  · refine lv_goto (tgt := 1134) hx hb dL_law_425 (by decide) ?_
    refine W.widen (k := 164 + 420 * (k + 1)) (n := 2021 + 3100 * (k + 1)) (by omega) (by omega) ?_
    exact K r1.2.1 r1.2.2 r2.2 H locs ls hI2 hP hD hS (lv_sub hl [2, 3, 4, 5, 6] rfl)
  · refine lv_aload_n hx hb dL_law_413 rfl (lv_at hl 6 rfl) ?_
    have hout : r1.2.2 (nI 0).toNatClampNeg = cvI r2.1 := by rw [er1, er2]; rw [er1] at c2; exact (hm.2 fo).2.1 c2
    refine lv_iconst (v := nI 0) hx hb dL_law_414 (by decide) ?_
    refine va_lald hx hb hK hP 127 4 (gx_l LW_get) rfl (vp_in_nI (by decide) (by decide)) dL_law_415 ?_
    refine lv_iload hx hb dL_law_416 (lv_at hl 0 rfl) ?_
    refine lv_i2l hx hb dL_law_418 rfl ?_
    refine W.lcmp hx hb dL_law_419 ?_
    refine lv_if_eq (tgt := 425) hx hb dL_law_420 (by decide) (fun c3 => ?_) (fun c3 => absurd (by rw [hout]; exact lg_self _) c3)
    refine lv_goto (tgt := 1134) hx hb dL_law_425 (by decide) ?_
    refine W.widen (k := 164 + 420 * (k + 1)) (n := 2021 + 3100 * (k + 1)) (by omega) (by omega) ?_
    exact K r1.2.1 r1.2.2 r2.2 H locs ls hI2 hP hD hS (lv_sub hl [2, 3, 4, 5, 6] rfl)
set_option maxHeartbeats 4000000 in
set_option maxRecDepth 100000 in
theorem cs_setDemand {p : Program} {e : Env} {s : State} {m : MethodId} {below : List Frame} {meth : Method} {c : Code} {Q : State → Prop} (l : Launch) (D : va_G) (cy : Nat → ClassId) {b L : Nat} {xs : Nat → Int32} (C0 : LC p l s m c D cy b L xs) (IV : Nat → Sg × Sg → Prop) (LI : Nat → (Sg × Sg) → MS → Prop) (hLI : LIok IV LI) (hSt : St_setDemand LI) (ax ad ad2 : Nat → Nat) (ao : Nat) (am sd sd2 : Nat → Nat) (σ : Sg × Sg) (fo : Nat → Int64) (μ : MS) (k : Nat) (hk : 6 * k + 6 ≤ L) (hI : LI (100 * k) σ μ) (H : Heap) (locs : List Loc) (ls : Array Slot) (hP : va_P D vwCl (TW cy ax ad ad2 ao am sd sd2 ((σ, fo), μ)) H) (hD : va_D (fun q : Nat => s.heap.size ≤ q) (TW cy ax ad ad2 ao am sd sd2 ((σ, fo), μ))) (hS : va_S (fun q : Nat => s.heap.size ≤ q) s.heap H locs) (hl : lv_has ls 9 [(4, .int (nI (6 * k))), (0, .ref b), (1, .ref (ax 0)), (2, .ref (am 0)), (3, .ref ao)])
    (K : ∀ (σ : Sg × Sg) (fo : Nat → Int64) (μ : MS) (H : Heap) (locs : List Loc) (ls : Array Slot), LI (100 * k + 100) σ μ → va_P D vwCl (TW cy ax ad ad2 ao am sd sd2 ((σ, fo), μ)) H → va_D (fun q : Nat => s.heap.size ≤ q) (TW cy ax ad ad2 ao am sd sd2 ((σ, fo), μ)) → va_S (fun q : Nat => s.heap.size ≤ q) s.heap H locs → lv_has ls 9 [(4, .int (nI (6 * k))), (0, .ref b), (1, .ref (ax 0)), (2, .ref (am 0)), (3, .ref ao)] → W p l e room_1 s m #[Value.ref b] below meth c H locs (164 + 420 * (k + 1)) (2021 + 3100 * (k + 1)) Q (F0 m 1134 ls [])) : W p l e room_1 s m #[Value.ref b] below meth c H locs (164 + 420 * k) (2021 + 3100 * k) Q (F0 m 428 ls []) := by
  obtain ⟨hx, hb, hml, hown, hts, hX, hbl, hK, hst, htx, hnc, hnw, hl0, hL⟩ := id C0
  have hA : ∀ q : Nat, s.heap.size ≤ q → (fun q : Nat => s.heap.size ≤ q) q := fun _ h => h
  have hbA : ¬ (fun q : Nat => s.heap.size ≤ q) b := Nat.not_le.mpr hbl
  obtain ⟨hQ, hLI2⟩ := hLI
  obtain ⟨hR, hN, ⟨h0, hh0, hiv⟩, -, -⟩ := hLI2 _ _ _ hI
  refine lv_aload_n hx hb dL_law_428 rfl (lv_at hl 2 rfl) ?_
  refine lv_aload_n hx hb dL_law_429 rfl (lv_at hl 1 rfl) ?_
  refine lv_iload hx hb dL_law_430 (lv_at hl 0 rfl) ?_
  refine lv_iconst (v := nI 1) hx hb dL_law_432 (by decide) ?_
  refine lv_iadd hx hb dL_law_433 ?_
  refine g_top (nI_add (6 * k) 1) ?_
  refine va_sld hx hb hX hbl hbA hS (vp_in_nI (show 6 * k + 1 < L by omega) (by omega)) dL_law_434 ?_
  refine lv_aload_n hx hb dL_law_435 rfl (lv_at hl 1 rfl) ?_
  refine lv_iload hx hb dL_law_436 (lv_at hl 0 rfl) ?_
  refine lv_iconst (v := nI 2) hx hb dL_law_438 (by decide) ?_
  refine lv_iadd hx hb dL_law_439 ?_
  refine g_top (nI_add (6 * k) 2) ?_
  refine va_sld hx hb hX hbl hbA hS (vp_in_nI (show 6 * k + 2 < L by omega) (by omega)) dL_law_440 ?_
  refine lv_aload_n hx hb dL_law_441 rfl (lv_at hl 4 rfl) ?_
  have hm := hSt _ _ _ hI (by omega) (xs (tn (nI (6 * k + 1)))) (xs (tn (nI (6 * k + 2))))
  refine g_callL (wf := (TW cy ax ad ad2 ao am sd sd2)) (σ := ((σ, fo), μ)) (wfc := (LW cy ax ad ad2 ao)) (σc := (σ, fo)) hl0 hst htx hnc hx hb hml hown hts hK hP hD hS hA hl.1 (MW cy am sd sd2 μ) (List.Perm.refl _) (fun u => (u, μ)) (fun _ => List.Perm.refl _) [.ref (ax 0), .int (xs (tn (nI (6 * k + 1)))), .int (xs (tn (nI (6 * k + 2)))), .ref ao] (c_L_setDemand l D cy ax ad ad2 ao σ fo (xs (tn (nI (6 * k + 1)))) (xs (tn (nI (6 * k + 2)))) hR hm.1) (vx_cwSW 4 hts gL_law_L_setDemand rfl rfl rfl (by decide +kernel) ⟨Nat.le_of_ble_eq_true rfl, Nat.le_of_ble_eq_true rfl⟩) rfl rfl (Nat.le_of_ble_eq_true rfl) dL_law_442 ⟨by show _ + 2 ≤ 633360; omega, by show _ + 12 ≤ 7196024; omega⟩ rfl rfl ?_
  intro r1 er1 H locs hP hD hS
  refine lv_istore (lv' := [(5, .int r1.1), (4, .int (nI (6 * k))), (0, .ref b), (1, .ref (ax 0)), (2, .ref (am 0)), (3, .ref ao)]) hx hb dL_law_445 hl (by decide) rfl (fun ls hl => ?_)
  refine lv_aload_n hx hb dL_law_447 rfl (lv_at hl 4 rfl) ?_
  refine lv_aload_n hx hb dL_law_448 rfl (lv_at hl 2 rfl) ?_
  refine lv_iload hx hb dL_law_449 (lv_at hl 1 rfl) ?_
  refine lv_iconst (v := nI 1) hx hb dL_law_451 (by decide) ?_
  refine lv_iadd hx hb dL_law_452 ?_
  refine g_top (nI_add (6 * k) 1) ?_
  refine va_sld hx hb hX hbl hbA hS (vp_in_nI (show 6 * k + 1 < L by omega) (by omega)) dL_law_453 ?_
  refine lv_aload_n hx hb dL_law_454 rfl (lv_at hl 2 rfl) ?_
  refine lv_iload hx hb dL_law_455 (lv_at hl 1 rfl) ?_
  refine lv_iconst (v := nI 2) hx hb dL_law_457 (by decide) ?_
  refine lv_iadd hx hb dL_law_458 ?_
  refine g_top (nI_add (6 * k) 2) ?_
  refine va_sld hx hb hX hbl hbA hS (vp_in_nI (show 6 * k + 2 < L by omega) (by omega)) dL_law_459 ?_
  refine g_calliN (q0 := 128 + 0) hnw (wf := (TW cy ax ad ad2 ao am sd sd2)) (σ := (r1.2, μ)) (wfc := (MW cy am sd sd2)) (σc := μ) hx hb hml hown hts hK hP hD hS hA hl.1 (LW cy ax ad ad2 ao r1.2) List.perm_append_comm (fun u => (r1.2, u)) (fun _ => List.perm_append_comm) [.int (xs (tn (nI (6 * k + 1)))), .int (xs (tn (nI (6 * k + 2))))] (c_X6_setDemand l D cy am sd sd2 μ (xs (tn (nI (6 * k + 1)))) (xs (tn (nI (6 * k + 2)))) hN) (cwV 2 hts gL_law_X6_setDemand rfl rfl rfl (by decide +kernel) ⟨Nat.le_of_ble_eq_true rfl, Nat.le_of_ble_eq_true rfl⟩) (gx_r (LW_len _ _ _ _ _ _) (gx_l (OW_ob cy am (sd 0) (sd2 0) μ.1))) rfl rfl rfl rfl (Nat.le_of_ble_eq_true rfl) dL_law_460 ⟨by show _ + 0 ≤ 633360; omega, by show _ + 0 ≤ 7196024; omega⟩ rfl rfl ?_
  intro r2 er2 H locs hP hD hS
  refine lv_istore (lv' := [(6, .int r2.1), (5, .int r1.1), (4, .int (nI (6 * k))), (0, .ref b), (1, .ref (ax 0)), (2, .ref (am 0)), (3, .ref ao)]) hx hb dL_law_463 hl (by decide) rfl (fun ls hl => ?_)
  refine lv_aload_n hx hb dL_law_465 rfl (lv_at hl 5 rfl) ?_
  refine g_callrN (q0 := 128 + 0) hnw (wf := (TW cy ax ad ad2 ao am sd sd2)) (σ := (r1.2, r2.2)) (wfc := (MW cy am sd sd2)) (σc := r2.2) hx hb hml hown hts hK hP hD hS hA hl.1 (LW cy ax ad ad2 ao r1.2) List.perm_append_comm [] (c_X6_thrown l D cy am sd sd2 r2.2) (cwV 0 hts gL_law_X6_thrown rfl rfl rfl (by decide +kernel) ⟨Nat.le_of_ble_eq_true rfl, Nat.le_of_ble_eq_true rfl⟩) (gx_r (LW_len _ _ _ _ _ _) (gx_l (OW_ob cy am (sd 0) (sd2 0) r2.2.1))) rfl rfl rfl rfl (Nat.le_of_ble_eq_true rfl) dL_law_466 ⟨by show _ + 0 ≤ 633360; omega, by show _ + 0 ≤ 7196024; omega⟩ rfl rfl ?_
  intro r3 er3 H locs hP hD hS
  have e13 : r3 = r1.1 := by rw [er3, er2, er1]; exact (hm.2 fo).1.symm
  have hI2 : LI (100 * k + 100) r1.2.1 r2.2 := by rw [er1, er2]; exact (hm.2 fo).2.2
  refine lv_iload hx hb dL_law_469 (lv_at hl 1 rfl) ?_
  refine lv_icmp_eq (tgt := 476) hx hb dL_law_471 (by decide) (fun c1 => ?_) (fun c1 => absurd e13 c1)
  refine lv_iload hx hb dL_law_476 (lv_at hl 1 rfl) ?_
  refine lv_if_ne (tgt := 493) hx hb dL_law_478 (by decide) (fun c2 => ?_) (fun c2 => ?_)
  · refine lv_goto (tgt := 1134) hx hb dL_law_493 (by decide) ?_
    refine W.widen (k := 164 + 420 * (k + 1)) (n := 2021 + 3100 * (k + 1)) (by omega) (by omega) ?_
    exact K r1.2.1 r1.2.2 r2.2 H locs ls hI2 hP hD hS (lv_sub hl [2, 3, 4, 5, 6] rfl)
  · refine lv_aload_n hx hb dL_law_481 rfl (lv_at hl 6 rfl) ?_
    have hout : r1.2.2 (nI 0).toNatClampNeg = cvI r2.1 := by rw [er1, er2]; rw [er1] at c2; exact (hm.2 fo).2.1 c2
    refine lv_iconst (v := nI 0) hx hb dL_law_482 (by decide) ?_
    refine va_lald hx hb hK hP 127 4 (gx_l LW_get) rfl (vp_in_nI (by decide) (by decide)) dL_law_483 ?_
    refine lv_iload hx hb dL_law_484 (lv_at hl 0 rfl) ?_
    refine lv_i2l hx hb dL_law_486 rfl ?_
    refine W.lcmp hx hb dL_law_487 ?_
    refine lv_if_eq (tgt := 493) hx hb dL_law_488 (by decide) (fun c3 => ?_) (fun c3 => absurd (by rw [hout]; exact lg_self _) c3)
    refine lv_goto (tgt := 1134) hx hb dL_law_493 (by decide) ?_
    refine W.widen (k := 164 + 420 * (k + 1)) (n := 2021 + 3100 * (k + 1)) (by omega) (by omega) ?_
    exact K r1.2.1 r1.2.2 r2.2 H locs ls hI2 hP hD hS (lv_sub hl [2, 3, 4, 5, 6] rfl)
set_option maxHeartbeats 4000000 in
set_option maxRecDepth 100000 in
theorem cs_shelter {p : Program} {e : Env} {s : State} {m : MethodId} {below : List Frame} {meth : Method} {c : Code} {Q : State → Prop} (l : Launch) (D : va_G) (cy : Nat → ClassId) {b L : Nat} {xs : Nat → Int32} (C0 : LC p l s m c D cy b L xs) (IV : Nat → Sg × Sg → Prop) (LI : Nat → (Sg × Sg) → MS → Prop) (hLI : LIok IV LI) (hSt : St_shelter LI) (ax ad ad2 : Nat → Nat) (ao : Nat) (am sd sd2 : Nat → Nat) (σ : Sg × Sg) (fo : Nat → Int64) (μ : MS) (k : Nat) (hk : 6 * k + 6 ≤ L) (hI : LI (100 * k) σ μ) (H : Heap) (locs : List Loc) (ls : Array Slot) (hP : va_P D vwCl (TW cy ax ad ad2 ao am sd sd2 ((σ, fo), μ)) H) (hD : va_D (fun q : Nat => s.heap.size ≤ q) (TW cy ax ad ad2 ao am sd sd2 ((σ, fo), μ))) (hS : va_S (fun q : Nat => s.heap.size ≤ q) s.heap H locs) (hl : lv_has ls 9 [(4, .int (nI (6 * k))), (0, .ref b), (1, .ref (ax 0)), (2, .ref (am 0)), (3, .ref ao)])
    (K : ∀ (σ : Sg × Sg) (fo : Nat → Int64) (μ : MS) (H : Heap) (locs : List Loc) (ls : Array Slot), LI (100 * k + 100) σ μ → va_P D vwCl (TW cy ax ad ad2 ao am sd sd2 ((σ, fo), μ)) H → va_D (fun q : Nat => s.heap.size ≤ q) (TW cy ax ad ad2 ao am sd sd2 ((σ, fo), μ)) → va_S (fun q : Nat => s.heap.size ≤ q) s.heap H locs → lv_has ls 9 [(4, .int (nI (6 * k))), (0, .ref b), (1, .ref (ax 0)), (2, .ref (am 0)), (3, .ref ao)] → W p l e room_1 s m #[Value.ref b] below meth c H locs (164 + 420 * (k + 1)) (2021 + 3100 * (k + 1)) Q (F0 m 1134 ls [])) : W p l e room_1 s m #[Value.ref b] below meth c H locs (164 + 420 * k) (2021 + 3100 * k) Q (F0 m 496 ls []) := by
  obtain ⟨hx, hb, hml, hown, hts, hX, hbl, hK, hst, htx, hnc, hnw, hl0, hL⟩ := id C0
  have hA : ∀ q : Nat, s.heap.size ≤ q → (fun q : Nat => s.heap.size ≤ q) q := fun _ h => h
  have hbA : ¬ (fun q : Nat => s.heap.size ≤ q) b := Nat.not_le.mpr hbl
  obtain ⟨hQ, hLI2⟩ := hLI
  obtain ⟨hR, hN, ⟨h0, hh0, hiv⟩, -, -⟩ := hLI2 _ _ _ hI
  refine lv_aload_n hx hb dL_law_496 rfl (lv_at hl 2 rfl) ?_
  refine lv_aload_n hx hb dL_law_497 rfl (lv_at hl 1 rfl) ?_
  refine lv_iload hx hb dL_law_498 (lv_at hl 0 rfl) ?_
  refine lv_iconst (v := nI 1) hx hb dL_law_500 (by decide) ?_
  refine lv_iadd hx hb dL_law_501 ?_
  refine g_top (nI_add (6 * k) 1) ?_
  refine va_sld hx hb hX hbl hbA hS (vp_in_nI (show 6 * k + 1 < L by omega) (by omega)) dL_law_502 ?_
  refine lv_aload_n hx hb dL_law_503 rfl (lv_at hl 1 rfl) ?_
  refine lv_iload hx hb dL_law_504 (lv_at hl 0 rfl) ?_
  refine lv_iconst (v := nI 2) hx hb dL_law_506 (by decide) ?_
  refine lv_iadd hx hb dL_law_507 ?_
  refine g_top (nI_add (6 * k) 2) ?_
  refine va_sld hx hb hX hbl hbA hS (vp_in_nI (show 6 * k + 2 < L by omega) (by omega)) dL_law_508 ?_
  refine lv_aload_n hx hb dL_law_509 rfl (lv_at hl 4 rfl) ?_
  have hm := hSt _ _ _ hI (by omega) (xs (tn (nI (6 * k + 1)))) (xs (tn (nI (6 * k + 2))))
  refine g_callL (wf := (TW cy ax ad ad2 ao am sd sd2)) (σ := ((σ, fo), μ)) (wfc := (LW cy ax ad ad2 ao)) (σc := (σ, fo)) hl0 hst htx hnc hx hb hml hown hts hK hP hD hS hA hl.1 (MW cy am sd sd2 μ) (List.Perm.refl _) (fun u => (u, μ)) (fun _ => List.Perm.refl _) [.ref (ax 0), .int (xs (tn (nI (6 * k + 1)))), .int (xs (tn (nI (6 * k + 2)))), .ref ao] (c_L_shelter l D cy ax ad ad2 ao σ fo (xs (tn (nI (6 * k + 1)))) (xs (tn (nI (6 * k + 2)))) hR hm.1) (vx_cwSW 4 hts gL_law_L_shelter rfl rfl rfl (by decide +kernel) ⟨Nat.le_of_ble_eq_true rfl, Nat.le_of_ble_eq_true rfl⟩) rfl rfl (Nat.le_of_ble_eq_true rfl) dL_law_510 ⟨by show _ + 2 ≤ 633360; omega, by show _ + 12 ≤ 7196024; omega⟩ rfl rfl ?_
  intro r1 er1 H locs hP hD hS
  refine lv_istore (lv' := [(5, .int r1.1), (4, .int (nI (6 * k))), (0, .ref b), (1, .ref (ax 0)), (2, .ref (am 0)), (3, .ref ao)]) hx hb dL_law_513 hl (by decide) rfl (fun ls hl => ?_)
  refine lv_aload_n hx hb dL_law_515 rfl (lv_at hl 4 rfl) ?_
  refine lv_aload_n hx hb dL_law_516 rfl (lv_at hl 2 rfl) ?_
  refine lv_iload hx hb dL_law_517 (lv_at hl 1 rfl) ?_
  refine lv_iconst (v := nI 1) hx hb dL_law_519 (by decide) ?_
  refine lv_iadd hx hb dL_law_520 ?_
  refine g_top (nI_add (6 * k) 1) ?_
  refine va_sld hx hb hX hbl hbA hS (vp_in_nI (show 6 * k + 1 < L by omega) (by omega)) dL_law_521 ?_
  refine lv_aload_n hx hb dL_law_522 rfl (lv_at hl 2 rfl) ?_
  refine lv_iload hx hb dL_law_523 (lv_at hl 1 rfl) ?_
  refine lv_iconst (v := nI 2) hx hb dL_law_525 (by decide) ?_
  refine lv_iadd hx hb dL_law_526 ?_
  refine g_top (nI_add (6 * k) 2) ?_
  refine va_sld hx hb hX hbl hbA hS (vp_in_nI (show 6 * k + 2 < L by omega) (by omega)) dL_law_527 ?_
  refine g_calliN (q0 := 128 + 0) hnw (wf := (TW cy ax ad ad2 ao am sd sd2)) (σ := (r1.2, μ)) (wfc := (MW cy am sd sd2)) (σc := μ) hx hb hml hown hts hK hP hD hS hA hl.1 (LW cy ax ad ad2 ao r1.2) List.perm_append_comm (fun u => (r1.2, u)) (fun _ => List.perm_append_comm) [.int (xs (tn (nI (6 * k + 1)))), .int (xs (tn (nI (6 * k + 2))))] (c_X6_shelter l D cy am sd sd2 μ (xs (tn (nI (6 * k + 1)))) (xs (tn (nI (6 * k + 2)))) hN) (cwV 2 hts gL_law_X6_shelter rfl rfl rfl (by decide +kernel) ⟨Nat.le_of_ble_eq_true rfl, Nat.le_of_ble_eq_true rfl⟩) (gx_r (LW_len _ _ _ _ _ _) (gx_l (OW_ob cy am (sd 0) (sd2 0) μ.1))) rfl rfl rfl rfl (Nat.le_of_ble_eq_true rfl) dL_law_528 ⟨by show _ + 1 ≤ 633360; omega, by show _ + 8 ≤ 7196024; omega⟩ rfl rfl ?_
  intro r2 er2 H locs hP hD hS
  refine lv_istore (lv' := [(6, .int r2.1), (5, .int r1.1), (4, .int (nI (6 * k))), (0, .ref b), (1, .ref (ax 0)), (2, .ref (am 0)), (3, .ref ao)]) hx hb dL_law_531 hl (by decide) rfl (fun ls hl => ?_)
  refine lv_aload_n hx hb dL_law_533 rfl (lv_at hl 5 rfl) ?_
  refine g_callrN (q0 := 128 + 0) hnw (wf := (TW cy ax ad ad2 ao am sd sd2)) (σ := (r1.2, r2.2)) (wfc := (MW cy am sd sd2)) (σc := r2.2) hx hb hml hown hts hK hP hD hS hA hl.1 (LW cy ax ad ad2 ao r1.2) List.perm_append_comm [] (c_X6_thrown l D cy am sd sd2 r2.2) (cwV 0 hts gL_law_X6_thrown rfl rfl rfl (by decide +kernel) ⟨Nat.le_of_ble_eq_true rfl, Nat.le_of_ble_eq_true rfl⟩) (gx_r (LW_len _ _ _ _ _ _) (gx_l (OW_ob cy am (sd 0) (sd2 0) r2.2.1))) rfl rfl rfl rfl (Nat.le_of_ble_eq_true rfl) dL_law_534 ⟨by show _ + 0 ≤ 633360; omega, by show _ + 0 ≤ 7196024; omega⟩ rfl rfl ?_
  intro r3 er3 H locs hP hD hS
  have e13 : r3 = r1.1 := by rw [er3, er2, er1]; exact (hm.2 fo).1.symm
  have hI2 : LI (100 * k + 100) r1.2.1 r2.2 := by rw [er1, er2]; exact (hm.2 fo).2.2
  refine lv_iload hx hb dL_law_537 (lv_at hl 1 rfl) ?_
  refine lv_icmp_eq (tgt := 544) hx hb dL_law_539 (by decide) (fun c1 => ?_) (fun c1 => absurd e13 c1)
  refine lv_iload hx hb dL_law_544 (lv_at hl 1 rfl) ?_
  refine lv_if_ne (tgt := 561) hx hb dL_law_546 (by decide) (fun c2 => ?_) (fun c2 => ?_)
  · refine lv_goto (tgt := 1134) hx hb dL_law_561 (by decide) ?_
    refine W.widen (k := 164 + 420 * (k + 1)) (n := 2021 + 3100 * (k + 1)) (by omega) (by omega) ?_
    exact K r1.2.1 r1.2.2 r2.2 H locs ls hI2 hP hD hS (lv_sub hl [2, 3, 4, 5, 6] rfl)
  · refine lv_aload_n hx hb dL_law_549 rfl (lv_at hl 6 rfl) ?_
    have hout : r1.2.2 (nI 0).toNatClampNeg = cvI r2.1 := by rw [er1, er2]; rw [er1] at c2; exact (hm.2 fo).2.1 c2
    refine lv_iconst (v := nI 0) hx hb dL_law_550 (by decide) ?_
    refine va_lald hx hb hK hP 127 4 (gx_l LW_get) rfl (vp_in_nI (by decide) (by decide)) dL_law_551 ?_
    refine lv_iload hx hb dL_law_552 (lv_at hl 0 rfl) ?_
    refine lv_i2l hx hb dL_law_554 rfl ?_
    refine W.lcmp hx hb dL_law_555 ?_
    refine lv_if_eq (tgt := 561) hx hb dL_law_556 (by decide) (fun c3 => ?_) (fun c3 => absurd (by rw [hout]; exact lg_self _) c3)
    refine lv_goto (tgt := 1134) hx hb dL_law_561 (by decide) ?_
    refine W.widen (k := 164 + 420 * (k + 1)) (n := 2021 + 3100 * (k + 1)) (by omega) (by omega) ?_
    exact K r1.2.1 r1.2.2 r2.2 H locs ls hI2 hP hD hS (lv_sub hl [2, 3, 4, 5, 6] rfl)
set_option maxHeartbeats 4000000 in
set_option maxRecDepth 100000 in
theorem cs_umbrella {p : Program} {e : Env} {s : State} {m : MethodId} {below : List Frame} {meth : Method} {c : Code} {Q : State → Prop} (l : Launch) (D : va_G) (cy : Nat → ClassId) {b L : Nat} {xs : Nat → Int32} (C0 : LC p l s m c D cy b L xs) (IV : Nat → Sg × Sg → Prop) (LI : Nat → (Sg × Sg) → MS → Prop) (hLI : LIok IV LI) (hSt : St_umbrella LI) (ax ad ad2 : Nat → Nat) (ao : Nat) (am sd sd2 : Nat → Nat) (σ : Sg × Sg) (fo : Nat → Int64) (μ : MS) (k : Nat) (hk : 6 * k + 6 ≤ L) (hI : LI (100 * k) σ μ) (H : Heap) (locs : List Loc) (ls : Array Slot) (hP : va_P D vwCl (TW cy ax ad ad2 ao am sd sd2 ((σ, fo), μ)) H) (hD : va_D (fun q : Nat => s.heap.size ≤ q) (TW cy ax ad ad2 ao am sd sd2 ((σ, fo), μ))) (hS : va_S (fun q : Nat => s.heap.size ≤ q) s.heap H locs) (hl : lv_has ls 9 [(4, .int (nI (6 * k))), (0, .ref b), (1, .ref (ax 0)), (2, .ref (am 0)), (3, .ref ao)])
    (K : ∀ (σ : Sg × Sg) (fo : Nat → Int64) (μ : MS) (H : Heap) (locs : List Loc) (ls : Array Slot), LI (100 * k + 100) σ μ → va_P D vwCl (TW cy ax ad ad2 ao am sd sd2 ((σ, fo), μ)) H → va_D (fun q : Nat => s.heap.size ≤ q) (TW cy ax ad ad2 ao am sd sd2 ((σ, fo), μ)) → va_S (fun q : Nat => s.heap.size ≤ q) s.heap H locs → lv_has ls 9 [(4, .int (nI (6 * k))), (0, .ref b), (1, .ref (ax 0)), (2, .ref (am 0)), (3, .ref ao)] → W p l e room_1 s m #[Value.ref b] below meth c H locs (164 + 420 * (k + 1)) (2021 + 3100 * (k + 1)) Q (F0 m 1134 ls [])) : W p l e room_1 s m #[Value.ref b] below meth c H locs (164 + 420 * k) (2021 + 3100 * k) Q (F0 m 564 ls []) := by
  obtain ⟨hx, hb, hml, hown, hts, hX, hbl, hK, hst, htx, hnc, hnw, hl0, hL⟩ := id C0
  have hA : ∀ q : Nat, s.heap.size ≤ q → (fun q : Nat => s.heap.size ≤ q) q := fun _ h => h
  have hbA : ¬ (fun q : Nat => s.heap.size ≤ q) b := Nat.not_le.mpr hbl
  obtain ⟨hQ, hLI2⟩ := hLI
  obtain ⟨hR, hN, ⟨h0, hh0, hiv⟩, -, -⟩ := hLI2 _ _ _ hI
  refine lv_aload_n hx hb dL_law_564 rfl (lv_at hl 2 rfl) ?_
  refine lv_aload_n hx hb dL_law_565 rfl (lv_at hl 1 rfl) ?_
  refine lv_iload hx hb dL_law_566 (lv_at hl 0 rfl) ?_
  refine lv_iconst (v := nI 1) hx hb dL_law_568 (by decide) ?_
  refine lv_iadd hx hb dL_law_569 ?_
  refine g_top (nI_add (6 * k) 1) ?_
  refine va_sld hx hb hX hbl hbA hS (vp_in_nI (show 6 * k + 1 < L by omega) (by omega)) dL_law_570 ?_
  refine lv_aload_n hx hb dL_law_571 rfl (lv_at hl 1 rfl) ?_
  refine lv_iload hx hb dL_law_572 (lv_at hl 0 rfl) ?_
  refine lv_iconst (v := nI 2) hx hb dL_law_574 (by decide) ?_
  refine lv_iadd hx hb dL_law_575 ?_
  refine g_top (nI_add (6 * k) 2) ?_
  refine va_sld hx hb hX hbl hbA hS (vp_in_nI (show 6 * k + 2 < L by omega) (by omega)) dL_law_576 ?_
  refine lv_aload_n hx hb dL_law_577 rfl (lv_at hl 4 rfl) ?_
  have hm := hSt _ _ _ hI (by omega) (xs (tn (nI (6 * k + 1)))) (xs (tn (nI (6 * k + 2))))
  refine g_callL (wf := (TW cy ax ad ad2 ao am sd sd2)) (σ := ((σ, fo), μ)) (wfc := (LW cy ax ad ad2 ao)) (σc := (σ, fo)) hl0 hst htx hnc hx hb hml hown hts hK hP hD hS hA hl.1 (MW cy am sd sd2 μ) (List.Perm.refl _) (fun u => (u, μ)) (fun _ => List.Perm.refl _) [.ref (ax 0), .int (xs (tn (nI (6 * k + 1)))), .int (xs (tn (nI (6 * k + 2)))), .ref ao] (c_L_umbrella l D cy ax ad ad2 ao σ fo (xs (tn (nI (6 * k + 1)))) (xs (tn (nI (6 * k + 2)))) hR hm.1) (vx_cwSW 4 hts gL_law_L_umbrella rfl rfl rfl (by decide +kernel) ⟨Nat.le_of_ble_eq_true rfl, Nat.le_of_ble_eq_true rfl⟩) rfl rfl (Nat.le_of_ble_eq_true rfl) dL_law_578 ⟨by show _ + 2 ≤ 633360; omega, by show _ + 12 ≤ 7196024; omega⟩ rfl rfl ?_
  intro r1 er1 H locs hP hD hS
  refine lv_istore (lv' := [(5, .int r1.1), (4, .int (nI (6 * k))), (0, .ref b), (1, .ref (ax 0)), (2, .ref (am 0)), (3, .ref ao)]) hx hb dL_law_581 hl (by decide) rfl (fun ls hl => ?_)
  refine lv_aload_n hx hb dL_law_583 rfl (lv_at hl 4 rfl) ?_
  refine lv_aload_n hx hb dL_law_584 rfl (lv_at hl 2 rfl) ?_
  refine lv_iload hx hb dL_law_585 (lv_at hl 1 rfl) ?_
  refine lv_iconst (v := nI 1) hx hb dL_law_587 (by decide) ?_
  refine lv_iadd hx hb dL_law_588 ?_
  refine g_top (nI_add (6 * k) 1) ?_
  refine va_sld hx hb hX hbl hbA hS (vp_in_nI (show 6 * k + 1 < L by omega) (by omega)) dL_law_589 ?_
  refine lv_aload_n hx hb dL_law_590 rfl (lv_at hl 2 rfl) ?_
  refine lv_iload hx hb dL_law_591 (lv_at hl 1 rfl) ?_
  refine lv_iconst (v := nI 2) hx hb dL_law_593 (by decide) ?_
  refine lv_iadd hx hb dL_law_594 ?_
  refine g_top (nI_add (6 * k) 2) ?_
  refine va_sld hx hb hX hbl hbA hS (vp_in_nI (show 6 * k + 2 < L by omega) (by omega)) dL_law_595 ?_
  refine g_calliN (q0 := 128 + 0) hnw (wf := (TW cy ax ad ad2 ao am sd sd2)) (σ := (r1.2, μ)) (wfc := (MW cy am sd sd2)) (σc := μ) hx hb hml hown hts hK hP hD hS hA hl.1 (LW cy ax ad ad2 ao r1.2) List.perm_append_comm (fun u => (r1.2, u)) (fun _ => List.perm_append_comm) [.int (xs (tn (nI (6 * k + 1)))), .int (xs (tn (nI (6 * k + 2))))] (c_X6_umbrella l D cy am sd sd2 μ (xs (tn (nI (6 * k + 1)))) (xs (tn (nI (6 * k + 2)))) hN) (cwV 2 hts gL_law_X6_umbrella rfl rfl rfl (by decide +kernel) ⟨Nat.le_of_ble_eq_true rfl, Nat.le_of_ble_eq_true rfl⟩) (gx_r (LW_len _ _ _ _ _ _) (gx_l (OW_ob cy am (sd 0) (sd2 0) μ.1))) rfl rfl rfl rfl (Nat.le_of_ble_eq_true rfl) dL_law_596 ⟨by show _ + 1 ≤ 633360; omega, by show _ + 6 ≤ 7196024; omega⟩ rfl rfl ?_
  intro r2 er2 H locs hP hD hS
  refine lv_istore (lv' := [(6, .int r2.1), (5, .int r1.1), (4, .int (nI (6 * k))), (0, .ref b), (1, .ref (ax 0)), (2, .ref (am 0)), (3, .ref ao)]) hx hb dL_law_599 hl (by decide) rfl (fun ls hl => ?_)
  refine lv_aload_n hx hb dL_law_601 rfl (lv_at hl 5 rfl) ?_
  refine g_callrN (q0 := 128 + 0) hnw (wf := (TW cy ax ad ad2 ao am sd sd2)) (σ := (r1.2, r2.2)) (wfc := (MW cy am sd sd2)) (σc := r2.2) hx hb hml hown hts hK hP hD hS hA hl.1 (LW cy ax ad ad2 ao r1.2) List.perm_append_comm [] (c_X6_thrown l D cy am sd sd2 r2.2) (cwV 0 hts gL_law_X6_thrown rfl rfl rfl (by decide +kernel) ⟨Nat.le_of_ble_eq_true rfl, Nat.le_of_ble_eq_true rfl⟩) (gx_r (LW_len _ _ _ _ _ _) (gx_l (OW_ob cy am (sd 0) (sd2 0) r2.2.1))) rfl rfl rfl rfl (Nat.le_of_ble_eq_true rfl) dL_law_602 ⟨by show _ + 0 ≤ 633360; omega, by show _ + 0 ≤ 7196024; omega⟩ rfl rfl ?_
  intro r3 er3 H locs hP hD hS
  have e13 : r3 = r1.1 := by rw [er3, er2, er1]; exact (hm.2 fo).1.symm
  have hI2 : LI (100 * k + 100) r1.2.1 r2.2 := by rw [er1, er2]; exact (hm.2 fo).2.2
  refine lv_iload hx hb dL_law_605 (lv_at hl 1 rfl) ?_
  refine lv_icmp_eq (tgt := 612) hx hb dL_law_607 (by decide) (fun c1 => ?_) (fun c1 => absurd e13 c1)
  refine lv_iload hx hb dL_law_612 (lv_at hl 1 rfl) ?_
  refine lv_if_ne (tgt := 629) hx hb dL_law_614 (by decide) (fun c2 => ?_) (fun c2 => ?_)
  · refine lv_goto (tgt := 1134) hx hb dL_law_629 (by decide) ?_
    refine W.widen (k := 164 + 420 * (k + 1)) (n := 2021 + 3100 * (k + 1)) (by omega) (by omega) ?_
    exact K r1.2.1 r1.2.2 r2.2 H locs ls hI2 hP hD hS (lv_sub hl [2, 3, 4, 5, 6] rfl)
  · refine lv_aload_n hx hb dL_law_617 rfl (lv_at hl 6 rfl) ?_
    have hout : r1.2.2 (nI 0).toNatClampNeg = cvI r2.1 := by rw [er1, er2]; rw [er1] at c2; exact (hm.2 fo).2.1 c2
    refine lv_iconst (v := nI 0) hx hb dL_law_618 (by decide) ?_
    refine va_lald hx hb hK hP 127 4 (gx_l LW_get) rfl (vp_in_nI (by decide) (by decide)) dL_law_619 ?_
    refine lv_iload hx hb dL_law_620 (lv_at hl 0 rfl) ?_
    refine lv_i2l hx hb dL_law_622 rfl ?_
    refine W.lcmp hx hb dL_law_623 ?_
    refine lv_if_eq (tgt := 629) hx hb dL_law_624 (by decide) (fun c3 => ?_) (fun c3 => absurd (by rw [hout]; exact lg_self _) c3)
    refine lv_goto (tgt := 1134) hx hb dL_law_629 (by decide) ?_
    refine W.widen (k := 164 + 420 * (k + 1)) (n := 2021 + 3100 * (k + 1)) (by omega) (by omega) ?_
    exact K r1.2.1 r1.2.2 r2.2 H locs ls hI2 hP hD hS (lv_sub hl [2, 3, 4, 5, 6] rfl)
set_option maxHeartbeats 4000000 in
set_option maxRecDepth 100000 in
theorem cs_citizen {p : Program} {e : Env} {s : State} {m : MethodId} {below : List Frame} {meth : Method} {c : Code} {Q : State → Prop} (l : Launch) (D : va_G) (cy : Nat → ClassId) {b L : Nat} {xs : Nat → Int32} (C0 : LC p l s m c D cy b L xs) (IV : Nat → Sg × Sg → Prop) (LI : Nat → (Sg × Sg) → MS → Prop) (hLI : LIok IV LI) (hSt : St_citizen LI) (ax ad ad2 : Nat → Nat) (ao : Nat) (am sd sd2 : Nat → Nat) (σ : Sg × Sg) (fo : Nat → Int64) (μ : MS) (k : Nat) (hk : 6 * k + 6 ≤ L) (hI : LI (100 * k) σ μ) (H : Heap) (locs : List Loc) (ls : Array Slot) (hP : va_P D vwCl (TW cy ax ad ad2 ao am sd sd2 ((σ, fo), μ)) H) (hD : va_D (fun q : Nat => s.heap.size ≤ q) (TW cy ax ad ad2 ao am sd sd2 ((σ, fo), μ))) (hS : va_S (fun q : Nat => s.heap.size ≤ q) s.heap H locs) (hl : lv_has ls 9 [(4, .int (nI (6 * k))), (0, .ref b), (1, .ref (ax 0)), (2, .ref (am 0)), (3, .ref ao)])
    (K : ∀ (σ : Sg × Sg) (fo : Nat → Int64) (μ : MS) (H : Heap) (locs : List Loc) (ls : Array Slot), LI (100 * k + 100) σ μ → va_P D vwCl (TW cy ax ad ad2 ao am sd sd2 ((σ, fo), μ)) H → va_D (fun q : Nat => s.heap.size ≤ q) (TW cy ax ad ad2 ao am sd sd2 ((σ, fo), μ)) → va_S (fun q : Nat => s.heap.size ≤ q) s.heap H locs → lv_has ls 9 [(4, .int (nI (6 * k))), (0, .ref b), (1, .ref (ax 0)), (2, .ref (am 0)), (3, .ref ao)] → W p l e room_1 s m #[Value.ref b] below meth c H locs (164 + 420 * (k + 1)) (2021 + 3100 * (k + 1)) Q (F0 m 1134 ls [])) : W p l e room_1 s m #[Value.ref b] below meth c H locs (164 + 420 * k) (2021 + 3100 * k) Q (F0 m 632 ls []) := by
  obtain ⟨hx, hb, hml, hown, hts, hX, hbl, hK, hst, htx, hnc, hnw, hl0, hL⟩ := id C0
  have hA : ∀ q : Nat, s.heap.size ≤ q → (fun q : Nat => s.heap.size ≤ q) q := fun _ h => h
  have hbA : ¬ (fun q : Nat => s.heap.size ≤ q) b := Nat.not_le.mpr hbl
  obtain ⟨hQ, hLI2⟩ := hLI
  obtain ⟨hR, hN, ⟨h0, hh0, hiv⟩, -, -⟩ := hLI2 _ _ _ hI
  refine lv_aload_n hx hb dL_law_632 rfl (lv_at hl 2 rfl) ?_
  refine lv_aload_n hx hb dL_law_633 rfl (lv_at hl 1 rfl) ?_
  refine lv_iload hx hb dL_law_634 (lv_at hl 0 rfl) ?_
  refine lv_iconst (v := nI 1) hx hb dL_law_636 (by decide) ?_
  refine lv_iadd hx hb dL_law_637 ?_
  refine g_top (nI_add (6 * k) 1) ?_
  refine va_sld hx hb hX hbl hbA hS (vp_in_nI (show 6 * k + 1 < L by omega) (by omega)) dL_law_638 ?_
  refine lv_aload_n hx hb dL_law_639 rfl (lv_at hl 1 rfl) ?_
  refine lv_iload hx hb dL_law_640 (lv_at hl 0 rfl) ?_
  refine lv_iconst (v := nI 2) hx hb dL_law_642 (by decide) ?_
  refine lv_iadd hx hb dL_law_643 ?_
  refine g_top (nI_add (6 * k) 2) ?_
  refine va_sld hx hb hX hbl hbA hS (vp_in_nI (show 6 * k + 2 < L by omega) (by omega)) dL_law_644 ?_
  refine lv_aload_n hx hb dL_law_645 rfl (lv_at hl 4 rfl) ?_
  have hm := hSt _ _ _ hI (by omega) (xs (tn (nI (6 * k + 1)))) (xs (tn (nI (6 * k + 2))))
  refine g_callL (wf := (TW cy ax ad ad2 ao am sd sd2)) (σ := ((σ, fo), μ)) (wfc := (LW cy ax ad ad2 ao)) (σc := (σ, fo)) hl0 hst htx hnc hx hb hml hown hts hK hP hD hS hA hl.1 (MW cy am sd sd2 μ) (List.Perm.refl _) (fun u => (u, μ)) (fun _ => List.Perm.refl _) [.ref (ax 0), .int (xs (tn (nI (6 * k + 1)))), .int (xs (tn (nI (6 * k + 2)))), .ref ao] (c_L_citizen l D cy ax ad ad2 ao σ fo (xs (tn (nI (6 * k + 1)))) (xs (tn (nI (6 * k + 2)))) hR hm.1) (vx_cwSW 4 hts gL_law_L_citizen rfl rfl rfl (by decide +kernel) ⟨Nat.le_of_ble_eq_true rfl, Nat.le_of_ble_eq_true rfl⟩) rfl rfl (Nat.le_of_ble_eq_true rfl) dL_law_646 ⟨by show _ + 2 ≤ 633360; omega, by show _ + 12 ≤ 7196024; omega⟩ rfl rfl ?_
  intro r1 er1 H locs hP hD hS
  refine lv_istore (lv' := [(5, .int r1.1), (4, .int (nI (6 * k))), (0, .ref b), (1, .ref (ax 0)), (2, .ref (am 0)), (3, .ref ao)]) hx hb dL_law_649 hl (by decide) rfl (fun ls hl => ?_)
  refine lv_aload_n hx hb dL_law_651 rfl (lv_at hl 4 rfl) ?_
  refine lv_aload_n hx hb dL_law_652 rfl (lv_at hl 2 rfl) ?_
  refine lv_iload hx hb dL_law_653 (lv_at hl 1 rfl) ?_
  refine lv_iconst (v := nI 1) hx hb dL_law_655 (by decide) ?_
  refine lv_iadd hx hb dL_law_656 ?_
  refine g_top (nI_add (6 * k) 1) ?_
  refine va_sld hx hb hX hbl hbA hS (vp_in_nI (show 6 * k + 1 < L by omega) (by omega)) dL_law_657 ?_
  refine lv_aload_n hx hb dL_law_658 rfl (lv_at hl 2 rfl) ?_
  refine lv_iload hx hb dL_law_659 (lv_at hl 1 rfl) ?_
  refine lv_iconst (v := nI 2) hx hb dL_law_661 (by decide) ?_
  refine lv_iadd hx hb dL_law_662 ?_
  refine g_top (nI_add (6 * k) 2) ?_
  refine va_sld hx hb hX hbl hbA hS (vp_in_nI (show 6 * k + 2 < L by omega) (by omega)) dL_law_663 ?_
  refine g_calliN (q0 := 128 + 0) hnw (wf := (TW cy ax ad ad2 ao am sd sd2)) (σ := (r1.2, μ)) (wfc := (MW cy am sd sd2)) (σc := μ) hx hb hml hown hts hK hP hD hS hA hl.1 (LW cy ax ad ad2 ao r1.2) List.perm_append_comm (fun u => (r1.2, u)) (fun _ => List.perm_append_comm) [.int (xs (tn (nI (6 * k + 1)))), .int (xs (tn (nI (6 * k + 2))))] (c_X6_citizen l D cy am sd sd2 μ (xs (tn (nI (6 * k + 1)))) (xs (tn (nI (6 * k + 2)))) hN) (cwV 2 hts gL_law_X6_citizen rfl rfl rfl (by decide +kernel) ⟨Nat.le_of_ble_eq_true rfl, Nat.le_of_ble_eq_true rfl⟩) (gx_r (LW_len _ _ _ _ _ _) (gx_l (OW_ob cy am (sd 0) (sd2 0) μ.1))) rfl rfl rfl rfl (Nat.le_of_ble_eq_true rfl) dL_law_664 ⟨by show _ + 1 ≤ 633360; omega, by show _ + 10 ≤ 7196024; omega⟩ rfl rfl ?_
  intro r2 er2 H locs hP hD hS
  refine lv_istore (lv' := [(6, .int r2.1), (5, .int r1.1), (4, .int (nI (6 * k))), (0, .ref b), (1, .ref (ax 0)), (2, .ref (am 0)), (3, .ref ao)]) hx hb dL_law_667 hl (by decide) rfl (fun ls hl => ?_)
  refine lv_aload_n hx hb dL_law_669 rfl (lv_at hl 5 rfl) ?_
  refine g_callrN (q0 := 128 + 0) hnw (wf := (TW cy ax ad ad2 ao am sd sd2)) (σ := (r1.2, r2.2)) (wfc := (MW cy am sd sd2)) (σc := r2.2) hx hb hml hown hts hK hP hD hS hA hl.1 (LW cy ax ad ad2 ao r1.2) List.perm_append_comm [] (c_X6_thrown l D cy am sd sd2 r2.2) (cwV 0 hts gL_law_X6_thrown rfl rfl rfl (by decide +kernel) ⟨Nat.le_of_ble_eq_true rfl, Nat.le_of_ble_eq_true rfl⟩) (gx_r (LW_len _ _ _ _ _ _) (gx_l (OW_ob cy am (sd 0) (sd2 0) r2.2.1))) rfl rfl rfl rfl (Nat.le_of_ble_eq_true rfl) dL_law_670 ⟨by show _ + 0 ≤ 633360; omega, by show _ + 0 ≤ 7196024; omega⟩ rfl rfl ?_
  intro r3 er3 H locs hP hD hS
  have e13 : r3 = r1.1 := by rw [er3, er2, er1]; exact (hm.2 fo).1.symm
  have hI2 : LI (100 * k + 100) r1.2.1 r2.2 := by rw [er1, er2]; exact (hm.2 fo).2.2
  refine lv_iload hx hb dL_law_673 (lv_at hl 1 rfl) ?_
  refine lv_icmp_eq (tgt := 680) hx hb dL_law_675 (by decide) (fun c1 => ?_) (fun c1 => absurd e13 c1)
  refine lv_iload hx hb dL_law_680 (lv_at hl 1 rfl) ?_
  refine lv_if_ne (tgt := 697) hx hb dL_law_682 (by decide) (fun c2 => ?_) (fun c2 => ?_)
  · refine lv_goto (tgt := 1134) hx hb dL_law_697 (by decide) ?_
    refine W.widen (k := 164 + 420 * (k + 1)) (n := 2021 + 3100 * (k + 1)) (by omega) (by omega) ?_
    exact K r1.2.1 r1.2.2 r2.2 H locs ls hI2 hP hD hS (lv_sub hl [2, 3, 4, 5, 6] rfl)
  · refine lv_aload_n hx hb dL_law_685 rfl (lv_at hl 6 rfl) ?_
    have hout : r1.2.2 (nI 0).toNatClampNeg = cvI r2.1 := by rw [er1, er2]; rw [er1] at c2; exact (hm.2 fo).2.1 c2
    refine lv_iconst (v := nI 0) hx hb dL_law_686 (by decide) ?_
    refine va_lald hx hb hK hP 127 4 (gx_l LW_get) rfl (vp_in_nI (by decide) (by decide)) dL_law_687 ?_
    refine lv_iload hx hb dL_law_688 (lv_at hl 0 rfl) ?_
    refine lv_i2l hx hb dL_law_690 rfl ?_
    refine W.lcmp hx hb dL_law_691 ?_
    refine lv_if_eq (tgt := 697) hx hb dL_law_692 (by decide) (fun c3 => ?_) (fun c3 => absurd (by rw [hout]; exact lg_self _) c3)
    refine lv_goto (tgt := 1134) hx hb dL_law_697 (by decide) ?_
    refine W.widen (k := 164 + 420 * (k + 1)) (n := 2021 + 3100 * (k + 1)) (by omega) (by omega) ?_
    exact K r1.2.1 r1.2.2 r2.2 H locs ls hI2 hP hD hS (lv_sub hl [2, 3, 4, 5, 6] rfl)
set_option maxHeartbeats 4000000 in
set_option maxRecDepth 100000 in
theorem cs_count {p : Program} {e : Env} {s : State} {m : MethodId} {below : List Frame} {meth : Method} {c : Code} {Q : State → Prop} (l : Launch) (D : va_G) (cy : Nat → ClassId) {b L : Nat} {xs : Nat → Int32} (C0 : LC p l s m c D cy b L xs) (IV : Nat → Sg × Sg → Prop) (LI : Nat → (Sg × Sg) → MS → Prop) (hLI : LIok IV LI) (hSt : St_count LI) (ax ad ad2 : Nat → Nat) (ao : Nat) (am sd sd2 : Nat → Nat) (σ : Sg × Sg) (fo : Nat → Int64) (μ : MS) (k : Nat) (hk : 6 * k + 6 ≤ L) (hI : LI (100 * k) σ μ) (H : Heap) (locs : List Loc) (ls : Array Slot) (hP : va_P D vwCl (TW cy ax ad ad2 ao am sd sd2 ((σ, fo), μ)) H) (hD : va_D (fun q : Nat => s.heap.size ≤ q) (TW cy ax ad ad2 ao am sd sd2 ((σ, fo), μ))) (hS : va_S (fun q : Nat => s.heap.size ≤ q) s.heap H locs) (hl : lv_has ls 9 [(4, .int (nI (6 * k))), (0, .ref b), (1, .ref (ax 0)), (2, .ref (am 0)), (3, .ref ao)])
    (K : ∀ (σ : Sg × Sg) (fo : Nat → Int64) (μ : MS) (H : Heap) (locs : List Loc) (ls : Array Slot), LI (100 * k + 100) σ μ → va_P D vwCl (TW cy ax ad ad2 ao am sd sd2 ((σ, fo), μ)) H → va_D (fun q : Nat => s.heap.size ≤ q) (TW cy ax ad ad2 ao am sd sd2 ((σ, fo), μ)) → va_S (fun q : Nat => s.heap.size ≤ q) s.heap H locs → lv_has ls 9 [(4, .int (nI (6 * k))), (0, .ref b), (1, .ref (ax 0)), (2, .ref (am 0)), (3, .ref ao)] → W p l e room_1 s m #[Value.ref b] below meth c H locs (164 + 420 * (k + 1)) (2021 + 3100 * (k + 1)) Q (F0 m 1134 ls [])) : W p l e room_1 s m #[Value.ref b] below meth c H locs (164 + 420 * k) (2021 + 3100 * k) Q (F0 m 700 ls []) := by
  obtain ⟨hx, hb, hml, hown, hts, hX, hbl, hK, hst, htx, hnc, hnw, hl0, hL⟩ := id C0
  have hA : ∀ q : Nat, s.heap.size ≤ q → (fun q : Nat => s.heap.size ≤ q) q := fun _ h => h
  have hbA : ¬ (fun q : Nat => s.heap.size ≤ q) b := Nat.not_le.mpr hbl
  obtain ⟨hQ, hLI2⟩ := hLI
  obtain ⟨hR, hN, ⟨h0, hh0, hiv⟩, -, -⟩ := hLI2 _ _ _ hI
  refine lv_aload_n hx hb dL_law_700 rfl (lv_at hl 2 rfl) ?_
  refine lv_aload_n hx hb dL_law_701 rfl (lv_at hl 1 rfl) ?_
  refine lv_iload hx hb dL_law_702 (lv_at hl 0 rfl) ?_
  refine lv_iconst (v := nI 1) hx hb dL_law_704 (by decide) ?_
  refine lv_iadd hx hb dL_law_705 ?_
  refine g_top (nI_add (6 * k) 1) ?_
  refine va_sld hx hb hX hbl hbA hS (vp_in_nI (show 6 * k + 1 < L by omega) (by omega)) dL_law_706 ?_
  refine lv_aload_n hx hb dL_law_707 rfl (lv_at hl 4 rfl) ?_
  have hm := hSt _ _ _ hI (by omega) (xs (tn (nI (6 * k + 1))))
  refine g_callL (wf := (TW cy ax ad ad2 ao am sd sd2)) (σ := ((σ, fo), μ)) (wfc := (LW cy ax ad ad2 ao)) (σc := (σ, fo)) hl0 hst htx hnc hx hb hml hown hts hK hP hD hS hA hl.1 (MW cy am sd sd2 μ) (List.Perm.refl _) (fun u => (u, μ)) (fun _ => List.Perm.refl _) [.ref (ax 0), .int (xs (tn (nI (6 * k + 1)))), .ref ao] (c_L_count l D cy ax ad ad2 ao σ fo (xs (tn (nI (6 * k + 1)))) hR hm.1) (vx_cwSW 3 hts gL_law_L_count rfl rfl rfl (by decide +kernel) ⟨Nat.le_of_ble_eq_true rfl, Nat.le_of_ble_eq_true rfl⟩) rfl rfl (Nat.le_of_ble_eq_true rfl) dL_law_708 ⟨by show _ + 1 ≤ 633360; omega, by show _ + 6 ≤ 7196024; omega⟩ rfl rfl ?_
  intro r1 er1 H locs hP hD hS
  refine lv_istore (lv' := [(5, .int r1.1), (4, .int (nI (6 * k))), (0, .ref b), (1, .ref (ax 0)), (2, .ref (am 0)), (3, .ref ao)]) hx hb dL_law_711 hl (by decide) rfl (fun ls hl => ?_)
  refine lv_aload_n hx hb dL_law_713 rfl (lv_at hl 4 rfl) ?_
  refine lv_aload_n hx hb dL_law_714 rfl (lv_at hl 2 rfl) ?_
  refine lv_iload hx hb dL_law_715 (lv_at hl 1 rfl) ?_
  refine lv_iconst (v := nI 1) hx hb dL_law_717 (by decide) ?_
  refine lv_iadd hx hb dL_law_718 ?_
  refine g_top (nI_add (6 * k) 1) ?_
  refine va_sld hx hb hX hbl hbA hS (vp_in_nI (show 6 * k + 1 < L by omega) (by omega)) dL_law_719 ?_
  refine g_calliN (q0 := 128 + 0) hnw (wf := (TW cy ax ad ad2 ao am sd sd2)) (σ := (r1.2, μ)) (wfc := (MW cy am sd sd2)) (σc := μ) hx hb hml hown hts hK hP hD hS hA hl.1 (LW cy ax ad ad2 ao r1.2) List.perm_append_comm (fun u => (r1.2, u)) (fun _ => List.perm_append_comm) [.int (xs (tn (nI (6 * k + 1))))] (c_X6_count l D cy am sd sd2 μ (xs (tn (nI (6 * k + 1)))) hN) (cwV 1 hts gL_law_X6_count rfl rfl rfl (by decide +kernel) ⟨Nat.le_of_ble_eq_true rfl, Nat.le_of_ble_eq_true rfl⟩) (gx_r (LW_len _ _ _ _ _ _) (gx_l (OW_ob cy am (sd 0) (sd2 0) μ.1))) rfl rfl rfl rfl (Nat.le_of_ble_eq_true rfl) dL_law_720 ⟨by show _ + 1 ≤ 633360; omega, by show _ + 11 ≤ 7196024; omega⟩ rfl rfl ?_
  intro r2 er2 H locs hP hD hS
  refine lv_istore (lv' := [(6, .int r2.1), (5, .int r1.1), (4, .int (nI (6 * k))), (0, .ref b), (1, .ref (ax 0)), (2, .ref (am 0)), (3, .ref ao)]) hx hb dL_law_723 hl (by decide) rfl (fun ls hl => ?_)
  refine lv_aload_n hx hb dL_law_725 rfl (lv_at hl 5 rfl) ?_
  refine g_callrN (q0 := 128 + 0) hnw (wf := (TW cy ax ad ad2 ao am sd sd2)) (σ := (r1.2, r2.2)) (wfc := (MW cy am sd sd2)) (σc := r2.2) hx hb hml hown hts hK hP hD hS hA hl.1 (LW cy ax ad ad2 ao r1.2) List.perm_append_comm [] (c_X6_thrown l D cy am sd sd2 r2.2) (cwV 0 hts gL_law_X6_thrown rfl rfl rfl (by decide +kernel) ⟨Nat.le_of_ble_eq_true rfl, Nat.le_of_ble_eq_true rfl⟩) (gx_r (LW_len _ _ _ _ _ _) (gx_l (OW_ob cy am (sd 0) (sd2 0) r2.2.1))) rfl rfl rfl rfl (Nat.le_of_ble_eq_true rfl) dL_law_726 ⟨by show _ + 0 ≤ 633360; omega, by show _ + 0 ≤ 7196024; omega⟩ rfl rfl ?_
  intro r3 er3 H locs hP hD hS
  have e13 : r3 = r1.1 := by rw [er3, er2, er1]; exact (hm.2 fo).1.symm
  have hI2 : LI (100 * k + 100) r1.2.1 r2.2 := by rw [er1, er2]; exact (hm.2 fo).2.2
  refine lv_iload hx hb dL_law_729 (lv_at hl 1 rfl) ?_
  refine lv_icmp_eq (tgt := 736) hx hb dL_law_731 (by decide) (fun c1 => ?_) (fun c1 => absurd e13 c1)
  refine lv_iload hx hb dL_law_736 (lv_at hl 1 rfl) ?_
  refine lv_if_ne (tgt := 753) hx hb dL_law_738 (by decide) (fun c2 => ?_) (fun c2 => ?_)
  · refine lv_goto (tgt := 1134) hx hb dL_law_753 (by decide) ?_
    refine W.widen (k := 164 + 420 * (k + 1)) (n := 2021 + 3100 * (k + 1)) (by omega) (by omega) ?_
    exact K r1.2.1 r1.2.2 r2.2 H locs ls hI2 hP hD hS (lv_sub hl [2, 3, 4, 5, 6] rfl)
  · refine lv_aload_n hx hb dL_law_741 rfl (lv_at hl 6 rfl) ?_
    have hout : r1.2.2 (nI 0).toNatClampNeg = cvI r2.1 := by rw [er1, er2]; rw [er1] at c2; exact (hm.2 fo).2.1 c2
    refine lv_iconst (v := nI 0) hx hb dL_law_742 (by decide) ?_
    refine va_lald hx hb hK hP 127 4 (gx_l LW_get) rfl (vp_in_nI (by decide) (by decide)) dL_law_743 ?_
    refine lv_iload hx hb dL_law_744 (lv_at hl 0 rfl) ?_
    refine lv_i2l hx hb dL_law_746 rfl ?_
    refine W.lcmp hx hb dL_law_747 ?_
    refine lv_if_eq (tgt := 753) hx hb dL_law_748 (by decide) (fun c3 => ?_) (fun c3 => absurd (by rw [hout]; exact lg_self _) c3)
    refine lv_goto (tgt := 1134) hx hb dL_law_753 (by decide) ?_
    refine W.widen (k := 164 + 420 * (k + 1)) (n := 2021 + 3100 * (k + 1)) (by omega) (by omega) ?_
    exact K r1.2.1 r1.2.2 r2.2 H locs ls hI2 hP hD hS (lv_sub hl [2, 3, 4, 5, 6] rfl)
set_option maxHeartbeats 4000000 in
set_option maxRecDepth 100000 in
theorem cs_pass {p : Program} {e : Env} {s : State} {m : MethodId} {below : List Frame} {meth : Method} {c : Code} {Q : State → Prop} (l : Launch) (D : va_G) (cy : Nat → ClassId) {b L : Nat} {xs : Nat → Int32} (C0 : LC p l s m c D cy b L xs) (IV : Nat → Sg × Sg → Prop) (LI : Nat → (Sg × Sg) → MS → Prop) (hLI : LIok IV LI) (hSt : St_pass LI) (ax ad ad2 : Nat → Nat) (ao : Nat) (am sd sd2 : Nat → Nat) (σ : Sg × Sg) (fo : Nat → Int64) (μ : MS) (k : Nat) (hk : 6 * k + 6 ≤ L) (hI : LI (100 * k) σ μ) (H : Heap) (locs : List Loc) (ls : Array Slot) (hP : va_P D vwCl (TW cy ax ad ad2 ao am sd sd2 ((σ, fo), μ)) H) (hD : va_D (fun q : Nat => s.heap.size ≤ q) (TW cy ax ad ad2 ao am sd sd2 ((σ, fo), μ))) (hS : va_S (fun q : Nat => s.heap.size ≤ q) s.heap H locs) (hl : lv_has ls 9 [(4, .int (nI (6 * k))), (0, .ref b), (1, .ref (ax 0)), (2, .ref (am 0)), (3, .ref ao)])
    (K : ∀ (σ : Sg × Sg) (fo : Nat → Int64) (μ : MS) (H : Heap) (locs : List Loc) (ls : Array Slot), LI (100 * k + 100) σ μ → va_P D vwCl (TW cy ax ad ad2 ao am sd sd2 ((σ, fo), μ)) H → va_D (fun q : Nat => s.heap.size ≤ q) (TW cy ax ad ad2 ao am sd sd2 ((σ, fo), μ)) → va_S (fun q : Nat => s.heap.size ≤ q) s.heap H locs → lv_has ls 9 [(4, .int (nI (6 * k))), (0, .ref b), (1, .ref (ax 0)), (2, .ref (am 0)), (3, .ref ao)] → W p l e room_1 s m #[Value.ref b] below meth c H locs (164 + 420 * (k + 1)) (2021 + 3100 * (k + 1)) Q (F0 m 1134 ls [])) : W p l e room_1 s m #[Value.ref b] below meth c H locs (164 + 420 * k) (2021 + 3100 * k) Q (F0 m 756 ls []) := by
  obtain ⟨hx, hb, hml, hown, hts, hX, hbl, hK, hst, htx, hnc, hnw, hl0, hL⟩ := id C0
  have hA : ∀ q : Nat, s.heap.size ≤ q → (fun q : Nat => s.heap.size ≤ q) q := fun _ h => h
  have hbA : ¬ (fun q : Nat => s.heap.size ≤ q) b := Nat.not_le.mpr hbl
  obtain ⟨hQ, hLI2⟩ := hLI
  obtain ⟨hR, hN, ⟨h0, hh0, hiv⟩, -, -⟩ := hLI2 _ _ _ hI
  refine lv_aload_n hx hb dL_law_756 rfl (lv_at hl 2 rfl) ?_
  refine lv_aload_n hx hb dL_law_757 rfl (lv_at hl 1 rfl) ?_
  refine lv_iload hx hb dL_law_758 (lv_at hl 0 rfl) ?_
  refine lv_iconst (v := nI 1) hx hb dL_law_760 (by decide) ?_
  refine lv_iadd hx hb dL_law_761 ?_
  refine g_top (nI_add (6 * k) 1) ?_
  refine va_sld hx hb hX hbl hbA hS (vp_in_nI (show 6 * k + 1 < L by omega) (by omega)) dL_law_762 ?_
  refine lv_aload_n hx hb dL_law_763 rfl (lv_at hl 4 rfl) ?_
  have hm := hSt _ _ _ hI (by omega) (xs (tn (nI (6 * k + 1))))
  refine g_callL (wf := (TW cy ax ad ad2 ao am sd sd2)) (σ := ((σ, fo), μ)) (wfc := (LW cy ax ad ad2 ao)) (σc := (σ, fo)) hl0 hst htx hnc hx hb hml hown hts hK hP hD hS hA hl.1 (MW cy am sd sd2 μ) (List.Perm.refl _) (fun u => (u, μ)) (fun _ => List.Perm.refl _) [.ref (ax 0), .int (xs (tn (nI (6 * k + 1)))), .ref ao] (c_L_pass l D cy ax ad ad2 ao σ fo (xs (tn (nI (6 * k + 1)))) hR hm.1) (vx_cwSW 3 hts gL_law_L_pass rfl rfl rfl (by decide +kernel) ⟨Nat.le_of_ble_eq_true rfl, Nat.le_of_ble_eq_true rfl⟩) rfl rfl (Nat.le_of_ble_eq_true rfl) dL_law_764 ⟨by show _ + 1 ≤ 633360; omega, by show _ + 6 ≤ 7196024; omega⟩ rfl rfl ?_
  intro r1 er1 H locs hP hD hS
  refine lv_istore (lv' := [(5, .int r1.1), (4, .int (nI (6 * k))), (0, .ref b), (1, .ref (ax 0)), (2, .ref (am 0)), (3, .ref ao)]) hx hb dL_law_767 hl (by decide) rfl (fun ls hl => ?_)
  refine lv_aload_n hx hb dL_law_769 rfl (lv_at hl 4 rfl) ?_
  refine lv_aload_n hx hb dL_law_770 rfl (lv_at hl 2 rfl) ?_
  refine lv_iload hx hb dL_law_771 (lv_at hl 1 rfl) ?_
  refine lv_iconst (v := nI 1) hx hb dL_law_773 (by decide) ?_
  refine lv_iadd hx hb dL_law_774 ?_
  refine g_top (nI_add (6 * k) 1) ?_
  refine va_sld hx hb hX hbl hbA hS (vp_in_nI (show 6 * k + 1 < L by omega) (by omega)) dL_law_775 ?_
  refine g_calliN (q0 := 128 + 0) hnw (wf := (TW cy ax ad ad2 ao am sd sd2)) (σ := (r1.2, μ)) (wfc := (MW cy am sd sd2)) (σc := μ) hx hb hml hown hts hK hP hD hS hA hl.1 (LW cy ax ad ad2 ao r1.2) List.perm_append_comm (fun u => (r1.2, u)) (fun _ => List.perm_append_comm) [.int (xs (tn (nI (6 * k + 1))))] (c_X6_pass_ l D cy am sd sd2 μ (xs (tn (nI (6 * k + 1)))) IV hQ h0 (by omega) hiv) (cwV 1 hts gL_law_X6_pass_ rfl rfl rfl (by decide +kernel) ⟨Nat.le_of_ble_eq_true rfl, Nat.le_of_ble_eq_true rfl⟩) (gx_r (LW_len _ _ _ _ _ _) (gx_l (OW_ob cy am (sd 0) (sd2 0) μ.1))) rfl rfl rfl rfl (Nat.le_of_ble_eq_true rfl) dL_law_776 ⟨by show _ + 0 ≤ 633360; omega, by show _ + 0 ≤ 7196024; omega⟩ rfl rfl ?_
  intro r2 er2 H locs hP hD hS
  refine lv_istore (lv' := [(6, .int r2.1), (5, .int r1.1), (4, .int (nI (6 * k))), (0, .ref b), (1, .ref (ax 0)), (2, .ref (am 0)), (3, .ref ao)]) hx hb dL_law_779 hl (by decide) rfl (fun ls hl => ?_)
  refine lv_aload_n hx hb dL_law_781 rfl (lv_at hl 5 rfl) ?_
  refine g_callrN (q0 := 128 + 0) hnw (wf := (TW cy ax ad ad2 ao am sd sd2)) (σ := (r1.2, r2.2)) (wfc := (MW cy am sd sd2)) (σc := r2.2) hx hb hml hown hts hK hP hD hS hA hl.1 (LW cy ax ad ad2 ao r1.2) List.perm_append_comm [] (c_X6_thrown l D cy am sd sd2 r2.2) (cwV 0 hts gL_law_X6_thrown rfl rfl rfl (by decide +kernel) ⟨Nat.le_of_ble_eq_true rfl, Nat.le_of_ble_eq_true rfl⟩) (gx_r (LW_len _ _ _ _ _ _) (gx_l (OW_ob cy am (sd 0) (sd2 0) r2.2.1))) rfl rfl rfl rfl (Nat.le_of_ble_eq_true rfl) dL_law_782 ⟨by show _ + 0 ≤ 633360; omega, by show _ + 0 ≤ 7196024; omega⟩ rfl rfl ?_
  intro r3 er3 H locs hP hD hS
  have e13 : r3 = r1.1 := by rw [er3, er2, er1]; exact (hm.2 fo).1.symm
  have hI2 : LI (100 * k + 100) r1.2.1 r2.2 := by rw [er1, er2]; exact (hm.2 fo).2.2
  refine lv_iload hx hb dL_law_785 (lv_at hl 1 rfl) ?_
  refine lv_icmp_eq (tgt := 792) hx hb dL_law_787 (by decide) (fun c1 => ?_) (fun c1 => absurd e13 c1)
  refine lv_iload hx hb dL_law_792 (lv_at hl 1 rfl) ?_
  refine lv_if_ne (tgt := 809) hx hb dL_law_794 (by decide) (fun c2 => ?_) (fun c2 => ?_)
  · refine lv_goto (tgt := 1134) hx hb dL_law_809 (by decide) ?_
    refine W.widen (k := 164 + 420 * (k + 1)) (n := 2021 + 3100 * (k + 1)) (by omega) (by omega) ?_
    exact K r1.2.1 r1.2.2 r2.2 H locs ls hI2 hP hD hS (lv_sub hl [2, 3, 4, 5, 6] rfl)
  · refine lv_aload_n hx hb dL_law_797 rfl (lv_at hl 6 rfl) ?_
    have hout : r1.2.2 (nI 0).toNatClampNeg = cvI r2.1 := by rw [er1, er2]; rw [er1] at c2; exact (hm.2 fo).2.1 c2
    refine lv_iconst (v := nI 0) hx hb dL_law_798 (by decide) ?_
    refine va_lald hx hb hK hP 127 4 (gx_l LW_get) rfl (vp_in_nI (by decide) (by decide)) dL_law_799 ?_
    refine lv_iload hx hb dL_law_800 (lv_at hl 0 rfl) ?_
    refine lv_i2l hx hb dL_law_802 rfl ?_
    refine W.lcmp hx hb dL_law_803 ?_
    refine lv_if_eq (tgt := 809) hx hb dL_law_804 (by decide) (fun c3 => ?_) (fun c3 => absurd (by rw [hout]; exact lg_self _) c3)
    refine lv_goto (tgt := 1134) hx hb dL_law_809 (by decide) ?_
    refine W.widen (k := 164 + 420 * (k + 1)) (n := 2021 + 3100 * (k + 1)) (by omega) (by omega) ?_
    exact K r1.2.1 r1.2.2 r2.2 H locs ls hI2 hP hD hS (lv_sub hl [2, 3, 4, 5, 6] rfl)
set_option maxHeartbeats 4000000 in
set_option maxRecDepth 100000 in
theorem cs_foresee {p : Program} {e : Env} {s : State} {m : MethodId} {below : List Frame} {meth : Method} {c : Code} {Q : State → Prop} (l : Launch) (D : va_G) (cy : Nat → ClassId) {b L : Nat} {xs : Nat → Int32} (C0 : LC p l s m c D cy b L xs) (IV : Nat → Sg × Sg → Prop) (LI : Nat → (Sg × Sg) → MS → Prop) (hLI : LIok IV LI) (hSt : St_foresee LI) (ax ad ad2 : Nat → Nat) (ao : Nat) (am sd sd2 : Nat → Nat) (σ : Sg × Sg) (fo : Nat → Int64) (μ : MS) (k : Nat) (hk : 6 * k + 6 ≤ L) (hI : LI (100 * k) σ μ) (H : Heap) (locs : List Loc) (ls : Array Slot) (hP : va_P D vwCl (TW cy ax ad ad2 ao am sd sd2 ((σ, fo), μ)) H) (hD : va_D (fun q : Nat => s.heap.size ≤ q) (TW cy ax ad ad2 ao am sd sd2 ((σ, fo), μ))) (hS : va_S (fun q : Nat => s.heap.size ≤ q) s.heap H locs) (hl : lv_has ls 9 [(4, .int (nI (6 * k))), (0, .ref b), (1, .ref (ax 0)), (2, .ref (am 0)), (3, .ref ao)])
    (K : ∀ (σ : Sg × Sg) (fo : Nat → Int64) (μ : MS) (H : Heap) (locs : List Loc) (ls : Array Slot), LI (100 * k + 100) σ μ → va_P D vwCl (TW cy ax ad ad2 ao am sd sd2 ((σ, fo), μ)) H → va_D (fun q : Nat => s.heap.size ≤ q) (TW cy ax ad ad2 ao am sd sd2 ((σ, fo), μ)) → va_S (fun q : Nat => s.heap.size ≤ q) s.heap H locs → lv_has ls 9 [(4, .int (nI (6 * k))), (0, .ref b), (1, .ref (ax 0)), (2, .ref (am 0)), (3, .ref ao)] → W p l e room_1 s m #[Value.ref b] below meth c H locs (164 + 420 * (k + 1)) (2021 + 3100 * (k + 1)) Q (F0 m 1134 ls [])) : W p l e room_1 s m #[Value.ref b] below meth c H locs (164 + 420 * k) (2021 + 3100 * k) Q (F0 m 812 ls []) := by
  obtain ⟨hx, hb, hml, hown, hts, hX, hbl, hK, hst, htx, hnc, hnw, hl0, hL⟩ := id C0
  have hA : ∀ q : Nat, s.heap.size ≤ q → (fun q : Nat => s.heap.size ≤ q) q := fun _ h => h
  have hbA : ¬ (fun q : Nat => s.heap.size ≤ q) b := Nat.not_le.mpr hbl
  obtain ⟨hQ, hLI2⟩ := hLI
  obtain ⟨hR, hN, ⟨h0, hh0, hiv⟩, -, -⟩ := hLI2 _ _ _ hI
  refine lv_aload_n hx hb dL_law_812 rfl (lv_at hl 2 rfl) ?_
  refine lv_aload_n hx hb dL_law_813 rfl (lv_at hl 1 rfl) ?_
  refine lv_iload hx hb dL_law_814 (lv_at hl 0 rfl) ?_
  refine lv_iconst (v := nI 1) hx hb dL_law_816 (by decide) ?_
  refine lv_iadd hx hb dL_law_817 ?_
  refine g_top (nI_add (6 * k) 1) ?_
  refine va_sld hx hb hX hbl hbA hS (vp_in_nI (show 6 * k + 1 < L by omega) (by omega)) dL_law_818 ?_
  refine lv_aload_n hx hb dL_law_819 rfl (lv_at hl 1 rfl) ?_
  refine lv_iload hx hb dL_law_820 (lv_at hl 0 rfl) ?_
  refine lv_iconst (v := nI 2) hx hb dL_law_822 (by decide) ?_
  refine lv_iadd hx hb dL_law_823 ?_
  refine g_top (nI_add (6 * k) 2) ?_
  refine va_sld hx hb hX hbl hbA hS (vp_in_nI (show 6 * k + 2 < L by omega) (by omega)) dL_law_824 ?_
  refine lv_aload_n hx hb dL_law_825 rfl (lv_at hl 4 rfl) ?_
  have hm := hSt _ _ _ hI (by omega) (xs (tn (nI (6 * k + 1)))) (xs (tn (nI (6 * k + 2))))
  refine g_callL (wf := (TW cy ax ad ad2 ao am sd sd2)) (σ := ((σ, fo), μ)) (wfc := (LW cy ax ad ad2 ao)) (σc := (σ, fo)) hl0 hst htx hnc hx hb hml hown hts hK hP hD hS hA hl.1 (MW cy am sd sd2 μ) (List.Perm.refl _) (fun u => (u, μ)) (fun _ => List.Perm.refl _) [.ref (ax 0), .int (xs (tn (nI (6 * k + 1)))), .int (xs (tn (nI (6 * k + 2)))), .ref ao] (c_L_foresee l D cy ax ad ad2 ao σ fo (xs (tn (nI (6 * k + 1)))) (xs (tn (nI (6 * k + 2)))) hR hm.1) (vx_cwSW 4 hts gL_law_L_foresee rfl rfl rfl (by decide +kernel) ⟨Nat.le_of_ble_eq_true rfl, Nat.le_of_ble_eq_true rfl⟩) rfl rfl (Nat.le_of_ble_eq_true rfl) dL_law_826 ⟨by show _ + 2 ≤ 633360; omega, by show _ + 12 ≤ 7196024; omega⟩ rfl rfl ?_
  intro r1 er1 H locs hP hD hS
  refine lv_istore (lv' := [(5, .int r1.1), (4, .int (nI (6 * k))), (0, .ref b), (1, .ref (ax 0)), (2, .ref (am 0)), (3, .ref ao)]) hx hb dL_law_829 hl (by decide) rfl (fun ls hl => ?_)
  refine lv_aload_n hx hb dL_law_831 rfl (lv_at hl 4 rfl) ?_
  refine lv_aload_n hx hb dL_law_832 rfl (lv_at hl 2 rfl) ?_
  refine lv_iload hx hb dL_law_833 (lv_at hl 1 rfl) ?_
  refine lv_iconst (v := nI 1) hx hb dL_law_835 (by decide) ?_
  refine lv_iadd hx hb dL_law_836 ?_
  refine g_top (nI_add (6 * k) 1) ?_
  refine va_sld hx hb hX hbl hbA hS (vp_in_nI (show 6 * k + 1 < L by omega) (by omega)) dL_law_837 ?_
  refine lv_aload_n hx hb dL_law_838 rfl (lv_at hl 2 rfl) ?_
  refine lv_iload hx hb dL_law_839 (lv_at hl 1 rfl) ?_
  refine lv_iconst (v := nI 2) hx hb dL_law_841 (by decide) ?_
  refine lv_iadd hx hb dL_law_842 ?_
  refine g_top (nI_add (6 * k) 2) ?_
  refine va_sld hx hb hX hbl hbA hS (vp_in_nI (show 6 * k + 2 < L by omega) (by omega)) dL_law_843 ?_
  refine g_calliN (q0 := 128 + 0) hnw (wf := (TW cy ax ad ad2 ao am sd sd2)) (σ := (r1.2, μ)) (wfc := (MW cy am sd sd2)) (σc := μ) hx hb hml hown hts hK hP hD hS hA hl.1 (LW cy ax ad ad2 ao r1.2) List.perm_append_comm (fun u => (r1.2, u)) (fun _ => List.perm_append_comm) [.int (xs (tn (nI (6 * k + 1)))), .int (xs (tn (nI (6 * k + 2))))] (c_X6_foresee l D cy am sd sd2 μ (xs (tn (nI (6 * k + 1)))) (xs (tn (nI (6 * k + 2)))) IV hQ h0 (by omega) hiv) (cwV 2 hts gL_law_X6_foresee rfl rfl rfl (by decide +kernel) ⟨Nat.le_of_ble_eq_true rfl, Nat.le_of_ble_eq_true rfl⟩) (gx_r (LW_len _ _ _ _ _ _) (gx_l (OW_ob cy am (sd 0) (sd2 0) μ.1))) rfl rfl rfl rfl (Nat.le_of_ble_eq_true rfl) dL_law_844 ⟨by show _ + 0 ≤ 633360; omega, by show _ + 0 ≤ 7196024; omega⟩ rfl rfl ?_
  intro r2 er2 H locs hP hD hS
  refine lv_istore (lv' := [(6, .int r2.1), (5, .int r1.1), (4, .int (nI (6 * k))), (0, .ref b), (1, .ref (ax 0)), (2, .ref (am 0)), (3, .ref ao)]) hx hb dL_law_847 hl (by decide) rfl (fun ls hl => ?_)
  refine lv_aload_n hx hb dL_law_849 rfl (lv_at hl 5 rfl) ?_
  refine g_callrN (q0 := 128 + 0) hnw (wf := (TW cy ax ad ad2 ao am sd sd2)) (σ := (r1.2, r2.2)) (wfc := (MW cy am sd sd2)) (σc := r2.2) hx hb hml hown hts hK hP hD hS hA hl.1 (LW cy ax ad ad2 ao r1.2) List.perm_append_comm [] (c_X6_thrown l D cy am sd sd2 r2.2) (cwV 0 hts gL_law_X6_thrown rfl rfl rfl (by decide +kernel) ⟨Nat.le_of_ble_eq_true rfl, Nat.le_of_ble_eq_true rfl⟩) (gx_r (LW_len _ _ _ _ _ _) (gx_l (OW_ob cy am (sd 0) (sd2 0) r2.2.1))) rfl rfl rfl rfl (Nat.le_of_ble_eq_true rfl) dL_law_850 ⟨by show _ + 0 ≤ 633360; omega, by show _ + 0 ≤ 7196024; omega⟩ rfl rfl ?_
  intro r3 er3 H locs hP hD hS
  have e13 : r3 = r1.1 := by rw [er3, er2, er1]; exact (hm.2 fo).1.symm
  have hI2 : LI (100 * k + 100) r1.2.1 r2.2 := by rw [er1, er2]; exact (hm.2 fo).2.2
  refine lv_iload hx hb dL_law_853 (lv_at hl 1 rfl) ?_
  refine lv_icmp_eq (tgt := 860) hx hb dL_law_855 (by decide) (fun c1 => ?_) (fun c1 => absurd e13 c1)
  refine lv_iload hx hb dL_law_860 (lv_at hl 1 rfl) ?_
  refine lv_if_ne (tgt := 877) hx hb dL_law_862 (by decide) (fun c2 => ?_) (fun c2 => ?_)
  · refine lv_goto (tgt := 1134) hx hb dL_law_877 (by decide) ?_
    refine W.widen (k := 164 + 420 * (k + 1)) (n := 2021 + 3100 * (k + 1)) (by omega) (by omega) ?_
    exact K r1.2.1 r1.2.2 r2.2 H locs ls hI2 hP hD hS (lv_sub hl [2, 3, 4, 5, 6] rfl)
  · refine lv_aload_n hx hb dL_law_865 rfl (lv_at hl 6 rfl) ?_
    have hout : r1.2.2 (nI 0).toNatClampNeg = cvI r2.1 := by rw [er1, er2]; rw [er1] at c2; exact (hm.2 fo).2.1 c2
    refine lv_iconst (v := nI 0) hx hb dL_law_866 (by decide) ?_
    refine va_lald hx hb hK hP 127 4 (gx_l LW_get) rfl (vp_in_nI (by decide) (by decide)) dL_law_867 ?_
    refine lv_iload hx hb dL_law_868 (lv_at hl 0 rfl) ?_
    refine lv_i2l hx hb dL_law_870 rfl ?_
    refine W.lcmp hx hb dL_law_871 ?_
    refine lv_if_eq (tgt := 877) hx hb dL_law_872 (by decide) (fun c3 => ?_) (fun c3 => absurd (by rw [hout]; exact lg_self _) c3)
    refine lv_goto (tgt := 1134) hx hb dL_law_877 (by decide) ?_
    refine W.widen (k := 164 + 420 * (k + 1)) (n := 2021 + 3100 * (k + 1)) (by omega) (by omega) ?_
    exact K r1.2.1 r1.2.2 r2.2 H locs ls hI2 hP hD hS (lv_sub hl [2, 3, 4, 5, 6] rfl)
set_option maxHeartbeats 4000000 in
set_option maxRecDepth 100000 in
theorem cs_advise {p : Program} {e : Env} {s : State} {m : MethodId} {below : List Frame} {meth : Method} {c : Code} {Q : State → Prop} (l : Launch) (D : va_G) (cy : Nat → ClassId) {b L : Nat} {xs : Nat → Int32} (C0 : LC p l s m c D cy b L xs) (IV : Nat → Sg × Sg → Prop) (LI : Nat → (Sg × Sg) → MS → Prop) (hLI : LIok IV LI) (hSt : St_advise LI) (ax ad ad2 : Nat → Nat) (ao : Nat) (am sd sd2 : Nat → Nat) (σ : Sg × Sg) (fo : Nat → Int64) (μ : MS) (k : Nat) (hk : 6 * k + 6 ≤ L) (hI : LI (100 * k) σ μ) (H : Heap) (locs : List Loc) (ls : Array Slot) (hP : va_P D vwCl (TW cy ax ad ad2 ao am sd sd2 ((σ, fo), μ)) H) (hD : va_D (fun q : Nat => s.heap.size ≤ q) (TW cy ax ad ad2 ao am sd sd2 ((σ, fo), μ))) (hS : va_S (fun q : Nat => s.heap.size ≤ q) s.heap H locs) (hl : lv_has ls 9 [(4, .int (nI (6 * k))), (0, .ref b), (1, .ref (ax 0)), (2, .ref (am 0)), (3, .ref ao)])
    (K : ∀ (σ : Sg × Sg) (fo : Nat → Int64) (μ : MS) (H : Heap) (locs : List Loc) (ls : Array Slot), LI (100 * k + 100) σ μ → va_P D vwCl (TW cy ax ad ad2 ao am sd sd2 ((σ, fo), μ)) H → va_D (fun q : Nat => s.heap.size ≤ q) (TW cy ax ad ad2 ao am sd sd2 ((σ, fo), μ)) → va_S (fun q : Nat => s.heap.size ≤ q) s.heap H locs → lv_has ls 9 [(4, .int (nI (6 * k))), (0, .ref b), (1, .ref (ax 0)), (2, .ref (am 0)), (3, .ref ao)] → W p l e room_1 s m #[Value.ref b] below meth c H locs (164 + 420 * (k + 1)) (2021 + 3100 * (k + 1)) Q (F0 m 1134 ls [])) : W p l e room_1 s m #[Value.ref b] below meth c H locs (164 + 420 * k) (2021 + 3100 * k) Q (F0 m 880 ls []) := by
  obtain ⟨hx, hb, hml, hown, hts, hX, hbl, hK, hst, htx, hnc, hnw, hl0, hL⟩ := id C0
  have hA : ∀ q : Nat, s.heap.size ≤ q → (fun q : Nat => s.heap.size ≤ q) q := fun _ h => h
  have hbA : ¬ (fun q : Nat => s.heap.size ≤ q) b := Nat.not_le.mpr hbl
  obtain ⟨hQ, hLI2⟩ := hLI
  obtain ⟨hR, hN, ⟨h0, hh0, hiv⟩, -, -⟩ := hLI2 _ _ _ hI
  refine lv_aload_n hx hb dL_law_880 rfl (lv_at hl 2 rfl) ?_
  refine lv_aload_n hx hb dL_law_881 rfl (lv_at hl 1 rfl) ?_
  refine lv_iload hx hb dL_law_882 (lv_at hl 0 rfl) ?_
  refine lv_iconst (v := nI 1) hx hb dL_law_884 (by decide) ?_
  refine lv_iadd hx hb dL_law_885 ?_
  refine g_top (nI_add (6 * k) 1) ?_
  refine va_sld hx hb hX hbl hbA hS (vp_in_nI (show 6 * k + 1 < L by omega) (by omega)) dL_law_886 ?_
  refine lv_aload_n hx hb dL_law_887 rfl (lv_at hl 4 rfl) ?_
  have hm := hSt _ _ _ hI (by omega) (xs (tn (nI (6 * k + 1))))
  refine g_callL (wf := (TW cy ax ad ad2 ao am sd sd2)) (σ := ((σ, fo), μ)) (wfc := (LW cy ax ad ad2 ao)) (σc := (σ, fo)) hl0 hst htx hnc hx hb hml hown hts hK hP hD hS hA hl.1 (MW cy am sd sd2 μ) (List.Perm.refl _) (fun u => (u, μ)) (fun _ => List.Perm.refl _) [.ref (ax 0), .int (xs (tn (nI (6 * k + 1)))), .ref ao] (c_L_advise l D cy ax ad ad2 ao σ fo (xs (tn (nI (6 * k + 1)))) hR hm.1) (vx_cwSW 3 hts gL_law_L_advise rfl rfl rfl (by decide +kernel) ⟨Nat.le_of_ble_eq_true rfl, Nat.le_of_ble_eq_true rfl⟩) rfl rfl (Nat.le_of_ble_eq_true rfl) dL_law_888 ⟨by show _ + 2 ≤ 633360; omega, by show _ + 12 ≤ 7196024; omega⟩ rfl rfl ?_
  intro r1 er1 H locs hP hD hS
  refine lv_istore (lv' := [(5, .int r1.1), (4, .int (nI (6 * k))), (0, .ref b), (1, .ref (ax 0)), (2, .ref (am 0)), (3, .ref ao)]) hx hb dL_law_891 hl (by decide) rfl (fun ls hl => ?_)
  refine lv_aload_n hx hb dL_law_893 rfl (lv_at hl 4 rfl) ?_
  refine lv_aload_n hx hb dL_law_894 rfl (lv_at hl 2 rfl) ?_
  refine lv_iload hx hb dL_law_895 (lv_at hl 1 rfl) ?_
  refine lv_iconst (v := nI 1) hx hb dL_law_897 (by decide) ?_
  refine lv_iadd hx hb dL_law_898 ?_
  refine g_top (nI_add (6 * k) 1) ?_
  refine va_sld hx hb hX hbl hbA hS (vp_in_nI (show 6 * k + 1 < L by omega) (by omega)) dL_law_899 ?_
  refine g_calliN (q0 := 128 + 0) hnw (wf := (TW cy ax ad ad2 ao am sd sd2)) (σ := (r1.2, μ)) (wfc := (MW cy am sd sd2)) (σc := μ) hx hb hml hown hts hK hP hD hS hA hl.1 (LW cy ax ad ad2 ao r1.2) List.perm_append_comm (fun u => (r1.2, u)) (fun _ => List.perm_append_comm) [.int (xs (tn (nI (6 * k + 1))))] (c_X6_advise l D cy am sd sd2 μ (xs (tn (nI (6 * k + 1)))) IV hQ h0 (by omega) hiv) (cwV 1 hts gL_law_X6_advise rfl rfl rfl (by decide +kernel) ⟨Nat.le_of_ble_eq_true rfl, Nat.le_of_ble_eq_true rfl⟩) (gx_r (LW_len _ _ _ _ _ _) (gx_l (OW_ob cy am (sd 0) (sd2 0) μ.1))) rfl rfl rfl rfl (Nat.le_of_ble_eq_true rfl) dL_law_900 ⟨by show _ + 0 ≤ 633360; omega, by show _ + 0 ≤ 7196024; omega⟩ rfl rfl ?_
  intro r2 er2 H locs hP hD hS
  refine lv_istore (lv' := [(6, .int r2.1), (5, .int r1.1), (4, .int (nI (6 * k))), (0, .ref b), (1, .ref (ax 0)), (2, .ref (am 0)), (3, .ref ao)]) hx hb dL_law_903 hl (by decide) rfl (fun ls hl => ?_)
  refine lv_aload_n hx hb dL_law_905 rfl (lv_at hl 5 rfl) ?_
  refine g_callrN (q0 := 128 + 0) hnw (wf := (TW cy ax ad ad2 ao am sd sd2)) (σ := (r1.2, r2.2)) (wfc := (MW cy am sd sd2)) (σc := r2.2) hx hb hml hown hts hK hP hD hS hA hl.1 (LW cy ax ad ad2 ao r1.2) List.perm_append_comm [] (c_X6_thrown l D cy am sd sd2 r2.2) (cwV 0 hts gL_law_X6_thrown rfl rfl rfl (by decide +kernel) ⟨Nat.le_of_ble_eq_true rfl, Nat.le_of_ble_eq_true rfl⟩) (gx_r (LW_len _ _ _ _ _ _) (gx_l (OW_ob cy am (sd 0) (sd2 0) r2.2.1))) rfl rfl rfl rfl (Nat.le_of_ble_eq_true rfl) dL_law_906 ⟨by show _ + 0 ≤ 633360; omega, by show _ + 0 ≤ 7196024; omega⟩ rfl rfl ?_
  intro r3 er3 H locs hP hD hS
  have e13 : r3 = r1.1 := by rw [er3, er2, er1]; exact (hm.2 fo).1.symm
  have hI2 : LI (100 * k + 100) r1.2.1 r2.2 := by rw [er1, er2]; exact (hm.2 fo).2.2
  refine lv_iload hx hb dL_law_909 (lv_at hl 1 rfl) ?_
  refine lv_icmp_eq (tgt := 916) hx hb dL_law_911 (by decide) (fun c1 => ?_) (fun c1 => absurd e13 c1)
  refine lv_iload hx hb dL_law_916 (lv_at hl 1 rfl) ?_
  refine lv_if_ne (tgt := 933) hx hb dL_law_918 (by decide) (fun c2 => ?_) (fun c2 => ?_)
  · refine lv_goto (tgt := 1134) hx hb dL_law_933 (by decide) ?_
    refine W.widen (k := 164 + 420 * (k + 1)) (n := 2021 + 3100 * (k + 1)) (by omega) (by omega) ?_
    exact K r1.2.1 r1.2.2 r2.2 H locs ls hI2 hP hD hS (lv_sub hl [2, 3, 4, 5, 6] rfl)
  · refine lv_aload_n hx hb dL_law_921 rfl (lv_at hl 6 rfl) ?_
    have hout : r1.2.2 (nI 0).toNatClampNeg = cvI r2.1 := by rw [er1, er2]; rw [er1] at c2; exact (hm.2 fo).2.1 c2
    refine lv_iconst (v := nI 0) hx hb dL_law_922 (by decide) ?_
    refine va_lald hx hb hK hP 127 4 (gx_l LW_get) rfl (vp_in_nI (by decide) (by decide)) dL_law_923 ?_
    refine lv_iload hx hb dL_law_924 (lv_at hl 0 rfl) ?_
    refine lv_i2l hx hb dL_law_926 rfl ?_
    refine W.lcmp hx hb dL_law_927 ?_
    refine lv_if_eq (tgt := 933) hx hb dL_law_928 (by decide) (fun c3 => ?_) (fun c3 => absurd (by rw [hout]; exact lg_self _) c3)
    refine lv_goto (tgt := 1134) hx hb dL_law_933 (by decide) ?_
    refine W.widen (k := 164 + 420 * (k + 1)) (n := 2021 + 3100 * (k + 1)) (by omega) (by omega) ?_
    exact K r1.2.1 r1.2.2 r2.2 H locs ls hI2 hP hD hS (lv_sub hl [2, 3, 4, 5, 6] rfl)
set_option maxHeartbeats 4000000 in
set_option maxRecDepth 100000 in
theorem cs_wouldGet {p : Program} {e : Env} {s : State} {m : MethodId} {below : List Frame} {meth : Method} {c : Code} {Q : State → Prop} (l : Launch) (D : va_G) (cy : Nat → ClassId) {b L : Nat} {xs : Nat → Int32} (C0 : LC p l s m c D cy b L xs) (IV : Nat → Sg × Sg → Prop) (LI : Nat → (Sg × Sg) → MS → Prop) (hLI : LIok IV LI) (hSt : St_wouldGet LI) (ax ad ad2 : Nat → Nat) (ao : Nat) (am sd sd2 : Nat → Nat) (σ : Sg × Sg) (fo : Nat → Int64) (μ : MS) (k : Nat) (hk : 6 * k + 6 ≤ L) (hI : LI (100 * k) σ μ) (H : Heap) (locs : List Loc) (ls : Array Slot) (hP : va_P D vwCl (TW cy ax ad ad2 ao am sd sd2 ((σ, fo), μ)) H) (hD : va_D (fun q : Nat => s.heap.size ≤ q) (TW cy ax ad ad2 ao am sd sd2 ((σ, fo), μ))) (hS : va_S (fun q : Nat => s.heap.size ≤ q) s.heap H locs) (hl : lv_has ls 9 [(4, .int (nI (6 * k))), (0, .ref b), (1, .ref (ax 0)), (2, .ref (am 0)), (3, .ref ao)])
    (K : ∀ (σ : Sg × Sg) (fo : Nat → Int64) (μ : MS) (H : Heap) (locs : List Loc) (ls : Array Slot), LI (100 * k + 100) σ μ → va_P D vwCl (TW cy ax ad ad2 ao am sd sd2 ((σ, fo), μ)) H → va_D (fun q : Nat => s.heap.size ≤ q) (TW cy ax ad ad2 ao am sd sd2 ((σ, fo), μ)) → va_S (fun q : Nat => s.heap.size ≤ q) s.heap H locs → lv_has ls 9 [(4, .int (nI (6 * k))), (0, .ref b), (1, .ref (ax 0)), (2, .ref (am 0)), (3, .ref ao)] → W p l e room_1 s m #[Value.ref b] below meth c H locs (164 + 420 * (k + 1)) (2021 + 3100 * (k + 1)) Q (F0 m 1134 ls [])) : W p l e room_1 s m #[Value.ref b] below meth c H locs (164 + 420 * k) (2021 + 3100 * k) Q (F0 m 936 ls []) := by
  obtain ⟨hx, hb, hml, hown, hts, hX, hbl, hK, hst, htx, hnc, hnw, hl0, hL⟩ := id C0
  have hA : ∀ q : Nat, s.heap.size ≤ q → (fun q : Nat => s.heap.size ≤ q) q := fun _ h => h
  have hbA : ¬ (fun q : Nat => s.heap.size ≤ q) b := Nat.not_le.mpr hbl
  obtain ⟨hQ, hLI2⟩ := hLI
  obtain ⟨hR, hN, ⟨h0, hh0, hiv⟩, -, -⟩ := hLI2 _ _ _ hI
  refine lv_aload_n hx hb dL_law_936 rfl (lv_at hl 2 rfl) ?_
  refine lv_aload_n hx hb dL_law_937 rfl (lv_at hl 1 rfl) ?_
  refine lv_iload hx hb dL_law_938 (lv_at hl 0 rfl) ?_
  refine lv_iconst (v := nI 1) hx hb dL_law_940 (by decide) ?_
  refine lv_iadd hx hb dL_law_941 ?_
  refine g_top (nI_add (6 * k) 1) ?_
  refine va_sld hx hb hX hbl hbA hS (vp_in_nI (show 6 * k + 1 < L by omega) (by omega)) dL_law_942 ?_
  refine lv_aload_n hx hb dL_law_943 rfl (lv_at hl 1 rfl) ?_
  refine lv_iload hx hb dL_law_944 (lv_at hl 0 rfl) ?_
  refine lv_iconst (v := nI 2) hx hb dL_law_946 (by decide) ?_
  refine lv_iadd hx hb dL_law_947 ?_
  refine g_top (nI_add (6 * k) 2) ?_
  refine va_sld hx hb hX hbl hbA hS (vp_in_nI (show 6 * k + 2 < L by omega) (by omega)) dL_law_948 ?_
  refine lv_aload_n hx hb dL_law_949 rfl (lv_at hl 4 rfl) ?_
  have hm := hSt _ _ _ hI (by omega) (xs (tn (nI (6 * k + 1)))) (xs (tn (nI (6 * k + 2))))
  refine g_callL (wf := (TW cy ax ad ad2 ao am sd sd2)) (σ := ((σ, fo), μ)) (wfc := (LW cy ax ad ad2 ao)) (σc := (σ, fo)) hl0 hst htx hnc hx hb hml hown hts hK hP hD hS hA hl.1 (MW cy am sd sd2 μ) (List.Perm.refl _) (fun u => (u, μ)) (fun _ => List.Perm.refl _) [.ref (ax 0), .int (xs (tn (nI (6 * k + 1)))), .int (xs (tn (nI (6 * k + 2)))), .ref ao] (c_L_wouldGet l D cy ax ad ad2 ao σ fo (xs (tn (nI (6 * k + 1)))) (xs (tn (nI (6 * k + 2)))) hR hm.1) (vx_cwSW 4 hts gL_law_L_wouldGet rfl rfl rfl (by decide +kernel) ⟨Nat.le_of_ble_eq_true rfl, Nat.le_of_ble_eq_true rfl⟩) rfl rfl (Nat.le_of_ble_eq_true rfl) dL_law_950 ⟨by show _ + 2 ≤ 633360; omega, by show _ + 12 ≤ 7196024; omega⟩ rfl rfl ?_
  intro r1 er1 H locs hP hD hS
  refine lv_istore (lv' := [(5, .int r1.1), (4, .int (nI (6 * k))), (0, .ref b), (1, .ref (ax 0)), (2, .ref (am 0)), (3, .ref ao)]) hx hb dL_law_953 hl (by decide) rfl (fun ls hl => ?_)
  refine lv_aload_n hx hb dL_law_955 rfl (lv_at hl 4 rfl) ?_
  refine lv_aload_n hx hb dL_law_956 rfl (lv_at hl 2 rfl) ?_
  refine lv_iload hx hb dL_law_957 (lv_at hl 1 rfl) ?_
  refine lv_iconst (v := nI 1) hx hb dL_law_959 (by decide) ?_
  refine lv_iadd hx hb dL_law_960 ?_
  refine g_top (nI_add (6 * k) 1) ?_
  refine va_sld hx hb hX hbl hbA hS (vp_in_nI (show 6 * k + 1 < L by omega) (by omega)) dL_law_961 ?_
  refine lv_aload_n hx hb dL_law_962 rfl (lv_at hl 2 rfl) ?_
  refine lv_iload hx hb dL_law_963 (lv_at hl 1 rfl) ?_
  refine lv_iconst (v := nI 2) hx hb dL_law_965 (by decide) ?_
  refine lv_iadd hx hb dL_law_966 ?_
  refine g_top (nI_add (6 * k) 2) ?_
  refine va_sld hx hb hX hbl hbA hS (vp_in_nI (show 6 * k + 2 < L by omega) (by omega)) dL_law_967 ?_
  refine g_calliN (q0 := 128 + 0) hnw (wf := (TW cy ax ad ad2 ao am sd sd2)) (σ := (r1.2, μ)) (wfc := (MW cy am sd sd2)) (σc := μ) hx hb hml hown hts hK hP hD hS hA hl.1 (LW cy ax ad ad2 ao r1.2) List.perm_append_comm (fun u => (r1.2, u)) (fun _ => List.perm_append_comm) [.int (xs (tn (nI (6 * k + 1)))), .int (xs (tn (nI (6 * k + 2))))] (c_X6_wouldGet l D cy am sd sd2 μ (xs (tn (nI (6 * k + 1)))) (xs (tn (nI (6 * k + 2)))) hN) (cwV 2 hts gL_law_X6_wouldGet rfl rfl rfl (by decide +kernel) ⟨Nat.le_of_ble_eq_true rfl, Nat.le_of_ble_eq_true rfl⟩) (gx_r (LW_len _ _ _ _ _ _) (gx_l (OW_ob cy am (sd 0) (sd2 0) μ.1))) rfl rfl rfl rfl (Nat.le_of_ble_eq_true rfl) dL_law_968 ⟨by show _ + 0 ≤ 633360; omega, by show _ + 0 ≤ 7196024; omega⟩ rfl rfl ?_
  intro r2 er2 H locs hP hD hS
  refine lv_istore (lv' := [(6, .int r2.1), (5, .int r1.1), (4, .int (nI (6 * k))), (0, .ref b), (1, .ref (ax 0)), (2, .ref (am 0)), (3, .ref ao)]) hx hb dL_law_971 hl (by decide) rfl (fun ls hl => ?_)
  refine lv_aload_n hx hb dL_law_973 rfl (lv_at hl 5 rfl) ?_
  refine g_callrN (q0 := 128 + 0) hnw (wf := (TW cy ax ad ad2 ao am sd sd2)) (σ := (r1.2, r2.2)) (wfc := (MW cy am sd sd2)) (σc := r2.2) hx hb hml hown hts hK hP hD hS hA hl.1 (LW cy ax ad ad2 ao r1.2) List.perm_append_comm [] (c_X6_thrown l D cy am sd sd2 r2.2) (cwV 0 hts gL_law_X6_thrown rfl rfl rfl (by decide +kernel) ⟨Nat.le_of_ble_eq_true rfl, Nat.le_of_ble_eq_true rfl⟩) (gx_r (LW_len _ _ _ _ _ _) (gx_l (OW_ob cy am (sd 0) (sd2 0) r2.2.1))) rfl rfl rfl rfl (Nat.le_of_ble_eq_true rfl) dL_law_974 ⟨by show _ + 0 ≤ 633360; omega, by show _ + 0 ≤ 7196024; omega⟩ rfl rfl ?_
  intro r3 er3 H locs hP hD hS
  have e13 : r3 = r1.1 := by rw [er3, er2, er1]; exact (hm.2 fo).1.symm
  have hI2 : LI (100 * k + 100) r1.2.1 r2.2 := by rw [er1, er2]; exact (hm.2 fo).2.2
  refine lv_iload hx hb dL_law_977 (lv_at hl 1 rfl) ?_
  refine lv_icmp_eq (tgt := 984) hx hb dL_law_979 (by decide) (fun c1 => ?_) (fun c1 => absurd e13 c1)
  refine lv_iload hx hb dL_law_984 (lv_at hl 1 rfl) ?_
  refine lv_if_ne (tgt := 1008) hx hb dL_law_986 (by decide) (fun c2 => ?_) (fun c2 => ?_)
  · refine lv_goto (tgt := 1134) hx hb dL_law_1008 (by decide) ?_
    refine W.widen (k := 164 + 420 * (k + 1)) (n := 2021 + 3100 * (k + 1)) (by omega) (by omega) ?_
    exact K r1.2.1 r1.2.2 r2.2 H locs ls hI2 hP hD hS (lv_sub hl [2, 3, 4, 5, 6] rfl)
  · refine lv_aload_n hx hb dL_law_989 rfl (lv_at hl 6 rfl) ?_
    have hout : r1.2.2 (nI 0).toNatClampNeg = cvB r2.1 := by rw [er1, er2]; rw [er1] at c2; exact (hm.2 fo).2.1 c2
    refine lv_iconst (v := nI 0) hx hb dL_law_990 (by decide) ?_
    refine va_lald hx hb hK hP 127 4 (gx_l LW_get) rfl (vp_in_nI (by decide) (by decide)) dL_law_991 ?_
    refine lv_iload hx hb dL_law_992 (lv_at hl 0 rfl) ?_
    refine lv_if_eq (tgt := 1001) hx hb dL_law_994 (by decide) (fun c3 => ?_) (fun c3 => ?_)
    · refine lv_lconst (v := (0 : Int64)) hx hb dL_law_1001 rfl ?_
      refine W.lcmp hx hb dL_law_1002 ?_
      refine lv_if_eq (tgt := 1008) hx hb dL_law_1003 (by decide) (fun c4 => ?_) (fun c4 => absurd (by rw [hout]; show lg_cmp (if r2.1 = 0 then (0 : Int64) else 1) _ = 0; rw [if_pos c3]; exact lg_self _) c4)
      refine lv_goto (tgt := 1134) hx hb dL_law_1008 (by decide) ?_
      refine W.widen (k := 164 + 420 * (k + 1)) (n := 2021 + 3100 * (k + 1)) (by omega) (by omega) ?_
      exact K r1.2.1 r1.2.2 r2.2 H locs ls hI2 hP hD hS (lv_sub hl [2, 3, 4, 5, 6] rfl)
    · refine lv_lconst (v := (1 : Int64)) hx hb dL_law_997 rfl ?_
      refine lv_goto (tgt := 1002) hx hb dL_law_998 (by decide) ?_
      refine W.lcmp hx hb dL_law_1002 ?_
      refine lv_if_eq (tgt := 1008) hx hb dL_law_1003 (by decide) (fun c4 => ?_) (fun c4 => absurd (by rw [hout]; show lg_cmp (if r2.1 = 0 then (0 : Int64) else 1) _ = 0; rw [if_neg c3]; exact lg_self _) c4)
      refine lv_goto (tgt := 1134) hx hb dL_law_1008 (by decide) ?_
      refine W.widen (k := 164 + 420 * (k + 1)) (n := 2021 + 3100 * (k + 1)) (by omega) (by omega) ?_
      exact K r1.2.1 r1.2.2 r2.2 H locs ls hI2 hP hD hS (lv_sub hl [2, 3, 4, 5, 6] rfl)
set_option maxHeartbeats 4000000 in
set_option maxRecDepth 100000 in
theorem cs_lasts {p : Program} {e : Env} {s : State} {m : MethodId} {below : List Frame} {meth : Method} {c : Code} {Q : State → Prop} (l : Launch) (D : va_G) (cy : Nat → ClassId) {b L : Nat} {xs : Nat → Int32} (C0 : LC p l s m c D cy b L xs) (IV : Nat → Sg × Sg → Prop) (LI : Nat → (Sg × Sg) → MS → Prop) (hLI : LIok IV LI) (hSt : St_lasts LI) (ax ad ad2 : Nat → Nat) (ao : Nat) (am sd sd2 : Nat → Nat) (σ : Sg × Sg) (fo : Nat → Int64) (μ : MS) (k : Nat) (hk : 6 * k + 6 ≤ L) (hI : LI (100 * k) σ μ) (H : Heap) (locs : List Loc) (ls : Array Slot) (hP : va_P D vwCl (TW cy ax ad ad2 ao am sd sd2 ((σ, fo), μ)) H) (hD : va_D (fun q : Nat => s.heap.size ≤ q) (TW cy ax ad ad2 ao am sd sd2 ((σ, fo), μ))) (hS : va_S (fun q : Nat => s.heap.size ≤ q) s.heap H locs) (hl : lv_has ls 9 [(4, .int (nI (6 * k))), (0, .ref b), (1, .ref (ax 0)), (2, .ref (am 0)), (3, .ref ao)])
    (K : ∀ (σ : Sg × Sg) (fo : Nat → Int64) (μ : MS) (H : Heap) (locs : List Loc) (ls : Array Slot), LI (100 * k + 100) σ μ → va_P D vwCl (TW cy ax ad ad2 ao am sd sd2 ((σ, fo), μ)) H → va_D (fun q : Nat => s.heap.size ≤ q) (TW cy ax ad ad2 ao am sd sd2 ((σ, fo), μ)) → va_S (fun q : Nat => s.heap.size ≤ q) s.heap H locs → lv_has ls 9 [(4, .int (nI (6 * k))), (0, .ref b), (1, .ref (ax 0)), (2, .ref (am 0)), (3, .ref ao)] → W p l e room_1 s m #[Value.ref b] below meth c H locs (164 + 420 * (k + 1)) (2021 + 3100 * (k + 1)) Q (F0 m 1134 ls [])) : W p l e room_1 s m #[Value.ref b] below meth c H locs (164 + 420 * k) (2021 + 3100 * k) Q (F0 m 1011 ls []) := by
  obtain ⟨hx, hb, hml, hown, hts, hX, hbl, hK, hst, htx, hnc, hnw, hl0, hL⟩ := id C0
  have hA : ∀ q : Nat, s.heap.size ≤ q → (fun q : Nat => s.heap.size ≤ q) q := fun _ h => h
  have hbA : ¬ (fun q : Nat => s.heap.size ≤ q) b := Nat.not_le.mpr hbl
  obtain ⟨hQ, hLI2⟩ := hLI
  obtain ⟨hR, hN, ⟨h0, hh0, hiv⟩, -, -⟩ := hLI2 _ _ _ hI
  refine lv_aload_n hx hb dL_law_1011 rfl (lv_at hl 2 rfl) ?_
  refine lv_aload_n hx hb dL_law_1012 rfl (lv_at hl 1 rfl) ?_
  refine lv_iload hx hb dL_law_1013 (lv_at hl 0 rfl) ?_
  refine lv_iconst (v := nI 1) hx hb dL_law_1015 (by decide) ?_
  refine lv_iadd hx hb dL_law_1016 ?_
  refine g_top (nI_add (6 * k) 1) ?_
  refine va_sld hx hb hX hbl hbA hS (vp_in_nI (show 6 * k + 1 < L by omega) (by omega)) dL_law_1017 ?_
  refine lv_aload_n hx hb dL_law_1018 rfl (lv_at hl 1 rfl) ?_
  refine lv_iload hx hb dL_law_1019 (lv_at hl 0 rfl) ?_
  refine lv_iconst (v := nI 2) hx hb dL_law_1021 (by decide) ?_
  refine lv_iadd hx hb dL_law_1022 ?_
  refine g_top (nI_add (6 * k) 2) ?_
  refine va_sld hx hb hX hbl hbA hS (vp_in_nI (show 6 * k + 2 < L by omega) (by omega)) dL_law_1023 ?_
  refine lv_aload_n hx hb dL_law_1024 rfl (lv_at hl 4 rfl) ?_
  have hm := hSt _ _ _ hI (by omega) (xs (tn (nI (6 * k + 1)))) (xs (tn (nI (6 * k + 2))))
  refine g_callL (wf := (TW cy ax ad ad2 ao am sd sd2)) (σ := ((σ, fo), μ)) (wfc := (LW cy ax ad ad2 ao)) (σc := (σ, fo)) hl0 hst htx hnc hx hb hml hown hts hK hP hD hS hA hl.1 (MW cy am sd sd2 μ) (List.Perm.refl _) (fun u => (u, μ)) (fun _ => List.Perm.refl _) [.ref (ax 0), .int (xs (tn (nI (6 * k + 1)))), .int (xs (tn (nI (6 * k + 2)))), .ref ao] (c_L_lasts l D cy ax ad ad2 ao σ fo (xs (tn (nI (6 * k + 1)))) (xs (tn (nI (6 * k + 2)))) hR hm.1) (vx_cwSW 4 hts gL_law_L_lasts rfl rfl rfl (by decide +kernel) ⟨Nat.le_of_ble_eq_true rfl, Nat.le_of_ble_eq_true rfl⟩) rfl rfl (Nat.le_of_ble_eq_true rfl) dL_law_1025 ⟨by show _ + 2 ≤ 633360; omega, by show _ + 12 ≤ 7196024; omega⟩ rfl rfl ?_
  intro r1 er1 H locs hP hD hS
  refine lv_istore (lv' := [(5, .int r1.1), (4, .int (nI (6 * k))), (0, .ref b), (1, .ref (ax 0)), (2, .ref (am 0)), (3, .ref ao)]) hx hb dL_law_1028 hl (by decide) rfl (fun ls hl => ?_)
  refine lv_aload_n hx hb dL_law_1030 rfl (lv_at hl 4 rfl) ?_
  refine lv_aload_n hx hb dL_law_1031 rfl (lv_at hl 2 rfl) ?_
  refine lv_iload hx hb dL_law_1032 (lv_at hl 1 rfl) ?_
  refine lv_iconst (v := nI 1) hx hb dL_law_1034 (by decide) ?_
  refine lv_iadd hx hb dL_law_1035 ?_
  refine g_top (nI_add (6 * k) 1) ?_
  refine va_sld hx hb hX hbl hbA hS (vp_in_nI (show 6 * k + 1 < L by omega) (by omega)) dL_law_1036 ?_
  refine lv_aload_n hx hb dL_law_1037 rfl (lv_at hl 2 rfl) ?_
  refine lv_iload hx hb dL_law_1038 (lv_at hl 1 rfl) ?_
  refine lv_iconst (v := nI 2) hx hb dL_law_1040 (by decide) ?_
  refine lv_iadd hx hb dL_law_1041 ?_
  refine g_top (nI_add (6 * k) 2) ?_
  refine va_sld hx hb hX hbl hbA hS (vp_in_nI (show 6 * k + 2 < L by omega) (by omega)) dL_law_1042 ?_
  refine g_calliN (q0 := 128 + 0) hnw (wf := (TW cy ax ad ad2 ao am sd sd2)) (σ := (r1.2, μ)) (wfc := (MW cy am sd sd2)) (σc := μ) hx hb hml hown hts hK hP hD hS hA hl.1 (LW cy ax ad ad2 ao r1.2) List.perm_append_comm (fun u => (r1.2, u)) (fun _ => List.perm_append_comm) [.int (xs (tn (nI (6 * k + 1)))), .int (xs (tn (nI (6 * k + 2))))] (c_X6_lasts l D cy am sd sd2 μ (xs (tn (nI (6 * k + 1)))) (xs (tn (nI (6 * k + 2)))) hN) (cwV 2 hts gL_law_X6_lasts rfl rfl rfl (by decide +kernel) ⟨Nat.le_of_ble_eq_true rfl, Nat.le_of_ble_eq_true rfl⟩) (gx_r (LW_len _ _ _ _ _ _) (gx_l (OW_ob cy am (sd 0) (sd2 0) μ.1))) rfl rfl rfl rfl (Nat.le_of_ble_eq_true rfl) dL_law_1043 ⟨by show _ + 0 ≤ 633360; omega, by show _ + 0 ≤ 7196024; omega⟩ rfl rfl ?_
  intro r2 er2 H locs hP hD hS
  refine lv_istore (lv' := [(6, .int r2.1), (5, .int r1.1), (4, .int (nI (6 * k))), (0, .ref b), (1, .ref (ax 0)), (2, .ref (am 0)), (3, .ref ao)]) hx hb dL_law_1046 hl (by decide) rfl (fun ls hl => ?_)
  refine lv_aload_n hx hb dL_law_1048 rfl (lv_at hl 5 rfl) ?_
  refine g_callrN (q0 := 128 + 0) hnw (wf := (TW cy ax ad ad2 ao am sd sd2)) (σ := (r1.2, r2.2)) (wfc := (MW cy am sd sd2)) (σc := r2.2) hx hb hml hown hts hK hP hD hS hA hl.1 (LW cy ax ad ad2 ao r1.2) List.perm_append_comm [] (c_X6_thrown l D cy am sd sd2 r2.2) (cwV 0 hts gL_law_X6_thrown rfl rfl rfl (by decide +kernel) ⟨Nat.le_of_ble_eq_true rfl, Nat.le_of_ble_eq_true rfl⟩) (gx_r (LW_len _ _ _ _ _ _) (gx_l (OW_ob cy am (sd 0) (sd2 0) r2.2.1))) rfl rfl rfl rfl (Nat.le_of_ble_eq_true rfl) dL_law_1049 ⟨by show _ + 0 ≤ 633360; omega, by show _ + 0 ≤ 7196024; omega⟩ rfl rfl ?_
  intro r3 er3 H locs hP hD hS
  have e13 : r3 = r1.1 := by rw [er3, er2, er1]; exact (hm.2 fo).1.symm
  have hI2 : LI (100 * k + 100) r1.2.1 r2.2 := by rw [er1, er2]; exact (hm.2 fo).2.2
  refine lv_iload hx hb dL_law_1052 (lv_at hl 1 rfl) ?_
  refine lv_icmp_eq (tgt := 1059) hx hb dL_law_1054 (by decide) (fun c1 => ?_) (fun c1 => absurd e13 c1)
  refine lv_iload hx hb dL_law_1059 (lv_at hl 1 rfl) ?_
  refine lv_if_ne (tgt := 1076) hx hb dL_law_1061 (by decide) (fun c2 => ?_) (fun c2 => ?_)
  · refine lv_goto (tgt := 1134) hx hb dL_law_1076 (by decide) ?_
    refine W.widen (k := 164 + 420 * (k + 1)) (n := 2021 + 3100 * (k + 1)) (by omega) (by omega) ?_
    exact K r1.2.1 r1.2.2 r2.2 H locs ls hI2 hP hD hS (lv_sub hl [2, 3, 4, 5, 6] rfl)
  · refine lv_aload_n hx hb dL_law_1064 rfl (lv_at hl 6 rfl) ?_
    have hout : r1.2.2 (nI 0).toNatClampNeg = cvI r2.1 := by rw [er1, er2]; rw [er1] at c2; exact (hm.2 fo).2.1 c2
    refine lv_iconst (v := nI 0) hx hb dL_law_1065 (by decide) ?_
    refine va_lald hx hb hK hP 127 4 (gx_l LW_get) rfl (vp_in_nI (by decide) (by decide)) dL_law_1066 ?_
    refine lv_iload hx hb dL_law_1067 (lv_at hl 0 rfl) ?_
    refine lv_i2l hx hb dL_law_1069 rfl ?_
    refine W.lcmp hx hb dL_law_1070 ?_
    refine lv_if_eq (tgt := 1076) hx hb dL_law_1071 (by decide) (fun c3 => ?_) (fun c3 => absurd (by rw [hout]; exact lg_self _) c3)
    refine lv_goto (tgt := 1134) hx hb dL_law_1076 (by decide) ?_
    refine W.widen (k := 164 + 420 * (k + 1)) (n := 2021 + 3100 * (k + 1)) (by omega) (by omega) ?_
    exact K r1.2.1 r1.2.2 r2.2 H locs ls hI2 hP hD hS (lv_sub hl [2, 3, 4, 5, 6] rfl)
