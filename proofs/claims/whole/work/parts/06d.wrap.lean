abbrev rm_L_build : Room := { frames := 7, cells := 1, slots := 6, locals := 112 }
set_option maxHeartbeats 4000000 in
set_option maxRecDepth 100000 in
theorem c_L_build (l : Launch) (D : va_G) (cy : Nat → ClassId) (ax ad ad2 : Nat → Nat) (ao : Nat) (σ : Sg × Sg) (fo : Nat → Int64) (x : Int32) (y : Int32) (hI : OkR σ.1) (hE : ∀ E, s_X4_build σ x y = .inl E → E ∈ ["java/lang/IllegalArgumentException", "java/lang/IllegalStateException"]) : gL l yL_build wsL_build rm_L_build D (Ty cy) (LW cy ax ad ad2 ao) [.ref (ax 0), .int x, .int y, .ref ao] (σ, fo) (wrapR (fun r => r.toInt64) ["java/lang/IllegalArgumentException", "java/lang/IllegalStateException"] (s_X4_build σ x y) (σ, fo)) 1 6 := by
  refine gstartL cL_build 5 [(0, 10, 13, 13), (0, 10, 17, 15)] RL (by decide) rfl rfl (Nat.le_of_ble_eq_true rfl) ?_
  intro p e s m below meth c A ls hx hb hml hown hts hr hlocks hK hP hD hA hS hl hl0 hT hst htx hnc
  have hl : lv_has ls 5 [(0, .ref (ax 0)), (1, .int x), (2, .int y), (3, .ref ao)] := hl
  have wd0 := hts (.classLink RL 13 "java/lang/IllegalArgumentException") (by decide +kernel)
  have wd1 := hts (.classLink RL 15 "java/lang/IllegalStateException") (by decide +kernel)
  refine lv_aload_n hx hb dL_build_0 rfl (lv_at hl 3 rfl) ?_
  refine lv_iconst (v := nI 0) hx hb dL_build_1 (by decide) ?_
  refine lv_aload_n hx hb dL_build_2 rfl (lv_at hl 0 rfl) ?_
  refine lv_iload_n hx hb dL_build_3 rfl (lv_at hl 1 rfl) ?_
  refine lv_iload_n hx hb dL_build_4 rfl (lv_at hl 2 rfl) ?_
  refine g_callxc (q0 := 0) (wf := (LW cy ax ad ad2 ao)) (σ := (σ, fo)) (wfc := (CW cy ax ad ad2)) (σc := σ) hl0 hst htx hx hb hml hown hts hK hP hD hS hA hl.1 [(ao, .inl (cy 4, 1, .inr (.inl fo)))] (List.Perm.refl _) (fun u => (u, fo)) (fun _ => List.Perm.refl _) [.int x, .int y] (c_X4_build l D cy ax ad ad2 σ x y hI) (cwV 2 hts gL_build_X4_build rfl rfl rfl (by decide +kernel) ⟨Nat.le_of_ble_eq_true rfl, Nat.le_of_ble_eq_true rfl⟩) LW_xo rfl rfl rfl rfl (Nat.le_of_ble_eq_true rfl) dL_build_5 ⟨Nat.le_of_ble_eq_true rfl, Nat.le_of_ble_eq_true rfl⟩ rfl rfl (fun E ce q9 hf H locs hP hD hS hcell hcv hcl => ?_) (fun r u hf H locs hP hD hS => ?_)
  · have hm := hE E hf
    simp only [List.mem_cons, List.not_mem_nil, or_false] at hm
    rcases hm with rfl | rfl
    · refine vx_catch (name := "java/lang/IllegalArgumentException") hown [] ⟨0, 10, 13, 13⟩ [⟨0, 10, 17, 15⟩] (by rw [hT]; rfl) (fun z h9 => absurd h9 List.not_mem_nil) (by decide) (by decide) wd0 (va_Nw.use rfl (htx.2.1 "java/lang/IllegalArgumentException" (by decide))) hcell hcv hcl ?_
      refine lv_astore (lv' := (4, .ref q9) :: [(0, .ref (ax 0)), (1, .int x), (2, .int y), (3, .ref ao)]) hx hb dL_build_13 hl (by decide) rfl (fun ls hl => ?_)
      refine lv_iconst (v := nI 1) hx hb dL_build_15 (by decide) ?_
      exact g_endi hx hb hr hlocks rfl (by rw [hf]; simp [wrapR, codeOf]) hP hD hS (Nat.le_of_ble_eq_true rfl) (Nat.le_of_ble_eq_true rfl) dL_build_16
    · refine vx_catch (name := "java/lang/IllegalStateException") hown [⟨0, 10, 13, 13⟩] ⟨0, 10, 17, 15⟩ [] (by rw [hT]; rfl) (List.forall_mem_cons.mpr ⟨Or.inr ⟨by decide, "java/lang/IllegalArgumentException", wd0, hnc _ (by decide) _ (by decide) (by decide)⟩, (fun z h9 => absurd h9 List.not_mem_nil)⟩) (by decide) (by decide) wd1 (va_Nw.use rfl (htx.2.1 "java/lang/IllegalStateException" (by decide))) hcell hcv hcl ?_
      refine lv_astore (lv' := (4, .ref q9) :: [(0, .ref (ax 0)), (1, .int x), (2, .int y), (3, .ref ao)]) hx hb dL_build_17 hl (by decide) rfl (fun ls hl => ?_)
      refine lv_iconst (v := nI 2) hx hb dL_build_19 (by decide) ?_
      exact g_endi hx hb hr hlocks rfl (by rw [hf]; simp [wrapR, codeOf]) hP hD hS (Nat.le_of_ble_eq_true rfl) (Nat.le_of_ble_eq_true rfl) dL_build_20
  · refine lv_i2l hx hb dL_build_8 rfl ?_
    refine g_last (wf := (LW cy ax ad ad2 ao)) (σ := (u, fo)) (σ1 := (u, vp_updL fo 0 (r.toInt64))) (n := 1) hx hb hK hP hD hS 127 4 0 LW_get rfl (by decide) (by decide) LW_set dL_build_9 ?_
    intro H locs hP hD hS
    refine lv_goto (tgt := 21) hx hb dL_build_10 (by decide) ?_
    refine lv_iconst (v := nI 0) hx hb dL_build_21 (by decide) ?_
    exact g_endi hx hb hr hlocks rfl (by rw [hf]; rfl) hP hD hS (Nat.le_of_ble_eq_true rfl) (Nat.le_of_ble_eq_true rfl) dL_build_22
abbrev rm_L_bring : Room := { frames := 8, cells := 2, slots := 12, locals := 134 }
set_option maxHeartbeats 4000000 in
set_option maxRecDepth 100000 in
theorem c_L_bring (l : Launch) (D : va_G) (cy : Nat → ClassId) (ax ad ad2 : Nat → Nat) (ao : Nat) (σ : Sg × Sg) (fo : Nat → Int64) (x : Int32) (y : Int32) (hI : OkR σ.1) (hE : ∀ E, s_X4_bring σ x y = .inl E → E ∈ ["java/lang/IndexOutOfBoundsException", "java/lang/IllegalArgumentException", "java/lang/IllegalStateException"]) : gL l yL_bring wsL_bring rm_L_bring D (Ty cy) (LW cy ax ad ad2 ao) [.ref (ax 0), .int x, .int y, .ref ao] (σ, fo) (wrapR (fun r => r.toInt64) ["java/lang/IndexOutOfBoundsException", "java/lang/IllegalArgumentException", "java/lang/IllegalStateException"] (s_X4_bring σ x y) (σ, fo)) 2 12 := by
  refine gstartL cL_bring 5 [(0, 10, 13, 20), (0, 10, 17, 13), (0, 10, 21, 15)] RL (by decide) rfl rfl (Nat.le_of_ble_eq_true rfl) ?_
  intro p e s m below meth c A ls hx hb hml hown hts hr hlocks hK hP hD hA hS hl hl0 hT hst htx hnc
  have hl : lv_has ls 5 [(0, .ref (ax 0)), (1, .int x), (2, .int y), (3, .ref ao)] := hl
  have wd0 := hts (.classLink RL 20 "java/lang/IndexOutOfBoundsException") (by decide +kernel)
  have wd1 := hts (.classLink RL 13 "java/lang/IllegalArgumentException") (by decide +kernel)
  have wd2 := hts (.classLink RL 15 "java/lang/IllegalStateException") (by decide +kernel)
  refine lv_aload_n hx hb dL_bring_0 rfl (lv_at hl 3 rfl) ?_
  refine lv_iconst (v := nI 0) hx hb dL_bring_1 (by decide) ?_
  refine lv_aload_n hx hb dL_bring_2 rfl (lv_at hl 0 rfl) ?_
  refine lv_iload_n hx hb dL_bring_3 rfl (lv_at hl 1 rfl) ?_
  refine lv_iload_n hx hb dL_bring_4 rfl (lv_at hl 2 rfl) ?_
  refine g_callxc (q0 := 0) (wf := (LW cy ax ad ad2 ao)) (σ := (σ, fo)) (wfc := (CW cy ax ad ad2)) (σc := σ) hl0 hst htx hx hb hml hown hts hK hP hD hS hA hl.1 [(ao, .inl (cy 4, 1, .inr (.inl fo)))] (List.Perm.refl _) (fun u => (u, fo)) (fun _ => List.Perm.refl _) [.int x, .int y] (c_X4_bring l D cy ax ad ad2 σ x y hI) (cwV 2 hts gL_bring_X4_bring rfl rfl rfl (by decide +kernel) ⟨Nat.le_of_ble_eq_true rfl, Nat.le_of_ble_eq_true rfl⟩) LW_xo rfl rfl rfl rfl (Nat.le_of_ble_eq_true rfl) dL_bring_5 ⟨Nat.le_of_ble_eq_true rfl, Nat.le_of_ble_eq_true rfl⟩ rfl rfl (fun E ce q9 hf H locs hP hD hS hcell hcv hcl => ?_) (fun r u hf H locs hP hD hS => ?_)
  · have hm := hE E hf
    simp only [List.mem_cons, List.not_mem_nil, or_false] at hm
    rcases hm with rfl | rfl | rfl
    · refine vx_catch (name := "java/lang/IndexOutOfBoundsException") hown [] ⟨0, 10, 13, 20⟩ [⟨0, 10, 17, 13⟩, ⟨0, 10, 21, 15⟩] (by rw [hT]; rfl) (fun z h9 => absurd h9 List.not_mem_nil) (by decide) (by decide) wd0 (va_Nw.use rfl (htx.2.1 "java/lang/IndexOutOfBoundsException" (by decide))) hcell hcv hcl ?_
      refine lv_astore (lv' := (4, .ref q9) :: [(0, .ref (ax 0)), (1, .int x), (2, .int y), (3, .ref ao)]) hx hb dL_bring_13 hl (by decide) rfl (fun ls hl => ?_)
      refine lv_iconst (v := nI 1) hx hb dL_bring_15 (by decide) ?_
      exact g_endi hx hb hr hlocks rfl (by rw [hf]; simp [wrapR, codeOf]) hP hD hS (Nat.le_of_ble_eq_true rfl) (Nat.le_of_ble_eq_true rfl) dL_bring_16
    · refine vx_catch (name := "java/lang/IllegalArgumentException") hown [⟨0, 10, 13, 20⟩] ⟨0, 10, 17, 13⟩ [⟨0, 10, 21, 15⟩] (by rw [hT]; rfl) (List.forall_mem_cons.mpr ⟨Or.inr ⟨by decide, "java/lang/IndexOutOfBoundsException", wd0, hnc _ (by decide) _ (by decide) (by decide)⟩, (fun z h9 => absurd h9 List.not_mem_nil)⟩) (by decide) (by decide) wd1 (va_Nw.use rfl (htx.2.1 "java/lang/IllegalArgumentException" (by decide))) hcell hcv hcl ?_
      refine lv_astore (lv' := (4, .ref q9) :: [(0, .ref (ax 0)), (1, .int x), (2, .int y), (3, .ref ao)]) hx hb dL_bring_17 hl (by decide) rfl (fun ls hl => ?_)
      refine lv_iconst (v := nI 2) hx hb dL_bring_19 (by decide) ?_
      exact g_endi hx hb hr hlocks rfl (by rw [hf]; simp [wrapR, codeOf]) hP hD hS (Nat.le_of_ble_eq_true rfl) (Nat.le_of_ble_eq_true rfl) dL_bring_20
    · refine vx_catch (name := "java/lang/IllegalStateException") hown [⟨0, 10, 13, 20⟩, ⟨0, 10, 17, 13⟩] ⟨0, 10, 21, 15⟩ [] (by rw [hT]; rfl) (List.forall_mem_cons.mpr ⟨Or.inr ⟨by decide, "java/lang/IndexOutOfBoundsException", wd0, hnc _ (by decide) _ (by decide) (by decide)⟩, (List.forall_mem_cons.mpr ⟨Or.inr ⟨by decide, "java/lang/IllegalArgumentException", wd1, hnc _ (by decide) _ (by decide) (by decide)⟩, (fun z h9 => absurd h9 List.not_mem_nil)⟩)⟩) (by decide) (by decide) wd2 (va_Nw.use rfl (htx.2.1 "java/lang/IllegalStateException" (by decide))) hcell hcv hcl ?_
      refine lv_astore (lv' := (4, .ref q9) :: [(0, .ref (ax 0)), (1, .int x), (2, .int y), (3, .ref ao)]) hx hb dL_bring_21 hl (by decide) rfl (fun ls hl => ?_)
      refine lv_iconst (v := nI 3) hx hb dL_bring_23 (by decide) ?_
      exact g_endi hx hb hr hlocks rfl (by rw [hf]; simp [wrapR, codeOf]) hP hD hS (Nat.le_of_ble_eq_true rfl) (Nat.le_of_ble_eq_true rfl) dL_bring_24
  · refine lv_i2l hx hb dL_bring_8 rfl ?_
    refine g_last (wf := (LW cy ax ad ad2 ao)) (σ := (u, fo)) (σ1 := (u, vp_updL fo 0 (r.toInt64))) (n := 1) hx hb hK hP hD hS 127 4 0 LW_get rfl (by decide) (by decide) LW_set dL_bring_9 ?_
    intro H locs hP hD hS
    refine lv_goto (tgt := 25) hx hb dL_bring_10 (by decide) ?_
    refine lv_iconst (v := nI 0) hx hb dL_bring_25 (by decide) ?_
    exact g_endi hx hb hr hlocks rfl (by rw [hf]; rfl) hP hD hS (Nat.le_of_ble_eq_true rfl) (Nat.le_of_ble_eq_true rfl) dL_bring_26
abbrev rm_L_addCitizen : Room := { frames := 8, cells := 3, slots := 18, locals := 136 }
set_option maxHeartbeats 4000000 in
set_option maxRecDepth 100000 in
theorem c_L_addCitizen (l : Launch) (D : va_G) (cy : Nat → ClassId) (ax ad ad2 : Nat → Nat) (ao : Nat) (σ : Sg × Sg) (fo : Nat → Int64) (x : Int32) (y : Int32) (z : Int32) (w : Int32) (v : Int32) (hI : OkR σ.1) (hE : ∀ E, s_X4_addCitizen σ x y z w v = .inl E → E ∈ ["java/lang/IndexOutOfBoundsException", "java/lang/IllegalArgumentException", "java/lang/IllegalStateException"]) : gL l yL_addCitizen wsL_addCitizen rm_L_addCitizen D (Ty cy) (LW cy ax ad ad2 ao) [.ref (ax 0), .int x, .int y, .int z, .int w, .int v, .ref ao] (σ, fo) (wrapR (fun r => r.toInt64) ["java/lang/IndexOutOfBoundsException", "java/lang/IllegalArgumentException", "java/lang/IllegalStateException"] (s_X4_addCitizen σ x y z w v) (σ, fo)) 3 18 := by
  refine gstartL cL_addCitizen 8 [(0, 16, 19, 20), (0, 16, 23, 13), (0, 16, 27, 15)] RL (by decide) rfl rfl (Nat.le_of_ble_eq_true rfl) ?_
  intro p e s m below meth c A ls hx hb hml hown hts hr hlocks hK hP hD hA hS hl hl0 hT hst htx hnc
  have hl : lv_has ls 8 [(0, .ref (ax 0)), (1, .int x), (2, .int y), (3, .int z), (4, .int w), (5, .int v), (6, .ref ao)] := hl
  have wd0 := hts (.classLink RL 20 "java/lang/IndexOutOfBoundsException") (by decide +kernel)
  have wd1 := hts (.classLink RL 13 "java/lang/IllegalArgumentException") (by decide +kernel)
  have wd2 := hts (.classLink RL 15 "java/lang/IllegalStateException") (by decide +kernel)
  refine lv_aload hx hb dL_addCitizen_0 (lv_at hl 6 rfl) ?_
  refine lv_iconst (v := nI 0) hx hb dL_addCitizen_2 (by decide) ?_
  refine lv_aload_n hx hb dL_addCitizen_3 rfl (lv_at hl 0 rfl) ?_
  refine lv_iload_n hx hb dL_addCitizen_4 rfl (lv_at hl 1 rfl) ?_
  refine lv_iload_n hx hb dL_addCitizen_5 rfl (lv_at hl 2 rfl) ?_
  refine lv_iload_n hx hb dL_addCitizen_6 rfl (lv_at hl 3 rfl) ?_
  refine lv_iload hx hb dL_addCitizen_7 (lv_at hl 4 rfl) ?_
  refine lv_iload hx hb dL_addCitizen_9 (lv_at hl 5 rfl) ?_
  refine g_callxc (q0 := 0) (wf := (LW cy ax ad ad2 ao)) (σ := (σ, fo)) (wfc := (CW cy ax ad ad2)) (σc := σ) hl0 hst htx hx hb hml hown hts hK hP hD hS hA hl.1 [(ao, .inl (cy 4, 1, .inr (.inl fo)))] (List.Perm.refl _) (fun u => (u, fo)) (fun _ => List.Perm.refl _) [.int x, .int y, .int z, .int w, .int v] (c_X4_addCitizen l D cy ax ad ad2 σ x y z w v hI) (cwV 5 hts gL_addCitizen_X4_addCitizen rfl rfl rfl (by decide +kernel) ⟨Nat.le_of_ble_eq_true rfl, Nat.le_of_ble_eq_true rfl⟩) LW_xo rfl rfl rfl rfl (Nat.le_of_ble_eq_true rfl) dL_addCitizen_11 ⟨Nat.le_of_ble_eq_true rfl, Nat.le_of_ble_eq_true rfl⟩ rfl rfl (fun E ce q9 hf H locs hP hD hS hcell hcv hcl => ?_) (fun r u hf H locs hP hD hS => ?_)
  · have hm := hE E hf
    simp only [List.mem_cons, List.not_mem_nil, or_false] at hm
    rcases hm with rfl | rfl | rfl
    · refine vx_catch (name := "java/lang/IndexOutOfBoundsException") hown [] ⟨0, 16, 19, 20⟩ [⟨0, 16, 23, 13⟩, ⟨0, 16, 27, 15⟩] (by rw [hT]; rfl) (fun z h9 => absurd h9 List.not_mem_nil) (by decide) (by decide) wd0 (va_Nw.use rfl (htx.2.1 "java/lang/IndexOutOfBoundsException" (by decide))) hcell hcv hcl ?_
      refine lv_astore (lv' := (7, .ref q9) :: [(0, .ref (ax 0)), (1, .int x), (2, .int y), (3, .int z), (4, .int w), (5, .int v), (6, .ref ao)]) hx hb dL_addCitizen_19 hl (by decide) rfl (fun ls hl => ?_)
      refine lv_iconst (v := nI 1) hx hb dL_addCitizen_21 (by decide) ?_
      exact g_endi hx hb hr hlocks rfl (by rw [hf]; simp [wrapR, codeOf]) hP hD hS (Nat.le_of_ble_eq_true rfl) (Nat.le_of_ble_eq_true rfl) dL_addCitizen_22
    · refine vx_catch (name := "java/lang/IllegalArgumentException") hown [⟨0, 16, 19, 20⟩] ⟨0, 16, 23, 13⟩ [⟨0, 16, 27, 15⟩] (by rw [hT]; rfl) (List.forall_mem_cons.mpr ⟨Or.inr ⟨by decide, "java/lang/IndexOutOfBoundsException", wd0, hnc _ (by decide) _ (by decide) (by decide)⟩, (fun z h9 => absurd h9 List.not_mem_nil)⟩) (by decide) (by decide) wd1 (va_Nw.use rfl (htx.2.1 "java/lang/IllegalArgumentException" (by decide))) hcell hcv hcl ?_
      refine lv_astore (lv' := (7, .ref q9) :: [(0, .ref (ax 0)), (1, .int x), (2, .int y), (3, .int z), (4, .int w), (5, .int v), (6, .ref ao)]) hx hb dL_addCitizen_23 hl (by decide) rfl (fun ls hl => ?_)
      refine lv_iconst (v := nI 2) hx hb dL_addCitizen_25 (by decide) ?_
      exact g_endi hx hb hr hlocks rfl (by rw [hf]; simp [wrapR, codeOf]) hP hD hS (Nat.le_of_ble_eq_true rfl) (Nat.le_of_ble_eq_true rfl) dL_addCitizen_26
    · refine vx_catch (name := "java/lang/IllegalStateException") hown [⟨0, 16, 19, 20⟩, ⟨0, 16, 23, 13⟩] ⟨0, 16, 27, 15⟩ [] (by rw [hT]; rfl) (List.forall_mem_cons.mpr ⟨Or.inr ⟨by decide, "java/lang/IndexOutOfBoundsException", wd0, hnc _ (by decide) _ (by decide) (by decide)⟩, (List.forall_mem_cons.mpr ⟨Or.inr ⟨by decide, "java/lang/IllegalArgumentException", wd1, hnc _ (by decide) _ (by decide) (by decide)⟩, (fun z h9 => absurd h9 List.not_mem_nil)⟩)⟩) (by decide) (by decide) wd2 (va_Nw.use rfl (htx.2.1 "java/lang/IllegalStateException" (by decide))) hcell hcv hcl ?_
      refine lv_astore (lv' := (7, .ref q9) :: [(0, .ref (ax 0)), (1, .int x), (2, .int y), (3, .int z), (4, .int w), (5, .int v), (6, .ref ao)]) hx hb dL_addCitizen_27 hl (by decide) rfl (fun ls hl => ?_)
      refine lv_iconst (v := nI 3) hx hb dL_addCitizen_29 (by decide) ?_
      exact g_endi hx hb hr hlocks rfl (by rw [hf]; simp [wrapR, codeOf]) hP hD hS (Nat.le_of_ble_eq_true rfl) (Nat.le_of_ble_eq_true rfl) dL_addCitizen_30
  · refine lv_i2l hx hb dL_addCitizen_14 rfl ?_
    refine g_last (wf := (LW cy ax ad ad2 ao)) (σ := (u, fo)) (σ1 := (u, vp_updL fo 0 (r.toInt64))) (n := 1) hx hb hK hP hD hS 127 4 0 LW_get rfl (by decide) (by decide) LW_set dL_addCitizen_15 ?_
    intro H locs hP hD hS
    refine lv_goto (tgt := 31) hx hb dL_addCitizen_16 (by decide) ?_
    refine lv_iconst (v := nI 0) hx hb dL_addCitizen_31 (by decide) ?_
    exact g_endi hx hb hr hlocks rfl (by rw [hf]; rfl) hP hD hS (Nat.le_of_ble_eq_true rfl) (Nat.le_of_ble_eq_true rfl) dL_addCitizen_32
abbrev rm_L_setRain : Room := { frames := 8, cells := 2, slots := 12, locals := 133 }
set_option maxHeartbeats 4000000 in
set_option maxRecDepth 100000 in
theorem c_L_setRain (l : Launch) (D : va_G) (cy : Nat → ClassId) (ax ad ad2 : Nat → Nat) (ao : Nat) (σ : Sg × Sg) (fo : Nat → Int64) (x : Int32) (y : Int32) (hI : OkR σ.1) (hE : ∀ E, s_X4_setRain σ x y = .inl E → E ∈ ["java/lang/IndexOutOfBoundsException", "java/lang/IllegalArgumentException"]) : gL l yL_setRain wsL_setRain rm_L_setRain D (Ty cy) (LW cy ax ad ad2 ao) [.ref (ax 0), .int x, .int y, .ref ao] (σ, fo) (wrapR (fun r => r.toInt64) ["java/lang/IndexOutOfBoundsException", "java/lang/IllegalArgumentException"] (s_X4_setRain σ x y) (σ, fo)) 2 12 := by
  refine gstartL cL_setRain 5 [(0, 10, 13, 20), (0, 10, 17, 13)] RL (by decide) rfl rfl (Nat.le_of_ble_eq_true rfl) ?_
  intro p e s m below meth c A ls hx hb hml hown hts hr hlocks hK hP hD hA hS hl hl0 hT hst htx hnc
  have hl : lv_has ls 5 [(0, .ref (ax 0)), (1, .int x), (2, .int y), (3, .ref ao)] := hl
  have wd0 := hts (.classLink RL 20 "java/lang/IndexOutOfBoundsException") (by decide +kernel)
  have wd1 := hts (.classLink RL 13 "java/lang/IllegalArgumentException") (by decide +kernel)
  refine lv_aload_n hx hb dL_setRain_0 rfl (lv_at hl 3 rfl) ?_
  refine lv_iconst (v := nI 0) hx hb dL_setRain_1 (by decide) ?_
  refine lv_aload_n hx hb dL_setRain_2 rfl (lv_at hl 0 rfl) ?_
  refine lv_iload_n hx hb dL_setRain_3 rfl (lv_at hl 1 rfl) ?_
  refine lv_iload_n hx hb dL_setRain_4 rfl (lv_at hl 2 rfl) ?_
  refine g_callxc (q0 := 0) (wf := (LW cy ax ad ad2 ao)) (σ := (σ, fo)) (wfc := (CW cy ax ad ad2)) (σc := σ) hl0 hst htx hx hb hml hown hts hK hP hD hS hA hl.1 [(ao, .inl (cy 4, 1, .inr (.inl fo)))] (List.Perm.refl _) (fun u => (u, fo)) (fun _ => List.Perm.refl _) [.int x, .int y] (c_X4_setRain l D cy ax ad ad2 σ x y hI) (cwV 2 hts gL_setRain_X4_setRain rfl rfl rfl (by decide +kernel) ⟨Nat.le_of_ble_eq_true rfl, Nat.le_of_ble_eq_true rfl⟩) LW_xo rfl rfl rfl rfl (Nat.le_of_ble_eq_true rfl) dL_setRain_5 ⟨Nat.le_of_ble_eq_true rfl, Nat.le_of_ble_eq_true rfl⟩ rfl rfl (fun E ce q9 hf H locs hP hD hS hcell hcv hcl => ?_) (fun r u hf H locs hP hD hS => ?_)
  · have hm := hE E hf
    simp only [List.mem_cons, List.not_mem_nil, or_false] at hm
    rcases hm with rfl | rfl
    · refine vx_catch (name := "java/lang/IndexOutOfBoundsException") hown [] ⟨0, 10, 13, 20⟩ [⟨0, 10, 17, 13⟩] (by rw [hT]; rfl) (fun z h9 => absurd h9 List.not_mem_nil) (by decide) (by decide) wd0 (va_Nw.use rfl (htx.2.1 "java/lang/IndexOutOfBoundsException" (by decide))) hcell hcv hcl ?_
      refine lv_astore (lv' := (4, .ref q9) :: [(0, .ref (ax 0)), (1, .int x), (2, .int y), (3, .ref ao)]) hx hb dL_setRain_13 hl (by decide) rfl (fun ls hl => ?_)
      refine lv_iconst (v := nI 1) hx hb dL_setRain_15 (by decide) ?_
      exact g_endi hx hb hr hlocks rfl (by rw [hf]; simp [wrapR, codeOf]) hP hD hS (Nat.le_of_ble_eq_true rfl) (Nat.le_of_ble_eq_true rfl) dL_setRain_16
    · refine vx_catch (name := "java/lang/IllegalArgumentException") hown [⟨0, 10, 13, 20⟩] ⟨0, 10, 17, 13⟩ [] (by rw [hT]; rfl) (List.forall_mem_cons.mpr ⟨Or.inr ⟨by decide, "java/lang/IndexOutOfBoundsException", wd0, hnc _ (by decide) _ (by decide) (by decide)⟩, (fun z h9 => absurd h9 List.not_mem_nil)⟩) (by decide) (by decide) wd1 (va_Nw.use rfl (htx.2.1 "java/lang/IllegalArgumentException" (by decide))) hcell hcv hcl ?_
      refine lv_astore (lv' := (4, .ref q9) :: [(0, .ref (ax 0)), (1, .int x), (2, .int y), (3, .ref ao)]) hx hb dL_setRain_17 hl (by decide) rfl (fun ls hl => ?_)
      refine lv_iconst (v := nI 2) hx hb dL_setRain_19 (by decide) ?_
      exact g_endi hx hb hr hlocks rfl (by rw [hf]; simp [wrapR, codeOf]) hP hD hS (Nat.le_of_ble_eq_true rfl) (Nat.le_of_ble_eq_true rfl) dL_setRain_20
  · refine lv_i2l hx hb dL_setRain_8 rfl ?_
    refine g_last (wf := (LW cy ax ad ad2 ao)) (σ := (u, fo)) (σ1 := (u, vp_updL fo 0 (r.toInt64))) (n := 1) hx hb hK hP hD hS 127 4 0 LW_get rfl (by decide) (by decide) LW_set dL_setRain_9 ?_
    intro H locs hP hD hS
    refine lv_goto (tgt := 21) hx hb dL_setRain_10 (by decide) ?_
    refine lv_iconst (v := nI 0) hx hb dL_setRain_21 (by decide) ?_
    exact g_endi hx hb hr hlocks rfl (by rw [hf]; rfl) hP hD hS (Nat.le_of_ble_eq_true rfl) (Nat.le_of_ble_eq_true rfl) dL_setRain_22
abbrev rm_L_setDemand : Room := { frames := 8, cells := 2, slots := 12, locals := 134 }
set_option maxHeartbeats 4000000 in
set_option maxRecDepth 100000 in
theorem c_L_setDemand (l : Launch) (D : va_G) (cy : Nat → ClassId) (ax ad ad2 : Nat → Nat) (ao : Nat) (σ : Sg × Sg) (fo : Nat → Int64) (x : Int32) (y : Int32) (hI : OkR σ.1) (hE : ∀ E, s_X4_setDemand σ x y = .inl E → E ∈ ["java/lang/IndexOutOfBoundsException", "java/lang/IllegalArgumentException"]) : gL l yL_setDemand wsL_setDemand rm_L_setDemand D (Ty cy) (LW cy ax ad ad2 ao) [.ref (ax 0), .int x, .int y, .ref ao] (σ, fo) (wrapR (fun r => r.toInt64) ["java/lang/IndexOutOfBoundsException", "java/lang/IllegalArgumentException"] (s_X4_setDemand σ x y) (σ, fo)) 2 12 := by
  refine gstartL cL_setDemand 5 [(0, 10, 13, 20), (0, 10, 17, 13)] RL (by decide) rfl rfl (Nat.le_of_ble_eq_true rfl) ?_
  intro p e s m below meth c A ls hx hb hml hown hts hr hlocks hK hP hD hA hS hl hl0 hT hst htx hnc
  have hl : lv_has ls 5 [(0, .ref (ax 0)), (1, .int x), (2, .int y), (3, .ref ao)] := hl
  have wd0 := hts (.classLink RL 20 "java/lang/IndexOutOfBoundsException") (by decide +kernel)
  have wd1 := hts (.classLink RL 13 "java/lang/IllegalArgumentException") (by decide +kernel)
  refine lv_aload_n hx hb dL_setDemand_0 rfl (lv_at hl 3 rfl) ?_
  refine lv_iconst (v := nI 0) hx hb dL_setDemand_1 (by decide) ?_
  refine lv_aload_n hx hb dL_setDemand_2 rfl (lv_at hl 0 rfl) ?_
  refine lv_iload_n hx hb dL_setDemand_3 rfl (lv_at hl 1 rfl) ?_
  refine lv_iload_n hx hb dL_setDemand_4 rfl (lv_at hl 2 rfl) ?_
  refine g_callxc (q0 := 0) (wf := (LW cy ax ad ad2 ao)) (σ := (σ, fo)) (wfc := (CW cy ax ad ad2)) (σc := σ) hl0 hst htx hx hb hml hown hts hK hP hD hS hA hl.1 [(ao, .inl (cy 4, 1, .inr (.inl fo)))] (List.Perm.refl _) (fun u => (u, fo)) (fun _ => List.Perm.refl _) [.int x, .int y] (c_X4_setDemand l D cy ax ad ad2 σ x y hI) (cwV 2 hts gL_setDemand_X4_setDemand rfl rfl rfl (by decide +kernel) ⟨Nat.le_of_ble_eq_true rfl, Nat.le_of_ble_eq_true rfl⟩) LW_xo rfl rfl rfl rfl (Nat.le_of_ble_eq_true rfl) dL_setDemand_5 ⟨Nat.le_of_ble_eq_true rfl, Nat.le_of_ble_eq_true rfl⟩ rfl rfl (fun E ce q9 hf H locs hP hD hS hcell hcv hcl => ?_) (fun r u hf H locs hP hD hS => ?_)
  · have hm := hE E hf
    simp only [List.mem_cons, List.not_mem_nil, or_false] at hm
    rcases hm with rfl | rfl
    · refine vx_catch (name := "java/lang/IndexOutOfBoundsException") hown [] ⟨0, 10, 13, 20⟩ [⟨0, 10, 17, 13⟩] (by rw [hT]; rfl) (fun z h9 => absurd h9 List.not_mem_nil) (by decide) (by decide) wd0 (va_Nw.use rfl (htx.2.1 "java/lang/IndexOutOfBoundsException" (by decide))) hcell hcv hcl ?_
      refine lv_astore (lv' := (4, .ref q9) :: [(0, .ref (ax 0)), (1, .int x), (2, .int y), (3, .ref ao)]) hx hb dL_setDemand_13 hl (by decide) rfl (fun ls hl => ?_)
      refine lv_iconst (v := nI 1) hx hb dL_setDemand_15 (by decide) ?_
      exact g_endi hx hb hr hlocks rfl (by rw [hf]; simp [wrapR, codeOf]) hP hD hS (Nat.le_of_ble_eq_true rfl) (Nat.le_of_ble_eq_true rfl) dL_setDemand_16
    · refine vx_catch (name := "java/lang/IllegalArgumentException") hown [⟨0, 10, 13, 20⟩] ⟨0, 10, 17, 13⟩ [] (by rw [hT]; rfl) (List.forall_mem_cons.mpr ⟨Or.inr ⟨by decide, "java/lang/IndexOutOfBoundsException", wd0, hnc _ (by decide) _ (by decide) (by decide)⟩, (fun z h9 => absurd h9 List.not_mem_nil)⟩) (by decide) (by decide) wd1 (va_Nw.use rfl (htx.2.1 "java/lang/IllegalArgumentException" (by decide))) hcell hcv hcl ?_
      refine lv_astore (lv' := (4, .ref q9) :: [(0, .ref (ax 0)), (1, .int x), (2, .int y), (3, .ref ao)]) hx hb dL_setDemand_17 hl (by decide) rfl (fun ls hl => ?_)
      refine lv_iconst (v := nI 2) hx hb dL_setDemand_19 (by decide) ?_
      exact g_endi hx hb hr hlocks rfl (by rw [hf]; simp [wrapR, codeOf]) hP hD hS (Nat.le_of_ble_eq_true rfl) (Nat.le_of_ble_eq_true rfl) dL_setDemand_20
  · refine lv_i2l hx hb dL_setDemand_8 rfl ?_
    refine g_last (wf := (LW cy ax ad ad2 ao)) (σ := (u, fo)) (σ1 := (u, vp_updL fo 0 (r.toInt64))) (n := 1) hx hb hK hP hD hS 127 4 0 LW_get rfl (by decide) (by decide) LW_set dL_setDemand_9 ?_
    intro H locs hP hD hS
    refine lv_goto (tgt := 21) hx hb dL_setDemand_10 (by decide) ?_
    refine lv_iconst (v := nI 0) hx hb dL_setDemand_21 (by decide) ?_
    exact g_endi hx hb hr hlocks rfl (by rw [hf]; rfl) hP hD hS (Nat.le_of_ble_eq_true rfl) (Nat.le_of_ble_eq_true rfl) dL_setDemand_22
abbrev rm_L_shelter : Room := { frames := 8, cells := 2, slots := 12, locals := 133 }
set_option maxHeartbeats 4000000 in
set_option maxRecDepth 100000 in
theorem c_L_shelter (l : Launch) (D : va_G) (cy : Nat → ClassId) (ax ad ad2 : Nat → Nat) (ao : Nat) (σ : Sg × Sg) (fo : Nat → Int64) (x : Int32) (y : Int32) (hI : OkR σ.1) (hE : ∀ E, s_X4_shelter σ x y = .inl E → E ∈ ["java/lang/IndexOutOfBoundsException"]) : gL l yL_shelter wsL_shelter rm_L_shelter D (Ty cy) (LW cy ax ad ad2 ao) [.ref (ax 0), .int x, .int y, .ref ao] (σ, fo) (wrapR (fun r => r.toInt64) ["java/lang/IndexOutOfBoundsException"] (s_X4_shelter σ x y) (σ, fo)) 2 12 := by
  refine gstartL cL_shelter 5 [(0, 10, 13, 20)] RL (by decide) rfl rfl (Nat.le_of_ble_eq_true rfl) ?_
  intro p e s m below meth c A ls hx hb hml hown hts hr hlocks hK hP hD hA hS hl hl0 hT hst htx hnc
  have hl : lv_has ls 5 [(0, .ref (ax 0)), (1, .int x), (2, .int y), (3, .ref ao)] := hl
  have wd0 := hts (.classLink RL 20 "java/lang/IndexOutOfBoundsException") (by decide +kernel)
  refine lv_aload_n hx hb dL_shelter_0 rfl (lv_at hl 3 rfl) ?_
  refine lv_iconst (v := nI 0) hx hb dL_shelter_1 (by decide) ?_
  refine lv_aload_n hx hb dL_shelter_2 rfl (lv_at hl 0 rfl) ?_
  refine lv_iload_n hx hb dL_shelter_3 rfl (lv_at hl 1 rfl) ?_
  refine lv_iload_n hx hb dL_shelter_4 rfl (lv_at hl 2 rfl) ?_
  refine g_callxc (q0 := 0) (wf := (LW cy ax ad ad2 ao)) (σ := (σ, fo)) (wfc := (CW cy ax ad ad2)) (σc := σ) hl0 hst htx hx hb hml hown hts hK hP hD hS hA hl.1 [(ao, .inl (cy 4, 1, .inr (.inl fo)))] (List.Perm.refl _) (fun u => (u, fo)) (fun _ => List.Perm.refl _) [.int x, .int y] (c_X4_shelter l D cy ax ad ad2 σ x y hI) (cwV 2 hts gL_shelter_X4_shelter rfl rfl rfl (by decide +kernel) ⟨Nat.le_of_ble_eq_true rfl, Nat.le_of_ble_eq_true rfl⟩) LW_xo rfl rfl rfl rfl (Nat.le_of_ble_eq_true rfl) dL_shelter_5 ⟨Nat.le_of_ble_eq_true rfl, Nat.le_of_ble_eq_true rfl⟩ rfl rfl (fun E ce q9 hf H locs hP hD hS hcell hcv hcl => ?_) (fun r u hf H locs hP hD hS => ?_)
  · have hm := hE E hf
    simp only [List.mem_cons, List.not_mem_nil, or_false] at hm
    subst hm
    refine vx_catch (name := "java/lang/IndexOutOfBoundsException") hown [] ⟨0, 10, 13, 20⟩ [] (by rw [hT]; rfl) (fun z h9 => absurd h9 List.not_mem_nil) (by decide) (by decide) wd0 (va_Nw.use rfl (htx.2.1 "java/lang/IndexOutOfBoundsException" (by decide))) hcell hcv hcl ?_
    refine lv_astore (lv' := (4, .ref q9) :: [(0, .ref (ax 0)), (1, .int x), (2, .int y), (3, .ref ao)]) hx hb dL_shelter_13 hl (by decide) rfl (fun ls hl => ?_)
    refine lv_iconst (v := nI 1) hx hb dL_shelter_15 (by decide) ?_
    exact g_endi hx hb hr hlocks rfl (by rw [hf]; simp [wrapR, codeOf]) hP hD hS (Nat.le_of_ble_eq_true rfl) (Nat.le_of_ble_eq_true rfl) dL_shelter_16
  · refine lv_i2l hx hb dL_shelter_8 rfl ?_
    refine g_last (wf := (LW cy ax ad ad2 ao)) (σ := (u, fo)) (σ1 := (u, vp_updL fo 0 (r.toInt64))) (n := 1) hx hb hK hP hD hS 127 4 0 LW_get rfl (by decide) (by decide) LW_set dL_shelter_9 ?_
    intro H locs hP hD hS
    refine lv_goto (tgt := 17) hx hb dL_shelter_10 (by decide) ?_
    refine lv_iconst (v := nI 0) hx hb dL_shelter_17 (by decide) ?_
    exact g_endi hx hb hr hlocks rfl (by rw [hf]; rfl) hP hD hS (Nat.le_of_ble_eq_true rfl) (Nat.le_of_ble_eq_true rfl) dL_shelter_18
abbrev rm_L_umbrella : Room := { frames := 8, cells := 2, slots := 12, locals := 133 }
set_option maxHeartbeats 4000000 in
set_option maxRecDepth 100000 in
theorem c_L_umbrella (l : Launch) (D : va_G) (cy : Nat → ClassId) (ax ad ad2 : Nat → Nat) (ao : Nat) (σ : Sg × Sg) (fo : Nat → Int64) (x : Int32) (y : Int32) (hI : OkR σ.1) (hE : ∀ E, s_X4_umbrella σ x y = .inl E → E ∈ ["java/lang/IndexOutOfBoundsException"]) : gL l yL_umbrella wsL_umbrella rm_L_umbrella D (Ty cy) (LW cy ax ad ad2 ao) [.ref (ax 0), .int x, .int y, .ref ao] (σ, fo) (wrapR (fun r => r.toInt64) ["java/lang/IndexOutOfBoundsException"] (s_X4_umbrella σ x y) (σ, fo)) 2 12 := by
  refine gstartL cL_umbrella 5 [(0, 10, 13, 20)] RL (by decide) rfl rfl (Nat.le_of_ble_eq_true rfl) ?_
  intro p e s m below meth c A ls hx hb hml hown hts hr hlocks hK hP hD hA hS hl hl0 hT hst htx hnc
  have hl : lv_has ls 5 [(0, .ref (ax 0)), (1, .int x), (2, .int y), (3, .ref ao)] := hl
  have wd0 := hts (.classLink RL 20 "java/lang/IndexOutOfBoundsException") (by decide +kernel)
  refine lv_aload_n hx hb dL_umbrella_0 rfl (lv_at hl 3 rfl) ?_
  refine lv_iconst (v := nI 0) hx hb dL_umbrella_1 (by decide) ?_
  refine lv_aload_n hx hb dL_umbrella_2 rfl (lv_at hl 0 rfl) ?_
  refine lv_iload_n hx hb dL_umbrella_3 rfl (lv_at hl 1 rfl) ?_
  refine lv_iload_n hx hb dL_umbrella_4 rfl (lv_at hl 2 rfl) ?_
  refine g_callxc (q0 := 0) (wf := (LW cy ax ad ad2 ao)) (σ := (σ, fo)) (wfc := (CW cy ax ad ad2)) (σc := σ) hl0 hst htx hx hb hml hown hts hK hP hD hS hA hl.1 [(ao, .inl (cy 4, 1, .inr (.inl fo)))] (List.Perm.refl _) (fun u => (u, fo)) (fun _ => List.Perm.refl _) [.int x, .int y] (c_X4_umbrella l D cy ax ad ad2 σ x y hI) (cwV 2 hts gL_umbrella_X4_umbrella rfl rfl rfl (by decide +kernel) ⟨Nat.le_of_ble_eq_true rfl, Nat.le_of_ble_eq_true rfl⟩) LW_xo rfl rfl rfl rfl (Nat.le_of_ble_eq_true rfl) dL_umbrella_5 ⟨Nat.le_of_ble_eq_true rfl, Nat.le_of_ble_eq_true rfl⟩ rfl rfl (fun E ce q9 hf H locs hP hD hS hcell hcv hcl => ?_) (fun r u hf H locs hP hD hS => ?_)
  · have hm := hE E hf
    simp only [List.mem_cons, List.not_mem_nil, or_false] at hm
    subst hm
    refine vx_catch (name := "java/lang/IndexOutOfBoundsException") hown [] ⟨0, 10, 13, 20⟩ [] (by rw [hT]; rfl) (fun z h9 => absurd h9 List.not_mem_nil) (by decide) (by decide) wd0 (va_Nw.use rfl (htx.2.1 "java/lang/IndexOutOfBoundsException" (by decide))) hcell hcv hcl ?_
    refine lv_astore (lv' := (4, .ref q9) :: [(0, .ref (ax 0)), (1, .int x), (2, .int y), (3, .ref ao)]) hx hb dL_umbrella_13 hl (by decide) rfl (fun ls hl => ?_)
    refine lv_iconst (v := nI 1) hx hb dL_umbrella_15 (by decide) ?_
    exact g_endi hx hb hr hlocks rfl (by rw [hf]; simp [wrapR, codeOf]) hP hD hS (Nat.le_of_ble_eq_true rfl) (Nat.le_of_ble_eq_true rfl) dL_umbrella_16
  · refine lv_i2l hx hb dL_umbrella_8 rfl ?_
    refine g_last (wf := (LW cy ax ad ad2 ao)) (σ := (u, fo)) (σ1 := (u, vp_updL fo 0 (r.toInt64))) (n := 1) hx hb hK hP hD hS 127 4 0 LW_get rfl (by decide) (by decide) LW_set dL_umbrella_9 ?_
    intro H locs hP hD hS
    refine lv_goto (tgt := 17) hx hb dL_umbrella_10 (by decide) ?_
    refine lv_iconst (v := nI 0) hx hb dL_umbrella_17 (by decide) ?_
    exact g_endi hx hb hr hlocks rfl (by rw [hf]; rfl) hP hD hS (Nat.le_of_ble_eq_true rfl) (Nat.le_of_ble_eq_true rfl) dL_umbrella_18
abbrev rm_L_citizen : Room := { frames := 8, cells := 2, slots := 12, locals := 133 }
set_option maxHeartbeats 4000000 in
set_option maxRecDepth 100000 in
theorem c_L_citizen (l : Launch) (D : va_G) (cy : Nat → ClassId) (ax ad ad2 : Nat → Nat) (ao : Nat) (σ : Sg × Sg) (fo : Nat → Int64) (x : Int32) (y : Int32) (hI : OkR σ.1) (hE : ∀ E, s_X4_citizen σ x y = .inl E → E ∈ ["java/lang/IndexOutOfBoundsException"]) : gL l yL_citizen wsL_citizen rm_L_citizen D (Ty cy) (LW cy ax ad ad2 ao) [.ref (ax 0), .int x, .int y, .ref ao] (σ, fo) (wrapR (fun r => r.toInt64) ["java/lang/IndexOutOfBoundsException"] (s_X4_citizen σ x y) (σ, fo)) 2 12 := by
  refine gstartL cL_citizen 5 [(0, 10, 13, 20)] RL (by decide) rfl rfl (Nat.le_of_ble_eq_true rfl) ?_
  intro p e s m below meth c A ls hx hb hml hown hts hr hlocks hK hP hD hA hS hl hl0 hT hst htx hnc
  have hl : lv_has ls 5 [(0, .ref (ax 0)), (1, .int x), (2, .int y), (3, .ref ao)] := hl
  have wd0 := hts (.classLink RL 20 "java/lang/IndexOutOfBoundsException") (by decide +kernel)
  refine lv_aload_n hx hb dL_citizen_0 rfl (lv_at hl 3 rfl) ?_
  refine lv_iconst (v := nI 0) hx hb dL_citizen_1 (by decide) ?_
  refine lv_aload_n hx hb dL_citizen_2 rfl (lv_at hl 0 rfl) ?_
  refine lv_iload_n hx hb dL_citizen_3 rfl (lv_at hl 1 rfl) ?_
  refine lv_iload_n hx hb dL_citizen_4 rfl (lv_at hl 2 rfl) ?_
  refine g_callxc (q0 := 0) (wf := (LW cy ax ad ad2 ao)) (σ := (σ, fo)) (wfc := (CW cy ax ad ad2)) (σc := σ) hl0 hst htx hx hb hml hown hts hK hP hD hS hA hl.1 [(ao, .inl (cy 4, 1, .inr (.inl fo)))] (List.Perm.refl _) (fun u => (u, fo)) (fun _ => List.Perm.refl _) [.int x, .int y] (c_X4_citizen l D cy ax ad ad2 σ x y hI) (cwV 2 hts gL_citizen_X4_citizen rfl rfl rfl (by decide +kernel) ⟨Nat.le_of_ble_eq_true rfl, Nat.le_of_ble_eq_true rfl⟩) LW_xo rfl rfl rfl rfl (Nat.le_of_ble_eq_true rfl) dL_citizen_5 ⟨Nat.le_of_ble_eq_true rfl, Nat.le_of_ble_eq_true rfl⟩ rfl rfl (fun E ce q9 hf H locs hP hD hS hcell hcv hcl => ?_) (fun r u hf H locs hP hD hS => ?_)
  · have hm := hE E hf
    simp only [List.mem_cons, List.not_mem_nil, or_false] at hm
    subst hm
    refine vx_catch (name := "java/lang/IndexOutOfBoundsException") hown [] ⟨0, 10, 13, 20⟩ [] (by rw [hT]; rfl) (fun z h9 => absurd h9 List.not_mem_nil) (by decide) (by decide) wd0 (va_Nw.use rfl (htx.2.1 "java/lang/IndexOutOfBoundsException" (by decide))) hcell hcv hcl ?_
    refine lv_astore (lv' := (4, .ref q9) :: [(0, .ref (ax 0)), (1, .int x), (2, .int y), (3, .ref ao)]) hx hb dL_citizen_13 hl (by decide) rfl (fun ls hl => ?_)
    refine lv_iconst (v := nI 1) hx hb dL_citizen_15 (by decide) ?_
    exact g_endi hx hb hr hlocks rfl (by rw [hf]; simp [wrapR, codeOf]) hP hD hS (Nat.le_of_ble_eq_true rfl) (Nat.le_of_ble_eq_true rfl) dL_citizen_16
  · refine lv_i2l hx hb dL_citizen_8 rfl ?_
    refine g_last (wf := (LW cy ax ad ad2 ao)) (σ := (u, fo)) (σ1 := (u, vp_updL fo 0 (r.toInt64))) (n := 1) hx hb hK hP hD hS 127 4 0 LW_get rfl (by decide) (by decide) LW_set dL_citizen_9 ?_
    intro H locs hP hD hS
    refine lv_goto (tgt := 17) hx hb dL_citizen_10 (by decide) ?_
    refine lv_iconst (v := nI 0) hx hb dL_citizen_17 (by decide) ?_
    exact g_endi hx hb hr hlocks rfl (by rw [hf]; rfl) hP hD hS (Nat.le_of_ble_eq_true rfl) (Nat.le_of_ble_eq_true rfl) dL_citizen_18
abbrev rm_L_count : Room := { frames := 8, cells := 1, slots := 6, locals := 132 }
set_option maxHeartbeats 4000000 in
set_option maxRecDepth 100000 in
theorem c_L_count (l : Launch) (D : va_G) (cy : Nat → ClassId) (ax ad ad2 : Nat → Nat) (ao : Nat) (σ : Sg × Sg) (fo : Nat → Int64) (x : Int32) (hI : OkR σ.1) (hE : ∀ E, s_X4_count σ x = .inl E → E ∈ ["java/lang/IndexOutOfBoundsException"]) : gL l yL_count wsL_count rm_L_count D (Ty cy) (LW cy ax ad ad2 ao) [.ref (ax 0), .int x, .ref ao] (σ, fo) (wrapR (fun r => r.toInt64) ["java/lang/IndexOutOfBoundsException"] (s_X4_count σ x) (σ, fo)) 1 6 := by
  refine gstartL cL_count 4 [(0, 9, 12, 20)] RL (by decide) rfl rfl (Nat.le_of_ble_eq_true rfl) ?_
  intro p e s m below meth c A ls hx hb hml hown hts hr hlocks hK hP hD hA hS hl hl0 hT hst htx hnc
  have hl : lv_has ls 4 [(0, .ref (ax 0)), (1, .int x), (2, .ref ao)] := hl
  have wd0 := hts (.classLink RL 20 "java/lang/IndexOutOfBoundsException") (by decide +kernel)
  refine lv_aload_n hx hb dL_count_0 rfl (lv_at hl 2 rfl) ?_
  refine lv_iconst (v := nI 0) hx hb dL_count_1 (by decide) ?_
  refine lv_aload_n hx hb dL_count_2 rfl (lv_at hl 0 rfl) ?_
  refine lv_iload_n hx hb dL_count_3 rfl (lv_at hl 1 rfl) ?_
  refine g_callxc (q0 := 0) (wf := (LW cy ax ad ad2 ao)) (σ := (σ, fo)) (wfc := (CW cy ax ad ad2)) (σc := σ) hl0 hst htx hx hb hml hown hts hK hP hD hS hA hl.1 [(ao, .inl (cy 4, 1, .inr (.inl fo)))] (List.Perm.refl _) (fun u => (u, fo)) (fun _ => List.Perm.refl _) [.int x] (c_X4_count l D cy ax ad ad2 σ x hI) (cwV 1 hts gL_count_X4_count rfl rfl rfl (by decide +kernel) ⟨Nat.le_of_ble_eq_true rfl, Nat.le_of_ble_eq_true rfl⟩) LW_xo rfl rfl rfl rfl (Nat.le_of_ble_eq_true rfl) dL_count_4 ⟨Nat.le_of_ble_eq_true rfl, Nat.le_of_ble_eq_true rfl⟩ rfl rfl (fun E ce q9 hf H locs hP hD hS hcell hcv hcl => ?_) (fun r u hf H locs hP hD hS => ?_)
  · have hm := hE E hf
    simp only [List.mem_cons, List.not_mem_nil, or_false] at hm
    subst hm
    refine vx_catch (name := "java/lang/IndexOutOfBoundsException") hown [] ⟨0, 9, 12, 20⟩ [] (by rw [hT]; rfl) (fun z h9 => absurd h9 List.not_mem_nil) (by decide) (by decide) wd0 (va_Nw.use rfl (htx.2.1 "java/lang/IndexOutOfBoundsException" (by decide))) hcell hcv hcl ?_
    refine lv_astore_n (lv' := (3, .ref q9) :: [(0, .ref (ax 0)), (1, .int x), (2, .ref ao)]) hx hb dL_count_12 rfl hl (by decide) rfl (fun ls hl => ?_)
    refine lv_iconst (v := nI 1) hx hb dL_count_13 (by decide) ?_
    exact g_endi hx hb hr hlocks rfl (by rw [hf]; simp [wrapR, codeOf]) hP hD hS (Nat.le_of_ble_eq_true rfl) (Nat.le_of_ble_eq_true rfl) dL_count_14
  · refine lv_i2l hx hb dL_count_7 rfl ?_
    refine g_last (wf := (LW cy ax ad ad2 ao)) (σ := (u, fo)) (σ1 := (u, vp_updL fo 0 (r.toInt64))) (n := 1) hx hb hK hP hD hS 127 4 0 LW_get rfl (by decide) (by decide) LW_set dL_count_8 ?_
    intro H locs hP hD hS
    refine lv_goto (tgt := 15) hx hb dL_count_9 (by decide) ?_
    refine lv_iconst (v := nI 0) hx hb dL_count_15 (by decide) ?_
    exact g_endi hx hb hr hlocks rfl (by rw [hf]; rfl) hP hD hS (Nat.le_of_ble_eq_true rfl) (Nat.le_of_ble_eq_true rfl) dL_count_16
abbrev rm_L_pass : Room := { frames := 8, cells := 1, slots := 6, locals := 138 }
set_option maxHeartbeats 4000000 in
set_option maxRecDepth 100000 in
theorem c_L_pass (l : Launch) (D : va_G) (cy : Nat → ClassId) (ax ad ad2 : Nat → Nat) (ao : Nat) (σ : Sg × Sg) (fo : Nat → Int64) (x : Int32) (hI : OkR σ.1) (hE : ∀ E, s_X4_pass σ x = .inl E → E ∈ ["java/lang/IllegalArgumentException"]) : gL l yL_pass wsL_pass rm_L_pass D (Ty cy) (LW cy ax ad ad2 ao) [.ref (ax 0), .int x, .ref ao] (σ, fo) (wrapR (fun r => r.toInt64) ["java/lang/IllegalArgumentException"] (s_X4_pass σ x) (σ, fo)) 1 6 := by
  refine gstartL cL_pass 4 [(0, 9, 12, 13)] RL (by decide) rfl rfl (Nat.le_of_ble_eq_true rfl) ?_
  intro p e s m below meth c A ls hx hb hml hown hts hr hlocks hK hP hD hA hS hl hl0 hT hst htx hnc
  have hl : lv_has ls 4 [(0, .ref (ax 0)), (1, .int x), (2, .ref ao)] := hl
  have wd0 := hts (.classLink RL 13 "java/lang/IllegalArgumentException") (by decide +kernel)
  refine lv_aload_n hx hb dL_pass_0 rfl (lv_at hl 2 rfl) ?_
  refine lv_iconst (v := nI 0) hx hb dL_pass_1 (by decide) ?_
  refine lv_aload_n hx hb dL_pass_2 rfl (lv_at hl 0 rfl) ?_
  refine lv_iload_n hx hb dL_pass_3 rfl (lv_at hl 1 rfl) ?_
  refine g_callxc (q0 := 0) (wf := (LW cy ax ad ad2 ao)) (σ := (σ, fo)) (wfc := (CW cy ax ad ad2)) (σc := σ) hl0 hst htx hx hb hml hown hts hK hP hD hS hA hl.1 [(ao, .inl (cy 4, 1, .inr (.inl fo)))] (List.Perm.refl _) (fun u => (u, fo)) (fun _ => List.Perm.refl _) [.int x] (c_X4_pass l D cy ax ad ad2 σ x hI) (cwV 1 hts gL_pass_X4_pass rfl rfl rfl (by decide +kernel) ⟨Nat.le_of_ble_eq_true rfl, Nat.le_of_ble_eq_true rfl⟩) LW_xo rfl rfl rfl rfl (Nat.le_of_ble_eq_true rfl) dL_pass_4 ⟨Nat.le_of_ble_eq_true rfl, Nat.le_of_ble_eq_true rfl⟩ rfl rfl (fun E ce q9 hf H locs hP hD hS hcell hcv hcl => ?_) (fun r u hf H locs hP hD hS => ?_)
  · have hm := hE E hf
    simp only [List.mem_cons, List.not_mem_nil, or_false] at hm
    subst hm
    refine vx_catch (name := "java/lang/IllegalArgumentException") hown [] ⟨0, 9, 12, 13⟩ [] (by rw [hT]; rfl) (fun z h9 => absurd h9 List.not_mem_nil) (by decide) (by decide) wd0 (va_Nw.use rfl (htx.2.1 "java/lang/IllegalArgumentException" (by decide))) hcell hcv hcl ?_
    refine lv_astore_n (lv' := (3, .ref q9) :: [(0, .ref (ax 0)), (1, .int x), (2, .ref ao)]) hx hb dL_pass_12 rfl hl (by decide) rfl (fun ls hl => ?_)
    refine lv_iconst (v := nI 1) hx hb dL_pass_13 (by decide) ?_
    exact g_endi hx hb hr hlocks rfl (by rw [hf]; simp [wrapR, codeOf]) hP hD hS (Nat.le_of_ble_eq_true rfl) (Nat.le_of_ble_eq_true rfl) dL_pass_14
  · refine lv_i2l hx hb dL_pass_7 rfl ?_
    refine g_last (wf := (LW cy ax ad ad2 ao)) (σ := (u, fo)) (σ1 := (u, vp_updL fo 0 (r.toInt64))) (n := 1) hx hb hK hP hD hS 127 4 0 LW_get rfl (by decide) (by decide) LW_set dL_pass_8 ?_
    intro H locs hP hD hS
    refine lv_goto (tgt := 15) hx hb dL_pass_9 (by decide) ?_
    refine lv_iconst (v := nI 0) hx hb dL_pass_15 (by decide) ?_
    exact g_endi hx hb hr hlocks rfl (by rw [hf]; rfl) hP hD hS (Nat.le_of_ble_eq_true rfl) (Nat.le_of_ble_eq_true rfl) dL_pass_16
abbrev rm_L_foresee : Room := { frames := 8, cells := 2, slots := 12, locals := 139 }
set_option maxHeartbeats 4000000 in
set_option maxRecDepth 100000 in
theorem c_L_foresee (l : Launch) (D : va_G) (cy : Nat → ClassId) (ax ad ad2 : Nat → Nat) (ao : Nat) (σ : Sg × Sg) (fo : Nat → Int64) (x : Int32) (y : Int32) (hI : OkR σ.1) (hE : ∀ E, s_X4_foresee σ x y = .inl E → E ∈ ["java/lang/IllegalArgumentException", "java/lang/IndexOutOfBoundsException"]) : gL l yL_foresee wsL_foresee rm_L_foresee D (Ty cy) (LW cy ax ad ad2 ao) [.ref (ax 0), .int x, .int y, .ref ao] (σ, fo) (wrapR (fun r => r.toInt64) ["java/lang/IllegalArgumentException", "java/lang/IndexOutOfBoundsException"] (s_X4_foresee σ x y) (σ, fo)) 2 12 := by
  refine gstartL cL_foresee 5 [(0, 10, 13, 13), (0, 10, 17, 20)] RL (by decide) rfl rfl (Nat.le_of_ble_eq_true rfl) ?_
  intro p e s m below meth c A ls hx hb hml hown hts hr hlocks hK hP hD hA hS hl hl0 hT hst htx hnc
  have hl : lv_has ls 5 [(0, .ref (ax 0)), (1, .int x), (2, .int y), (3, .ref ao)] := hl
  have wd0 := hts (.classLink RL 13 "java/lang/IllegalArgumentException") (by decide +kernel)
  have wd1 := hts (.classLink RL 20 "java/lang/IndexOutOfBoundsException") (by decide +kernel)
  refine lv_aload_n hx hb dL_foresee_0 rfl (lv_at hl 3 rfl) ?_
  refine lv_iconst (v := nI 0) hx hb dL_foresee_1 (by decide) ?_
  refine lv_aload_n hx hb dL_foresee_2 rfl (lv_at hl 0 rfl) ?_
  refine lv_iload_n hx hb dL_foresee_3 rfl (lv_at hl 1 rfl) ?_
  refine lv_iload_n hx hb dL_foresee_4 rfl (lv_at hl 2 rfl) ?_
  refine g_callxc (q0 := 0) (wf := (LW cy ax ad ad2 ao)) (σ := (σ, fo)) (wfc := (CW cy ax ad ad2)) (σc := σ) hl0 hst htx hx hb hml hown hts hK hP hD hS hA hl.1 [(ao, .inl (cy 4, 1, .inr (.inl fo)))] (List.Perm.refl _) (fun u => (u, fo)) (fun _ => List.Perm.refl _) [.int x, .int y] (c_X4_foresee l D cy ax ad ad2 σ x y hI) (cwV 2 hts gL_foresee_X4_foresee rfl rfl rfl (by decide +kernel) ⟨Nat.le_of_ble_eq_true rfl, Nat.le_of_ble_eq_true rfl⟩) LW_xo rfl rfl rfl rfl (Nat.le_of_ble_eq_true rfl) dL_foresee_5 ⟨Nat.le_of_ble_eq_true rfl, Nat.le_of_ble_eq_true rfl⟩ rfl rfl (fun E ce q9 hf H locs hP hD hS hcell hcv hcl => ?_) (fun r u hf H locs hP hD hS => ?_)
  · have hm := hE E hf
    simp only [List.mem_cons, List.not_mem_nil, or_false] at hm
    rcases hm with rfl | rfl
    · refine vx_catch (name := "java/lang/IllegalArgumentException") hown [] ⟨0, 10, 13, 13⟩ [⟨0, 10, 17, 20⟩] (by rw [hT]; rfl) (fun z h9 => absurd h9 List.not_mem_nil) (by decide) (by decide) wd0 (va_Nw.use rfl (htx.2.1 "java/lang/IllegalArgumentException" (by decide))) hcell hcv hcl ?_
      refine lv_astore (lv' := (4, .ref q9) :: [(0, .ref (ax 0)), (1, .int x), (2, .int y), (3, .ref ao)]) hx hb dL_foresee_13 hl (by decide) rfl (fun ls hl => ?_)
      refine lv_iconst (v := nI 1) hx hb dL_foresee_15 (by decide) ?_
      exact g_endi hx hb hr hlocks rfl (by rw [hf]; simp [wrapR, codeOf]) hP hD hS (Nat.le_of_ble_eq_true rfl) (Nat.le_of_ble_eq_true rfl) dL_foresee_16
    · refine vx_catch (name := "java/lang/IndexOutOfBoundsException") hown [⟨0, 10, 13, 13⟩] ⟨0, 10, 17, 20⟩ [] (by rw [hT]; rfl) (List.forall_mem_cons.mpr ⟨Or.inr ⟨by decide, "java/lang/IllegalArgumentException", wd0, hnc _ (by decide) _ (by decide) (by decide)⟩, (fun z h9 => absurd h9 List.not_mem_nil)⟩) (by decide) (by decide) wd1 (va_Nw.use rfl (htx.2.1 "java/lang/IndexOutOfBoundsException" (by decide))) hcell hcv hcl ?_
      refine lv_astore (lv' := (4, .ref q9) :: [(0, .ref (ax 0)), (1, .int x), (2, .int y), (3, .ref ao)]) hx hb dL_foresee_17 hl (by decide) rfl (fun ls hl => ?_)
      refine lv_iconst (v := nI 2) hx hb dL_foresee_19 (by decide) ?_
      exact g_endi hx hb hr hlocks rfl (by rw [hf]; simp [wrapR, codeOf]) hP hD hS (Nat.le_of_ble_eq_true rfl) (Nat.le_of_ble_eq_true rfl) dL_foresee_20
  · refine lv_i2l hx hb dL_foresee_8 rfl ?_
    refine g_last (wf := (LW cy ax ad ad2 ao)) (σ := (u, fo)) (σ1 := (u, vp_updL fo 0 (r.toInt64))) (n := 1) hx hb hK hP hD hS 127 4 0 LW_get rfl (by decide) (by decide) LW_set dL_foresee_9 ?_
    intro H locs hP hD hS
    refine lv_goto (tgt := 21) hx hb dL_foresee_10 (by decide) ?_
    refine lv_iconst (v := nI 0) hx hb dL_foresee_21 (by decide) ?_
    exact g_endi hx hb hr hlocks rfl (by rw [hf]; rfl) hP hD hS (Nat.le_of_ble_eq_true rfl) (Nat.le_of_ble_eq_true rfl) dL_foresee_22
abbrev rm_L_advise : Room := { frames := 8, cells := 2, slots := 12, locals := 164 }
set_option maxHeartbeats 4000000 in
set_option maxRecDepth 100000 in
theorem c_L_advise (l : Launch) (D : va_G) (cy : Nat → ClassId) (ax ad ad2 : Nat → Nat) (ao : Nat) (σ : Sg × Sg) (fo : Nat → Int64) (x : Int32) (hI : OkR σ.1) (hE : ∀ E, s_X4_advise σ x = .inl E → E ∈ ["java/lang/IllegalArgumentException", "java/lang/IllegalStateException"]) : gL l yL_advise wsL_advise rm_L_advise D (Ty cy) (LW cy ax ad ad2 ao) [.ref (ax 0), .int x, .ref ao] (σ, fo) (wrapR (fun r => r.toInt64) ["java/lang/IllegalArgumentException", "java/lang/IllegalStateException"] (s_X4_advise σ x) (σ, fo)) 2 12 := by
  refine gstartL cL_advise 4 [(0, 9, 12, 13), (0, 9, 15, 15)] RL (by decide) rfl rfl (Nat.le_of_ble_eq_true rfl) ?_
  intro p e s m below meth c A ls hx hb hml hown hts hr hlocks hK hP hD hA hS hl hl0 hT hst htx hnc
  have hl : lv_has ls 4 [(0, .ref (ax 0)), (1, .int x), (2, .ref ao)] := hl
  have wd0 := hts (.classLink RL 13 "java/lang/IllegalArgumentException") (by decide +kernel)
  have wd1 := hts (.classLink RL 15 "java/lang/IllegalStateException") (by decide +kernel)
  refine lv_aload_n hx hb dL_advise_0 rfl (lv_at hl 2 rfl) ?_
  refine lv_iconst (v := nI 0) hx hb dL_advise_1 (by decide) ?_
  refine lv_aload_n hx hb dL_advise_2 rfl (lv_at hl 0 rfl) ?_
  refine lv_iload_n hx hb dL_advise_3 rfl (lv_at hl 1 rfl) ?_
  refine g_callxc (q0 := 0) (wf := (LW cy ax ad ad2 ao)) (σ := (σ, fo)) (wfc := (CW cy ax ad ad2)) (σc := σ) hl0 hst htx hx hb hml hown hts hK hP hD hS hA hl.1 [(ao, .inl (cy 4, 1, .inr (.inl fo)))] (List.Perm.refl _) (fun u => (u, fo)) (fun _ => List.Perm.refl _) [.int x] (c_X4_advise l D cy ax ad ad2 σ x hI) (cwV 1 hts gL_advise_X4_advise rfl rfl rfl (by decide +kernel) ⟨Nat.le_of_ble_eq_true rfl, Nat.le_of_ble_eq_true rfl⟩) LW_xo rfl rfl rfl rfl (Nat.le_of_ble_eq_true rfl) dL_advise_4 ⟨Nat.le_of_ble_eq_true rfl, Nat.le_of_ble_eq_true rfl⟩ rfl rfl (fun E ce q9 hf H locs hP hD hS hcell hcv hcl => ?_) (fun r u hf H locs hP hD hS => ?_)
  · have hm := hE E hf
    simp only [List.mem_cons, List.not_mem_nil, or_false] at hm
    rcases hm with rfl | rfl
    · refine vx_catch (name := "java/lang/IllegalArgumentException") hown [] ⟨0, 9, 12, 13⟩ [⟨0, 9, 15, 15⟩] (by rw [hT]; rfl) (fun z h9 => absurd h9 List.not_mem_nil) (by decide) (by decide) wd0 (va_Nw.use rfl (htx.2.1 "java/lang/IllegalArgumentException" (by decide))) hcell hcv hcl ?_
      refine lv_astore_n (lv' := (3, .ref q9) :: [(0, .ref (ax 0)), (1, .int x), (2, .ref ao)]) hx hb dL_advise_12 rfl hl (by decide) rfl (fun ls hl => ?_)
      refine lv_iconst (v := nI 1) hx hb dL_advise_13 (by decide) ?_
      exact g_endi hx hb hr hlocks rfl (by rw [hf]; simp [wrapR, codeOf]) hP hD hS (Nat.le_of_ble_eq_true rfl) (Nat.le_of_ble_eq_true rfl) dL_advise_14
    · refine vx_catch (name := "java/lang/IllegalStateException") hown [⟨0, 9, 12, 13⟩] ⟨0, 9, 15, 15⟩ [] (by rw [hT]; rfl) (List.forall_mem_cons.mpr ⟨Or.inr ⟨by decide, "java/lang/IllegalArgumentException", wd0, hnc _ (by decide) _ (by decide) (by decide)⟩, (fun z h9 => absurd h9 List.not_mem_nil)⟩) (by decide) (by decide) wd1 (va_Nw.use rfl (htx.2.1 "java/lang/IllegalStateException" (by decide))) hcell hcv hcl ?_
      refine lv_astore_n (lv' := (3, .ref q9) :: [(0, .ref (ax 0)), (1, .int x), (2, .ref ao)]) hx hb dL_advise_15 rfl hl (by decide) rfl (fun ls hl => ?_)
      refine lv_iconst (v := nI 2) hx hb dL_advise_16 (by decide) ?_
      exact g_endi hx hb hr hlocks rfl (by rw [hf]; simp [wrapR, codeOf]) hP hD hS (Nat.le_of_ble_eq_true rfl) (Nat.le_of_ble_eq_true rfl) dL_advise_17
  · refine lv_i2l hx hb dL_advise_7 rfl ?_
    refine g_last (wf := (LW cy ax ad ad2 ao)) (σ := (u, fo)) (σ1 := (u, vp_updL fo 0 (r.toInt64))) (n := 1) hx hb hK hP hD hS 127 4 0 LW_get rfl (by decide) (by decide) LW_set dL_advise_8 ?_
    intro H locs hP hD hS
    refine lv_goto (tgt := 18) hx hb dL_advise_9 (by decide) ?_
    refine lv_iconst (v := nI 0) hx hb dL_advise_18 (by decide) ?_
    exact g_endi hx hb hr hlocks rfl (by rw [hf]; rfl) hP hD hS (Nat.le_of_ble_eq_true rfl) (Nat.le_of_ble_eq_true rfl) dL_advise_19
abbrev rm_L_wouldGet : Room := { frames := 8, cells := 2, slots := 12, locals := 133 }
set_option maxHeartbeats 4000000 in
set_option maxRecDepth 100000 in
theorem c_L_wouldGet (l : Launch) (D : va_G) (cy : Nat → ClassId) (ax ad ad2 : Nat → Nat) (ao : Nat) (σ : Sg × Sg) (fo : Nat → Int64) (x : Int32) (y : Int32) (hI : OkR σ.1) (hE : ∀ E, s_X4_wouldGet σ x y = .inl E → E ∈ ["java/lang/IndexOutOfBoundsException"]) : gL l yL_wouldGet wsL_wouldGet rm_L_wouldGet D (Ty cy) (LW cy ax ad ad2 ao) [.ref (ax 0), .int x, .int y, .ref ao] (σ, fo) (wrapR (fun r => if r = 0 then (0 : Int64) else 1) ["java/lang/IndexOutOfBoundsException"] (s_X4_wouldGet σ x y) (σ, fo)) 2 12 := by
  refine gstartL cL_wouldGet 5 [(0, 17, 20, 20)] RL (by decide) rfl rfl (Nat.le_of_ble_eq_true rfl) ?_
  intro p e s m below meth c A ls hx hb hml hown hts hr hlocks hK hP hD hA hS hl hl0 hT hst htx hnc
  have hl : lv_has ls 5 [(0, .ref (ax 0)), (1, .int x), (2, .int y), (3, .ref ao)] := hl
  have wd0 := hts (.classLink RL 20 "java/lang/IndexOutOfBoundsException") (by decide +kernel)
  refine lv_aload_n hx hb dL_wouldGet_0 rfl (lv_at hl 3 rfl) ?_
  refine lv_iconst (v := nI 0) hx hb dL_wouldGet_1 (by decide) ?_
  refine lv_aload_n hx hb dL_wouldGet_2 rfl (lv_at hl 0 rfl) ?_
  refine lv_iload_n hx hb dL_wouldGet_3 rfl (lv_at hl 1 rfl) ?_
  refine lv_iload_n hx hb dL_wouldGet_4 rfl (lv_at hl 2 rfl) ?_
  refine g_callxc (q0 := 0) (wf := (LW cy ax ad ad2 ao)) (σ := (σ, fo)) (wfc := (CW cy ax ad ad2)) (σc := σ) hl0 hst htx hx hb hml hown hts hK hP hD hS hA hl.1 [(ao, .inl (cy 4, 1, .inr (.inl fo)))] (List.Perm.refl _) (fun u => (u, fo)) (fun _ => List.Perm.refl _) [.int x, .int y] (c_X4_wouldGet l D cy ax ad ad2 σ x y hI) (cwV 2 hts gL_wouldGet_X4_wouldGet rfl rfl rfl (by decide +kernel) ⟨Nat.le_of_ble_eq_true rfl, Nat.le_of_ble_eq_true rfl⟩) LW_xo rfl rfl rfl rfl (Nat.le_of_ble_eq_true rfl) dL_wouldGet_5 ⟨Nat.le_of_ble_eq_true rfl, Nat.le_of_ble_eq_true rfl⟩ rfl rfl (fun E ce q9 hf H locs hP hD hS hcell hcv hcl => ?_) (fun r u hf H locs hP hD hS => ?_)
  · have hm := hE E hf
    simp only [List.mem_cons, List.not_mem_nil, or_false] at hm
    subst hm
    refine vx_catch (name := "java/lang/IndexOutOfBoundsException") hown [] ⟨0, 17, 20, 20⟩ [] (by rw [hT]; rfl) (fun z h9 => absurd h9 List.not_mem_nil) (by decide) (by decide) wd0 (va_Nw.use rfl (htx.2.1 "java/lang/IndexOutOfBoundsException" (by decide))) hcell hcv hcl ?_
    refine lv_astore (lv' := (4, .ref q9) :: [(0, .ref (ax 0)), (1, .int x), (2, .int y), (3, .ref ao)]) hx hb dL_wouldGet_20 hl (by decide) rfl (fun ls hl => ?_)
    refine lv_iconst (v := nI 1) hx hb dL_wouldGet_22 (by decide) ?_
    exact g_endi hx hb hr hlocks rfl (by rw [hf]; simp [wrapR, codeOf]) hP hD hS (Nat.le_of_ble_eq_true rfl) (Nat.le_of_ble_eq_true rfl) dL_wouldGet_23
  · refine lv_if_eq (tgt := 15) hx hb dL_wouldGet_8 (by decide) (fun h9 => ?_) (fun h9 => ?_)
    · refine lv_lconst (v := (0 : Int64)) hx hb dL_wouldGet_15 rfl ?_
      refine g_last (wf := (LW cy ax ad ad2 ao)) (σ := (u, fo)) (σ1 := (u, vp_updL fo 0 ((0 : Int64)))) (n := 1) hx hb hK hP hD hS 127 4 0 LW_get rfl (by decide) (by decide) LW_set dL_wouldGet_16 ?_
      intro H locs hP hD hS
      refine lv_goto (tgt := 24) hx hb dL_wouldGet_17 (by decide) ?_
      refine lv_iconst (v := nI 0) hx hb dL_wouldGet_24 (by decide) ?_
      exact g_endi hx hb hr hlocks rfl (by rw [hf]; simp [wrapR, h9]) hP hD hS (Nat.le_of_ble_eq_true rfl) (Nat.le_of_ble_eq_true rfl) dL_wouldGet_25
    · refine lv_lconst (v := (1 : Int64)) hx hb dL_wouldGet_11 rfl ?_
      refine lv_goto (tgt := 16) hx hb dL_wouldGet_12 (by decide) ?_
      refine g_last (wf := (LW cy ax ad ad2 ao)) (σ := (u, fo)) (σ1 := (u, vp_updL fo 0 ((1 : Int64)))) (n := 1) hx hb hK hP hD hS 127 4 0 LW_get rfl (by decide) (by decide) LW_set dL_wouldGet_16 ?_
      intro H locs hP hD hS
      refine lv_goto (tgt := 24) hx hb dL_wouldGet_17 (by decide) ?_
      refine lv_iconst (v := nI 0) hx hb dL_wouldGet_24 (by decide) ?_
      exact g_endi hx hb hr hlocks rfl (by rw [hf]; simp [wrapR, h9]) hP hD hS (Nat.le_of_ble_eq_true rfl) (Nat.le_of_ble_eq_true rfl) dL_wouldGet_25
abbrev rm_L_lasts : Room := { frames := 8, cells := 2, slots := 12, locals := 135 }
set_option maxHeartbeats 4000000 in
set_option maxRecDepth 100000 in
theorem c_L_lasts (l : Launch) (D : va_G) (cy : Nat → ClassId) (ax ad ad2 : Nat → Nat) (ao : Nat) (σ : Sg × Sg) (fo : Nat → Int64) (x : Int32) (y : Int32) (hI : OkR σ.1) (hE : ∀ E, s_X4_lasts σ x y = .inl E → E ∈ ["java/lang/IndexOutOfBoundsException"]) : gL l yL_lasts wsL_lasts rm_L_lasts D (Ty cy) (LW cy ax ad ad2 ao) [.ref (ax 0), .int x, .int y, .ref ao] (σ, fo) (wrapR (fun r => r.toInt64) ["java/lang/IndexOutOfBoundsException"] (s_X4_lasts σ x y) (σ, fo)) 2 12 := by
  refine gstartL cL_lasts 5 [(0, 10, 13, 20)] RL (by decide) rfl rfl (Nat.le_of_ble_eq_true rfl) ?_
  intro p e s m below meth c A ls hx hb hml hown hts hr hlocks hK hP hD hA hS hl hl0 hT hst htx hnc
  have hl : lv_has ls 5 [(0, .ref (ax 0)), (1, .int x), (2, .int y), (3, .ref ao)] := hl
  have wd0 := hts (.classLink RL 20 "java/lang/IndexOutOfBoundsException") (by decide +kernel)
  refine lv_aload_n hx hb dL_lasts_0 rfl (lv_at hl 3 rfl) ?_
  refine lv_iconst (v := nI 0) hx hb dL_lasts_1 (by decide) ?_
  refine lv_aload_n hx hb dL_lasts_2 rfl (lv_at hl 0 rfl) ?_
  refine lv_iload_n hx hb dL_lasts_3 rfl (lv_at hl 1 rfl) ?_
  refine lv_iload_n hx hb dL_lasts_4 rfl (lv_at hl 2 rfl) ?_
  refine g_callxc (q0 := 0) (wf := (LW cy ax ad ad2 ao)) (σ := (σ, fo)) (wfc := (CW cy ax ad ad2)) (σc := σ) hl0 hst htx hx hb hml hown hts hK hP hD hS hA hl.1 [(ao, .inl (cy 4, 1, .inr (.inl fo)))] (List.Perm.refl _) (fun u => (u, fo)) (fun _ => List.Perm.refl _) [.int x, .int y] (c_X4_lasts l D cy ax ad ad2 σ x y hI) (cwV 2 hts gL_lasts_X4_lasts rfl rfl rfl (by decide +kernel) ⟨Nat.le_of_ble_eq_true rfl, Nat.le_of_ble_eq_true rfl⟩) LW_xo rfl rfl rfl rfl (Nat.le_of_ble_eq_true rfl) dL_lasts_5 ⟨Nat.le_of_ble_eq_true rfl, Nat.le_of_ble_eq_true rfl⟩ rfl rfl (fun E ce q9 hf H locs hP hD hS hcell hcv hcl => ?_) (fun r u hf H locs hP hD hS => ?_)
  · have hm := hE E hf
    simp only [List.mem_cons, List.not_mem_nil, or_false] at hm
    subst hm
    refine vx_catch (name := "java/lang/IndexOutOfBoundsException") hown [] ⟨0, 10, 13, 20⟩ [] (by rw [hT]; rfl) (fun z h9 => absurd h9 List.not_mem_nil) (by decide) (by decide) wd0 (va_Nw.use rfl (htx.2.1 "java/lang/IndexOutOfBoundsException" (by decide))) hcell hcv hcl ?_
    refine lv_astore (lv' := (4, .ref q9) :: [(0, .ref (ax 0)), (1, .int x), (2, .int y), (3, .ref ao)]) hx hb dL_lasts_13 hl (by decide) rfl (fun ls hl => ?_)
    refine lv_iconst (v := nI 1) hx hb dL_lasts_15 (by decide) ?_
    exact g_endi hx hb hr hlocks rfl (by rw [hf]; simp [wrapR, codeOf]) hP hD hS (Nat.le_of_ble_eq_true rfl) (Nat.le_of_ble_eq_true rfl) dL_lasts_16
  · refine lv_i2l hx hb dL_lasts_8 rfl ?_
    refine g_last (wf := (LW cy ax ad ad2 ao)) (σ := (u, fo)) (σ1 := (u, vp_updL fo 0 (r.toInt64))) (n := 1) hx hb hK hP hD hS 127 4 0 LW_get rfl (by decide) (by decide) LW_set dL_lasts_9 ?_
    intro H locs hP hD hS
    refine lv_goto (tgt := 17) hx hb dL_lasts_10 (by decide) ?_
    refine lv_iconst (v := nI 0) hx hb dL_lasts_17 (by decide) ?_
    exact g_endi hx hb hr hlocks rfl (by rw [hf]; rfl) hP hD hS (Nat.le_of_ble_eq_true rfl) (Nat.le_of_ble_eq_true rfl) dL_lasts_18
