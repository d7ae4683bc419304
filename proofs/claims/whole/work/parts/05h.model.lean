def s_X6_thrown (σ : Sg × Sg × Sg) : Int32 := σ.1 0 0
abbrev rm_X6_thrown : Room := { frames := 0, cells := 0, slots := 0, locals := 0 }
set_option maxHeartbeats 4000000 in
set_option maxRecDepth 100000 in
theorem c_X6_thrown (l : Launch) (D : va_G) (cy : Nat → ClassId) (ax ad ad2 : Nat → Nat) (σ : Sg × Sg × Sg)  : gMrN l yX6_thrown wsX6_thrown rm_X6_thrown D (Ty cy) (MW cy ax ad ad2) [.ref (ax 0)] σ (s_X6_thrown σ) 0 0 := by
  refine gstartiN cX6_thrown 1 RX6 (by decide) rfl rfl (Nat.le_of_ble_eq_true rfl) ?_
  intro p e s m below meth c A ls hx hb hml hown hts hr hlocks hK hP hD hA hS hl hnw
  have hl : lv_has ls 1 [(0, .ref (ax 0))] := hl
  have hf : s_X6_thrown σ = s_X6_thrown σ := rfl
  have hz : σ.2.1 0 = σ.2.1 0 := rfl
  have hin6 : ∀ w ∈ wsX60, w ∈ wsX6_thrown := by decide +kernel
  have wd0 := hts (.fieldLink RX6 25 "UmbrellaLandModel" "thrown" "I") (by decide +kernel)
  refine lv_aload_n hx hb dX6_thrown_0 rfl (lv_at hl 0 rfl) ?_
  refine va_get (D := D) (ci := 6) (v := .int (σ.1 0 0)) (C := RX6) (T := TX6) (N := 4) hx hb hts hin6 hown hK hP (0) (gx_l (OW_ob cy ax (ad 0) (ad2 0) σ.1)) rfl 0 (by decide) wd0 (fun _ h9 => h9) rfl dX6_thrown_1 ?_
  exact g_endi hx hb hr hlocks rfl (congrArg (fun r => (r, σ)) hf) hP hD hS (Nat.le_of_ble_eq_true rfl) (Nat.le_of_ble_eq_true rfl) dX6_thrown_4
def s_X6_no (σ : Sg × Sg × Sg) (x : Int32) : Int32 × (Sg × Sg × Sg) := ltt ((up σ.1 0 0 x, σ.2)) (fun u1 => (nI 0, u1))
abbrev rm_X6_no : Room := { frames := 0, cells := 0, slots := 0, locals := 0 }
set_option maxHeartbeats 4000000 in
set_option maxRecDepth 100000 in
theorem c_X6_no (l : Launch) (D : va_G) (cy : Nat → ClassId) (ax ad ad2 : Nat → Nat) (σ : Sg × Sg × Sg) (x : Int32)  : gMiN l yX6_no wsX6_no rm_X6_no D (Ty cy) (MW cy ax ad ad2) [.ref (ax 0), .int (x)] σ (s_X6_no σ x) 0 0 := by
  refine gstartiN cX6_no 2 RX6 (by decide) rfl rfl (Nat.le_of_ble_eq_true rfl) ?_
  intro p e s m below meth c A ls hx hb hml hown hts hr hlocks hK hP hD hA hS hl hnw
  have hl : lv_has ls 2 [(0, .ref (ax 0)), (1, .int (x))] := hl
  have hf : s_X6_no σ x = s_X6_no σ x := rfl
  have hz : σ.2.1 0 = σ.2.1 0 := rfl
  have hin6 : ∀ w ∈ wsX60, w ∈ wsX6_no := by decide +kernel
  have wd0 := hts (.fieldLink RX6 25 "UmbrellaLandModel" "thrown" "I") (by decide +kernel)
  refine lv_aload_n hx hb dX6_no_0 rfl (lv_at hl 0 rfl) ?_
  refine lv_iload_n hx hb dX6_no_1 rfl (lv_at hl 1 rfl) ?_
  refine g_put (σ1 := (up σ.1 0 0 x, σ.2)) (fs := moF ax (ad 0) (ad2 0) (σ.1 0)) (C := RX6) (T := TX6) (N := 4) hx hb hts hin6 tyX6_ok nmX6 hown hK hP hD hS (0) (gx_l (OW_ob cy ax (ad 0) (ad2 0) σ.1)) rfl 0 (by decide) wd0 rfl rfl (Nat.le_of_ble_eq_true rfl) (gx_setl (by rw [WD_len]; omega) (OW_ob_set cy ax (ad 0) (ad2 0) σ.1 0 (by decide) _)) dX6_no_2 ?_
  intro u1 eu1 H locs hP hD hS
  replace hf := hf.trans (ltt_r eu1)
  have hz : u1.2.1 0 = σ.2.1 0 := by rw [eu1]; first | done | exact hz
  refine lv_iconst (v := nI 0) hx hb dX6_no_5 (by decide) ?_
  exact g_endi hx hb hr hlocks rfl hf hP hD hS (Nat.le_of_ble_eq_true rfl) (Nat.le_of_ble_eq_true rfl) dX6_no_6
def s_X6_isIn (x : Int32) (y : Int32) (z : Int32) : Int32 := if x < y then nI 0 else if z < x then nI 0 else nI 1
abbrev rm_X6_isIn : Room := { frames := 0, cells := 0, slots := 0, locals := 0 }
set_option maxHeartbeats 4000000 in
set_option maxRecDepth 100000 in
theorem c_X6_isIn (l : Launch) (D : va_G) (cy : Nat → ClassId) (x : Int32) (y : Int32) (z : Int32)  : gMr l yX6_isIn wsX6_isIn rm_X6_isIn D (Ty cy) w0 [.int (x), .int (y), .int (z)] () (s_X6_isIn x y z) 0 0 := by
  refine gstarti cX6_isIn 3 RX6 (by decide) rfl rfl (Nat.le_of_ble_eq_true rfl) ?_
  intro p e s m below meth c A ls hx hb hml hown hts hr hlocks hK hP hD hA hS hl
  have hl : lv_has ls 3 [(0, .int (x)), (1, .int (y)), (2, .int (z))] := hl
  have hf : s_X6_isIn x y z = s_X6_isIn x y z := rfl
  refine lv_iload_n hx hb dX6_isIn_0 rfl (lv_at hl 0 rfl) ?_
  refine lv_iload_n hx hb dX6_isIn_1 rfl (lv_at hl 1 rfl) ?_
  refine lv_icmp_lt (tgt := 14) hx hb dX6_isIn_2 (by decide) (fun c1 => ?_) (fun c1 => ?_)
  · replace hf := hf.trans (if_pos c1)
    refine lv_iconst (v := nI 0) hx hb dX6_isIn_14 (by decide) ?_
    exact g_endi hx hb hr hlocks rfl (congrArg (fun r => (r, ())) hf) hP hD hS (Nat.le_of_ble_eq_true rfl) (Nat.le_of_ble_eq_true rfl) dX6_isIn_15
  · replace hf := hf.trans (if_neg c1)
    refine lv_iload_n hx hb dX6_isIn_5 rfl (lv_at hl 0 rfl) ?_
    refine lv_iload_n hx hb dX6_isIn_6 rfl (lv_at hl 2 rfl) ?_
    refine lv_icmp_gt (tgt := 14) hx hb dX6_isIn_7 (by decide) (fun c2 => ?_) (fun c2 => ?_)
    · replace hf := hf.trans (if_pos c2)
      refine lv_iconst (v := nI 0) hx hb dX6_isIn_14 (by decide) ?_
      exact g_endi hx hb hr hlocks rfl (congrArg (fun r => (r, ())) hf) hP hD hS (Nat.le_of_ble_eq_true rfl) (Nat.le_of_ble_eq_true rfl) dX6_isIn_15
    · replace hf := hf.trans (if_neg c2)
      refine lv_iconst (v := nI 1) hx hb dX6_isIn_10 (by decide) ?_
      refine lv_goto (tgt := 15) hx hb dX6_isIn_11 (by decide) ?_
      exact g_endi hx hb hr hlocks rfl (congrArg (fun r => (r, ())) hf) hP hD hS (Nat.le_of_ble_eq_true rfl) (Nat.le_of_ble_eq_true rfl) dX6_isIn_15
theorem b_X6_isIn (x : Int32) (y : Int32) (z : Int32) : narrow .boolean (.int (s_X6_isIn x y z)) = .int (s_X6_isIn x y z) := by
  unfold s_X6_isIn
  (try simp only [ltt])
  repeat' split
  all_goals rfl
def s_X6_isShelter (σ : Sg × Sg × Sg) (x : Int32) : Int32 := ltt (s_X6_isIn x (nI 0) ((σ.2.1 0 1) - (nI 1))) (fun r1 => r1)
abbrev rm_X6_isShelter : Room := { frames := 1, cells := 0, slots := 0, locals := 22 }
set_option maxHeartbeats 4000000 in
set_option maxRecDepth 100000 in
theorem c_X6_isShelter (l : Launch) (D : va_G) (cy : Nat → ClassId) (ax ad ad2 : Nat → Nat) (σ : Sg × Sg × Sg) (x : Int32)  : gMrN l yX6_isShelter wsX6_isShelter rm_X6_isShelter D (Ty cy) (MW cy ax ad ad2) [.ref (ax 0), .int (x)] σ (s_X6_isShelter σ x) 0 0 := by
  refine gstartiN cX6_isShelter 2 RX6 (by decide) rfl rfl (Nat.le_of_ble_eq_true rfl) ?_
  intro p e s m below meth c A ls hx hb hml hown hts hr hlocks hK hP hD hA hS hl hnw
  have hl : lv_has ls 2 [(0, .ref (ax 0)), (1, .int (x))] := hl
  have hf : s_X6_isShelter σ x = s_X6_isShelter σ x := rfl
  have hz : σ.2.1 0 = σ.2.1 0 := rfl
  have hin6 : ∀ w ∈ wsX60, w ∈ wsX6_isShelter := by decide +kernel
  have hin5 : ∀ w ∈ wsX50, w ∈ wsX6_isShelter := by decide +kernel
  have wd0 := hts (.fieldLink RX6 18 "UmbrellaLandModel" "s" "LUmbrellaLandModel$State;") (by decide +kernel)
  refine lv_iload_n hx hb dX6_isShelter_0 rfl (lv_at hl 1 rfl) ?_
  refine lv_iconst (v := nI 0) hx hb dX6_isShelter_1 (by decide) ?_
  refine lv_aload_n hx hb dX6_isShelter_2 rfl (lv_at hl 0 rfl) ?_
  refine va_get (D := D) (ci := 6) (v := .ref (ad 0)) (C := RX6) (T := TX6) (N := 4) hx hb hts hin6 hown hK hP (0) (gx_l (OW_ob cy ax (ad 0) (ad2 0) σ.1)) rfl 2 (by decide) wd0 (fun _ h9 => h9) rfl dX6_isShelter_3 ?_
  refine va_getN (D := D) (ci := 5) (v := .int (σ.2.1 0 1)) (C := RX5) (T := TX5) (N := 22) hx hb hts hin5 hown hK hP (2 + (0)) (gx_r (WD_len _ _ _ _) (gx_l (SW_ob cy (ax 0) ad σ.2.1))) rfl 1 (by decide) (nl_29 hnw) (fun _ h9 => h9) rfl dX6_isShelter_6 ?_
  refine lv_iconst (v := nI 1) hx hb dX6_isShelter_9 (by decide) ?_
  refine lv_isub hx hb dX6_isShelter_10 ?_
  refine g_callsr (wf := (MW cy ax ad ad2)) (σ := σ) (wfc := w0) (σc := ()) hx hb hml hown hts hK hP hD hS hA hl.1 ((MW cy ax ad ad2) σ) (List.Perm.refl _) [.int (x), .int (nI 0), .int ((σ.2.1 0 1) - (nI 1))] (c_X6_isIn l D cy x (nI 0) ((σ.2.1 0 1) - (nI 1)) ) (va_cwS 3 hts gX6_isShelter_X6_isIn rfl rfl rfl (by decide +kernel) ⟨Nat.le_of_ble_eq_true rfl, Nat.le_of_ble_eq_true rfl⟩) rfl rfl (Nat.le_of_ble_eq_true rfl) dX6_isShelter_11 ⟨Nat.le_of_ble_eq_true rfl, Nat.le_of_ble_eq_true rfl⟩ rfl rfl ?_
  intro r1 er1 H locs hP hD hS
  replace hf := hf.trans (ltt_r er1)
  exact g_endi hx hb hr hlocks (by rw [er1]; apply b_X6_isIn) (congrArg (fun r => (r, σ)) hf) hP hD hS (Nat.le_of_ble_eq_true rfl) (Nat.le_of_ble_eq_true rfl) dX6_isShelter_14
theorem b_X6_isShelter (σ : Sg × Sg × Sg) (x : Int32) : narrow .boolean (.int (s_X6_isShelter σ x)) = .int (s_X6_isShelter σ x) := by
  unfold s_X6_isShelter
  (try simp only [ltt])
  exact b_X6_isIn _ _ _
def s_X6_isCitizen (σ : Sg × Sg × Sg) (x : Int32) : Int32 := ltt (s_X6_isIn x (nI 0) ((σ.2.1 0 12) - (nI 1))) (fun r1 => r1)
abbrev rm_X6_isCitizen : Room := { frames := 1, cells := 0, slots := 0, locals := 22 }
set_option maxHeartbeats 4000000 in
set_option maxRecDepth 100000 in
theorem c_X6_isCitizen (l : Launch) (D : va_G) (cy : Nat → ClassId) (ax ad ad2 : Nat → Nat) (σ : Sg × Sg × Sg) (x : Int32)  : gMrN l yX6_isCitizen wsX6_isCitizen rm_X6_isCitizen D (Ty cy) (MW cy ax ad ad2) [.ref (ax 0), .int (x)] σ (s_X6_isCitizen σ x) 0 0 := by
  refine gstartiN cX6_isCitizen 2 RX6 (by decide) rfl rfl (Nat.le_of_ble_eq_true rfl) ?_
  intro p e s m below meth c A ls hx hb hml hown hts hr hlocks hK hP hD hA hS hl hnw
  have hl : lv_has ls 2 [(0, .ref (ax 0)), (1, .int (x))] := hl
  have hf : s_X6_isCitizen σ x = s_X6_isCitizen σ x := rfl
  have hz : σ.2.1 0 = σ.2.1 0 := rfl
  have hin6 : ∀ w ∈ wsX60, w ∈ wsX6_isCitizen := by decide +kernel
  have hin5 : ∀ w ∈ wsX50, w ∈ wsX6_isCitizen := by decide +kernel
  have wd0 := hts (.fieldLink RX6 18 "UmbrellaLandModel" "s" "LUmbrellaLandModel$State;") (by decide +kernel)
  refine lv_iload_n hx hb dX6_isCitizen_0 rfl (lv_at hl 1 rfl) ?_
  refine lv_iconst (v := nI 0) hx hb dX6_isCitizen_1 (by decide) ?_
  refine lv_aload_n hx hb dX6_isCitizen_2 rfl (lv_at hl 0 rfl) ?_
  refine va_get (D := D) (ci := 6) (v := .ref (ad 0)) (C := RX6) (T := TX6) (N := 4) hx hb hts hin6 hown hK hP (0) (gx_l (OW_ob cy ax (ad 0) (ad2 0) σ.1)) rfl 2 (by decide) wd0 (fun _ h9 => h9) rfl dX6_isCitizen_3 ?_
  refine va_getN (D := D) (ci := 5) (v := .int (σ.2.1 0 12)) (C := RX5) (T := TX5) (N := 22) hx hb hts hin5 hown hK hP (2 + (0)) (gx_r (WD_len _ _ _ _) (gx_l (SW_ob cy (ax 0) ad σ.2.1))) rfl 12 (by decide) (nl_36 hnw) (fun _ h9 => h9) rfl dX6_isCitizen_6 ?_
  refine lv_iconst (v := nI 1) hx hb dX6_isCitizen_9 (by decide) ?_
  refine lv_isub hx hb dX6_isCitizen_10 ?_
  refine g_callsr (wf := (MW cy ax ad ad2)) (σ := σ) (wfc := w0) (σc := ()) hx hb hml hown hts hK hP hD hS hA hl.1 ((MW cy ax ad ad2) σ) (List.Perm.refl _) [.int (x), .int (nI 0), .int ((σ.2.1 0 12) - (nI 1))] (c_X6_isIn l D cy x (nI 0) ((σ.2.1 0 12) - (nI 1)) ) (va_cwS 3 hts gX6_isCitizen_X6_isIn rfl rfl rfl (by decide +kernel) ⟨Nat.le_of_ble_eq_true rfl, Nat.le_of_ble_eq_true rfl⟩) rfl rfl (Nat.le_of_ble_eq_true rfl) dX6_isCitizen_11 ⟨Nat.le_of_ble_eq_true rfl, Nat.le_of_ble_eq_true rfl⟩ rfl rfl ?_
  intro r1 er1 H locs hP hD hS
  replace hf := hf.trans (ltt_r er1)
  exact g_endi hx hb hr hlocks (by rw [er1]; apply b_X6_isIn) (congrArg (fun r => (r, σ)) hf) hP hD hS (Nat.le_of_ble_eq_true rfl) (Nat.le_of_ble_eq_true rfl) dX6_isCitizen_14
theorem b_X6_isCitizen (σ : Sg × Sg × Sg) (x : Int32) : narrow .boolean (.int (s_X6_isCitizen σ x)) = .int (s_X6_isCitizen σ x) := by
  unfold s_X6_isCitizen
  (try simp only [ltt])
  exact b_X6_isIn _ _ _
def lp_X6_pass_4 (σ : Sg × Sg) (nh : Nat)  : Nat → Nat → Int32 → Sg × Sg → Int32 × (Sg × Sg)
  | 0, k, many, τ => (many, τ)
  | n + 1, k, many, τ => ltt (s_X5_pass τ) (fun r3 => lp_X6_pass_4 σ nh n (k + 1) (many + r3.1) r3.2)
def s_X6_pass (σ : Sg × Sg) (nh : Nat) : Int32 × (Sg × Sg) := ltt (lp_X6_pass_4 σ nh nh 0 (nI 0) σ) (fun q4 => (q4.1, q4.2))
abbrev rm_X6_pass : Room := { frames := 4, cells := 0, slots := 0, locals := 94 }
set_option maxHeartbeats 4000000 in
set_option maxRecDepth 100000 in
theorem c_X6_pass (l : Launch) (D : va_G) (cy : Nat → ClassId) (ax : Nat → Nat) (bs ba : Nat) (ad : Nat → Nat) (σ : Sg × Sg) (nh : Nat) (IV : Nat → Sg × Sg → Prop) (hQ : QInv IV) (h0 : Nat) (hh0 : h0 + nh < 100000) (hi : IV h0 σ) : gMiN l yX6_pass wsX6_pass rm_X6_pass D (Ty cy) (PW cy ax bs ba ad) [.ref (ad 0), .int (nI nh)] σ (s_X6_pass σ nh) 0 0 := by
  refine gstartiN cX6_pass 4 RX6 (by decide) rfl rfl (Nat.le_of_ble_eq_true rfl) ?_
  intro p e s m below meth c A ls hx hb hml hown hts hr hlocks hK hP hD hA hS hl hnw
  have hl : lv_has ls 4 [(0, .ref (ad 0)), (1, .int (nI nh))] := hl
  have hf : s_X6_pass σ nh = s_X6_pass σ nh := rfl
  have loop4 : ∀  (n k : Nat) (many : Int32) (τ : Sg × Sg) (H : Heap) (locs : List Loc) (ls : Array Slot), n = nh - k ∧ k ≤ nh + 1 → (IV (h0 + k) τ) → va_P D vwCl ((PW cy ax bs ba ad) τ) H → va_D A ((PW cy ax bs ba ad) τ) → va_S A s.heap H locs → lv_has ls 4 [(0, .ref (ad 0)), (1, .int (nI nh)), (2, .int (many)), (3, .int (nI k))] → (∀ u : Int32 × (Sg × Sg), u = lp_X6_pass_4 σ nh n k many τ → ∀ (H : Heap) (locs : List Loc) (ls : Array Slot), va_P D vwCl ((PW cy ax bs ba ad) u.2) H → va_D A ((PW cy ax bs ba ad) u.2) → va_S A s.heap H locs → lv_has ls 4 [(0, .ref (ad 0)), (1, .int (nI nh)), (2, .int (u.1))] → W p l e rm_X6_pass s m [.ref (ad 0), .int (nI nh)].toArray below meth c H locs 0 0 (MQ below (va_Qi (fun r u => (r, u) = s_X6_pass σ nh) (gPost D (PW cy ax bs ba ad) A) A) [.ref (ad 0), .int (nI nh)].toArray s 0 0 A) (F0 m 22 ls [])) → W p l e rm_X6_pass s m [.ref (ad 0), .int (nI nh)].toArray below meth c H locs 0 0 (MQ below (va_Qi (fun r u => (r, u) = s_X6_pass σ nh) (gPost D (PW cy ax bs ba ad) A) A) [.ref (ad 0), .int (nI nh)].toArray s 0 0 A) (F0 m 4 ls []) := by
    intro n
    induction n with
    | zero =>
      intro k many τ H locs ls hN hi0 hP hD hS hl K
      have hf : lp_X6_pass_4 σ nh 0 k many τ = lp_X6_pass_4 σ nh 0 k many τ := rfl
      refine lv_iload_n hx hb dX6_pass_4 rfl (lv_at hl 3 rfl) ?_
      refine lv_iload_n hx hb dX6_pass_5 rfl (lv_at hl 1 rfl) ?_
      refine lv_icmp_ge (tgt := 22) hx hb dX6_pass_6 (by decide) (fun c1 => ?_) (fun c1 => absurd (nI_le (by omega) (by omega)) c1)
      exact K (many, τ) hf.symm _ _ _ hP hD hS (lv_sub hl [0, 1, 2] rfl)
    | succ n ih =>
      intro k many τ H locs ls hN hi0 hP hD hS hl K
      have hf : lp_X6_pass_4 σ nh (n + 1) k many τ = lp_X6_pass_4 σ nh (n + 1) k many τ := rfl
      refine lv_iload_n hx hb dX6_pass_4 rfl (lv_at hl 3 rfl) ?_
      refine lv_iload_n hx hb dX6_pass_5 rfl (lv_at hl 1 rfl) ?_
      refine lv_icmp_ge (tgt := 22) hx hb dX6_pass_6 (by decide) (fun c2 => absurd c2 (nI_ge (by omega) (by omega))) (fun c2 => ?_)
      refine lv_iload_n hx hb dX6_pass_9 rfl (lv_at hl 2 rfl) ?_
      refine lv_aload_n hx hb dX6_pass_10 rfl (lv_at hl 0 rfl) ?_
      refine g_calliN (q0 := 0) hnw (wf := (PW cy ax bs ba ad)) (σ := τ) (wfc := (PW cy ax bs ba ad)) (σc := τ) hx hb hml hown hts hK hP hD hS hA hl.1 [] pm_0 (fun u => u) (fun _ => pm_0b) [] (c_X5_pass l D cy ax bs ba ad τ (by rw [hQ.2.1 _ _ hi0, tn_nI (by omega)]) (IV (h0 + k)) (hQ.1 _) hi0) (cwV 0 hts gX6_pass_X5_pass rfl rfl rfl (by decide +kernel) ⟨Nat.le_of_ble_eq_true rfl, Nat.le_of_ble_eq_true rfl⟩) (gx_l (SW_ob cy (ax 0) ad τ.1)) rfl rfl rfl rfl (Nat.le_of_ble_eq_true rfl) dX6_pass_11 ⟨Nat.le_of_ble_eq_true rfl, Nat.le_of_ble_eq_true rfl⟩ rfl rfl ?_
      intro r3 er3 H locs hP hD hS
      replace hf := hf.trans (ltt_r er3)
      refine lv_iadd hx hb dX6_pass_14 ?_
      refine lv_istore_n (lv' := [(2, .int (many + r3.1)), (0, .ref (ad 0)), (1, .int (nI nh)), (3, .int (nI k))]) hx hb dX6_pass_15 rfl hl (by decide) rfl (fun ls hl => ?_)
      refine lv_iinc (v := nI (k + 1)) (lv' := [(3, .int (nI (k + 1))), (2, .int (many + r3.1)), (0, .ref (ad 0)), (1, .int (nI nh))]) hx hb dX6_pass_16 hl (k := 3) rfl (nI_1 _) (by decide) rfl (fun ls hl => ?_)
      refine lv_goto (tgt := 4) hx hb dX6_pass_19 (by decide) ?_
      exact ih (k + 1) (many + r3.1) r3.2 _ _ _ (by omega) (by rw [er3]; exact hQ.2.2.1 (h0 + k) _ hi0 (by omega)) hP hD hS (lv_sub hl [2, 3, 1, 0] rfl) (fun u eu => K u (eu.trans hf.symm))
  refine lv_iconst (v := nI 0) hx hb dX6_pass_0 (by decide) ?_
  refine lv_istore_n (lv' := [(2, .int (nI 0)), (0, .ref (ad 0)), (1, .int (nI nh))]) hx hb dX6_pass_1 rfl hl (by decide) rfl (fun ls hl => ?_)
  refine lv_iconst (v := nI 0) hx hb dX6_pass_2 (by decide) ?_
  refine lv_istore_n (lv' := [(3, .int (nI 0)), (2, .int (nI 0)), (0, .ref (ad 0)), (1, .int (nI nh))]) hx hb dX6_pass_3 rfl hl (by decide) rfl (fun ls hl => ?_)
  refine loop4  nh 0 (nI 0) σ _ _ _ (by omega) hi hP hD hS (lv_sub hl [2, 3, 1, 0] rfl) ?_
  intro q4 eq4 H locs ls hP hD hS hl
  replace hf := hf.trans (ltt_r eq4)
  refine lv_iload_n hx hb dX6_pass_22 rfl (lv_at hl 2 rfl) ?_
  exact g_endi hx hb hr hlocks rfl hf hP hD hS (Nat.le_of_ble_eq_true rfl) (Nat.le_of_ble_eq_true rfl) dX6_pass_23
