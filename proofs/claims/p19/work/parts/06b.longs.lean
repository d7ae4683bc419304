def s_X4_trust (σ : Sg × Sg) : UInt64 × (Sg × Sg) := if (σ.1 0 7) = 0 then (FP.dconst0, σ) else ltt (s_X1_trustOfAll σ.1) (fun r2 => (FP.ddiv (FP.i2d r2) (FP.i2d (σ.1 0 7)), σ))
abbrev rm_X4_trust : Room := { frames := 1, cells := 0, slots := 0, locals := 22 }
set_option maxHeartbeats 4000000 in
set_option maxRecDepth 100000 in
theorem c_X4_trust (l : Launch) (D : va_G) (cy : Nat → ClassId) (ax ad ad2 : Nat → Nat) (σ : Sg × Sg) (hI : OkR σ.1) (hnan : ¬ σ.1 0 7 = 0 → vf_n64 (FP.ddiv (FP.i2d (s_X1_trustOfAll σ.1)) (FP.i2d (σ.1 0 7)))) : gMd l yX4_trust wsX4_trust rm_X4_trust D (Ty cy) (CW cy ax ad ad2) [.ref (ax 0)] σ (s_X4_trust σ) 0 0 := by
  refine gstartd cX4_trust 1 RX4 (by decide) rfl rfl (Nat.le_of_ble_eq_true rfl) ?_
  intro p e s m below meth c A ls hx hb hml hown hts hr hlocks hK hP hD hA hS hl
  have hl : lv_has ls 1 [(0, .ref (ax 0))] := hl
  have hf : s_X4_trust σ = s_X4_trust σ := rfl
  have hin4 : ∀ w ∈ wsX40, w ∈ wsX4_trust := by decide +kernel
  have hin1 : ∀ w ∈ wsX10, w ∈ wsX4_trust := by decide +kernel
  have wd0 := hts (.fieldLink RX4 10 "UmbrellaLand" "now" "LUmbrellaLand$Republic;") (by decide +kernel)
  have wd1 := hts (.fieldLink RX4 68 "UmbrellaLand$Republic" "citizenCount" "I") (by decide +kernel)
  refine lv_aload_n hx hb dX4_trust_0 rfl (lv_at hl 0 rfl) ?_
  refine va_get (D := D) (ci := 4) (v := .ref (ad 0)) (C := RX4) (T := TX4) (N := 2) hx hb hts hin4 hown hK hP (0) (CW_xo cy ax σ) rfl 0 (by decide) wd0 (fun _ h9 => h9) rfl dX4_trust_1 ?_
  refine va_get (D := D) (ci := 1) (v := .int (σ.1 0 7)) (C := RX1) (T := TX1) (N := 9) hx hb hts hin1 hown hK hP (1 + (0)) (gx_r (n := 1) rfl (gx_l (RW_ob cy ad σ.1))) rfl 7 (by decide) wd1 (fun _ h9 => h9) rfl dX4_trust_4 ?_
  refine lv_if_ne (tgt := 12) hx hb dX4_trust_7 (by decide) (fun c1 => ?_) (fun c1 => ?_)
  · replace hf := hf.trans (if_neg c1)
    refine lv_aload_n hx hb dX4_trust_12 rfl (lv_at hl 0 rfl) ?_
    refine va_get (D := D) (ci := 4) (v := .ref (ad 0)) (C := RX4) (T := TX4) (N := 2) hx hb hts hin4 hown hK hP (0) (CW_xo cy ax σ) rfl 0 (by decide) wd0 (fun _ h9 => h9) rfl dX4_trust_13 ?_
    refine g_callr (q0 := 1 + (0)) (wf := (CW cy ax ad ad2)) (σ := σ) (wfc := (RW cy ad)) (σc := σ.1) hx hb hml hown hts hK hP hD hS hA hl.1 (xoC ax ad ad2 ++ RW cy ad2 (σ.2)) pm_n [] (c_X1_trustOfAll l D cy ad σ.1 hI) (cwV 0 hts gX4_trust_X1_trustOfAll rfl rfl rfl (by decide +kernel) ⟨Nat.le_of_ble_eq_true rfl, Nat.le_of_ble_eq_true rfl⟩) (gx_r (n := 1) rfl (gx_l (RW_ob cy ad σ.1))) rfl rfl rfl rfl (Nat.le_of_ble_eq_true rfl) dX4_trust_16 ⟨Nat.le_of_ble_eq_true rfl, Nat.le_of_ble_eq_true rfl⟩ rfl rfl ?_
    intro r2 er2 H locs hP hD hS
    replace hf := hf.trans (ltt_r er2)
    refine lv_i2d hx hb dX4_trust_19 ?_
    refine lv_aload_n hx hb dX4_trust_20 rfl (lv_at hl 0 rfl) ?_
    refine va_get (D := D) (ci := 4) (v := .ref (ad 0)) (C := RX4) (T := TX4) (N := 2) hx hb hts hin4 hown hK hP (0) (CW_xo cy ax σ) rfl 0 (by decide) wd0 (fun _ h9 => h9) rfl dX4_trust_21 ?_
    refine va_get (D := D) (ci := 1) (v := .int (σ.1 0 7)) (C := RX1) (T := TX1) (N := 9) hx hb hts hin1 hown hK hP (1 + (0)) (gx_r (n := 1) rfl (gx_l (RW_ob cy ad σ.1))) rfl 7 (by decide) wd1 (fun _ h9 => h9) rfl dX4_trust_24 ?_
    refine lv_i2d hx hb dX4_trust_27 ?_
    refine lv_ddiv hx hb dX4_trust_28 (by rw [er2]; exact hnan c1) ?_
    exact g_endd hx hb hr hlocks hf hP hD hS (Nat.le_of_ble_eq_true rfl) (Nat.le_of_ble_eq_true rfl) dX4_trust_29
  · replace hf := hf.trans (if_pos c1)
    refine lv_dconst0 hx hb dX4_trust_10 ?_
    exact g_endd hx hb hr hlocks hf hP hD hS (Nat.le_of_ble_eq_true rfl) (Nat.le_of_ble_eq_true rfl) dX4_trust_11
def lp_X4_digest_6 (σ : Sg × Sg)  : Nat → Nat → Int64 → Int64
  | 0, k, d => d
  | n + 1, k, d => ltt (s_X1_tellAll σ.1 (nI k)) (fun r3 => lp_X4_digest_6 σ n (k + 1) ((d * (31 : Int64)) + ((r3).toInt64)))
def lp_X4_digest_36 (σ : Sg × Sg)  : Nat → Nat → Int64 → Int64
  | 0, k, d => d
  | n + 1, k, d => lp_X4_digest_36 σ n (k + 1) ((d * (31 : Int64)) + ((σ.1 1 k).toInt64))
def lp_X4_digest_81 (σ : Sg × Sg) (i : Nat) : Nat → Nat → Int64 → Int64
  | 0, k, d => d
  | n + 1, k, d => ltt (s_X1_tellShelter σ.1 (nI i) (nI k)) (fun r9 => lp_X4_digest_81 σ i n (k + 1) ((d * (31 : Int64)) + ((r9).toInt64)))
def lp_X4_digest_67 (σ : Sg × Sg)  : Nat → Nat → Int64 → Int64
  | 0, k, d => d
  | n + 1, k, d => ltt (lp_X4_digest_81 σ k 8 0 d) (fun q12 => lp_X4_digest_67 σ n (k + 1) q12)
def lp_X4_digest_134 (σ : Sg × Sg) (i : Nat) : Nat → Nat → Int64 → Int64
  | 0, k, d => d
  | n + 1, k, d => ltt (s_X3_tell σ.1 i (nI k)) (fun r16 => lp_X4_digest_134 σ i n (k + 1) ((d * (31 : Int64)) + ((r16).toInt64)))
def lp_X4_digest_120 (σ : Sg × Sg)  : Nat → Nat → Int64 → Int64
  | 0, k, d => d
  | n + 1, k, d => ltt (lp_X4_digest_134 σ k 6 0 d) (fun q19 => lp_X4_digest_120 σ n (k + 1) q19)
def lp_X4_digest_191 (σ : Sg × Sg) (i : Nat) : Nat → Nat → Int64 → Int64
  | 0, k, d => d
  | n + 1, k, d => ltt (s_X0_tell σ.1 i (nI k)) (fun r23 => lp_X4_digest_191 σ i n (k + 1) ((d * (31 : Int64)) + ((r23).toInt64)))
def lp_X4_digest_177 (σ : Sg × Sg)  : Nat → Nat → Int64 → Int64
  | 0, k, d => d
  | n + 1, k, d => ltt (lp_X4_digest_191 σ k 10 0 d) (fun q26 => lp_X4_digest_177 σ n (k + 1) q26)
def s_X4_digest (σ : Sg × Sg) : Int64 × (Sg × Sg) := ltt (lp_X4_digest_6 σ 11 0 ((569 : Int64))) (fun q27 => ltt (lp_X4_digest_36 σ 24 0 q27) (fun q28 => ltt (lp_X4_digest_67 σ (tn (σ.1 0 5)) 0 q28) (fun q29 => ltt (lp_X4_digest_120 σ (tn (σ.1 0 6)) 0 q29) (fun q30 => ltt (lp_X4_digest_177 σ (tn (σ.1 0 7)) 0 q30) (fun q31 => (q31, σ))))))
abbrev rm_X4_digest : Room := { frames := 3, cells := 0, slots := 0, locals := 68 }
set_option maxHeartbeats 4000000 in
set_option maxRecDepth 100000 in
theorem c_X4_digest (l : Launch) (D : va_G) (cy : Nat → ClassId) (ax ad ad2 : Nat → Nat) (σ : Sg × Sg) (hI : OkR σ.1) : gMl l yX4_digest wsX4_digest rm_X4_digest D (Ty cy) (CW cy ax ad ad2) [.ref (ax 0)] σ (s_X4_digest σ) 0 0 := by
  refine gstartl cX4_digest 5 RX4 (by decide) rfl rfl (Nat.le_of_ble_eq_true rfl) ?_
  intro p e s m below meth c A ls hx hb hml hown hts hr hlocks hK hP hD hA hS hl
  have hl : lv_has ls 5 [(0, .ref (ax 0))] := hl
  have hf : s_X4_digest σ = s_X4_digest σ := rfl
  have hin4 : ∀ w ∈ wsX40, w ∈ wsX4_digest := by decide +kernel
  have hin1 : ∀ w ∈ wsX10, w ∈ wsX4_digest := by decide +kernel
  have wd0 := hts (.constantLong RX4 174 (31)) (by decide +kernel)
  have wd1 := hts (.fieldLink RX4 10 "UmbrellaLand" "now" "LUmbrellaLand$Republic;") (by decide +kernel)
  have wd2 := hts (.fieldLink RX4 82 "UmbrellaLand$Republic" "rain" "[I") (by decide +kernel)
  have wd3 := hts (.fieldLink RX4 30 "UmbrellaLand$Republic" "shelterCount" "I") (by decide +kernel)
  have wd4 := hts (.fieldLink RX4 107 "UmbrellaLand$Republic" "umbrellas" "[LUmbrellaLand$Umbrella;") (by decide +kernel)
  have wd5 := hts (.fieldLink RX4 53 "UmbrellaLand$Republic" "umbrellaCount" "I") (by decide +kernel)
  have wd6 := hts (.fieldLink RX4 120 "UmbrellaLand$Republic" "citizens" "[LUmbrellaLand$Citizen;") (by decide +kernel)
  have wd7 := hts (.fieldLink RX4 68 "UmbrellaLand$Republic" "citizenCount" "I") (by decide +kernel)
  have wd8 := hts (.constantLong RX4 172 (569)) (by decide +kernel)
  have n5 := hI.n5
  have n6 := hI.n6
  have n7 := hI.n7
  have loop6 : ∀  (n k : Nat) (d : Int64) (H : Heap) (locs : List Loc) (ls : Array Slot), n + k = 11 → va_P D vwCl ((CW cy ax ad ad2) σ) H → va_D A ((CW cy ax ad ad2) σ) → va_S A s.heap H locs → lv_has ls 5 [(0, .ref (ax 0)), (1, .long (d)), (3, .int (nI k))] → (∀ u : Int64, u = lp_X4_digest_6 σ n k d → ∀ (H : Heap) (locs : List Loc) (ls : Array Slot), va_P D vwCl ((CW cy ax ad ad2) σ) H → va_D A ((CW cy ax ad ad2) σ) → va_S A s.heap H locs → lv_has ls 5 [(0, .ref (ax 0)), (1, .long (u))] → W p l e rm_X4_digest s m [.ref (ax 0)].toArray below meth c H locs 0 0 (MQ below (va_Ql (fun r u => (r, u) = s_X4_digest σ) (gPost D (CW cy ax ad ad2) A) A) [.ref (ax 0)].toArray s 0 0 A) (F0 m 34 ls [])) → W p l e rm_X4_digest s m [.ref (ax 0)].toArray below meth c H locs 0 0 (MQ below (va_Ql (fun r u => (r, u) = s_X4_digest σ) (gPost D (CW cy ax ad ad2) A) A) [.ref (ax 0)].toArray s 0 0 A) (F0 m 6 ls []) := by
    intro n
    induction n with
    | zero =>
      intro k d H locs ls hN hP hD hS hl K
      have hf : lp_X4_digest_6 σ 0 k d = lp_X4_digest_6 σ 0 k d := rfl
      refine lv_iload_n hx hb dX4_digest_6 rfl (lv_at hl 2 rfl) ?_
      refine lv_bipush (v := nI 11) hx hb dX4_digest_7 (by decide) ?_
      refine lv_icmp_ge (tgt := 34) hx hb dX4_digest_9 (by decide) (fun c1 => ?_) (fun c1 => absurd (nI_le (by omega) (by omega)) c1)
      exact K d hf.symm _ _ _ hP hD hS (lv_sub hl [0, 1] rfl)
    | succ n ih =>
      intro k d H locs ls hN hP hD hS hl K
      have hf : lp_X4_digest_6 σ (n + 1) k d = lp_X4_digest_6 σ (n + 1) k d := rfl
      refine lv_iload_n hx hb dX4_digest_6 rfl (lv_at hl 2 rfl) ?_
      refine lv_bipush (v := nI 11) hx hb dX4_digest_7 (by decide) ?_
      refine lv_icmp_ge (tgt := 34) hx hb dX4_digest_9 (by decide) (fun c2 => absurd c2 (nI_ge (by omega) (by omega))) (fun c2 => ?_)
      refine lv_lload_n hx hb dX4_digest_12 rfl (lv_at hl 1 rfl) ?_
      refine lv_ldc2 (v := (31 : Int64)) hx hb hown wd0 dX4_digest_13 ?_
      refine lv_lmul hx hb dX4_digest_16 ?_
      refine lv_aload_n hx hb dX4_digest_17 rfl (lv_at hl 0 rfl) ?_
      refine va_get (D := D) (ci := 4) (v := .ref (ad 0)) (C := RX4) (T := TX4) (N := 2) hx hb hts hin4 hown hK hP (0) (CW_xo cy ax σ) rfl 0 (by decide) wd1 (fun _ h9 => h9) rfl dX4_digest_18 ?_
      refine lv_iload_n hx hb dX4_digest_21 rfl (lv_at hl 2 rfl) ?_
      refine g_callr (q0 := 1 + (0)) (wf := (CW cy ax ad ad2)) (σ := σ) (wfc := (RW cy ad)) (σc := σ.1) hx hb hml hown hts hK hP hD hS hA hl.1 (xoC ax ad ad2 ++ RW cy ad2 (σ.2)) pm_n [.int (nI k)] (c_X1_tellAll l D cy ad σ.1 (nI k) hI) (cwV 1 hts gX4_digest_X1_tellAll rfl rfl rfl (by decide +kernel) ⟨Nat.le_of_ble_eq_true rfl, Nat.le_of_ble_eq_true rfl⟩) (gx_r (n := 1) rfl (gx_l (RW_ob cy ad σ.1))) rfl rfl rfl rfl (Nat.le_of_ble_eq_true rfl) dX4_digest_22 ⟨Nat.le_of_ble_eq_true rfl, Nat.le_of_ble_eq_true rfl⟩ rfl rfl ?_
      intro r3 er3 H locs hP hD hS
      replace hf := hf.trans (ltt_r er3)
      refine lv_i2l hx hb dX4_digest_25 rfl ?_
      refine lv_ladd hx hb dX4_digest_26 ?_
      refine lv_lstore_n (lv' := [(1, .long ((d * (31 : Int64)) + ((r3).toInt64))), (0, .ref (ax 0)), (3, .int (nI k))]) hx hb dX4_digest_27 rfl hl (by decide) rfl (fun ls hl => ?_)
      refine lv_iinc (v := nI (k + 1)) (lv' := [(3, .int (nI (k + 1))), (1, .long ((d * (31 : Int64)) + ((r3).toInt64))), (0, .ref (ax 0))]) hx hb dX4_digest_28 hl (k := 2) rfl (nI_1 _) (by decide) rfl (fun ls hl => ?_)
      refine lv_goto (tgt := 6) hx hb dX4_digest_31 (by decide) ?_
      exact ih (k + 1) ((d * (31 : Int64)) + ((r3).toInt64)) _ _ _ (by omega)  hP hD hS (lv_sub hl [2, 1, 0] rfl) (fun u eu => K u (eu.trans hf.symm))
  have loop36 : ∀  (n k : Nat) (d : Int64) (H : Heap) (locs : List Loc) (ls : Array Slot), n + k = 24 → va_P D vwCl ((CW cy ax ad ad2) σ) H → va_D A ((CW cy ax ad ad2) σ) → va_S A s.heap H locs → lv_has ls 5 [(0, .ref (ax 0)), (1, .long (d)), (3, .int (nI k))] → (∀ u : Int64, u = lp_X4_digest_36 σ n k d → ∀ (H : Heap) (locs : List Loc) (ls : Array Slot), va_P D vwCl ((CW cy ax ad ad2) σ) H → va_D A ((CW cy ax ad ad2) σ) → va_S A s.heap H locs → lv_has ls 5 [(0, .ref (ax 0)), (1, .long (u))] → W p l e rm_X4_digest s m [.ref (ax 0)].toArray below meth c H locs 0 0 (MQ below (va_Ql (fun r u => (r, u) = s_X4_digest σ) (gPost D (CW cy ax ad ad2) A) A) [.ref (ax 0)].toArray s 0 0 A) (F0 m 65 ls [])) → W p l e rm_X4_digest s m [.ref (ax 0)].toArray below meth c H locs 0 0 (MQ below (va_Ql (fun r u => (r, u) = s_X4_digest σ) (gPost D (CW cy ax ad ad2) A) A) [.ref (ax 0)].toArray s 0 0 A) (F0 m 36 ls []) := by
    intro n
    induction n with
    | zero =>
      intro k d H locs ls hN hP hD hS hl K
      have hf : lp_X4_digest_36 σ 0 k d = lp_X4_digest_36 σ 0 k d := rfl
      refine lv_iload_n hx hb dX4_digest_36 rfl (lv_at hl 2 rfl) ?_
      refine lv_bipush (v := nI 24) hx hb dX4_digest_37 (by decide) ?_
      refine lv_icmp_ge (tgt := 65) hx hb dX4_digest_39 (by decide) (fun c4 => ?_) (fun c4 => absurd (nI_le (by omega) (by omega)) c4)
      exact K d hf.symm _ _ _ hP hD hS (lv_sub hl [0, 1] rfl)
    | succ n ih =>
      intro k d H locs ls hN hP hD hS hl K
      have hf : lp_X4_digest_36 σ (n + 1) k d = lp_X4_digest_36 σ (n + 1) k d := rfl
      refine lv_iload_n hx hb dX4_digest_36 rfl (lv_at hl 2 rfl) ?_
      refine lv_bipush (v := nI 24) hx hb dX4_digest_37 (by decide) ?_
      refine lv_icmp_ge (tgt := 65) hx hb dX4_digest_39 (by decide) (fun c5 => absurd c5 (nI_ge (by omega) (by omega))) (fun c5 => ?_)
      refine lv_lload_n hx hb dX4_digest_42 rfl (lv_at hl 1 rfl) ?_
      refine lv_ldc2 (v := (31 : Int64)) hx hb hown wd0 dX4_digest_43 ?_
      refine lv_lmul hx hb dX4_digest_46 ?_
      refine lv_aload_n hx hb dX4_digest_47 rfl (lv_at hl 0 rfl) ?_
      refine va_get (D := D) (ci := 4) (v := .ref (ad 0)) (C := RX4) (T := TX4) (N := 2) hx hb hts hin4 hown hK hP (0) (CW_xo cy ax σ) rfl 0 (by decide) wd1 (fun _ h9 => h9) rfl dX4_digest_48 ?_
      refine va_get (D := D) (ci := 1) (v := .ref (ad 1)) (C := RX1) (T := TX1) (N := 9) hx hb hts hin1 hown hK hP (1 + (0)) (gx_r (n := 1) rfl (gx_l (RW_ob cy ad σ.1))) rfl 0 (by decide) wd2 (fun _ h9 => h9) rfl dX4_digest_51 ?_
      refine lv_iload_n hx hb dX4_digest_54 rfl (lv_at hl 2 rfl) ?_
      have h6 : k < 24 := by omega
      refine g_iald hx hb hK hP (1 + (1)) 0 k (gx_r (n := 1) rfl (gx_l (RW_rn cy ad σ.1))) rfl (nI_clamp (by omega)) (vp_in_nI h6 (by decide)) dX4_digest_55 ?_
      refine lv_i2l hx hb dX4_digest_56 rfl ?_
      refine lv_ladd hx hb dX4_digest_57 ?_
      refine lv_lstore_n (lv' := [(1, .long ((d * (31 : Int64)) + ((σ.1 1 k).toInt64))), (0, .ref (ax 0)), (3, .int (nI k))]) hx hb dX4_digest_58 rfl hl (by decide) rfl (fun ls hl => ?_)
      refine lv_iinc (v := nI (k + 1)) (lv' := [(3, .int (nI (k + 1))), (1, .long ((d * (31 : Int64)) + ((σ.1 1 k).toInt64))), (0, .ref (ax 0))]) hx hb dX4_digest_59 hl (k := 2) rfl (nI_1 _) (by decide) rfl (fun ls hl => ?_)
      refine lv_goto (tgt := 36) hx hb dX4_digest_62 (by decide) ?_
      exact ih (k + 1) ((d * (31 : Int64)) + ((σ.1 1 k).toInt64)) _ _ _ (by omega)  hP hD hS (lv_sub hl [2, 1, 0] rfl) (fun u eu => K u (eu.trans hf.symm))
  have loop81 : ∀ (i : Nat) (n k : Nat) (d : Int64) (H : Heap) (locs : List Loc) (ls : Array Slot), n + k = 8 → (i < 8) → va_P D vwCl ((CW cy ax ad ad2) σ) H → va_D A ((CW cy ax ad ad2) σ) → va_S A s.heap H locs → lv_has ls 5 [(0, .ref (ax 0)), (1, .long (d)), (3, .int (nI i)), (4, .int (nI k))] → (∀ u : Int64, u = lp_X4_digest_81 σ i n k d → ∀ (H : Heap) (locs : List Loc) (ls : Array Slot), va_P D vwCl ((CW cy ax ad ad2) σ) H → va_D A ((CW cy ax ad ad2) σ) → va_S A s.heap H locs → lv_has ls 5 [(0, .ref (ax 0)), (1, .long (u)), (3, .int (nI i))] → W p l e rm_X4_digest s m [.ref (ax 0)].toArray below meth c H locs 0 0 (MQ below (va_Ql (fun r u => (r, u) = s_X4_digest σ) (gPost D (CW cy ax ad ad2) A) A) [.ref (ax 0)].toArray s 0 0 A) (F0 m 112 ls [])) → W p l e rm_X4_digest s m [.ref (ax 0)].toArray below meth c H locs 0 0 (MQ below (va_Ql (fun r u => (r, u) = s_X4_digest σ) (gPost D (CW cy ax ad ad2) A) A) [.ref (ax 0)].toArray s 0 0 A) (F0 m 81 ls []) := by
    intro i n
    induction n with
    | zero =>
      intro k d H locs ls hN hi0 hP hD hS hl K
      have hf : lp_X4_digest_81 σ i 0 k d = lp_X4_digest_81 σ i 0 k d := rfl
      refine lv_iload hx hb dX4_digest_81 (lv_at hl 3 rfl) ?_
      refine lv_bipush (v := nI 8) hx hb dX4_digest_83 (by decide) ?_
      refine lv_icmp_ge (tgt := 112) hx hb dX4_digest_85 (by decide) (fun c7 => ?_) (fun c7 => absurd (nI_le (by omega) (by omega)) c7)
      exact K d hf.symm _ _ _ hP hD hS (lv_sub hl [0, 1, 2] rfl)
    | succ n ih =>
      intro k d H locs ls hN hi0 hP hD hS hl K
      have hf : lp_X4_digest_81 σ i (n + 1) k d = lp_X4_digest_81 σ i (n + 1) k d := rfl
      refine lv_iload hx hb dX4_digest_81 (lv_at hl 3 rfl) ?_
      refine lv_bipush (v := nI 8) hx hb dX4_digest_83 (by decide) ?_
      refine lv_icmp_ge (tgt := 112) hx hb dX4_digest_85 (by decide) (fun c8 => absurd c8 (nI_ge (by omega) (by omega))) (fun c8 => ?_)
      refine lv_lload_n hx hb dX4_digest_88 rfl (lv_at hl 1 rfl) ?_
      refine lv_ldc2 (v := (31 : Int64)) hx hb hown wd0 dX4_digest_89 ?_
      refine lv_lmul hx hb dX4_digest_92 ?_
      refine lv_aload_n hx hb dX4_digest_93 rfl (lv_at hl 0 rfl) ?_
      refine va_get (D := D) (ci := 4) (v := .ref (ad 0)) (C := RX4) (T := TX4) (N := 2) hx hb hts hin4 hown hK hP (0) (CW_xo cy ax σ) rfl 0 (by decide) wd1 (fun _ h9 => h9) rfl dX4_digest_94 ?_
      refine lv_iload_n hx hb dX4_digest_97 rfl (lv_at hl 2 rfl) ?_
      refine lv_iload hx hb dX4_digest_98 (lv_at hl 3 rfl) ?_
      refine g_callr (q0 := 1 + (0)) (wf := (CW cy ax ad ad2)) (σ := σ) (wfc := (RW cy ad)) (σc := σ.1) hx hb hml hown hts hK hP hD hS hA hl.1 (xoC ax ad ad2 ++ RW cy ad2 (σ.2)) pm_n [.int (nI i), .int (nI k)] (c_X1_tellShelter l D cy ad σ.1 (nI i) (nI k) hI) (cwV 2 hts gX4_digest_X1_tellShelter rfl rfl rfl (by decide +kernel) ⟨Nat.le_of_ble_eq_true rfl, Nat.le_of_ble_eq_true rfl⟩) (gx_r (n := 1) rfl (gx_l (RW_ob cy ad σ.1))) rfl rfl rfl rfl (Nat.le_of_ble_eq_true rfl) dX4_digest_100 ⟨Nat.le_of_ble_eq_true rfl, Nat.le_of_ble_eq_true rfl⟩ rfl rfl ?_
      intro r9 er9 H locs hP hD hS
      replace hf := hf.trans (ltt_r er9)
      refine lv_i2l hx hb dX4_digest_103 rfl ?_
      refine lv_ladd hx hb dX4_digest_104 ?_
      refine lv_lstore_n (lv' := [(1, .long ((d * (31 : Int64)) + ((r9).toInt64))), (0, .ref (ax 0)), (3, .int (nI i)), (4, .int (nI k))]) hx hb dX4_digest_105 rfl hl (by decide) rfl (fun ls hl => ?_)
      refine lv_iinc (v := nI (k + 1)) (lv' := [(4, .int (nI (k + 1))), (1, .long ((d * (31 : Int64)) + ((r9).toInt64))), (0, .ref (ax 0)), (3, .int (nI i))]) hx hb dX4_digest_106 hl (k := 3) rfl (nI_1 _) (by decide) rfl (fun ls hl => ?_)
      refine lv_goto (tgt := 81) hx hb dX4_digest_109 (by decide) ?_
      exact ih (k + 1) ((d * (31 : Int64)) + ((r9).toInt64)) _ _ _ (by omega) hi0 hP hD hS (lv_sub hl [2, 1, 3, 0] rfl) (fun u eu => K u (eu.trans hf.symm))
  have loop67 : ∀  (n k : Nat) (d : Int64) (H : Heap) (locs : List Loc) (ls : Array Slot), n + k = tn (σ.1 0 5) → va_P D vwCl ((CW cy ax ad ad2) σ) H → va_D A ((CW cy ax ad ad2) σ) → va_S A s.heap H locs → lv_has ls 5 [(0, .ref (ax 0)), (1, .long (d)), (3, .int (nI k))] → (∀ u : Int64, u = lp_X4_digest_67 σ n k d → ∀ (H : Heap) (locs : List Loc) (ls : Array Slot), va_P D vwCl ((CW cy ax ad ad2) σ) H → va_D A ((CW cy ax ad ad2) σ) → va_S A s.heap H locs → lv_has ls 5 [(0, .ref (ax 0)), (1, .long (u))] → W p l e rm_X4_digest s m [.ref (ax 0)].toArray below meth c H locs 0 0 (MQ below (va_Ql (fun r u => (r, u) = s_X4_digest σ) (gPost D (CW cy ax ad ad2) A) A) [.ref (ax 0)].toArray s 0 0 A) (F0 m 118 ls [])) → W p l e rm_X4_digest s m [.ref (ax 0)].toArray below meth c H locs 0 0 (MQ below (va_Ql (fun r u => (r, u) = s_X4_digest σ) (gPost D (CW cy ax ad ad2) A) A) [.ref (ax 0)].toArray s 0 0 A) (F0 m 67 ls []) := by
    intro n
    induction n with
    | zero =>
      intro k d H locs ls hN hP hD hS hl K
      have hf : lp_X4_digest_67 σ 0 k d = lp_X4_digest_67 σ 0 k d := rfl
      refine lv_iload_n hx hb dX4_digest_67 rfl (lv_at hl 2 rfl) ?_
      refine lv_aload_n hx hb dX4_digest_68 rfl (lv_at hl 0 rfl) ?_
      refine va_get (D := D) (ci := 4) (v := .ref (ad 0)) (C := RX4) (T := TX4) (N := 2) hx hb hts hin4 hown hK hP (0) (CW_xo cy ax σ) rfl 0 (by decide) wd1 (fun _ h9 => h9) rfl dX4_digest_69 ?_
      refine va_get (D := D) (ci := 1) (v := .int (σ.1 0 5)) (C := RX1) (T := TX1) (N := 9) hx hb hts hin1 hown hK hP (1 + (0)) (gx_r (n := 1) rfl (gx_l (RW_ob cy ad σ.1))) rfl 5 (by decide) wd3 (fun _ h9 => h9) rfl dX4_digest_72 ?_
      refine g_top (hI.c5) ?_
      refine lv_icmp_ge (tgt := 118) hx hb dX4_digest_75 (by decide) (fun c10 => ?_) (fun c10 => absurd (nI_le (by omega) (by omega)) c10)
      exact K d hf.symm _ _ _ hP hD hS (lv_sub hl [0, 1] rfl)
    | succ n ih =>
      intro k d H locs ls hN hP hD hS hl K
      have hf : lp_X4_digest_67 σ (n + 1) k d = lp_X4_digest_67 σ (n + 1) k d := rfl
      refine lv_iload_n hx hb dX4_digest_67 rfl (lv_at hl 2 rfl) ?_
      refine lv_aload_n hx hb dX4_digest_68 rfl (lv_at hl 0 rfl) ?_
      refine va_get (D := D) (ci := 4) (v := .ref (ad 0)) (C := RX4) (T := TX4) (N := 2) hx hb hts hin4 hown hK hP (0) (CW_xo cy ax σ) rfl 0 (by decide) wd1 (fun _ h9 => h9) rfl dX4_digest_69 ?_
      refine va_get (D := D) (ci := 1) (v := .int (σ.1 0 5)) (C := RX1) (T := TX1) (N := 9) hx hb hts hin1 hown hK hP (1 + (0)) (gx_r (n := 1) rfl (gx_l (RW_ob cy ad σ.1))) rfl 5 (by decide) wd3 (fun _ h9 => h9) rfl dX4_digest_72 ?_
      refine g_top (hI.c5) ?_
      refine lv_icmp_ge (tgt := 118) hx hb dX4_digest_75 (by decide) (fun c11 => absurd c11 (nI_ge (by omega) (by omega))) (fun c11 => ?_)
      refine lv_iconst (v := nI 0) hx hb dX4_digest_78 (by decide) ?_
      refine lv_istore (lv' := [(4, .int (nI 0)), (0, .ref (ax 0)), (1, .long (d)), (3, .int (nI k))]) hx hb dX4_digest_79 hl (by decide) rfl (fun ls hl => ?_)
      refine loop81 k 8 0 d _ _ _ (by omega) (by omega) hP hD hS (lv_sub hl [1, 2, 3, 0] rfl) ?_
      intro q12 eq12 H locs ls hP hD hS hl
      replace hf := hf.trans (ltt_r eq12)
      refine lv_iinc (v := nI (k + 1)) (lv' := [(3, .int (nI (k + 1))), (0, .ref (ax 0)), (1, .long (q12))]) hx hb dX4_digest_112 hl (k := 2) rfl (nI_1 _) (by decide) rfl (fun ls hl => ?_)
      refine lv_goto (tgt := 67) hx hb dX4_digest_115 (by decide) ?_
      exact ih (k + 1) q12 _ _ _ (by omega)  hP hD hS (lv_sub hl [1, 2, 0] rfl) (fun u eu => K u (eu.trans hf.symm))
  have loop134 : ∀ (i : Nat) (n k : Nat) (d : Int64) (H : Heap) (locs : List Loc) (ls : Array Slot), n + k = 6 → (i < 40) → va_P D vwCl ((CW cy ax ad ad2) σ) H → va_D A ((CW cy ax ad ad2) σ) → va_S A s.heap H locs → lv_has ls 5 [(0, .ref (ax 0)), (1, .long (d)), (3, .int (nI i)), (4, .int (nI k))] → (∀ u : Int64, u = lp_X4_digest_134 σ i n k d → ∀ (H : Heap) (locs : List Loc) (ls : Array Slot), va_P D vwCl ((CW cy ax ad ad2) σ) H → va_D A ((CW cy ax ad ad2) σ) → va_S A s.heap H locs → lv_has ls 5 [(0, .ref (ax 0)), (1, .long (u)), (3, .int (nI i))] → W p l e rm_X4_digest s m [.ref (ax 0)].toArray below meth c H locs 0 0 (MQ below (va_Ql (fun r u => (r, u) = s_X4_digest σ) (gPost D (CW cy ax ad ad2) A) A) [.ref (ax 0)].toArray s 0 0 A) (F0 m 169 ls [])) → W p l e rm_X4_digest s m [.ref (ax 0)].toArray below meth c H locs 0 0 (MQ below (va_Ql (fun r u => (r, u) = s_X4_digest σ) (gPost D (CW cy ax ad ad2) A) A) [.ref (ax 0)].toArray s 0 0 A) (F0 m 134 ls []) := by
    intro i n
    induction n with
    | zero =>
      intro k d H locs ls hN hi0 hP hD hS hl K
      have hf : lp_X4_digest_134 σ i 0 k d = lp_X4_digest_134 σ i 0 k d := rfl
      refine lv_iload hx hb dX4_digest_134 (lv_at hl 3 rfl) ?_
      refine lv_bipush (v := nI 6) hx hb dX4_digest_136 (by decide) ?_
      refine lv_icmp_ge (tgt := 169) hx hb dX4_digest_138 (by decide) (fun c13 => ?_) (fun c13 => absurd (nI_le (by omega) (by omega)) c13)
      exact K d hf.symm _ _ _ hP hD hS (lv_sub hl [0, 1, 2] rfl)
    | succ n ih =>
      intro k d H locs ls hN hi0 hP hD hS hl K
      have hf : lp_X4_digest_134 σ i (n + 1) k d = lp_X4_digest_134 σ i (n + 1) k d := rfl
      refine lv_iload hx hb dX4_digest_134 (lv_at hl 3 rfl) ?_
      refine lv_bipush (v := nI 6) hx hb dX4_digest_136 (by decide) ?_
      refine lv_icmp_ge (tgt := 169) hx hb dX4_digest_138 (by decide) (fun c14 => absurd c14 (nI_ge (by omega) (by omega))) (fun c14 => ?_)
      refine lv_lload_n hx hb dX4_digest_141 rfl (lv_at hl 1 rfl) ?_
      refine lv_ldc2 (v := (31 : Int64)) hx hb hown wd0 dX4_digest_142 ?_
      refine lv_lmul hx hb dX4_digest_145 ?_
      refine lv_aload_n hx hb dX4_digest_146 rfl (lv_at hl 0 rfl) ?_
      refine va_get (D := D) (ci := 4) (v := .ref (ad 0)) (C := RX4) (T := TX4) (N := 2) hx hb hts hin4 hown hK hP (0) (CW_xo cy ax σ) rfl 0 (by decide) wd1 (fun _ h9 => h9) rfl dX4_digest_147 ?_
      refine va_get (D := D) (ci := 1) (v := .ref (ad 3)) (C := RX1) (T := TX1) (N := 9) hx hb hts hin1 hown hK hP (1 + (0)) (gx_r (n := 1) rfl (gx_l (RW_ob cy ad σ.1))) rfl 2 (by decide) wd4 (fun _ h9 => h9) rfl dX4_digest_150 ?_
      refine lv_iload_n hx hb dX4_digest_153 rfl (lv_at hl 2 rfl) ?_
      have h15 : i < 40 := by omega
      refine g_aald (b := ad (13 + i)) hx hb hK hP (1 + (3)) 2 i (gx_r (n := 1) rfl (gx_l (RW_au cy ad σ.1))) rfl (nI_clamp (by omega)) (vp_in_nI h15 (by decide)) rfl dX4_digest_154 ?_
      refine lv_iload hx hb dX4_digest_155 (lv_at hl 3 rfl) ?_
      refine g_callr (q0 := 1 + (13 + i)) (wf := (CW cy ax ad ad2)) (σ := σ) (wfc := (RW cy ad)) (σc := σ.1) hx hb hml hown hts hK hP hD hS hA hl.1 (xoC ax ad ad2 ++ RW cy ad2 (σ.2)) pm_n [.int (nI k)] (c_X3_tell l D cy ad σ.1 i (nI k) h15) (cwV 1 hts gX4_digest_X3_tell rfl rfl rfl (by decide +kernel) ⟨Nat.le_of_ble_eq_true rfl, Nat.le_of_ble_eq_true rfl⟩) (gx_r (n := 1) rfl (gx_l (RW_um cy ad σ.1 h15))) rfl rfl rfl rfl (Nat.le_of_ble_eq_true rfl) dX4_digest_157 ⟨Nat.le_of_ble_eq_true rfl, Nat.le_of_ble_eq_true rfl⟩ rfl rfl ?_
      intro r16 er16 H locs hP hD hS
      replace hf := hf.trans (ltt_r er16)
      refine lv_i2l hx hb dX4_digest_160 rfl ?_
      refine lv_ladd hx hb dX4_digest_161 ?_
      refine lv_lstore_n (lv' := [(1, .long ((d * (31 : Int64)) + ((r16).toInt64))), (0, .ref (ax 0)), (3, .int (nI i)), (4, .int (nI k))]) hx hb dX4_digest_162 rfl hl (by decide) rfl (fun ls hl => ?_)
      refine lv_iinc (v := nI (k + 1)) (lv' := [(4, .int (nI (k + 1))), (1, .long ((d * (31 : Int64)) + ((r16).toInt64))), (0, .ref (ax 0)), (3, .int (nI i))]) hx hb dX4_digest_163 hl (k := 3) rfl (nI_1 _) (by decide) rfl (fun ls hl => ?_)
      refine lv_goto (tgt := 134) hx hb dX4_digest_166 (by decide) ?_
      exact ih (k + 1) ((d * (31 : Int64)) + ((r16).toInt64)) _ _ _ (by omega) hi0 hP hD hS (lv_sub hl [2, 1, 3, 0] rfl) (fun u eu => K u (eu.trans hf.symm))
  have loop120 : ∀  (n k : Nat) (d : Int64) (H : Heap) (locs : List Loc) (ls : Array Slot), n + k = tn (σ.1 0 6) → va_P D vwCl ((CW cy ax ad ad2) σ) H → va_D A ((CW cy ax ad ad2) σ) → va_S A s.heap H locs → lv_has ls 5 [(0, .ref (ax 0)), (1, .long (d)), (3, .int (nI k))] → (∀ u : Int64, u = lp_X4_digest_120 σ n k d → ∀ (H : Heap) (locs : List Loc) (ls : Array Slot), va_P D vwCl ((CW cy ax ad ad2) σ) H → va_D A ((CW cy ax ad ad2) σ) → va_S A s.heap H locs → lv_has ls 5 [(0, .ref (ax 0)), (1, .long (u))] → W p l e rm_X4_digest s m [.ref (ax 0)].toArray below meth c H locs 0 0 (MQ below (va_Ql (fun r u => (r, u) = s_X4_digest σ) (gPost D (CW cy ax ad ad2) A) A) [.ref (ax 0)].toArray s 0 0 A) (F0 m 175 ls [])) → W p l e rm_X4_digest s m [.ref (ax 0)].toArray below meth c H locs 0 0 (MQ below (va_Ql (fun r u => (r, u) = s_X4_digest σ) (gPost D (CW cy ax ad ad2) A) A) [.ref (ax 0)].toArray s 0 0 A) (F0 m 120 ls []) := by
    intro n
    induction n with
    | zero =>
      intro k d H locs ls hN hP hD hS hl K
      have hf : lp_X4_digest_120 σ 0 k d = lp_X4_digest_120 σ 0 k d := rfl
      refine lv_iload_n hx hb dX4_digest_120 rfl (lv_at hl 2 rfl) ?_
      refine lv_aload_n hx hb dX4_digest_121 rfl (lv_at hl 0 rfl) ?_
      refine va_get (D := D) (ci := 4) (v := .ref (ad 0)) (C := RX4) (T := TX4) (N := 2) hx hb hts hin4 hown hK hP (0) (CW_xo cy ax σ) rfl 0 (by decide) wd1 (fun _ h9 => h9) rfl dX4_digest_122 ?_
      refine va_get (D := D) (ci := 1) (v := .int (σ.1 0 6)) (C := RX1) (T := TX1) (N := 9) hx hb hts hin1 hown hK hP (1 + (0)) (gx_r (n := 1) rfl (gx_l (RW_ob cy ad σ.1))) rfl 6 (by decide) wd5 (fun _ h9 => h9) rfl dX4_digest_125 ?_
      refine g_top (hI.c6) ?_
      refine lv_icmp_ge (tgt := 175) hx hb dX4_digest_128 (by decide) (fun c17 => ?_) (fun c17 => absurd (nI_le (by omega) (by omega)) c17)
      exact K d hf.symm _ _ _ hP hD hS (lv_sub hl [0, 1] rfl)
    | succ n ih =>
      intro k d H locs ls hN hP hD hS hl K
      have hf : lp_X4_digest_120 σ (n + 1) k d = lp_X4_digest_120 σ (n + 1) k d := rfl
      refine lv_iload_n hx hb dX4_digest_120 rfl (lv_at hl 2 rfl) ?_
      refine lv_aload_n hx hb dX4_digest_121 rfl (lv_at hl 0 rfl) ?_
      refine va_get (D := D) (ci := 4) (v := .ref (ad 0)) (C := RX4) (T := TX4) (N := 2) hx hb hts hin4 hown hK hP (0) (CW_xo cy ax σ) rfl 0 (by decide) wd1 (fun _ h9 => h9) rfl dX4_digest_122 ?_
      refine va_get (D := D) (ci := 1) (v := .int (σ.1 0 6)) (C := RX1) (T := TX1) (N := 9) hx hb hts hin1 hown hK hP (1 + (0)) (gx_r (n := 1) rfl (gx_l (RW_ob cy ad σ.1))) rfl 6 (by decide) wd5 (fun _ h9 => h9) rfl dX4_digest_125 ?_
      refine g_top (hI.c6) ?_
      refine lv_icmp_ge (tgt := 175) hx hb dX4_digest_128 (by decide) (fun c18 => absurd c18 (nI_ge (by omega) (by omega))) (fun c18 => ?_)
      refine lv_iconst (v := nI 0) hx hb dX4_digest_131 (by decide) ?_
      refine lv_istore (lv' := [(4, .int (nI 0)), (0, .ref (ax 0)), (1, .long (d)), (3, .int (nI k))]) hx hb dX4_digest_132 hl (by decide) rfl (fun ls hl => ?_)
      refine loop134 k 6 0 d _ _ _ (by omega) (by omega) hP hD hS (lv_sub hl [1, 2, 3, 0] rfl) ?_
      intro q19 eq19 H locs ls hP hD hS hl
      replace hf := hf.trans (ltt_r eq19)
      refine lv_iinc (v := nI (k + 1)) (lv' := [(3, .int (nI (k + 1))), (0, .ref (ax 0)), (1, .long (q19))]) hx hb dX4_digest_169 hl (k := 2) rfl (nI_1 _) (by decide) rfl (fun ls hl => ?_)
      refine lv_goto (tgt := 120) hx hb dX4_digest_172 (by decide) ?_
      exact ih (k + 1) q19 _ _ _ (by omega)  hP hD hS (lv_sub hl [1, 2, 0] rfl) (fun u eu => K u (eu.trans hf.symm))
  have loop191 : ∀ (i : Nat) (n k : Nat) (d : Int64) (H : Heap) (locs : List Loc) (ls : Array Slot), n + k = 10 → (i < 10) → va_P D vwCl ((CW cy ax ad ad2) σ) H → va_D A ((CW cy ax ad ad2) σ) → va_S A s.heap H locs → lv_has ls 5 [(0, .ref (ax 0)), (1, .long (d)), (3, .int (nI i)), (4, .int (nI k))] → (∀ u : Int64, u = lp_X4_digest_191 σ i n k d → ∀ (H : Heap) (locs : List Loc) (ls : Array Slot), va_P D vwCl ((CW cy ax ad ad2) σ) H → va_D A ((CW cy ax ad ad2) σ) → va_S A s.heap H locs → lv_has ls 5 [(0, .ref (ax 0)), (1, .long (u)), (3, .int (nI i))] → W p l e rm_X4_digest s m [.ref (ax 0)].toArray below meth c H locs 0 0 (MQ below (va_Ql (fun r u => (r, u) = s_X4_digest σ) (gPost D (CW cy ax ad ad2) A) A) [.ref (ax 0)].toArray s 0 0 A) (F0 m 226 ls [])) → W p l e rm_X4_digest s m [.ref (ax 0)].toArray below meth c H locs 0 0 (MQ below (va_Ql (fun r u => (r, u) = s_X4_digest σ) (gPost D (CW cy ax ad ad2) A) A) [.ref (ax 0)].toArray s 0 0 A) (F0 m 191 ls []) := by
    intro i n
    induction n with
    | zero =>
      intro k d H locs ls hN hi0 hP hD hS hl K
      have hf : lp_X4_digest_191 σ i 0 k d = lp_X4_digest_191 σ i 0 k d := rfl
      refine lv_iload hx hb dX4_digest_191 (lv_at hl 3 rfl) ?_
      refine lv_bipush (v := nI 10) hx hb dX4_digest_193 (by decide) ?_
      refine lv_icmp_ge (tgt := 226) hx hb dX4_digest_195 (by decide) (fun c20 => ?_) (fun c20 => absurd (nI_le (by omega) (by omega)) c20)
      exact K d hf.symm _ _ _ hP hD hS (lv_sub hl [0, 1, 2] rfl)
    | succ n ih =>
      intro k d H locs ls hN hi0 hP hD hS hl K
      have hf : lp_X4_digest_191 σ i (n + 1) k d = lp_X4_digest_191 σ i (n + 1) k d := rfl
      refine lv_iload hx hb dX4_digest_191 (lv_at hl 3 rfl) ?_
      refine lv_bipush (v := nI 10) hx hb dX4_digest_193 (by decide) ?_
      refine lv_icmp_ge (tgt := 226) hx hb dX4_digest_195 (by decide) (fun c21 => absurd c21 (nI_ge (by omega) (by omega))) (fun c21 => ?_)
      refine lv_lload_n hx hb dX4_digest_198 rfl (lv_at hl 1 rfl) ?_
      refine lv_ldc2 (v := (31 : Int64)) hx hb hown wd0 dX4_digest_199 ?_
      refine lv_lmul hx hb dX4_digest_202 ?_
      refine lv_aload_n hx hb dX4_digest_203 rfl (lv_at hl 0 rfl) ?_
      refine va_get (D := D) (ci := 4) (v := .ref (ad 0)) (C := RX4) (T := TX4) (N := 2) hx hb hts hin4 hown hK hP (0) (CW_xo cy ax σ) rfl 0 (by decide) wd1 (fun _ h9 => h9) rfl dX4_digest_204 ?_
      refine va_get (D := D) (ci := 1) (v := .ref (ad 4)) (C := RX1) (T := TX1) (N := 9) hx hb hts hin1 hown hK hP (1 + (0)) (gx_r (n := 1) rfl (gx_l (RW_ob cy ad σ.1))) rfl 3 (by decide) wd6 (fun _ h9 => h9) rfl dX4_digest_207 ?_
      refine lv_iload_n hx hb dX4_digest_210 rfl (lv_at hl 2 rfl) ?_
      have h22 : i < 10 := by omega
      refine g_aald (b := ad (53 + i)) hx hb hK hP (1 + (4)) 3 i (gx_r (n := 1) rfl (gx_l (RW_ac cy ad σ.1))) rfl (nI_clamp (by omega)) (vp_in_nI h22 (by decide)) rfl dX4_digest_211 ?_
      refine lv_iload hx hb dX4_digest_212 (lv_at hl 3 rfl) ?_
      refine g_callr (q0 := 1 + (53 + i)) (wf := (CW cy ax ad ad2)) (σ := σ) (wfc := (RW cy ad)) (σc := σ.1) hx hb hml hown hts hK hP hD hS hA hl.1 (xoC ax ad ad2 ++ RW cy ad2 (σ.2)) pm_n [.int (nI k)] (c_X0_tell l D cy ad σ.1 i (nI k) h22) (cwV 1 hts gX4_digest_X0_tell rfl rfl rfl (by decide +kernel) ⟨Nat.le_of_ble_eq_true rfl, Nat.le_of_ble_eq_true rfl⟩) (gx_r (n := 1) rfl (gx_l (RW_ci cy ad σ.1 h22))) rfl rfl rfl rfl (Nat.le_of_ble_eq_true rfl) dX4_digest_214 ⟨Nat.le_of_ble_eq_true rfl, Nat.le_of_ble_eq_true rfl⟩ rfl rfl ?_
      intro r23 er23 H locs hP hD hS
      replace hf := hf.trans (ltt_r er23)
      refine lv_i2l hx hb dX4_digest_217 rfl ?_
      refine lv_ladd hx hb dX4_digest_218 ?_
      refine lv_lstore_n (lv' := [(1, .long ((d * (31 : Int64)) + ((r23).toInt64))), (0, .ref (ax 0)), (3, .int (nI i)), (4, .int (nI k))]) hx hb dX4_digest_219 rfl hl (by decide) rfl (fun ls hl => ?_)
      refine lv_iinc (v := nI (k + 1)) (lv' := [(4, .int (nI (k + 1))), (1, .long ((d * (31 : Int64)) + ((r23).toInt64))), (0, .ref (ax 0)), (3, .int (nI i))]) hx hb dX4_digest_220 hl (k := 3) rfl (nI_1 _) (by decide) rfl (fun ls hl => ?_)
      refine lv_goto (tgt := 191) hx hb dX4_digest_223 (by decide) ?_
      exact ih (k + 1) ((d * (31 : Int64)) + ((r23).toInt64)) _ _ _ (by omega) hi0 hP hD hS (lv_sub hl [2, 1, 3, 0] rfl) (fun u eu => K u (eu.trans hf.symm))
  have loop177 : ∀  (n k : Nat) (d : Int64) (H : Heap) (locs : List Loc) (ls : Array Slot), n + k = tn (σ.1 0 7) → va_P D vwCl ((CW cy ax ad ad2) σ) H → va_D A ((CW cy ax ad ad2) σ) → va_S A s.heap H locs → lv_has ls 5 [(0, .ref (ax 0)), (1, .long (d)), (3, .int (nI k))] → (∀ u : Int64, u = lp_X4_digest_177 σ n k d → ∀ (H : Heap) (locs : List Loc) (ls : Array Slot), va_P D vwCl ((CW cy ax ad ad2) σ) H → va_D A ((CW cy ax ad ad2) σ) → va_S A s.heap H locs → lv_has ls 5 [(0, .ref (ax 0)), (1, .long (u))] → W p l e rm_X4_digest s m [.ref (ax 0)].toArray below meth c H locs 0 0 (MQ below (va_Ql (fun r u => (r, u) = s_X4_digest σ) (gPost D (CW cy ax ad ad2) A) A) [.ref (ax 0)].toArray s 0 0 A) (F0 m 232 ls [])) → W p l e rm_X4_digest s m [.ref (ax 0)].toArray below meth c H locs 0 0 (MQ below (va_Ql (fun r u => (r, u) = s_X4_digest σ) (gPost D (CW cy ax ad ad2) A) A) [.ref (ax 0)].toArray s 0 0 A) (F0 m 177 ls []) := by
    intro n
    induction n with
    | zero =>
      intro k d H locs ls hN hP hD hS hl K
      have hf : lp_X4_digest_177 σ 0 k d = lp_X4_digest_177 σ 0 k d := rfl
      refine lv_iload_n hx hb dX4_digest_177 rfl (lv_at hl 2 rfl) ?_
      refine lv_aload_n hx hb dX4_digest_178 rfl (lv_at hl 0 rfl) ?_
      refine va_get (D := D) (ci := 4) (v := .ref (ad 0)) (C := RX4) (T := TX4) (N := 2) hx hb hts hin4 hown hK hP (0) (CW_xo cy ax σ) rfl 0 (by decide) wd1 (fun _ h9 => h9) rfl dX4_digest_179 ?_
      refine va_get (D := D) (ci := 1) (v := .int (σ.1 0 7)) (C := RX1) (T := TX1) (N := 9) hx hb hts hin1 hown hK hP (1 + (0)) (gx_r (n := 1) rfl (gx_l (RW_ob cy ad σ.1))) rfl 7 (by decide) wd7 (fun _ h9 => h9) rfl dX4_digest_182 ?_
      refine g_top (hI.c7) ?_
      refine lv_icmp_ge (tgt := 232) hx hb dX4_digest_185 (by decide) (fun c24 => ?_) (fun c24 => absurd (nI_le (by omega) (by omega)) c24)
      exact K d hf.symm _ _ _ hP hD hS (lv_sub hl [0, 1] rfl)
    | succ n ih =>
      intro k d H locs ls hN hP hD hS hl K
      have hf : lp_X4_digest_177 σ (n + 1) k d = lp_X4_digest_177 σ (n + 1) k d := rfl
      refine lv_iload_n hx hb dX4_digest_177 rfl (lv_at hl 2 rfl) ?_
      refine lv_aload_n hx hb dX4_digest_178 rfl (lv_at hl 0 rfl) ?_
      refine va_get (D := D) (ci := 4) (v := .ref (ad 0)) (C := RX4) (T := TX4) (N := 2) hx hb hts hin4 hown hK hP (0) (CW_xo cy ax σ) rfl 0 (by decide) wd1 (fun _ h9 => h9) rfl dX4_digest_179 ?_
      refine va_get (D := D) (ci := 1) (v := .int (σ.1 0 7)) (C := RX1) (T := TX1) (N := 9) hx hb hts hin1 hown hK hP (1 + (0)) (gx_r (n := 1) rfl (gx_l (RW_ob cy ad σ.1))) rfl 7 (by decide) wd7 (fun _ h9 => h9) rfl dX4_digest_182 ?_
      refine g_top (hI.c7) ?_
      refine lv_icmp_ge (tgt := 232) hx hb dX4_digest_185 (by decide) (fun c25 => absurd c25 (nI_ge (by omega) (by omega))) (fun c25 => ?_)
      refine lv_iconst (v := nI 0) hx hb dX4_digest_188 (by decide) ?_
      refine lv_istore (lv' := [(4, .int (nI 0)), (0, .ref (ax 0)), (1, .long (d)), (3, .int (nI k))]) hx hb dX4_digest_189 hl (by decide) rfl (fun ls hl => ?_)
      refine loop191 k 10 0 d _ _ _ (by omega) (by omega) hP hD hS (lv_sub hl [1, 2, 3, 0] rfl) ?_
      intro q26 eq26 H locs ls hP hD hS hl
      replace hf := hf.trans (ltt_r eq26)
      refine lv_iinc (v := nI (k + 1)) (lv' := [(3, .int (nI (k + 1))), (0, .ref (ax 0)), (1, .long (q26))]) hx hb dX4_digest_226 hl (k := 2) rfl (nI_1 _) (by decide) rfl (fun ls hl => ?_)
      refine lv_goto (tgt := 177) hx hb dX4_digest_229 (by decide) ?_
      exact ih (k + 1) q26 _ _ _ (by omega)  hP hD hS (lv_sub hl [1, 2, 0] rfl) (fun u eu => K u (eu.trans hf.symm))
  refine lv_ldc2 (v := (569 : Int64)) hx hb hown wd8 dX4_digest_0 ?_
  refine lv_lstore_n (lv' := [(1, .long ((569 : Int64))), (0, .ref (ax 0))]) hx hb dX4_digest_3 rfl hl (by decide) rfl (fun ls hl => ?_)
  refine lv_iconst (v := nI 0) hx hb dX4_digest_4 (by decide) ?_
  refine lv_istore_n (lv' := [(3, .int (nI 0)), (1, .long ((569 : Int64))), (0, .ref (ax 0))]) hx hb dX4_digest_5 rfl hl (by decide) rfl (fun ls hl => ?_)
  refine loop6  11 0 ((569 : Int64)) _ _ _ (by omega)  hP hD hS (lv_sub hl [2, 1, 0] rfl) ?_
  intro q27 eq27 H locs ls hP hD hS hl
  replace hf := hf.trans (ltt_r eq27)
  refine lv_iconst (v := nI 0) hx hb dX4_digest_34 (by decide) ?_
  refine lv_istore_n (lv' := [(3, .int (nI 0)), (0, .ref (ax 0)), (1, .long (q27))]) hx hb dX4_digest_35 rfl hl (by decide) rfl (fun ls hl => ?_)
  refine loop36  24 0 q27 _ _ _ (by omega)  hP hD hS (lv_sub hl [1, 2, 0] rfl) ?_
  intro q28 eq28 H locs ls hP hD hS hl
  replace hf := hf.trans (ltt_r eq28)
  refine lv_iconst (v := nI 0) hx hb dX4_digest_65 (by decide) ?_
  refine lv_istore_n (lv' := [(3, .int (nI 0)), (0, .ref (ax 0)), (1, .long (q28))]) hx hb dX4_digest_66 rfl hl (by decide) rfl (fun ls hl => ?_)
  refine loop67  (tn (σ.1 0 5)) 0 q28 _ _ _ (by omega)  hP hD hS (lv_sub hl [1, 2, 0] rfl) ?_
  intro q29 eq29 H locs ls hP hD hS hl
  replace hf := hf.trans (ltt_r eq29)
  refine lv_iconst (v := nI 0) hx hb dX4_digest_118 (by decide) ?_
  refine lv_istore_n (lv' := [(3, .int (nI 0)), (0, .ref (ax 0)), (1, .long (q29))]) hx hb dX4_digest_119 rfl hl (by decide) rfl (fun ls hl => ?_)
  refine loop120  (tn (σ.1 0 6)) 0 q29 _ _ _ (by omega)  hP hD hS (lv_sub hl [1, 2, 0] rfl) ?_
  intro q30 eq30 H locs ls hP hD hS hl
  replace hf := hf.trans (ltt_r eq30)
  refine lv_iconst (v := nI 0) hx hb dX4_digest_175 (by decide) ?_
  refine lv_istore_n (lv' := [(3, .int (nI 0)), (0, .ref (ax 0)), (1, .long (q30))]) hx hb dX4_digest_176 rfl hl (by decide) rfl (fun ls hl => ?_)
  refine loop177  (tn (σ.1 0 7)) 0 q30 _ _ _ (by omega)  hP hD hS (lv_sub hl [1, 2, 0] rfl) ?_
  intro q31 eq31 H locs ls hP hD hS hl
  replace hf := hf.trans (ltt_r eq31)
  refine lv_lload_n hx hb dX4_digest_232 rfl (lv_at hl 1 rfl) ?_
  exact g_endl hx hb hr hlocks hf hP hD hS (Nat.le_of_ble_eq_true rfl) (Nat.le_of_ble_eq_true rfl) dX4_digest_233
