def lp_X5_first_4 (σ : Sg) (x : Int32)  : Nat → Nat → Int32 → Int32
  | 0, k, best => best
  | n + 1, k, best => if (σ 4 k) = 0 then if (σ 5 k) = x then if best = (-1 : Int32) then lp_X5_first_4 σ x n (k + 1) (nI k) else if (σ 6 (tn best)) ≤ (σ 6 k) then lp_X5_first_4 σ x n (k + 1) best else lp_X5_first_4 σ x n (k + 1) (nI k) else lp_X5_first_4 σ x n (k + 1) best else lp_X5_first_4 σ x n (k + 1) best
def s_X5_first (σ : Sg) (x : Int32) : Int32 := ltt (lp_X5_first_4 σ x (tn (σ 0 5)) 0 ((-1 : Int32))) (fun q11 => q11)
abbrev rm_X5_first : Room := { frames := 0, cells := 0, slots := 0, locals := 0 }
set_option maxHeartbeats 4000000 in
set_option maxRecDepth 100000 in
theorem c_X5_first (l : Launch) (D : va_G) (cy : Nat → ClassId) (x0 : Nat) (ad : Nat → Nat) (σ : Sg) (x : Int32) (hI : OkN σ) : gMr l yX5_first wsX5_first rm_X5_first D (Ty cy) (SW cy x0 ad) [.ref (ad 0), .int (x)] σ (s_X5_first σ x) 0 0 := by
  refine gstarti cX5_first 4 RX5 (by decide) rfl rfl (Nat.le_of_ble_eq_true rfl) ?_
  intro p e s m below meth c A ls hx hb hml hown hts hr hlocks hK hP hD hA hS hl
  have hl : lv_has ls 4 [(0, .ref (ad 0)), (1, .int (x))] := hl
  have hf : s_X5_first σ x = s_X5_first σ x := rfl
  have hz : σ 0 = σ 0 := rfl
  have hin5 : ∀ w ∈ wsX50, w ∈ wsX5_first := by decide +kernel
  have wd0 := hts (.fieldLink RX5 77 "UmbrellaLandModel$State" "umbrellas" "I") (by decide +kernel)
  have wd1 := hts (.fieldLink RX5 25 "UmbrellaLandModel$State" "kind" "[I") (by decide +kernel)
  have wd2 := hts (.fieldLink RX5 28 "UmbrellaLandModel$State" "at" "[I") (by decide +kernel)
  have wd3 := hts (.fieldLink RX5 31 "UmbrellaLandModel$State" "wear" "[I") (by decide +kernel)
  have n5 := hI.n5
  have loop4 : ∀  (n k : Nat) (best : Int32) (H : Heap) (locs : List Loc) (ls : Array Slot), n = tn (σ 0 5) - k ∧ k ≤ tn (σ 0 5) + 1 → (best = (-1 : Int32) ∨ vp_in best 40) → va_P D vwCl ((SW cy x0 ad) σ) H → va_D A ((SW cy x0 ad) σ) → va_S A s.heap H locs → lv_has ls 4 [(0, .ref (ad 0)), (1, .int (x)), (2, .int (best)), (3, .int (nI k))] → (∀ u : Int32, u = lp_X5_first_4 σ x n k best → ∀ (H : Heap) (locs : List Loc) (ls : Array Slot), va_P D vwCl ((SW cy x0 ad) σ) H → va_D A ((SW cy x0 ad) σ) → va_S A s.heap H locs → lv_has ls 4 [(0, .ref (ad 0)), (1, .int (x)), (2, .int (u))] → W p l e rm_X5_first s m [.ref (ad 0), .int (x)].toArray below meth c H locs 0 0 (MQ below (va_Qi (fun r u => (r, u) = (s_X5_first σ x, σ)) (gPost D (SW cy x0 ad) A) A) [.ref (ad 0), .int (x)].toArray s 0 0 A) (F0 m 59 ls [])) → W p l e rm_X5_first s m [.ref (ad 0), .int (x)].toArray below meth c H locs 0 0 (MQ below (va_Qi (fun r u => (r, u) = (s_X5_first σ x, σ)) (gPost D (SW cy x0 ad) A) A) [.ref (ad 0), .int (x)].toArray s 0 0 A) (F0 m 4 ls []) := by
    intro n
    induction n with
    | zero =>
      intro k best H locs ls hN hi0 hP hD hS hl K
      have hf : lp_X5_first_4 σ x 0 k best = lp_X5_first_4 σ x 0 k best := rfl
      refine lv_iload_n hx hb dX5_first_4 rfl (lv_at hl 3 rfl) ?_
      refine lv_aload_n hx hb dX5_first_5 rfl (lv_at hl 0 rfl) ?_
      refine va_get (D := D) (ci := 5) (v := .int (σ 0 5)) (C := RX5) (T := TX5) (N := 22) hx hb hts hin5 hown hK hP (0) (SW_ob cy x0 ad σ) rfl 5 (by decide) wd0 (fun _ h9 => h9) rfl dX5_first_6 ?_
      refine g_top ((congrFun hz 5).trans hI.c5) ?_
      refine lv_icmp_ge (tgt := 59) hx hb dX5_first_9 (by decide) (fun c1 => ?_) (fun c1 => absurd (nI_le (by omega) (by omega)) c1)
      exact K best hf.symm _ _ _ hP hD hS (lv_sub hl [0, 1, 2] rfl)
    | succ n ih =>
      intro k best H locs ls hN hi0 hP hD hS hl K
      have hf : lp_X5_first_4 σ x (n + 1) k best = lp_X5_first_4 σ x (n + 1) k best := rfl
      refine lv_iload_n hx hb dX5_first_4 rfl (lv_at hl 3 rfl) ?_
      refine lv_aload_n hx hb dX5_first_5 rfl (lv_at hl 0 rfl) ?_
      refine va_get (D := D) (ci := 5) (v := .int (σ 0 5)) (C := RX5) (T := TX5) (N := 22) hx hb hts hin5 hown hK hP (0) (SW_ob cy x0 ad σ) rfl 5 (by decide) wd0 (fun _ h9 => h9) rfl dX5_first_6 ?_
      refine g_top ((congrFun hz 5).trans hI.c5) ?_
      refine lv_icmp_ge (tgt := 59) hx hb dX5_first_9 (by decide) (fun c2 => absurd c2 (nI_ge (by omega) (by omega))) (fun c2 => ?_)
      refine lv_aload_n hx hb dX5_first_12 rfl (lv_at hl 0 rfl) ?_
      refine va_get (D := D) (ci := 5) (v := .ref (ad 4)) (C := RX5) (T := TX5) (N := 22) hx hb hts hin5 hown hK hP (0) (SW_ob cy x0 ad σ) rfl 6 (by decide) wd1 (fun _ h9 => h9) rfl dX5_first_13 ?_
      refine lv_iload_n hx hb dX5_first_16 rfl (lv_at hl 3 rfl) ?_
      have h3 : k < 40 := by omega
      refine g_iald hx hb hK hP (4) 0 k (SW_4 cy x0 ad σ) rfl (nI_clamp (by omega)) (vp_in_nI h3 (by decide)) dX5_first_17 ?_
      refine lv_if_ne (tgt := 53) hx hb dX5_first_18 (by decide) (fun c4 => ?_) (fun c4 => ?_)
      · replace hf := hf.trans (if_neg c4)
        refine lv_iinc (v := nI (k + 1)) (lv' := [(3, .int (nI (k + 1))), (0, .ref (ad 0)), (1, .int (x)), (2, .int (best))]) hx hb dX5_first_53 hl (k := 3) rfl (nI_1 _) (by decide) rfl (fun ls hl => ?_)
        refine lv_goto (tgt := 4) hx hb dX5_first_56 (by decide) ?_
        exact ih (k + 1) best _ _ _ (by omega) (by first | exact hi0 | exact Or.inr (vp_in_nI (by omega) (by decide))) hP hD hS (lv_sub hl [1, 2, 3, 0] rfl) (fun u eu => K u (eu.trans hf.symm))
      · replace hf := hf.trans (if_pos c4)
        refine lv_aload_n hx hb dX5_first_21 rfl (lv_at hl 0 rfl) ?_
        refine va_get (D := D) (ci := 5) (v := .ref (ad 5)) (C := RX5) (T := TX5) (N := 22) hx hb hts hin5 hown hK hP (0) (SW_ob cy x0 ad σ) rfl 7 (by decide) wd2 (fun _ h9 => h9) rfl dX5_first_22 ?_
        refine lv_iload_n hx hb dX5_first_25 rfl (lv_at hl 3 rfl) ?_
        have h5 : k < 40 := by omega
        refine g_iald hx hb hK hP (5) 0 k (SW_5 cy x0 ad σ) rfl (nI_clamp (by omega)) (vp_in_nI h5 (by decide)) dX5_first_26 ?_
        refine lv_iload_n hx hb dX5_first_27 rfl (lv_at hl 1 rfl) ?_
        refine lv_icmp_ne (tgt := 53) hx hb dX5_first_28 (by decide) (fun c6 => ?_) (fun c6 => ?_)
        · replace hf := hf.trans (if_neg c6)
          refine lv_iinc (v := nI (k + 1)) (lv' := [(3, .int (nI (k + 1))), (0, .ref (ad 0)), (1, .int (x)), (2, .int (best))]) hx hb dX5_first_53 hl (k := 3) rfl (nI_1 _) (by decide) rfl (fun ls hl => ?_)
          refine lv_goto (tgt := 4) hx hb dX5_first_56 (by decide) ?_
          exact ih (k + 1) best _ _ _ (by omega) (by first | exact hi0 | exact Or.inr (vp_in_nI (by omega) (by decide))) hP hD hS (lv_sub hl [1, 2, 3, 0] rfl) (fun u eu => K u (eu.trans hf.symm))
        · replace hf := hf.trans (if_pos c6)
          refine lv_iload_n hx hb dX5_first_31 rfl (lv_at hl 2 rfl) ?_
          refine lv_iconst (v := (-1 : Int32)) hx hb dX5_first_32 (by decide) ?_
          refine lv_icmp_eq (tgt := 51) hx hb dX5_first_33 (by decide) (fun c7 => ?_) (fun c7 => ?_)
          · replace hf := hf.trans (if_pos c7)
            refine lv_iload_n hx hb dX5_first_51 rfl (lv_at hl 3 rfl) ?_
            refine lv_istore_n (lv' := [(2, .int (nI k)), (0, .ref (ad 0)), (1, .int (x)), (3, .int (nI k))]) hx hb dX5_first_52 rfl hl (by decide) rfl (fun ls hl => ?_)
            refine lv_iinc (v := nI (k + 1)) (lv' := [(3, .int (nI (k + 1))), (2, .int (nI k)), (0, .ref (ad 0)), (1, .int (x))]) hx hb dX5_first_53 hl (k := 3) rfl (nI_1 _) (by decide) rfl (fun ls hl => ?_)
            refine lv_goto (tgt := 4) hx hb dX5_first_56 (by decide) ?_
            exact ih (k + 1) (nI k) _ _ _ (by omega) (by first | exact hi0 | exact Or.inr (vp_in_nI (by omega) (by decide))) hP hD hS (lv_sub hl [2, 3, 1, 0] rfl) (fun u eu => K u (eu.trans hf.symm))
          · replace hf := hf.trans (if_neg c7)
            refine lv_aload_n hx hb dX5_first_36 rfl (lv_at hl 0 rfl) ?_
            refine va_get (D := D) (ci := 5) (v := .ref (ad 6)) (C := RX5) (T := TX5) (N := 22) hx hb hts hin5 hown hK hP (0) (SW_ob cy x0 ad σ) rfl 8 (by decide) wd3 (fun _ h9 => h9) rfl dX5_first_37 ?_
            refine lv_iload_n hx hb dX5_first_40 rfl (lv_at hl 3 rfl) ?_
            have h8 : k < 40 := by omega
            refine g_iald hx hb hK hP (6) 0 k (SW_6 cy x0 ad σ) rfl (nI_clamp (by omega)) (vp_in_nI h8 (by decide)) dX5_first_41 ?_
            refine lv_aload_n hx hb dX5_first_42 rfl (lv_at hl 0 rfl) ?_
            refine va_get (D := D) (ci := 5) (v := .ref (ad 6)) (C := RX5) (T := TX5) (N := 22) hx hb hts hin5 hown hK hP (0) (SW_ob cy x0 ad σ) rfl 8 (by decide) wd3 (fun _ h9 => h9) rfl dX5_first_43 ?_
            refine lv_iload_n hx hb dX5_first_46 rfl (lv_at hl 2 rfl) ?_
            have h9 : vp_in (best) 40 := (hi0.resolve_left c7)
            have h9b : tn best < 40 := tn_in h9
            refine g_iald hx hb hK hP (6) 0 (tn best) (SW_6 cy x0 ad σ) rfl rfl h9 dX5_first_47 ?_
            refine lv_icmp_ge (tgt := 53) hx hb dX5_first_48 (by decide) (fun c10 => ?_) (fun c10 => ?_)
            · replace hf := hf.trans (if_pos c10)
              refine lv_iinc (v := nI (k + 1)) (lv' := [(3, .int (nI (k + 1))), (0, .ref (ad 0)), (1, .int (x)), (2, .int (best))]) hx hb dX5_first_53 hl (k := 3) rfl (nI_1 _) (by decide) rfl (fun ls hl => ?_)
              refine lv_goto (tgt := 4) hx hb dX5_first_56 (by decide) ?_
              exact ih (k + 1) best _ _ _ (by omega) (by first | exact hi0 | exact Or.inr (vp_in_nI (by omega) (by decide))) hP hD hS (lv_sub hl [1, 2, 3, 0] rfl) (fun u eu => K u (eu.trans hf.symm))
            · replace hf := hf.trans (if_neg c10)
              refine lv_iload_n hx hb dX5_first_51 rfl (lv_at hl 3 rfl) ?_
              refine lv_istore_n (lv' := [(2, .int (nI k)), (0, .ref (ad 0)), (1, .int (x)), (3, .int (nI k))]) hx hb dX5_first_52 rfl hl (by decide) rfl (fun ls hl => ?_)
              refine lv_iinc (v := nI (k + 1)) (lv' := [(3, .int (nI (k + 1))), (2, .int (nI k)), (0, .ref (ad 0)), (1, .int (x))]) hx hb dX5_first_53 hl (k := 3) rfl (nI_1 _) (by decide) rfl (fun ls hl => ?_)
              refine lv_goto (tgt := 4) hx hb dX5_first_56 (by decide) ?_
              exact ih (k + 1) (nI k) _ _ _ (by omega) (by first | exact hi0 | exact Or.inr (vp_in_nI (by omega) (by decide))) hP hD hS (lv_sub hl [2, 3, 1, 0] rfl) (fun u eu => K u (eu.trans hf.symm))
  refine lv_iconst (v := (-1 : Int32)) hx hb dX5_first_0 (by decide) ?_
  refine lv_istore_n (lv' := [(2, .int ((-1 : Int32))), (0, .ref (ad 0)), (1, .int (x))]) hx hb dX5_first_1 rfl hl (by decide) rfl (fun ls hl => ?_)
  refine lv_iconst (v := nI 0) hx hb dX5_first_2 (by decide) ?_
  refine lv_istore_n (lv' := [(3, .int (nI 0)), (2, .int ((-1 : Int32))), (0, .ref (ad 0)), (1, .int (x))]) hx hb dX5_first_3 rfl hl (by decide) rfl (fun ls hl => ?_)
  refine loop4  (tn (σ 0 5)) 0 ((-1 : Int32)) _ _ _ (by omega) (Or.inl rfl) hP hD hS (lv_sub hl [2, 3, 1, 0] rfl) ?_
  intro q11 eq11 H locs ls hP hD hS hl
  replace hf := hf.trans (ltt_r eq11)
  refine lv_iload_n hx hb dX5_first_59 rfl (lv_at hl 2 rfl) ?_
  exact g_endi hx hb hr hlocks rfl (congrArg (fun r => (r, σ)) hf) hP hD hS (Nat.le_of_ble_eq_true rfl) (Nat.le_of_ble_eq_true rfl) dX5_first_60
def lp_X5_there_4 (σ : Sg) (x : Int32)  : Nat → Nat → Int32 → Int32
  | 0, k, acc => acc
  | n + 1, k, acc => if (σ 4 k) = 0 then if (σ 5 k) = x then lp_X5_there_4 σ x n (k + 1) (acc + (nI 1)) else lp_X5_there_4 σ x n (k + 1) (acc + (nI 0)) else lp_X5_there_4 σ x n (k + 1) (acc + (nI 0))
def s_X5_there (σ : Sg) (x : Int32) : Int32 := ltt (lp_X5_there_4 σ x (tn (σ 0 5)) 0 (nI 0)) (fun q7 => q7)
abbrev rm_X5_there : Room := { frames := 0, cells := 0, slots := 0, locals := 0 }
set_option maxHeartbeats 4000000 in
set_option maxRecDepth 100000 in
theorem c_X5_there (l : Launch) (D : va_G) (cy : Nat → ClassId) (x0 : Nat) (ad : Nat → Nat) (σ : Sg) (x : Int32) (hI : OkN σ) : gMr l yX5_there wsX5_there rm_X5_there D (Ty cy) (SW cy x0 ad) [.ref (ad 0), .int (x)] σ (s_X5_there σ x) 0 0 := by
  refine gstarti cX5_there 4 RX5 (by decide) rfl rfl (Nat.le_of_ble_eq_true rfl) ?_
  intro p e s m below meth c A ls hx hb hml hown hts hr hlocks hK hP hD hA hS hl
  have hl : lv_has ls 4 [(0, .ref (ad 0)), (1, .int (x))] := hl
  have hf : s_X5_there σ x = s_X5_there σ x := rfl
  have hz : σ 0 = σ 0 := rfl
  have hin5 : ∀ w ∈ wsX50, w ∈ wsX5_there := by decide +kernel
  have wd0 := hts (.fieldLink RX5 77 "UmbrellaLandModel$State" "umbrellas" "I") (by decide +kernel)
  have wd1 := hts (.fieldLink RX5 25 "UmbrellaLandModel$State" "kind" "[I") (by decide +kernel)
  have wd2 := hts (.fieldLink RX5 28 "UmbrellaLandModel$State" "at" "[I") (by decide +kernel)
  have n5 := hI.n5
  have loop4 : ∀  (n k : Nat) (acc : Int32) (H : Heap) (locs : List Loc) (ls : Array Slot), n = tn (σ 0 5) - k ∧ k ≤ tn (σ 0 5) + 1 → va_P D vwCl ((SW cy x0 ad) σ) H → va_D A ((SW cy x0 ad) σ) → va_S A s.heap H locs → lv_has ls 4 [(0, .ref (ad 0)), (1, .int (x)), (2, .int (acc)), (3, .int (nI k))] → (∀ u : Int32, u = lp_X5_there_4 σ x n k acc → ∀ (H : Heap) (locs : List Loc) (ls : Array Slot), va_P D vwCl ((SW cy x0 ad) σ) H → va_D A ((SW cy x0 ad) σ) → va_S A s.heap H locs → lv_has ls 4 [(0, .ref (ad 0)), (1, .int (x)), (2, .int (u))] → W p l e rm_X5_there s m [.ref (ad 0), .int (x)].toArray below meth c H locs 0 0 (MQ below (va_Qi (fun r u => (r, u) = (s_X5_there σ x, σ)) (gPost D (SW cy x0 ad) A) A) [.ref (ad 0), .int (x)].toArray s 0 0 A) (F0 m 45 ls [])) → W p l e rm_X5_there s m [.ref (ad 0), .int (x)].toArray below meth c H locs 0 0 (MQ below (va_Qi (fun r u => (r, u) = (s_X5_there σ x, σ)) (gPost D (SW cy x0 ad) A) A) [.ref (ad 0), .int (x)].toArray s 0 0 A) (F0 m 4 ls []) := by
    intro n
    induction n with
    | zero =>
      intro k acc H locs ls hN hP hD hS hl K
      have hf : lp_X5_there_4 σ x 0 k acc = lp_X5_there_4 σ x 0 k acc := rfl
      refine lv_iload_n hx hb dX5_there_4 rfl (lv_at hl 3 rfl) ?_
      refine lv_aload_n hx hb dX5_there_5 rfl (lv_at hl 0 rfl) ?_
      refine va_get (D := D) (ci := 5) (v := .int (σ 0 5)) (C := RX5) (T := TX5) (N := 22) hx hb hts hin5 hown hK hP (0) (SW_ob cy x0 ad σ) rfl 5 (by decide) wd0 (fun _ h9 => h9) rfl dX5_there_6 ?_
      refine g_top ((congrFun hz 5).trans hI.c5) ?_
      refine lv_icmp_ge (tgt := 45) hx hb dX5_there_9 (by decide) (fun c1 => ?_) (fun c1 => absurd (nI_le (by omega) (by omega)) c1)
      exact K acc hf.symm _ _ _ hP hD hS (lv_sub hl [0, 1, 2] rfl)
    | succ n ih =>
      intro k acc H locs ls hN hP hD hS hl K
      have hf : lp_X5_there_4 σ x (n + 1) k acc = lp_X5_there_4 σ x (n + 1) k acc := rfl
      refine lv_iload_n hx hb dX5_there_4 rfl (lv_at hl 3 rfl) ?_
      refine lv_aload_n hx hb dX5_there_5 rfl (lv_at hl 0 rfl) ?_
      refine va_get (D := D) (ci := 5) (v := .int (σ 0 5)) (C := RX5) (T := TX5) (N := 22) hx hb hts hin5 hown hK hP (0) (SW_ob cy x0 ad σ) rfl 5 (by decide) wd0 (fun _ h9 => h9) rfl dX5_there_6 ?_
      refine g_top ((congrFun hz 5).trans hI.c5) ?_
      refine lv_icmp_ge (tgt := 45) hx hb dX5_there_9 (by decide) (fun c2 => absurd c2 (nI_ge (by omega) (by omega))) (fun c2 => ?_)
      refine lv_iload_n hx hb dX5_there_12 rfl (lv_at hl 2 rfl) ?_
      refine lv_aload_n hx hb dX5_there_13 rfl (lv_at hl 0 rfl) ?_
      refine va_get (D := D) (ci := 5) (v := .ref (ad 4)) (C := RX5) (T := TX5) (N := 22) hx hb hts hin5 hown hK hP (0) (SW_ob cy x0 ad σ) rfl 6 (by decide) wd1 (fun _ h9 => h9) rfl dX5_there_14 ?_
      refine lv_iload_n hx hb dX5_there_17 rfl (lv_at hl 3 rfl) ?_
      have h3 : k < 40 := by omega
      refine g_iald hx hb hK hP (4) 0 k (SW_4 cy x0 ad σ) rfl (nI_clamp (by omega)) (vp_in_nI h3 (by decide)) dX5_there_18 ?_
      refine lv_if_ne (tgt := 36) hx hb dX5_there_19 (by decide) (fun c4 => ?_) (fun c4 => ?_)
      · replace hf := hf.trans (if_neg c4)
        refine lv_iconst (v := nI 0) hx hb dX5_there_36 (by decide) ?_
        refine lv_iadd hx hb dX5_there_37 ?_
        refine lv_istore_n (lv' := [(2, .int (acc + (nI 0))), (0, .ref (ad 0)), (1, .int (x)), (3, .int (nI k))]) hx hb dX5_there_38 rfl hl (by decide) rfl (fun ls hl => ?_)
        refine lv_iinc (v := nI (k + 1)) (lv' := [(3, .int (nI (k + 1))), (2, .int (acc + (nI 0))), (0, .ref (ad 0)), (1, .int (x))]) hx hb dX5_there_39 hl (k := 3) rfl (nI_1 _) (by decide) rfl (fun ls hl => ?_)
        refine lv_goto (tgt := 4) hx hb dX5_there_42 (by decide) ?_
        exact ih (k + 1) (acc + (nI 0)) _ _ _ (by omega)  hP hD hS (lv_sub hl [2, 3, 1, 0] rfl) (fun u eu => K u (eu.trans hf.symm))
      · replace hf := hf.trans (if_pos c4)
        refine lv_aload_n hx hb dX5_there_22 rfl (lv_at hl 0 rfl) ?_
        refine va_get (D := D) (ci := 5) (v := .ref (ad 5)) (C := RX5) (T := TX5) (N := 22) hx hb hts hin5 hown hK hP (0) (SW_ob cy x0 ad σ) rfl 7 (by decide) wd2 (fun _ h9 => h9) rfl dX5_there_23 ?_
        refine lv_iload_n hx hb dX5_there_26 rfl (lv_at hl 3 rfl) ?_
        have h5 : k < 40 := by omega
        refine g_iald hx hb hK hP (5) 0 k (SW_5 cy x0 ad σ) rfl (nI_clamp (by omega)) (vp_in_nI h5 (by decide)) dX5_there_27 ?_
        refine lv_iload_n hx hb dX5_there_28 rfl (lv_at hl 1 rfl) ?_
        refine lv_icmp_ne (tgt := 36) hx hb dX5_there_29 (by decide) (fun c6 => ?_) (fun c6 => ?_)
        · replace hf := hf.trans (if_neg c6)
          refine lv_iconst (v := nI 0) hx hb dX5_there_36 (by decide) ?_
          refine lv_iadd hx hb dX5_there_37 ?_
          refine lv_istore_n (lv' := [(2, .int (acc + (nI 0))), (0, .ref (ad 0)), (1, .int (x)), (3, .int (nI k))]) hx hb dX5_there_38 rfl hl (by decide) rfl (fun ls hl => ?_)
          refine lv_iinc (v := nI (k + 1)) (lv' := [(3, .int (nI (k + 1))), (2, .int (acc + (nI 0))), (0, .ref (ad 0)), (1, .int (x))]) hx hb dX5_there_39 hl (k := 3) rfl (nI_1 _) (by decide) rfl (fun ls hl => ?_)
          refine lv_goto (tgt := 4) hx hb dX5_there_42 (by decide) ?_
          exact ih (k + 1) (acc + (nI 0)) _ _ _ (by omega)  hP hD hS (lv_sub hl [2, 3, 1, 0] rfl) (fun u eu => K u (eu.trans hf.symm))
        · replace hf := hf.trans (if_pos c6)
          refine lv_iconst (v := nI 1) hx hb dX5_there_32 (by decide) ?_
          refine lv_goto (tgt := 37) hx hb dX5_there_33 (by decide) ?_
          refine lv_iadd hx hb dX5_there_37 ?_
          refine lv_istore_n (lv' := [(2, .int (acc + (nI 1))), (0, .ref (ad 0)), (1, .int (x)), (3, .int (nI k))]) hx hb dX5_there_38 rfl hl (by decide) rfl (fun ls hl => ?_)
          refine lv_iinc (v := nI (k + 1)) (lv' := [(3, .int (nI (k + 1))), (2, .int (acc + (nI 1))), (0, .ref (ad 0)), (1, .int (x))]) hx hb dX5_there_39 hl (k := 3) rfl (nI_1 _) (by decide) rfl (fun ls hl => ?_)
          refine lv_goto (tgt := 4) hx hb dX5_there_42 (by decide) ?_
          exact ih (k + 1) (acc + (nI 1)) _ _ _ (by omega)  hP hD hS (lv_sub hl [2, 3, 1, 0] rfl) (fun u eu => K u (eu.trans hf.symm))
  refine lv_iconst (v := nI 0) hx hb dX5_there_0 (by decide) ?_
  refine lv_istore_n (lv' := [(2, .int (nI 0)), (0, .ref (ad 0)), (1, .int (x))]) hx hb dX5_there_1 rfl hl (by decide) rfl (fun ls hl => ?_)
  refine lv_iconst (v := nI 0) hx hb dX5_there_2 (by decide) ?_
  refine lv_istore_n (lv' := [(3, .int (nI 0)), (2, .int (nI 0)), (0, .ref (ad 0)), (1, .int (x))]) hx hb dX5_there_3 rfl hl (by decide) rfl (fun ls hl => ?_)
  refine loop4  (tn (σ 0 5)) 0 (nI 0) _ _ _ (by omega)  hP hD hS (lv_sub hl [2, 3, 1, 0] rfl) ?_
  intro q7 eq7 H locs ls hP hD hS hl
  replace hf := hf.trans (ltt_r eq7)
  refine lv_iload_n hx hb dX5_there_45 rfl (lv_at hl 2 rfl) ?_
  exact g_endi hx hb hr hlocks rfl (congrArg (fun r => (r, σ)) hf) hP hD hS (Nat.le_of_ble_eq_true rfl) (Nat.le_of_ble_eq_true rfl) dX5_there_46
def lp_X5_of_4 (σ : Sg) (x : Int32)  : Nat → Nat → Int32 → Int32
  | 0, k, acc => acc
  | n + 1, k, acc => if (σ 4 k) = x then lp_X5_of_4 σ x n (k + 1) (acc + (nI 1)) else lp_X5_of_4 σ x n (k + 1) (acc + (nI 0))
def s_X5_of (σ : Sg) (x : Int32) : Int32 := ltt (lp_X5_of_4 σ x (tn (σ 0 5)) 0 (nI 0)) (fun q5 => q5)
abbrev rm_X5_of : Room := { frames := 0, cells := 0, slots := 0, locals := 0 }
set_option maxHeartbeats 4000000 in
set_option maxRecDepth 100000 in
theorem c_X5_of (l : Launch) (D : va_G) (cy : Nat → ClassId) (x0 : Nat) (ad : Nat → Nat) (σ : Sg) (x : Int32) (hI : OkN σ) : gMr l yX5_of wsX5_of rm_X5_of D (Ty cy) (SW cy x0 ad) [.ref (ad 0), .int (x)] σ (s_X5_of σ x) 0 0 := by
  refine gstarti cX5_of 4 RX5 (by decide) rfl rfl (Nat.le_of_ble_eq_true rfl) ?_
  intro p e s m below meth c A ls hx hb hml hown hts hr hlocks hK hP hD hA hS hl
  have hl : lv_has ls 4 [(0, .ref (ad 0)), (1, .int (x))] := hl
  have hf : s_X5_of σ x = s_X5_of σ x := rfl
  have hz : σ 0 = σ 0 := rfl
  have hin5 : ∀ w ∈ wsX50, w ∈ wsX5_of := by decide +kernel
  have wd0 := hts (.fieldLink RX5 77 "UmbrellaLandModel$State" "umbrellas" "I") (by decide +kernel)
  have wd1 := hts (.fieldLink RX5 25 "UmbrellaLandModel$State" "kind" "[I") (by decide +kernel)
  have n5 := hI.n5
  have loop4 : ∀  (n k : Nat) (acc : Int32) (H : Heap) (locs : List Loc) (ls : Array Slot), n = tn (σ 0 5) - k ∧ k ≤ tn (σ 0 5) + 1 → va_P D vwCl ((SW cy x0 ad) σ) H → va_D A ((SW cy x0 ad) σ) → va_S A s.heap H locs → lv_has ls 4 [(0, .ref (ad 0)), (1, .int (x)), (2, .int (acc)), (3, .int (nI k))] → (∀ u : Int32, u = lp_X5_of_4 σ x n k acc → ∀ (H : Heap) (locs : List Loc) (ls : Array Slot), va_P D vwCl ((SW cy x0 ad) σ) H → va_D A ((SW cy x0 ad) σ) → va_S A s.heap H locs → lv_has ls 4 [(0, .ref (ad 0)), (1, .int (x)), (2, .int (u))] → W p l e rm_X5_of s m [.ref (ad 0), .int (x)].toArray below meth c H locs 0 0 (MQ below (va_Qi (fun r u => (r, u) = (s_X5_of σ x, σ)) (gPost D (SW cy x0 ad) A) A) [.ref (ad 0), .int (x)].toArray s 0 0 A) (F0 m 36 ls [])) → W p l e rm_X5_of s m [.ref (ad 0), .int (x)].toArray below meth c H locs 0 0 (MQ below (va_Qi (fun r u => (r, u) = (s_X5_of σ x, σ)) (gPost D (SW cy x0 ad) A) A) [.ref (ad 0), .int (x)].toArray s 0 0 A) (F0 m 4 ls []) := by
    intro n
    induction n with
    | zero =>
      intro k acc H locs ls hN hP hD hS hl K
      have hf : lp_X5_of_4 σ x 0 k acc = lp_X5_of_4 σ x 0 k acc := rfl
      refine lv_iload_n hx hb dX5_of_4 rfl (lv_at hl 3 rfl) ?_
      refine lv_aload_n hx hb dX5_of_5 rfl (lv_at hl 0 rfl) ?_
      refine va_get (D := D) (ci := 5) (v := .int (σ 0 5)) (C := RX5) (T := TX5) (N := 22) hx hb hts hin5 hown hK hP (0) (SW_ob cy x0 ad σ) rfl 5 (by decide) wd0 (fun _ h9 => h9) rfl dX5_of_6 ?_
      refine g_top ((congrFun hz 5).trans hI.c5) ?_
      refine lv_icmp_ge (tgt := 36) hx hb dX5_of_9 (by decide) (fun c1 => ?_) (fun c1 => absurd (nI_le (by omega) (by omega)) c1)
      exact K acc hf.symm _ _ _ hP hD hS (lv_sub hl [0, 1, 2] rfl)
    | succ n ih =>
      intro k acc H locs ls hN hP hD hS hl K
      have hf : lp_X5_of_4 σ x (n + 1) k acc = lp_X5_of_4 σ x (n + 1) k acc := rfl
      refine lv_iload_n hx hb dX5_of_4 rfl (lv_at hl 3 rfl) ?_
      refine lv_aload_n hx hb dX5_of_5 rfl (lv_at hl 0 rfl) ?_
      refine va_get (D := D) (ci := 5) (v := .int (σ 0 5)) (C := RX5) (T := TX5) (N := 22) hx hb hts hin5 hown hK hP (0) (SW_ob cy x0 ad σ) rfl 5 (by decide) wd0 (fun _ h9 => h9) rfl dX5_of_6 ?_
      refine g_top ((congrFun hz 5).trans hI.c5) ?_
      refine lv_icmp_ge (tgt := 36) hx hb dX5_of_9 (by decide) (fun c2 => absurd c2 (nI_ge (by omega) (by omega))) (fun c2 => ?_)
      refine lv_iload_n hx hb dX5_of_12 rfl (lv_at hl 2 rfl) ?_
      refine lv_aload_n hx hb dX5_of_13 rfl (lv_at hl 0 rfl) ?_
      refine va_get (D := D) (ci := 5) (v := .ref (ad 4)) (C := RX5) (T := TX5) (N := 22) hx hb hts hin5 hown hK hP (0) (SW_ob cy x0 ad σ) rfl 6 (by decide) wd1 (fun _ h9 => h9) rfl dX5_of_14 ?_
      refine lv_iload_n hx hb dX5_of_17 rfl (lv_at hl 3 rfl) ?_
      have h3 : k < 40 := by omega
      refine g_iald hx hb hK hP (4) 0 k (SW_4 cy x0 ad σ) rfl (nI_clamp (by omega)) (vp_in_nI h3 (by decide)) dX5_of_18 ?_
      refine lv_iload_n hx hb dX5_of_19 rfl (lv_at hl 1 rfl) ?_
      refine lv_icmp_ne (tgt := 27) hx hb dX5_of_20 (by decide) (fun c4 => ?_) (fun c4 => ?_)
      · replace hf := hf.trans (if_neg c4)
        refine lv_iconst (v := nI 0) hx hb dX5_of_27 (by decide) ?_
        refine lv_iadd hx hb dX5_of_28 ?_
        refine lv_istore_n (lv' := [(2, .int (acc + (nI 0))), (0, .ref (ad 0)), (1, .int (x)), (3, .int (nI k))]) hx hb dX5_of_29 rfl hl (by decide) rfl (fun ls hl => ?_)
        refine lv_iinc (v := nI (k + 1)) (lv' := [(3, .int (nI (k + 1))), (2, .int (acc + (nI 0))), (0, .ref (ad 0)), (1, .int (x))]) hx hb dX5_of_30 hl (k := 3) rfl (nI_1 _) (by decide) rfl (fun ls hl => ?_)
        refine lv_goto (tgt := 4) hx hb dX5_of_33 (by decide) ?_
        exact ih (k + 1) (acc + (nI 0)) _ _ _ (by omega)  hP hD hS (lv_sub hl [2, 3, 1, 0] rfl) (fun u eu => K u (eu.trans hf.symm))
      · replace hf := hf.trans (if_pos c4)
        refine lv_iconst (v := nI 1) hx hb dX5_of_23 (by decide) ?_
        refine lv_goto (tgt := 28) hx hb dX5_of_24 (by decide) ?_
        refine lv_iadd hx hb dX5_of_28 ?_
        refine lv_istore_n (lv' := [(2, .int (acc + (nI 1))), (0, .ref (ad 0)), (1, .int (x)), (3, .int (nI k))]) hx hb dX5_of_29 rfl hl (by decide) rfl (fun ls hl => ?_)
        refine lv_iinc (v := nI (k + 1)) (lv' := [(3, .int (nI (k + 1))), (2, .int (acc + (nI 1))), (0, .ref (ad 0)), (1, .int (x))]) hx hb dX5_of_30 hl (k := 3) rfl (nI_1 _) (by decide) rfl (fun ls hl => ?_)
        refine lv_goto (tgt := 4) hx hb dX5_of_33 (by decide) ?_
        exact ih (k + 1) (acc + (nI 1)) _ _ _ (by omega)  hP hD hS (lv_sub hl [2, 3, 1, 0] rfl) (fun u eu => K u (eu.trans hf.symm))
  refine lv_iconst (v := nI 0) hx hb dX5_of_0 (by decide) ?_
  refine lv_istore_n (lv' := [(2, .int (nI 0)), (0, .ref (ad 0)), (1, .int (x))]) hx hb dX5_of_1 rfl hl (by decide) rfl (fun ls hl => ?_)
  refine lv_iconst (v := nI 0) hx hb dX5_of_2 (by decide) ?_
  refine lv_istore_n (lv' := [(3, .int (nI 0)), (2, .int (nI 0)), (0, .ref (ad 0)), (1, .int (x))]) hx hb dX5_of_3 rfl hl (by decide) rfl (fun ls hl => ?_)
  refine loop4  (tn (σ 0 5)) 0 (nI 0) _ _ _ (by omega)  hP hD hS (lv_sub hl [2, 3, 1, 0] rfl) ?_
  intro q5 eq5 H locs ls hP hD hS hl
  replace hf := hf.trans (ltt_r eq5)
  refine lv_iload_n hx hb dX5_of_36 rfl (lv_at hl 2 rfl) ?_
  exact g_endi hx hb hr hlocks rfl (congrArg (fun r => (r, σ)) hf) hP hD hS (Nat.le_of_ble_eq_true rfl) (Nat.le_of_ble_eq_true rfl) dX5_of_37
def lp_X5_over_4 (σ : Sg) (x : Int32)  : Nat → Nat → Int32 → Int32
  | 0, k, acc => acc
  | n + 1, k, acc => if x = 0 then lp_X5_over_4 σ x n (k + 1) (acc + (σ 16 (4 * k))) else if x = (nI 1) then lp_X5_over_4 σ x n (k + 1) (acc + (σ 15 k)) else if (σ 11 k) = (-1 : Int32) then lp_X5_over_4 σ x n (k + 1) (acc + (nI 1)) else lp_X5_over_4 σ x n (k + 1) (acc + (nI 0))
def s_X5_over (σ : Sg) (x : Int32) : Int32 := ltt (lp_X5_over_4 σ x (tn (σ 0 12)) 0 (nI 0)) (fun q9 => q9)
abbrev rm_X5_over : Room := { frames := 0, cells := 0, slots := 0, locals := 0 }
set_option maxHeartbeats 4000000 in
set_option maxRecDepth 100000 in
theorem c_X5_over (l : Launch) (D : va_G) (cy : Nat → ClassId) (x0 : Nat) (ad : Nat → Nat) (σ : Sg) (x : Int32) (hI : OkN σ) : gMr l yX5_over wsX5_over rm_X5_over D (Ty cy) (SW cy x0 ad) [.ref (ad 0), .int (x)] σ (s_X5_over σ x) 0 0 := by
  refine gstarti cX5_over 4 RX5 (by decide) rfl rfl (Nat.le_of_ble_eq_true rfl) ?_
  intro p e s m below meth c A ls hx hb hml hown hts hr hlocks hK hP hD hA hS hl
  have hl : lv_has ls 4 [(0, .ref (ad 0)), (1, .int (x))] := hl
  have hf : s_X5_over σ x = s_X5_over σ x := rfl
  have hz : σ 0 = σ 0 := rfl
  have hin5 : ∀ w ∈ wsX50, w ∈ wsX5_over := by decide +kernel
  have wd0 := hts (.fieldLink RX5 80 "UmbrellaLandModel$State" "citizens" "I") (by decide +kernel)
  have wd1 := hts (.fieldLink RX5 46 "UmbrellaLandModel$State" "is" "[I") (by decide +kernel)
  have wd2 := hts (.fieldLink RX5 58 "UmbrellaLandModel$State" "trust" "[I") (by decide +kernel)
  have wd3 := hts (.fieldLink RX5 61 "UmbrellaLandModel$State" "own" "[I") (by decide +kernel)
  have n12 := hI.n12
  have loop4 : ∀  (n k : Nat) (acc : Int32) (H : Heap) (locs : List Loc) (ls : Array Slot), n = tn (σ 0 12) - k ∧ k ≤ tn (σ 0 12) + 1 → va_P D vwCl ((SW cy x0 ad) σ) H → va_D A ((SW cy x0 ad) σ) → va_S A s.heap H locs → lv_has ls 4 [(0, .ref (ad 0)), (1, .int (x)), (2, .int (acc)), (3, .int (nI k))] → (∀ u : Int32, u = lp_X5_over_4 σ x n k acc → ∀ (H : Heap) (locs : List Loc) (ls : Array Slot), va_P D vwCl ((SW cy x0 ad) σ) H → va_D A ((SW cy x0 ad) σ) → va_S A s.heap H locs → lv_has ls 4 [(0, .ref (ad 0)), (1, .int (x)), (2, .int (u))] → W p l e rm_X5_over s m [.ref (ad 0), .int (x)].toArray below meth c H locs 0 0 (MQ below (va_Qi (fun r u => (r, u) = (s_X5_over σ x, σ)) (gPost D (SW cy x0 ad) A) A) [.ref (ad 0), .int (x)].toArray s 0 0 A) (F0 m 65 ls [])) → W p l e rm_X5_over s m [.ref (ad 0), .int (x)].toArray below meth c H locs 0 0 (MQ below (va_Qi (fun r u => (r, u) = (s_X5_over σ x, σ)) (gPost D (SW cy x0 ad) A) A) [.ref (ad 0), .int (x)].toArray s 0 0 A) (F0 m 4 ls []) := by
    intro n
    induction n with
    | zero =>
      intro k acc H locs ls hN hP hD hS hl K
      have hf : lp_X5_over_4 σ x 0 k acc = lp_X5_over_4 σ x 0 k acc := rfl
      refine lv_iload_n hx hb dX5_over_4 rfl (lv_at hl 3 rfl) ?_
      refine lv_aload_n hx hb dX5_over_5 rfl (lv_at hl 0 rfl) ?_
      refine va_get (D := D) (ci := 5) (v := .int (σ 0 12)) (C := RX5) (T := TX5) (N := 22) hx hb hts hin5 hown hK hP (0) (SW_ob cy x0 ad σ) rfl 12 (by decide) wd0 (fun _ h9 => h9) rfl dX5_over_6 ?_
      refine g_top ((congrFun hz 12).trans hI.c12) ?_
      refine lv_icmp_ge (tgt := 65) hx hb dX5_over_9 (by decide) (fun c1 => ?_) (fun c1 => absurd (nI_le (by omega) (by omega)) c1)
      exact K acc hf.symm _ _ _ hP hD hS (lv_sub hl [0, 1, 2] rfl)
    | succ n ih =>
      intro k acc H locs ls hN hP hD hS hl K
      have hf : lp_X5_over_4 σ x (n + 1) k acc = lp_X5_over_4 σ x (n + 1) k acc := rfl
      refine lv_iload_n hx hb dX5_over_4 rfl (lv_at hl 3 rfl) ?_
      refine lv_aload_n hx hb dX5_over_5 rfl (lv_at hl 0 rfl) ?_
      refine va_get (D := D) (ci := 5) (v := .int (σ 0 12)) (C := RX5) (T := TX5) (N := 22) hx hb hts hin5 hown hK hP (0) (SW_ob cy x0 ad σ) rfl 12 (by decide) wd0 (fun _ h9 => h9) rfl dX5_over_6 ?_
      refine g_top ((congrFun hz 12).trans hI.c12) ?_
      refine lv_icmp_ge (tgt := 65) hx hb dX5_over_9 (by decide) (fun c2 => absurd c2 (nI_ge (by omega) (by omega))) (fun c2 => ?_)
      refine lv_iload_n hx hb dX5_over_12 rfl (lv_at hl 2 rfl) ?_
      refine lv_iload_n hx hb dX5_over_13 rfl (lv_at hl 1 rfl) ?_
      refine lv_if_ne (tgt := 28) hx hb dX5_over_14 (by decide) (fun c3 => ?_) (fun c3 => ?_)
      · replace hf := hf.trans (if_neg c3)
        refine lv_iload_n hx hb dX5_over_28 rfl (lv_at hl 1 rfl) ?_
        refine lv_iconst (v := nI 1) hx hb dX5_over_29 (by decide) ?_
        refine lv_icmp_ne (tgt := 42) hx hb dX5_over_30 (by decide) (fun c4 => ?_) (fun c4 => ?_)
        · replace hf := hf.trans (if_neg c4)
          refine lv_aload_n hx hb dX5_over_42 rfl (lv_at hl 0 rfl) ?_
          refine va_get (D := D) (ci := 5) (v := .ref (ad 11)) (C := RX5) (T := TX5) (N := 22) hx hb hts hin5 hown hK hP (0) (SW_ob cy x0 ad σ) rfl 14 (by decide) wd1 (fun _ h9 => h9) rfl dX5_over_43 ?_
          refine lv_iload_n hx hb dX5_over_46 rfl (lv_at hl 3 rfl) ?_
          have h5 : k < 10 := by omega
          refine g_iald hx hb hK hP (11) 0 k (SW_11 cy x0 ad σ) rfl (nI_clamp (by omega)) (vp_in_nI h5 (by decide)) dX5_over_47 ?_
          refine lv_iconst (v := (-1 : Int32)) hx hb dX5_over_48 (by decide) ?_
          refine lv_icmp_ne (tgt := 56) hx hb dX5_over_49 (by decide) (fun c6 => ?_) (fun c6 => ?_)
          · replace hf := hf.trans (if_neg c6)
            refine lv_iconst (v := nI 0) hx hb dX5_over_56 (by decide) ?_
            refine lv_iadd hx hb dX5_over_57 ?_
            refine lv_istore_n (lv' := [(2, .int (acc + (nI 0))), (0, .ref (ad 0)), (1, .int (x)), (3, .int (nI k))]) hx hb dX5_over_58 rfl hl (by decide) rfl (fun ls hl => ?_)
            refine lv_iinc (v := nI (k + 1)) (lv' := [(3, .int (nI (k + 1))), (2, .int (acc + (nI 0))), (0, .ref (ad 0)), (1, .int (x))]) hx hb dX5_over_59 hl (k := 3) rfl (nI_1 _) (by decide) rfl (fun ls hl => ?_)
            refine lv_goto (tgt := 4) hx hb dX5_over_62 (by decide) ?_
            exact ih (k + 1) (acc + (nI 0)) _ _ _ (by omega)  hP hD hS (lv_sub hl [2, 3, 1, 0] rfl) (fun u eu => K u (eu.trans hf.symm))
          · replace hf := hf.trans (if_pos c6)
            refine lv_iconst (v := nI 1) hx hb dX5_over_52 (by decide) ?_
            refine lv_goto (tgt := 57) hx hb dX5_over_53 (by decide) ?_
            refine lv_iadd hx hb dX5_over_57 ?_
            refine lv_istore_n (lv' := [(2, .int (acc + (nI 1))), (0, .ref (ad 0)), (1, .int (x)), (3, .int (nI k))]) hx hb dX5_over_58 rfl hl (by decide) rfl (fun ls hl => ?_)
            refine lv_iinc (v := nI (k + 1)) (lv' := [(3, .int (nI (k + 1))), (2, .int (acc + (nI 1))), (0, .ref (ad 0)), (1, .int (x))]) hx hb dX5_over_59 hl (k := 3) rfl (nI_1 _) (by decide) rfl (fun ls hl => ?_)
            refine lv_goto (tgt := 4) hx hb dX5_over_62 (by decide) ?_
            exact ih (k + 1) (acc + (nI 1)) _ _ _ (by omega)  hP hD hS (lv_sub hl [2, 3, 1, 0] rfl) (fun u eu => K u (eu.trans hf.symm))
        · replace hf := hf.trans (if_pos c4)
          refine lv_aload_n hx hb dX5_over_33 rfl (lv_at hl 0 rfl) ?_
          refine va_get (D := D) (ci := 5) (v := .ref (ad 15)) (C := RX5) (T := TX5) (N := 22) hx hb hts hin5 hown hK hP (0) (SW_ob cy x0 ad σ) rfl 18 (by decide) wd2 (fun _ h9 => h9) rfl dX5_over_34 ?_
          refine lv_iload_n hx hb dX5_over_37 rfl (lv_at hl 3 rfl) ?_
          have h7 : k < 10 := by omega
          refine g_iald hx hb hK hP (15) 0 k (SW_15 cy x0 ad σ) rfl (nI_clamp (by omega)) (vp_in_nI h7 (by decide)) dX5_over_38 ?_
          refine lv_goto (tgt := 57) hx hb dX5_over_39 (by decide) ?_
          refine lv_iadd hx hb dX5_over_57 ?_
          refine lv_istore_n (lv' := [(2, .int (acc + (σ 15 k))), (0, .ref (ad 0)), (1, .int (x)), (3, .int (nI k))]) hx hb dX5_over_58 rfl hl (by decide) rfl (fun ls hl => ?_)
          refine lv_iinc (v := nI (k + 1)) (lv' := [(3, .int (nI (k + 1))), (2, .int (acc + (σ 15 k))), (0, .ref (ad 0)), (1, .int (x))]) hx hb dX5_over_59 hl (k := 3) rfl (nI_1 _) (by decide) rfl (fun ls hl => ?_)
          refine lv_goto (tgt := 4) hx hb dX5_over_62 (by decide) ?_
          exact ih (k + 1) (acc + (σ 15 k)) _ _ _ (by omega)  hP hD hS (lv_sub hl [2, 3, 1, 0] rfl) (fun u eu => K u (eu.trans hf.symm))
      · replace hf := hf.trans (if_pos c3)
        refine lv_aload_n hx hb dX5_over_17 rfl (lv_at hl 0 rfl) ?_
        refine va_get (D := D) (ci := 5) (v := .ref (ad 16)) (C := RX5) (T := TX5) (N := 22) hx hb hts hin5 hown hK hP (0) (SW_ob cy x0 ad σ) rfl 19 (by decide) wd3 (fun _ h9 => h9) rfl dX5_over_18 ?_
        refine lv_iconst (v := nI 4) hx hb dX5_over_21 (by decide) ?_
        refine lv_iload_n hx hb dX5_over_22 rfl (lv_at hl 3 rfl) ?_
        refine lv_imul hx hb dX5_over_23 ?_
        refine g_top (pk_mul _ _) ?_
        have h8 : 4 * k < 40 := by omega
        refine g_iald hx hb hK hP (16) 0 (4 * k) (SW_16 cy x0 ad σ) rfl (nI_clamp (by omega)) (vp_in_nI h8 (by decide)) dX5_over_24 ?_
        refine lv_goto (tgt := 57) hx hb dX5_over_25 (by decide) ?_
        refine lv_iadd hx hb dX5_over_57 ?_
        refine lv_istore_n (lv' := [(2, .int (acc + (σ 16 (4 * k)))), (0, .ref (ad 0)), (1, .int (x)), (3, .int (nI k))]) hx hb dX5_over_58 rfl hl (by decide) rfl (fun ls hl => ?_)
        refine lv_iinc (v := nI (k + 1)) (lv' := [(3, .int (nI (k + 1))), (2, .int (acc + (σ 16 (4 * k)))), (0, .ref (ad 0)), (1, .int (x))]) hx hb dX5_over_59 hl (k := 3) rfl (nI_1 _) (by decide) rfl (fun ls hl => ?_)
        refine lv_goto (tgt := 4) hx hb dX5_over_62 (by decide) ?_
        exact ih (k + 1) (acc + (σ 16 (4 * k))) _ _ _ (by omega)  hP hD hS (lv_sub hl [2, 3, 1, 0] rfl) (fun u eu => K u (eu.trans hf.symm))
  refine lv_iconst (v := nI 0) hx hb dX5_over_0 (by decide) ?_
  refine lv_istore_n (lv' := [(2, .int (nI 0)), (0, .ref (ad 0)), (1, .int (x))]) hx hb dX5_over_1 rfl hl (by decide) rfl (fun ls hl => ?_)
  refine lv_iconst (v := nI 0) hx hb dX5_over_2 (by decide) ?_
  refine lv_istore_n (lv' := [(3, .int (nI 0)), (2, .int (nI 0)), (0, .ref (ad 0)), (1, .int (x))]) hx hb dX5_over_3 rfl hl (by decide) rfl (fun ls hl => ?_)
  refine loop4  (tn (σ 0 12)) 0 (nI 0) _ _ _ (by omega)  hP hD hS (lv_sub hl [2, 3, 1, 0] rfl) ?_
  intro q9 eq9 H locs ls hP hD hS hl
  replace hf := hf.trans (ltt_r eq9)
  refine lv_iload_n hx hb dX5_over_65 rfl (lv_at hl 2 rfl) ?_
  exact g_endi hx hb hr hlocks rfl (congrArg (fun r => (r, σ)) hf) hP hD hS (Nat.le_of_ble_eq_true rfl) (Nat.le_of_ble_eq_true rfl) dX5_over_66
def s_X5_wouldGet (σ : Sg) (ci : Nat) (sh : Nat) : Int32 := if (σ 15 ci) < (σ 2 sh) then nI 0 else ltt (s_X5_first σ (nI sh)) (fun r4 => if r4 = (-1 : Int32) then nI 0 else nI 1)
abbrev rm_X5_wouldGet : Room := { frames := 1, cells := 0, slots := 0, locals := 23 }
set_option maxHeartbeats 4000000 in
set_option maxRecDepth 100000 in
theorem c_X5_wouldGet (l : Launch) (D : va_G) (cy : Nat → ClassId) (x0 : Nat) (ad : Nat → Nat) (σ : Sg) (ci : Nat) (sh : Nat) (hc : ci < 10) (hs : sh < 8) (hI : OkN σ) : gMr l yX5_wouldGet wsX5_wouldGet rm_X5_wouldGet D (Ty cy) (SW cy x0 ad) [.ref (ad 0), .int (nI ci), .int (nI sh)] σ (s_X5_wouldGet σ ci sh) 0 0 := by
  refine gstarti cX5_wouldGet 3 RX5 (by decide) rfl rfl (Nat.le_of_ble_eq_true rfl) ?_
  intro p e s m below meth c A ls hx hb hml hown hts hr hlocks hK hP hD hA hS hl
  have hl : lv_has ls 3 [(0, .ref (ad 0)), (1, .int (nI ci)), (2, .int (nI sh))] := hl
  have hf : s_X5_wouldGet σ ci sh = s_X5_wouldGet σ ci sh := rfl
  have hz : σ 0 = σ 0 := rfl
  have hin5 : ∀ w ∈ wsX50, w ∈ wsX5_wouldGet := by decide +kernel
  have wd0 := hts (.fieldLink RX5 58 "UmbrellaLandModel$State" "trust" "[I") (by decide +kernel)
  have wd1 := hts (.fieldLink RX5 19 "UmbrellaLandModel$State" "demand" "[I") (by decide +kernel)
  refine lv_aload_n hx hb dX5_wouldGet_0 rfl (lv_at hl 0 rfl) ?_
  refine va_get (D := D) (ci := 5) (v := .ref (ad 15)) (C := RX5) (T := TX5) (N := 22) hx hb hts hin5 hown hK hP (0) (SW_ob cy x0 ad σ) rfl 18 (by decide) wd0 (fun _ h9 => h9) rfl dX5_wouldGet_1 ?_
  refine lv_iload_n hx hb dX5_wouldGet_4 rfl (lv_at hl 1 rfl) ?_
  have h1 : ci < 10 := by omega
  refine g_iald hx hb hK hP (15) 0 ci (SW_15 cy x0 ad σ) rfl (nI_clamp (by omega)) (vp_in_nI h1 (by decide)) dX5_wouldGet_5 ?_
  refine lv_aload_n hx hb dX5_wouldGet_6 rfl (lv_at hl 0 rfl) ?_
  refine va_get (D := D) (ci := 5) (v := .ref (ad 2)) (C := RX5) (T := TX5) (N := 22) hx hb hts hin5 hown hK hP (0) (SW_ob cy x0 ad σ) rfl 3 (by decide) wd1 (fun _ h9 => h9) rfl dX5_wouldGet_7 ?_
  refine lv_iload_n hx hb dX5_wouldGet_10 rfl (lv_at hl 2 rfl) ?_
  have h2 : sh < 8 := by omega
  refine g_iald hx hb hK hP (2) 0 sh (SW_2 cy x0 ad σ) rfl (nI_clamp (by omega)) (vp_in_nI h2 (by decide)) dX5_wouldGet_11 ?_
  refine lv_icmp_lt (tgt := 28) hx hb dX5_wouldGet_12 (by decide) (fun c3 => ?_) (fun c3 => ?_)
  · replace hf := hf.trans (if_pos c3)
    refine lv_iconst (v := nI 0) hx hb dX5_wouldGet_28 (by decide) ?_
    exact g_endi hx hb hr hlocks rfl (congrArg (fun r => (r, σ)) hf) hP hD hS (Nat.le_of_ble_eq_true rfl) (Nat.le_of_ble_eq_true rfl) dX5_wouldGet_29
  · replace hf := hf.trans (if_neg c3)
    refine lv_aload_n hx hb dX5_wouldGet_15 rfl (lv_at hl 0 rfl) ?_
    refine lv_iload_n hx hb dX5_wouldGet_16 rfl (lv_at hl 2 rfl) ?_
    refine g_callr (q0 := 0) (wf := (SW cy x0 ad)) (σ := σ) (wfc := (SW cy x0 ad)) (σc := σ) hx hb hml hown hts hK hP hD hS hA hl.1 [] pm_0 [.int (nI sh)] (c_X5_first l D cy x0 ad σ (nI sh) (hI.mv hz)) (cwV 1 hts gX5_wouldGet_X5_first rfl rfl rfl (by decide +kernel) ⟨Nat.le_of_ble_eq_true rfl, Nat.le_of_ble_eq_true rfl⟩) (SW_ob cy x0 ad σ) rfl rfl rfl rfl (Nat.le_of_ble_eq_true rfl) dX5_wouldGet_17 ⟨Nat.le_of_ble_eq_true rfl, Nat.le_of_ble_eq_true rfl⟩ rfl rfl ?_
    intro r4 er4 H locs hP hD hS
    replace hf := hf.trans (ltt_r er4)
    refine lv_iconst (v := (-1 : Int32)) hx hb dX5_wouldGet_20 (by decide) ?_
    refine lv_icmp_eq (tgt := 28) hx hb dX5_wouldGet_21 (by decide) (fun c5 => ?_) (fun c5 => ?_)
    · replace hf := hf.trans (if_pos c5)
      refine lv_iconst (v := nI 0) hx hb dX5_wouldGet_28 (by decide) ?_
      exact g_endi hx hb hr hlocks rfl (congrArg (fun r => (r, σ)) hf) hP hD hS (Nat.le_of_ble_eq_true rfl) (Nat.le_of_ble_eq_true rfl) dX5_wouldGet_29
    · replace hf := hf.trans (if_neg c5)
      refine lv_iconst (v := nI 1) hx hb dX5_wouldGet_24 (by decide) ?_
      refine lv_goto (tgt := 29) hx hb dX5_wouldGet_25 (by decide) ?_
      exact g_endi hx hb hr hlocks rfl (congrArg (fun r => (r, σ)) hf) hP hD hS (Nat.le_of_ble_eq_true rfl) (Nat.le_of_ble_eq_true rfl) dX5_wouldGet_29
theorem b_X5_wouldGet (σ : Sg) (ci : Nat) (sh : Nat) : narrow .boolean (.int (s_X5_wouldGet σ ci sh)) = .int (s_X5_wouldGet σ ci sh) := by
  unfold s_X5_wouldGet
  (try simp only [ltt])
  repeat' split
  all_goals rfl
def s_X5_bring (σ : Sg) (x : Int32) : Sg := ltt (up σ 4 (tn (σ 0 5)) (nI 0)) (fun u2 => ltt (up u2 5 (tn (σ 0 5)) x) (fun u4 => ltt (up u4 6 (tn (σ 0 5)) (nI 0)) (fun u6 => ltt (up u6 7 (tn (σ 0 5)) (nI 0)) (fun u8 => ltt (up u8 8 (tn (σ 0 5)) (nI 0)) (fun u10 => ltt (up u10 9 (tn (σ 0 5)) (-1 : Int32)) (fun u12 => ltt (up u12 0 5 (nI ((tn (σ 0 5)) + 1))) (fun u13 => u13)))))))
abbrev rm_X5_bring : Room := { frames := 0, cells := 0, slots := 0, locals := 0 }
set_option maxHeartbeats 4000000 in
set_option maxRecDepth 100000 in
theorem c_X5_bring (l : Launch) (D : va_G) (cy : Nat → ClassId) (x0 : Nat) (ad : Nat → Nat) (σ : Sg) (x : Int32) (hI : OkN σ) (hb : tn (σ 0 5) < 40) : gMv l yX5_bring wsX5_bring rm_X5_bring D (Ty cy) (SW cy x0 ad) [.ref (ad 0), .int (x)] σ (s_X5_bring σ x) 0 0 := by
  refine gstartv cX5_bring 2 RX5 (by decide) rfl rfl (Nat.le_of_ble_eq_true rfl) ?_
  intro p e s m below meth c A ls hx hb hml hown hts hr hlocks hK hP hD hA hS hl
  have hl : lv_has ls 2 [(0, .ref (ad 0)), (1, .int (x))] := hl
  have hf : s_X5_bring σ x = s_X5_bring σ x := rfl
  have hz : σ 0 = σ 0 := rfl
  have hin5 : ∀ w ∈ wsX50, w ∈ wsX5_bring := by decide +kernel
  have wd0 := hts (.fieldLink RX5 25 "UmbrellaLandModel$State" "kind" "[I") (by decide +kernel)
  have wd1 := hts (.fieldLink RX5 77 "UmbrellaLandModel$State" "umbrellas" "I") (by decide +kernel)
  have wd2 := hts (.fieldLink RX5 28 "UmbrellaLandModel$State" "at" "[I") (by decide +kernel)
  have wd3 := hts (.fieldLink RX5 31 "UmbrellaLandModel$State" "wear" "[I") (by decide +kernel)
  have wd4 := hts (.fieldLink RX5 34 "UmbrellaLandModel$State" "waits" "[I") (by decide +kernel)
  have wd5 := hts (.fieldLink RX5 37 "UmbrellaLandModel$State" "taken" "[I") (by decide +kernel)
  have wd6 := hts (.fieldLink RX5 40 "UmbrellaLandModel$State" "from" "[I") (by decide +kernel)
  refine lv_aload_n hx hb dX5_bring_0 rfl (lv_at hl 0 rfl) ?_
  refine va_get (D := D) (ci := 5) (v := .ref (ad 4)) (C := RX5) (T := TX5) (N := 22) hx hb hts hin5 hown hK hP (0) (SW_ob cy x0 ad σ) rfl 6 (by decide) wd0 (fun _ h9 => h9) rfl dX5_bring_1 ?_
  refine lv_aload_n hx hb dX5_bring_4 rfl (lv_at hl 0 rfl) ?_
  refine va_get (D := D) (ci := 5) (v := .int (σ 0 5)) (C := RX5) (T := TX5) (N := 22) hx hb hts hin5 hown hK hP (0) (SW_ob cy x0 ad σ) rfl 5 (by decide) wd1 (fun _ h9 => h9) rfl dX5_bring_5 ?_
  refine g_top ((congrFun hz 5).trans hI.c5) ?_
  refine lv_iconst (v := nI 0) hx hb dX5_bring_8 (by decide) ?_
  have h1 : tn (σ 0 5) < 40 := by omega
  refine g_iast (σ1 := up σ 4 (tn (σ 0 5)) (nI 0)) hx hb hK hP hD hS (4) 0 (tn (σ 0 5)) (SW_4 cy x0 ad σ) rfl (nI_clamp (by omega)) (vp_in_nI h1 (by decide)) (SW_4_set cy x0 ad σ (tn (σ 0 5)) _) dX5_bring_9 ?_
  intro u2 eu2 H locs hP hD hS
  replace hf := hf.trans (ltt_r eu2)
  have hz : u2 0 = σ 0 := by rw [eu2]; exact keep_up rfl (by decide) hz
  refine lv_aload_n hx hb dX5_bring_10 rfl (lv_at hl 0 rfl) ?_
  refine va_get (D := D) (ci := 5) (v := .ref (ad 5)) (C := RX5) (T := TX5) (N := 22) hx hb hts hin5 hown hK hP (0) (SW_ob cy x0 ad u2) rfl 7 (by decide) wd2 (fun _ h9 => h9) rfl dX5_bring_11 ?_
  refine lv_aload_n hx hb dX5_bring_14 rfl (lv_at hl 0 rfl) ?_
  refine va_get (D := D) (ci := 5) (v := .int (u2 0 5)) (C := RX5) (T := TX5) (N := 22) hx hb hts hin5 hown hK hP (0) (SW_ob cy x0 ad u2) rfl 5 (by decide) wd1 (fun _ h9 => h9) rfl dX5_bring_15 ?_
  refine g_top ((congrFun hz 5).trans hI.c5) ?_
  refine lv_iload_n hx hb dX5_bring_18 rfl (lv_at hl 1 rfl) ?_
  have h3 : tn (σ 0 5) < 40 := by omega
  refine g_iast (σ1 := up u2 5 (tn (σ 0 5)) x) hx hb hK hP hD hS (5) 0 (tn (σ 0 5)) (SW_5 cy x0 ad u2) rfl (nI_clamp (by omega)) (vp_in_nI h3 (by decide)) (SW_5_set cy x0 ad u2 (tn (σ 0 5)) _) dX5_bring_19 ?_
  intro u4 eu4 H locs hP hD hS
  replace hf := hf.trans (ltt_r eu4)
  have hz : u4 0 = σ 0 := by rw [eu4]; exact keep_up rfl (by decide) hz
  refine lv_aload_n hx hb dX5_bring_20 rfl (lv_at hl 0 rfl) ?_
  refine va_get (D := D) (ci := 5) (v := .ref (ad 6)) (C := RX5) (T := TX5) (N := 22) hx hb hts hin5 hown hK hP (0) (SW_ob cy x0 ad u4) rfl 8 (by decide) wd3 (fun _ h9 => h9) rfl dX5_bring_21 ?_
  refine lv_aload_n hx hb dX5_bring_24 rfl (lv_at hl 0 rfl) ?_
  refine va_get (D := D) (ci := 5) (v := .int (u4 0 5)) (C := RX5) (T := TX5) (N := 22) hx hb hts hin5 hown hK hP (0) (SW_ob cy x0 ad u4) rfl 5 (by decide) wd1 (fun _ h9 => h9) rfl dX5_bring_25 ?_
  refine g_top ((congrFun hz 5).trans hI.c5) ?_
  refine lv_iconst (v := nI 0) hx hb dX5_bring_28 (by decide) ?_
  have h5 : tn (σ 0 5) < 40 := by omega
  refine g_iast (σ1 := up u4 6 (tn (σ 0 5)) (nI 0)) hx hb hK hP hD hS (6) 0 (tn (σ 0 5)) (SW_6 cy x0 ad u4) rfl (nI_clamp (by omega)) (vp_in_nI h5 (by decide)) (SW_6_set cy x0 ad u4 (tn (σ 0 5)) _) dX5_bring_29 ?_
  intro u6 eu6 H locs hP hD hS
  replace hf := hf.trans (ltt_r eu6)
  have hz : u6 0 = σ 0 := by rw [eu6]; exact keep_up rfl (by decide) hz
  refine lv_aload_n hx hb dX5_bring_30 rfl (lv_at hl 0 rfl) ?_
  refine va_get (D := D) (ci := 5) (v := .ref (ad 7)) (C := RX5) (T := TX5) (N := 22) hx hb hts hin5 hown hK hP (0) (SW_ob cy x0 ad u6) rfl 9 (by decide) wd4 (fun _ h9 => h9) rfl dX5_bring_31 ?_
  refine lv_aload_n hx hb dX5_bring_34 rfl (lv_at hl 0 rfl) ?_
  refine va_get (D := D) (ci := 5) (v := .int (u6 0 5)) (C := RX5) (T := TX5) (N := 22) hx hb hts hin5 hown hK hP (0) (SW_ob cy x0 ad u6) rfl 5 (by decide) wd1 (fun _ h9 => h9) rfl dX5_bring_35 ?_
  refine g_top ((congrFun hz 5).trans hI.c5) ?_
  refine lv_iconst (v := nI 0) hx hb dX5_bring_38 (by decide) ?_
  have h7 : tn (σ 0 5) < 40 := by omega
  refine g_iast (σ1 := up u6 7 (tn (σ 0 5)) (nI 0)) hx hb hK hP hD hS (7) 0 (tn (σ 0 5)) (SW_7 cy x0 ad u6) rfl (nI_clamp (by omega)) (vp_in_nI h7 (by decide)) (SW_7_set cy x0 ad u6 (tn (σ 0 5)) _) dX5_bring_39 ?_
  intro u8 eu8 H locs hP hD hS
  replace hf := hf.trans (ltt_r eu8)
  have hz : u8 0 = σ 0 := by rw [eu8]; exact keep_up rfl (by decide) hz
  refine lv_aload_n hx hb dX5_bring_40 rfl (lv_at hl 0 rfl) ?_
  refine va_get (D := D) (ci := 5) (v := .ref (ad 8)) (C := RX5) (T := TX5) (N := 22) hx hb hts hin5 hown hK hP (0) (SW_ob cy x0 ad u8) rfl 10 (by decide) wd5 (fun _ h9 => h9) rfl dX5_bring_41 ?_
  refine lv_aload_n hx hb dX5_bring_44 rfl (lv_at hl 0 rfl) ?_
  refine va_get (D := D) (ci := 5) (v := .int (u8 0 5)) (C := RX5) (T := TX5) (N := 22) hx hb hts hin5 hown hK hP (0) (SW_ob cy x0 ad u8) rfl 5 (by decide) wd1 (fun _ h9 => h9) rfl dX5_bring_45 ?_
  refine g_top ((congrFun hz 5).trans hI.c5) ?_
  refine lv_iconst (v := nI 0) hx hb dX5_bring_48 (by decide) ?_
  have h9 : tn (σ 0 5) < 40 := by omega
  refine g_iast (σ1 := up u8 8 (tn (σ 0 5)) (nI 0)) hx hb hK hP hD hS (8) 0 (tn (σ 0 5)) (SW_8 cy x0 ad u8) rfl (nI_clamp (by omega)) (vp_in_nI h9 (by decide)) (SW_8_set cy x0 ad u8 (tn (σ 0 5)) _) dX5_bring_49 ?_
  intro u10 eu10 H locs hP hD hS
  replace hf := hf.trans (ltt_r eu10)
  have hz : u10 0 = σ 0 := by rw [eu10]; exact keep_up rfl (by decide) hz
  refine lv_aload_n hx hb dX5_bring_50 rfl (lv_at hl 0 rfl) ?_
  refine va_get (D := D) (ci := 5) (v := .ref (ad 9)) (C := RX5) (T := TX5) (N := 22) hx hb hts hin5 hown hK hP (0) (SW_ob cy x0 ad u10) rfl 11 (by decide) wd6 (fun _ h9 => h9) rfl dX5_bring_51 ?_
  refine lv_aload_n hx hb dX5_bring_54 rfl (lv_at hl 0 rfl) ?_
  refine va_get (D := D) (ci := 5) (v := .int (u10 0 5)) (C := RX5) (T := TX5) (N := 22) hx hb hts hin5 hown hK hP (0) (SW_ob cy x0 ad u10) rfl 5 (by decide) wd1 (fun _ h9 => h9) rfl dX5_bring_55 ?_
  refine g_top ((congrFun hz 5).trans hI.c5) ?_
  refine lv_iconst (v := (-1 : Int32)) hx hb dX5_bring_58 (by decide) ?_
  have h11 : tn (σ 0 5) < 40 := by omega
  refine g_iast (σ1 := up u10 9 (tn (σ 0 5)) (-1 : Int32)) hx hb hK hP hD hS (9) 0 (tn (σ 0 5)) (SW_9 cy x0 ad u10) rfl (nI_clamp (by omega)) (vp_in_nI h11 (by decide)) (SW_9_set cy x0 ad u10 (tn (σ 0 5)) _) dX5_bring_59 ?_
  intro u12 eu12 H locs hP hD hS
  replace hf := hf.trans (ltt_r eu12)
  have hz : u12 0 = σ 0 := by rw [eu12]; exact keep_up rfl (by decide) hz
  refine lv_aload_n hx hb dX5_bring_60 rfl (lv_at hl 0 rfl) ?_
  refine lv_dup hx hb dX5_bring_61 rfl ?_
  refine va_get (D := D) (ci := 5) (v := .int (u12 0 5)) (C := RX5) (T := TX5) (N := 22) hx hb hts hin5 hown hK hP (0) (SW_ob cy x0 ad u12) rfl 5 (by decide) wd1 (fun _ h9 => h9) rfl dX5_bring_62 ?_
  refine g_top ((congrFun hz 5).trans hI.c5) ?_
  refine lv_iconst (v := nI 1) hx hb dX5_bring_65 (by decide) ?_
  refine lv_iadd hx hb dX5_bring_66 ?_
  refine g_top (nI_add _ _) ?_
  refine g_put (σ1 := up u12 0 5 (nI ((tn (σ 0 5)) + 1))) (fs := stF x0 ad (u12 0)) (C := RX5) (T := TX5) (N := 22) hx hb hts hin5 tyX5_ok nmX5 hown hK hP hD hS (0) (SW_ob cy x0 ad u12) rfl 5 (by decide) wd1 rfl rfl (Nat.le_of_ble_eq_true rfl) (SW_ob_set cy x0 ad u12 5 (by decide) _) dX5_bring_67 ?_
  intro u13 eu13 H locs hP hD hS
  replace hf := hf.trans (ltt_r eu13)
  exact g_endv hx hb hr hlocks hf hP hD hS (Nat.le_of_ble_eq_true rfl) (Nat.le_of_ble_eq_true rfl) dX5_bring_70
def s_X5_comeBack (σ : Sg) (u : Nat) : Sg := ltt (up σ 7 u ((σ 7 u) - (nI 1))) (fun u3 => if (u3 7 u) ≤ 0 then if (u3 4 u) = (nI 2) then ltt (up u3 5 u (u3 9 u)) (fun u20 => if (u20 4 u) = (nI 3) then ltt (up u20 6 u (nI 0)) (fun u26 => ltt (up u26 4 u (nI 0)) (fun u28 => u28)) else ltt (up u20 4 u (nI 0)) (fun u24 => u24)) else ltt (up u3 5 u (nI 0)) (fun u9 => if (u9 4 u) = (nI 3) then ltt (up u9 6 u (nI 0)) (fun u15 => ltt (up u15 4 u (nI 0)) (fun u17 => u17)) else ltt (up u9 4 u (nI 0)) (fun u13 => u13)) else u3)
abbrev rm_X5_comeBack : Room := { frames := 0, cells := 0, slots := 0, locals := 0 }
set_option maxHeartbeats 4000000 in
set_option maxRecDepth 100000 in
theorem c_X5_comeBack (l : Launch) (D : va_G) (cy : Nat → ClassId) (x0 : Nat) (ad : Nat → Nat) (σ : Sg) (u : Nat) (hu : u < 40) : gMv l yX5_comeBack wsX5_comeBack rm_X5_comeBack D (Ty cy) (SW cy x0 ad) [.ref (ad 0), .int (nI u)] σ (s_X5_comeBack σ u) 0 0 := by
  refine gstartv cX5_comeBack 2 RX5 (by decide) rfl rfl (Nat.le_of_ble_eq_true rfl) ?_
  intro p e s m below meth c A ls hx hb hml hown hts hr hlocks hK hP hD hA hS hl
  have hl : lv_has ls 2 [(0, .ref (ad 0)), (1, .int (nI u))] := hl
  have hf : s_X5_comeBack σ u = s_X5_comeBack σ u := rfl
  have hin5 : ∀ w ∈ wsX50, w ∈ wsX5_comeBack := by decide +kernel
  have wd0 := hts (.fieldLink RX5 34 "UmbrellaLandModel$State" "waits" "[I") (by decide +kernel)
  have wd1 := hts (.fieldLink RX5 28 "UmbrellaLandModel$State" "at" "[I") (by decide +kernel)
  have wd2 := hts (.fieldLink RX5 25 "UmbrellaLandModel$State" "kind" "[I") (by decide +kernel)
  have wd3 := hts (.fieldLink RX5 31 "UmbrellaLandModel$State" "wear" "[I") (by decide +kernel)
  have wd4 := hts (.fieldLink RX5 40 "UmbrellaLandModel$State" "from" "[I") (by decide +kernel)
  refine lv_aload_n hx hb dX5_comeBack_0 rfl (lv_at hl 0 rfl) ?_
  refine va_get (D := D) (ci := 5) (v := .ref (ad 7)) (C := RX5) (T := TX5) (N := 22) hx hb hts hin5 hown hK hP (0) (SW_ob cy x0 ad σ) rfl 9 (by decide) wd0 (fun _ h9 => h9) rfl dX5_comeBack_1 ?_
  refine lv_iload_n hx hb dX5_comeBack_4 rfl (lv_at hl 1 rfl) ?_
  refine lv_dup2_11 hx hb dX5_comeBack_5 rfl rfl ?_
  have h1 : u < 40 := by omega
  refine g_iald hx hb hK hP (7) 0 u (SW_7 cy x0 ad σ) rfl (nI_clamp (by omega)) (vp_in_nI h1 (by decide)) dX5_comeBack_6 ?_
  refine lv_iconst (v := nI 1) hx hb dX5_comeBack_7 (by decide) ?_
  refine lv_isub hx hb dX5_comeBack_8 ?_
  have h2 : u < 40 := by omega
  refine g_iast (σ1 := up σ 7 u ((σ 7 u) - (nI 1))) hx hb hK hP hD hS (7) 0 u (SW_7 cy x0 ad σ) rfl (nI_clamp (by omega)) (vp_in_nI h2 (by decide)) (SW_7_set cy x0 ad σ u _) dX5_comeBack_9 ?_
  intro u3 eu3 H locs hP hD hS
  replace hf := hf.trans (ltt_r eu3)
  refine lv_aload_n hx hb dX5_comeBack_10 rfl (lv_at hl 0 rfl) ?_
  refine va_get (D := D) (ci := 5) (v := .ref (ad 7)) (C := RX5) (T := TX5) (N := 22) hx hb hts hin5 hown hK hP (0) (SW_ob cy x0 ad u3) rfl 9 (by decide) wd0 (fun _ h9 => h9) rfl dX5_comeBack_11 ?_
  refine lv_iload_n hx hb dX5_comeBack_14 rfl (lv_at hl 1 rfl) ?_
  have h4 : u < 40 := by omega
  refine g_iald hx hb hK hP (7) 0 u (SW_7 cy x0 ad u3) rfl (nI_clamp (by omega)) (vp_in_nI h4 (by decide)) dX5_comeBack_15 ?_
  refine lv_if_le (tgt := 20) hx hb dX5_comeBack_16 (by decide) (fun c5 => ?_) (fun c5 => ?_)
  · replace hf := hf.trans (if_pos c5)
    refine lv_aload_n hx hb dX5_comeBack_20 rfl (lv_at hl 0 rfl) ?_
    refine va_get (D := D) (ci := 5) (v := .ref (ad 5)) (C := RX5) (T := TX5) (N := 22) hx hb hts hin5 hown hK hP (0) (SW_ob cy x0 ad u3) rfl 7 (by decide) wd1 (fun _ h9 => h9) rfl dX5_comeBack_21 ?_
    refine lv_iload_n hx hb dX5_comeBack_24 rfl (lv_at hl 1 rfl) ?_
    refine lv_aload_n hx hb dX5_comeBack_25 rfl (lv_at hl 0 rfl) ?_
    refine va_get (D := D) (ci := 5) (v := .ref (ad 4)) (C := RX5) (T := TX5) (N := 22) hx hb hts hin5 hown hK hP (0) (SW_ob cy x0 ad u3) rfl 6 (by decide) wd2 (fun _ h9 => h9) rfl dX5_comeBack_26 ?_
    refine lv_iload_n hx hb dX5_comeBack_29 rfl (lv_at hl 1 rfl) ?_
    have h6 : u < 40 := by omega
    refine g_iald hx hb hK hP (4) 0 u (SW_4 cy x0 ad u3) rfl (nI_clamp (by omega)) (vp_in_nI h6 (by decide)) dX5_comeBack_30 ?_
    refine lv_iconst (v := nI 2) hx hb dX5_comeBack_31 (by decide) ?_
    refine lv_icmp_ne (tgt := 44) hx hb dX5_comeBack_32 (by decide) (fun c7 => ?_) (fun c7 => ?_)
    · replace hf := hf.trans (if_neg c7)
      refine lv_iconst (v := nI 0) hx hb dX5_comeBack_44 (by decide) ?_
      have h8 : u < 40 := by omega
      refine g_iast (σ1 := up u3 5 u (nI 0)) hx hb hK hP hD hS (5) 0 u (SW_5 cy x0 ad u3) rfl (nI_clamp (by omega)) (vp_in_nI h8 (by decide)) (SW_5_set cy x0 ad u3 u _) dX5_comeBack_45 ?_
      intro u9 eu9 H locs hP hD hS
      replace hf := hf.trans (ltt_r eu9)
      refine lv_aload_n hx hb dX5_comeBack_46 rfl (lv_at hl 0 rfl) ?_
      refine va_get (D := D) (ci := 5) (v := .ref (ad 4)) (C := RX5) (T := TX5) (N := 22) hx hb hts hin5 hown hK hP (0) (SW_ob cy x0 ad u9) rfl 6 (by decide) wd2 (fun _ h9 => h9) rfl dX5_comeBack_47 ?_
      refine lv_iload_n hx hb dX5_comeBack_50 rfl (lv_at hl 1 rfl) ?_
      have h10 : u < 40 := by omega
      refine g_iald hx hb hK hP (4) 0 u (SW_4 cy x0 ad u9) rfl (nI_clamp (by omega)) (vp_in_nI h10 (by decide)) dX5_comeBack_51 ?_
      refine lv_iconst (v := nI 3) hx hb dX5_comeBack_52 (by decide) ?_
      refine lv_icmp_ne (tgt := 63) hx hb dX5_comeBack_53 (by decide) (fun c11 => ?_) (fun c11 => ?_)
      · replace hf := hf.trans (if_neg c11)
        refine lv_aload_n hx hb dX5_comeBack_63 rfl (lv_at hl 0 rfl) ?_
        refine va_get (D := D) (ci := 5) (v := .ref (ad 4)) (C := RX5) (T := TX5) (N := 22) hx hb hts hin5 hown hK hP (0) (SW_ob cy x0 ad u9) rfl 6 (by decide) wd2 (fun _ h9 => h9) rfl dX5_comeBack_64 ?_
        refine lv_iload_n hx hb dX5_comeBack_67 rfl (lv_at hl 1 rfl) ?_
        refine lv_iconst (v := nI 0) hx hb dX5_comeBack_68 (by decide) ?_
        have h12 : u < 40 := by omega
        refine g_iast (σ1 := up u9 4 u (nI 0)) hx hb hK hP hD hS (4) 0 u (SW_4 cy x0 ad u9) rfl (nI_clamp (by omega)) (vp_in_nI h12 (by decide)) (SW_4_set cy x0 ad u9 u _) dX5_comeBack_69 ?_
        intro u13 eu13 H locs hP hD hS
        replace hf := hf.trans (ltt_r eu13)
        exact g_endv hx hb hr hlocks hf hP hD hS (Nat.le_of_ble_eq_true rfl) (Nat.le_of_ble_eq_true rfl) dX5_comeBack_70
      · replace hf := hf.trans (if_pos c11)
        refine lv_aload_n hx hb dX5_comeBack_56 rfl (lv_at hl 0 rfl) ?_
        refine va_get (D := D) (ci := 5) (v := .ref (ad 6)) (C := RX5) (T := TX5) (N := 22) hx hb hts hin5 hown hK hP (0) (SW_ob cy x0 ad u9) rfl 8 (by decide) wd3 (fun _ h9 => h9) rfl dX5_comeBack_57 ?_
        refine lv_iload_n hx hb dX5_comeBack_60 rfl (lv_at hl 1 rfl) ?_
        refine lv_iconst (v := nI 0) hx hb dX5_comeBack_61 (by decide) ?_
        have h14 : u < 40 := by omega
        refine g_iast (σ1 := up u9 6 u (nI 0)) hx hb hK hP hD hS (6) 0 u (SW_6 cy x0 ad u9) rfl (nI_clamp (by omega)) (vp_in_nI h14 (by decide)) (SW_6_set cy x0 ad u9 u _) dX5_comeBack_62 ?_
        intro u15 eu15 H locs hP hD hS
        replace hf := hf.trans (ltt_r eu15)
        refine lv_aload_n hx hb dX5_comeBack_63 rfl (lv_at hl 0 rfl) ?_
        refine va_get (D := D) (ci := 5) (v := .ref (ad 4)) (C := RX5) (T := TX5) (N := 22) hx hb hts hin5 hown hK hP (0) (SW_ob cy x0 ad u15) rfl 6 (by decide) wd2 (fun _ h9 => h9) rfl dX5_comeBack_64 ?_
        refine lv_iload_n hx hb dX5_comeBack_67 rfl (lv_at hl 1 rfl) ?_
        refine lv_iconst (v := nI 0) hx hb dX5_comeBack_68 (by decide) ?_
        have h16 : u < 40 := by omega
        refine g_iast (σ1 := up u15 4 u (nI 0)) hx hb hK hP hD hS (4) 0 u (SW_4 cy x0 ad u15) rfl (nI_clamp (by omega)) (vp_in_nI h16 (by decide)) (SW_4_set cy x0 ad u15 u _) dX5_comeBack_69 ?_
        intro u17 eu17 H locs hP hD hS
        replace hf := hf.trans (ltt_r eu17)
        exact g_endv hx hb hr hlocks hf hP hD hS (Nat.le_of_ble_eq_true rfl) (Nat.le_of_ble_eq_true rfl) dX5_comeBack_70
    · replace hf := hf.trans (if_pos c7)
      refine lv_aload_n hx hb dX5_comeBack_35 rfl (lv_at hl 0 rfl) ?_
      refine va_get (D := D) (ci := 5) (v := .ref (ad 9)) (C := RX5) (T := TX5) (N := 22) hx hb hts hin5 hown hK hP (0) (SW_ob cy x0 ad u3) rfl 11 (by decide) wd4 (fun _ h9 => h9) rfl dX5_comeBack_36 ?_
      refine lv_iload_n hx hb dX5_comeBack_39 rfl (lv_at hl 1 rfl) ?_
      have h18 : u < 40 := by omega
      refine g_iald hx hb hK hP (9) 0 u (SW_9 cy x0 ad u3) rfl (nI_clamp (by omega)) (vp_in_nI h18 (by decide)) dX5_comeBack_40 ?_
      refine lv_goto (tgt := 45) hx hb dX5_comeBack_41 (by decide) ?_
      have h19 : u < 40 := by omega
      refine g_iast (σ1 := up u3 5 u (u3 9 u)) hx hb hK hP hD hS (5) 0 u (SW_5 cy x0 ad u3) rfl (nI_clamp (by omega)) (vp_in_nI h19 (by decide)) (SW_5_set cy x0 ad u3 u _) dX5_comeBack_45 ?_
      intro u20 eu20 H locs hP hD hS
      replace hf := hf.trans (ltt_r eu20)
      refine lv_aload_n hx hb dX5_comeBack_46 rfl (lv_at hl 0 rfl) ?_
      refine va_get (D := D) (ci := 5) (v := .ref (ad 4)) (C := RX5) (T := TX5) (N := 22) hx hb hts hin5 hown hK hP (0) (SW_ob cy x0 ad u20) rfl 6 (by decide) wd2 (fun _ h9 => h9) rfl dX5_comeBack_47 ?_
      refine lv_iload_n hx hb dX5_comeBack_50 rfl (lv_at hl 1 rfl) ?_
      have h21 : u < 40 := by omega
      refine g_iald hx hb hK hP (4) 0 u (SW_4 cy x0 ad u20) rfl (nI_clamp (by omega)) (vp_in_nI h21 (by decide)) dX5_comeBack_51 ?_
      refine lv_iconst (v := nI 3) hx hb dX5_comeBack_52 (by decide) ?_
      refine lv_icmp_ne (tgt := 63) hx hb dX5_comeBack_53 (by decide) (fun c22 => ?_) (fun c22 => ?_)
      · replace hf := hf.trans (if_neg c22)
        refine lv_aload_n hx hb dX5_comeBack_63 rfl (lv_at hl 0 rfl) ?_
        refine va_get (D := D) (ci := 5) (v := .ref (ad 4)) (C := RX5) (T := TX5) (N := 22) hx hb hts hin5 hown hK hP (0) (SW_ob cy x0 ad u20) rfl 6 (by decide) wd2 (fun _ h9 => h9) rfl dX5_comeBack_64 ?_
        refine lv_iload_n hx hb dX5_comeBack_67 rfl (lv_at hl 1 rfl) ?_
        refine lv_iconst (v := nI 0) hx hb dX5_comeBack_68 (by decide) ?_
        have h23 : u < 40 := by omega
        refine g_iast (σ1 := up u20 4 u (nI 0)) hx hb hK hP hD hS (4) 0 u (SW_4 cy x0 ad u20) rfl (nI_clamp (by omega)) (vp_in_nI h23 (by decide)) (SW_4_set cy x0 ad u20 u _) dX5_comeBack_69 ?_
        intro u24 eu24 H locs hP hD hS
        replace hf := hf.trans (ltt_r eu24)
        exact g_endv hx hb hr hlocks hf hP hD hS (Nat.le_of_ble_eq_true rfl) (Nat.le_of_ble_eq_true rfl) dX5_comeBack_70
      · replace hf := hf.trans (if_pos c22)
        refine lv_aload_n hx hb dX5_comeBack_56 rfl (lv_at hl 0 rfl) ?_
        refine va_get (D := D) (ci := 5) (v := .ref (ad 6)) (C := RX5) (T := TX5) (N := 22) hx hb hts hin5 hown hK hP (0) (SW_ob cy x0 ad u20) rfl 8 (by decide) wd3 (fun _ h9 => h9) rfl dX5_comeBack_57 ?_
        refine lv_iload_n hx hb dX5_comeBack_60 rfl (lv_at hl 1 rfl) ?_
        refine lv_iconst (v := nI 0) hx hb dX5_comeBack_61 (by decide) ?_
        have h25 : u < 40 := by omega
        refine g_iast (σ1 := up u20 6 u (nI 0)) hx hb hK hP hD hS (6) 0 u (SW_6 cy x0 ad u20) rfl (nI_clamp (by omega)) (vp_in_nI h25 (by decide)) (SW_6_set cy x0 ad u20 u _) dX5_comeBack_62 ?_
        intro u26 eu26 H locs hP hD hS
        replace hf := hf.trans (ltt_r eu26)
        refine lv_aload_n hx hb dX5_comeBack_63 rfl (lv_at hl 0 rfl) ?_
        refine va_get (D := D) (ci := 5) (v := .ref (ad 4)) (C := RX5) (T := TX5) (N := 22) hx hb hts hin5 hown hK hP (0) (SW_ob cy x0 ad u26) rfl 6 (by decide) wd2 (fun _ h9 => h9) rfl dX5_comeBack_64 ?_
        refine lv_iload_n hx hb dX5_comeBack_67 rfl (lv_at hl 1 rfl) ?_
        refine lv_iconst (v := nI 0) hx hb dX5_comeBack_68 (by decide) ?_
        have h27 : u < 40 := by omega
        refine g_iast (σ1 := up u26 4 u (nI 0)) hx hb hK hP hD hS (4) 0 u (SW_4 cy x0 ad u26) rfl (nI_clamp (by omega)) (vp_in_nI h27 (by decide)) (SW_4_set cy x0 ad u26 u _) dX5_comeBack_69 ?_
        intro u28 eu28 H locs hP hD hS
        replace hf := hf.trans (ltt_r eu28)
        exact g_endv hx hb hr hlocks hf hP hD hS (Nat.le_of_ble_eq_true rfl) (Nat.le_of_ble_eq_true rfl) dX5_comeBack_70
  · replace hf := hf.trans (if_neg c5)
    exact g_endv hx hb hr hlocks hf hP hD hS (Nat.le_of_ble_eq_true rfl) (Nat.le_of_ble_eq_true rfl) dX5_comeBack_19
def lp_X5_decree_2 (σ : Sg)  : Nat → Nat → Sg → (Sg)
  | 0, k, τ => τ
  | n + 1, k, τ => if (τ 3 ((5 * k) + 3)) ≤ (nI 1) then if (τ 3 ((5 * k) + 3)) = 0 then if (τ 3 ((5 * k) + 4)) ≤ 0 then ltt (up τ 3 ((5 * k) + 3) (nI 0)) (fun u14 => ltt (up u14 3 ((5 * k) + 4) (nI 0)) (fun u16 => lp_X5_decree_2 σ n (k + 1) u16)) else ltt (up τ 2 k (m_max (nI 0) ((τ 2 k) - (nI 1)))) (fun u19 => ltt (up u19 3 ((5 * k) + 3) (nI 0)) (fun u21 => ltt (up u21 3 ((5 * k) + 4) (nI 0)) (fun u23 => lp_X5_decree_2 σ n (k + 1) u23))) else ltt (up τ 3 ((5 * k) + 3) (nI 0)) (fun u8 => ltt (up u8 3 ((5 * k) + 4) (nI 0)) (fun u10 => lp_X5_decree_2 σ n (k + 1) u10)) else ltt (up τ 2 k (m_min (nI 10) ((τ 2 k) + (nI 1)))) (fun u26 => ltt (up u26 3 ((5 * k) + 3) (nI 0)) (fun u28 => ltt (up u28 3 ((5 * k) + 4) (nI 0)) (fun u30 => lp_X5_decree_2 σ n (k + 1) u30)))
def s_X5_decree (σ : Sg) : Sg := ltt (lp_X5_decree_2 σ (tn (σ 0 1)) 0 σ) (fun q31 => q31)
theorem z_lp_X5_decree_2 (σ : Sg) : ∀ (n k : Nat) (τ : Sg), (lp_X5_decree_2 σ n k τ) 0 = τ 0 := by
  intro n
  induction n with
  | zero => intro k τ; rfl
  | succ n ih =>
    intro k τ
    unfold lp_X5_decree_2
    simp only [ltt]
    repeat' split
    all_goals (rw [ih]; simp [up_z])
theorem z_X5_decree (σ : Sg) : (s_X5_decree σ) 0 = σ 0 := z_lp_X5_decree_2 σ _ _ _
abbrev rm_X5_decree : Room := { frames := 1, cells := 0, slots := 0, locals := 21 }
set_option maxHeartbeats 4000000 in
set_option maxRecDepth 100000 in
theorem c_X5_decree (l : Launch) (D : va_G) (cy : Nat → ClassId) (x0 : Nat) (ad : Nat → Nat) (σ : Sg) (hI : OkN σ) : gMv l yX5_decree wsX5_decree rm_X5_decree D (Ty cy) (SW cy x0 ad) [.ref (ad 0)] σ (s_X5_decree σ) 0 0 := by
  refine gstartv cX5_decree 2 RX5 (by decide) rfl rfl (Nat.le_of_ble_eq_true rfl) ?_
  intro p e s m below meth c A ls hx hb hml hown hts hr hlocks hK hP hD hA hS hl
  have hl : lv_has ls 2 [(0, .ref (ad 0))] := hl
  have hf : s_X5_decree σ = s_X5_decree σ := rfl
  have hz : σ 0 = σ 0 := rfl
  have hin5 : ∀ w ∈ wsX50, w ∈ wsX5_decree := by decide +kernel
  have wd0 := hts (.fieldLink RX5 74 "UmbrellaLandModel$State" "shelters" "I") (by decide +kernel)
  have wd1 := hts (.fieldLink RX5 22 "UmbrellaLandModel$State" "told" "[I") (by decide +kernel)
  have wd2 := hts (.fieldLink RX5 19 "UmbrellaLandModel$State" "demand" "[I") (by decide +kernel)
  have wd3 := hts (.methodLink RX5 124 Lib.Math.max.name) (by decide +kernel)
  have wd4 := hts (.static Lib.Math.max.name) (by decide +kernel)
  have wd5 := hts (.initialized "java/lang/Math") (by decide +kernel)
  have wd6 := hts (.code Lib.Math.max.name Lib.Math.max.code 2 (some .int)) (by decide +kernel)
  have wd7 := hts (.methodLink RX5 130 Lib.Math.min.name) (by decide +kernel)
  have wd8 := hts (.static Lib.Math.min.name) (by decide +kernel)
  have wd9 := hts (.code Lib.Math.min.name Lib.Math.min.code 2 (some .int)) (by decide +kernel)
  have n1 := hI.n1
  have loop2 : ∀  (n k : Nat)  (τ : Sg) (H : Heap) (locs : List Loc) (ls : Array Slot), n = tn (σ 0 1) - k ∧ k ≤ tn (σ 0 1) + 1 → τ 0 = σ 0 → va_P D vwCl ((SW cy x0 ad) τ) H → va_D A ((SW cy x0 ad) τ) → va_S A s.heap H locs → lv_has ls 2 [(0, .ref (ad 0)), (1, .int (nI k))] → (∀ u : (Sg), u = lp_X5_decree_2 σ n k τ → ∀ (H : Heap) (locs : List Loc) (ls : Array Slot), va_P D vwCl ((SW cy x0 ad) u) H → va_D A ((SW cy x0 ad) u) → va_S A s.heap H locs → lv_has ls 2 [(0, .ref (ad 0))] → W p l e rm_X5_decree s m [.ref (ad 0)].toArray below meth c H locs 0 0 (MQ below (va_Qv (fun u => u = s_X5_decree σ) (gPost D (SW cy x0 ad) A) A) [.ref (ad 0)].toArray s 0 0 A) (F0 m 118 ls [])) → W p l e rm_X5_decree s m [.ref (ad 0)].toArray below meth c H locs 0 0 (MQ below (va_Qv (fun u => u = s_X5_decree σ) (gPost D (SW cy x0 ad) A) A) [.ref (ad 0)].toArray s 0 0 A) (F0 m 2 ls []) := by
    intro n
    induction n with
    | zero =>
      intro k τ H locs ls hN hz hP hD hS hl K
      have hf : lp_X5_decree_2 σ 0 k τ = lp_X5_decree_2 σ 0 k τ := rfl
      refine lv_iload_n hx hb dX5_decree_2 rfl (lv_at hl 1 rfl) ?_
      refine lv_aload_n hx hb dX5_decree_3 rfl (lv_at hl 0 rfl) ?_
      refine va_get (D := D) (ci := 5) (v := .int (τ 0 1)) (C := RX5) (T := TX5) (N := 22) hx hb hts hin5 hown hK hP (0) (SW_ob cy x0 ad τ) rfl 1 (by decide) wd0 (fun _ h9 => h9) rfl dX5_decree_4 ?_
      refine g_top ((congrFun hz 1).trans hI.c1) ?_
      refine lv_icmp_ge (tgt := 118) hx hb dX5_decree_7 (by decide) (fun c1 => ?_) (fun c1 => absurd (nI_le (by omega) (by omega)) c1)
      exact K τ hf.symm _ _ _ hP hD hS (lv_sub hl [0] rfl)
    | succ n ih =>
      intro k τ H locs ls hN hz hP hD hS hl K
      have hf : lp_X5_decree_2 σ (n + 1) k τ = lp_X5_decree_2 σ (n + 1) k τ := rfl
      refine lv_iload_n hx hb dX5_decree_2 rfl (lv_at hl 1 rfl) ?_
      refine lv_aload_n hx hb dX5_decree_3 rfl (lv_at hl 0 rfl) ?_
      refine va_get (D := D) (ci := 5) (v := .int (τ 0 1)) (C := RX5) (T := TX5) (N := 22) hx hb hts hin5 hown hK hP (0) (SW_ob cy x0 ad τ) rfl 1 (by decide) wd0 (fun _ h9 => h9) rfl dX5_decree_4 ?_
      refine g_top ((congrFun hz 1).trans hI.c1) ?_
      refine lv_icmp_ge (tgt := 118) hx hb dX5_decree_7 (by decide) (fun c2 => absurd c2 (nI_ge (by omega) (by omega))) (fun c2 => ?_)
      refine lv_aload_n hx hb dX5_decree_10 rfl (lv_at hl 0 rfl) ?_
      refine va_get (D := D) (ci := 5) (v := .ref (ad 3)) (C := RX5) (T := TX5) (N := 22) hx hb hts hin5 hown hK hP (0) (SW_ob cy x0 ad τ) rfl 4 (by decide) wd1 (fun _ h9 => h9) rfl dX5_decree_11 ?_
      refine lv_iconst (v := nI 5) hx hb dX5_decree_14 (by decide) ?_
      refine lv_iload_n hx hb dX5_decree_15 rfl (lv_at hl 1 rfl) ?_
      refine lv_imul hx hb dX5_decree_16 ?_
      refine g_top (pk_mul _ _) ?_
      refine lv_iconst (v := nI 3) hx hb dX5_decree_17 (by decide) ?_
      refine lv_iadd hx hb dX5_decree_18 ?_
      refine g_top (nI_add _ _) ?_
      have h3 : (5 * k) + 3 < 40 := by omega
      refine g_iald hx hb hK hP (3) 0 ((5 * k) + 3) (SW_3 cy x0 ad τ) rfl (nI_clamp (by omega)) (vp_in_nI h3 (by decide)) dX5_decree_19 ?_
      refine lv_iconst (v := nI 1) hx hb dX5_decree_20 (by decide) ?_
      refine lv_icmp_le (tgt := 46) hx hb dX5_decree_21 (by decide) (fun c4 => ?_) (fun c4 => ?_)
      · replace hf := hf.trans (if_pos c4)
        refine lv_aload_n hx hb dX5_decree_46 rfl (lv_at hl 0 rfl) ?_
        refine va_get (D := D) (ci := 5) (v := .ref (ad 3)) (C := RX5) (T := TX5) (N := 22) hx hb hts hin5 hown hK hP (0) (SW_ob cy x0 ad τ) rfl 4 (by decide) wd1 (fun _ h9 => h9) rfl dX5_decree_47 ?_
        refine lv_iconst (v := nI 5) hx hb dX5_decree_50 (by decide) ?_
        refine lv_iload_n hx hb dX5_decree_51 rfl (lv_at hl 1 rfl) ?_
        refine lv_imul hx hb dX5_decree_52 ?_
        refine g_top (pk_mul _ _) ?_
        refine lv_iconst (v := nI 3) hx hb dX5_decree_53 (by decide) ?_
        refine lv_iadd hx hb dX5_decree_54 ?_
        refine g_top (nI_add _ _) ?_
        have h5 : (5 * k) + 3 < 40 := by omega
        refine g_iald hx hb hK hP (3) 0 ((5 * k) + 3) (SW_3 cy x0 ad τ) rfl (nI_clamp (by omega)) (vp_in_nI h5 (by decide)) dX5_decree_55 ?_
        refine lv_if_ne (tgt := 90) hx hb dX5_decree_56 (by decide) (fun c6 => ?_) (fun c6 => ?_)
        · replace hf := hf.trans (if_neg c6)
          refine lv_aload_n hx hb dX5_decree_90 rfl (lv_at hl 0 rfl) ?_
          refine va_get (D := D) (ci := 5) (v := .ref (ad 3)) (C := RX5) (T := TX5) (N := 22) hx hb hts hin5 hown hK hP (0) (SW_ob cy x0 ad τ) rfl 4 (by decide) wd1 (fun _ h9 => h9) rfl dX5_decree_91 ?_
          refine lv_iconst (v := nI 5) hx hb dX5_decree_94 (by decide) ?_
          refine lv_iload_n hx hb dX5_decree_95 rfl (lv_at hl 1 rfl) ?_
          refine lv_imul hx hb dX5_decree_96 ?_
          refine g_top (pk_mul _ _) ?_
          refine lv_iconst (v := nI 3) hx hb dX5_decree_97 (by decide) ?_
          refine lv_iadd hx hb dX5_decree_98 ?_
          refine g_top (nI_add _ _) ?_
          refine lv_iconst (v := nI 0) hx hb dX5_decree_99 (by decide) ?_
          have h7 : (5 * k) + 3 < 40 := by omega
          refine g_iast (σ1 := up τ 3 ((5 * k) + 3) (nI 0)) hx hb hK hP hD hS (3) 0 ((5 * k) + 3) (SW_3 cy x0 ad τ) rfl (nI_clamp (by omega)) (vp_in_nI h7 (by decide)) (SW_3_set cy x0 ad τ ((5 * k) + 3) _) dX5_decree_100 ?_
          intro u8 eu8 H locs hP hD hS
          replace hf := hf.trans (ltt_r eu8)
          have hz : u8 0 = σ 0 := by rw [eu8]; exact keep_up rfl (by decide) hz
          refine lv_aload_n hx hb dX5_decree_101 rfl (lv_at hl 0 rfl) ?_
          refine va_get (D := D) (ci := 5) (v := .ref (ad 3)) (C := RX5) (T := TX5) (N := 22) hx hb hts hin5 hown hK hP (0) (SW_ob cy x0 ad u8) rfl 4 (by decide) wd1 (fun _ h9 => h9) rfl dX5_decree_102 ?_
          refine lv_iconst (v := nI 5) hx hb dX5_decree_105 (by decide) ?_
          refine lv_iload_n hx hb dX5_decree_106 rfl (lv_at hl 1 rfl) ?_
          refine lv_imul hx hb dX5_decree_107 ?_
          refine g_top (pk_mul _ _) ?_
          refine lv_iconst (v := nI 4) hx hb dX5_decree_108 (by decide) ?_
          refine lv_iadd hx hb dX5_decree_109 ?_
          refine g_top (nI_add _ _) ?_
          refine lv_iconst (v := nI 0) hx hb dX5_decree_110 (by decide) ?_
          have h9 : (5 * k) + 4 < 40 := by omega
          refine g_iast (σ1 := up u8 3 ((5 * k) + 4) (nI 0)) hx hb hK hP hD hS (3) 0 ((5 * k) + 4) (SW_3 cy x0 ad u8) rfl (nI_clamp (by omega)) (vp_in_nI h9 (by decide)) (SW_3_set cy x0 ad u8 ((5 * k) + 4) _) dX5_decree_111 ?_
          intro u10 eu10 H locs hP hD hS
          replace hf := hf.trans (ltt_r eu10)
          have hz : u10 0 = σ 0 := by rw [eu10]; exact keep_up rfl (by decide) hz
          refine lv_iinc (v := nI (k + 1)) (lv' := [(1, .int (nI (k + 1))), (0, .ref (ad 0))]) hx hb dX5_decree_112 hl (k := 1) rfl (nI_1 _) (by decide) rfl (fun ls hl => ?_)
          refine lv_goto (tgt := 2) hx hb dX5_decree_115 (by decide) ?_
          exact ih (k + 1)  u10 _ _ _ (by omega) hz  hP hD hS (lv_sub hl [1, 0] rfl) (fun u eu => K u (eu.trans hf.symm))
        · replace hf := hf.trans (if_pos c6)
          refine lv_aload_n hx hb dX5_decree_59 rfl (lv_at hl 0 rfl) ?_
          refine va_get (D := D) (ci := 5) (v := .ref (ad 3)) (C := RX5) (T := TX5) (N := 22) hx hb hts hin5 hown hK hP (0) (SW_ob cy x0 ad τ) rfl 4 (by decide) wd1 (fun _ h9 => h9) rfl dX5_decree_60 ?_
          refine lv_iconst (v := nI 5) hx hb dX5_decree_63 (by decide) ?_
          refine lv_iload_n hx hb dX5_decree_64 rfl (lv_at hl 1 rfl) ?_
          refine lv_imul hx hb dX5_decree_65 ?_
          refine g_top (pk_mul _ _) ?_
          refine lv_iconst (v := nI 4) hx hb dX5_decree_66 (by decide) ?_
          refine lv_iadd hx hb dX5_decree_67 ?_
          refine g_top (nI_add _ _) ?_
          have h11 : (5 * k) + 4 < 40 := by omega
          refine g_iald hx hb hK hP (3) 0 ((5 * k) + 4) (SW_3 cy x0 ad τ) rfl (nI_clamp (by omega)) (vp_in_nI h11 (by decide)) dX5_decree_68 ?_
          refine lv_if_le (tgt := 90) hx hb dX5_decree_69 (by decide) (fun c12 => ?_) (fun c12 => ?_)
          · replace hf := hf.trans (if_pos c12)
            refine lv_aload_n hx hb dX5_decree_90 rfl (lv_at hl 0 rfl) ?_
            refine va_get (D := D) (ci := 5) (v := .ref (ad 3)) (C := RX5) (T := TX5) (N := 22) hx hb hts hin5 hown hK hP (0) (SW_ob cy x0 ad τ) rfl 4 (by decide) wd1 (fun _ h9 => h9) rfl dX5_decree_91 ?_
            refine lv_iconst (v := nI 5) hx hb dX5_decree_94 (by decide) ?_
            refine lv_iload_n hx hb dX5_decree_95 rfl (lv_at hl 1 rfl) ?_
            refine lv_imul hx hb dX5_decree_96 ?_
            refine g_top (pk_mul _ _) ?_
            refine lv_iconst (v := nI 3) hx hb dX5_decree_97 (by decide) ?_
            refine lv_iadd hx hb dX5_decree_98 ?_
            refine g_top (nI_add _ _) ?_
            refine lv_iconst (v := nI 0) hx hb dX5_decree_99 (by decide) ?_
            have h13 : (5 * k) + 3 < 40 := by omega
            refine g_iast (σ1 := up τ 3 ((5 * k) + 3) (nI 0)) hx hb hK hP hD hS (3) 0 ((5 * k) + 3) (SW_3 cy x0 ad τ) rfl (nI_clamp (by omega)) (vp_in_nI h13 (by decide)) (SW_3_set cy x0 ad τ ((5 * k) + 3) _) dX5_decree_100 ?_
            intro u14 eu14 H locs hP hD hS
            replace hf := hf.trans (ltt_r eu14)
            have hz : u14 0 = σ 0 := by rw [eu14]; exact keep_up rfl (by decide) hz
            refine lv_aload_n hx hb dX5_decree_101 rfl (lv_at hl 0 rfl) ?_
            refine va_get (D := D) (ci := 5) (v := .ref (ad 3)) (C := RX5) (T := TX5) (N := 22) hx hb hts hin5 hown hK hP (0) (SW_ob cy x0 ad u14) rfl 4 (by decide) wd1 (fun _ h9 => h9) rfl dX5_decree_102 ?_
            refine lv_iconst (v := nI 5) hx hb dX5_decree_105 (by decide) ?_
            refine lv_iload_n hx hb dX5_decree_106 rfl (lv_at hl 1 rfl) ?_
            refine lv_imul hx hb dX5_decree_107 ?_
            refine g_top (pk_mul _ _) ?_
            refine lv_iconst (v := nI 4) hx hb dX5_decree_108 (by decide) ?_
            refine lv_iadd hx hb dX5_decree_109 ?_
            refine g_top (nI_add _ _) ?_
            refine lv_iconst (v := nI 0) hx hb dX5_decree_110 (by decide) ?_
            have h15 : (5 * k) + 4 < 40 := by omega
            refine g_iast (σ1 := up u14 3 ((5 * k) + 4) (nI 0)) hx hb hK hP hD hS (3) 0 ((5 * k) + 4) (SW_3 cy x0 ad u14) rfl (nI_clamp (by omega)) (vp_in_nI h15 (by decide)) (SW_3_set cy x0 ad u14 ((5 * k) + 4) _) dX5_decree_111 ?_
            intro u16 eu16 H locs hP hD hS
            replace hf := hf.trans (ltt_r eu16)
            have hz : u16 0 = σ 0 := by rw [eu16]; exact keep_up rfl (by decide) hz
            refine lv_iinc (v := nI (k + 1)) (lv' := [(1, .int (nI (k + 1))), (0, .ref (ad 0))]) hx hb dX5_decree_112 hl (k := 1) rfl (nI_1 _) (by decide) rfl (fun ls hl => ?_)
            refine lv_goto (tgt := 2) hx hb dX5_decree_115 (by decide) ?_
            exact ih (k + 1)  u16 _ _ _ (by omega) hz  hP hD hS (lv_sub hl [1, 0] rfl) (fun u eu => K u (eu.trans hf.symm))
          · replace hf := hf.trans (if_neg c12)
            refine lv_aload_n hx hb dX5_decree_72 rfl (lv_at hl 0 rfl) ?_
            refine va_get (D := D) (ci := 5) (v := .ref (ad 2)) (C := RX5) (T := TX5) (N := 22) hx hb hts hin5 hown hK hP (0) (SW_ob cy x0 ad τ) rfl 3 (by decide) wd2 (fun _ h9 => h9) rfl dX5_decree_73 ?_
            refine lv_iload_n hx hb dX5_decree_76 rfl (lv_at hl 1 rfl) ?_
            refine lv_iconst (v := nI 0) hx hb dX5_decree_77 (by decide) ?_
            refine lv_aload_n hx hb dX5_decree_78 rfl (lv_at hl 0 rfl) ?_
            refine va_get (D := D) (ci := 5) (v := .ref (ad 2)) (C := RX5) (T := TX5) (N := 22) hx hb hts hin5 hown hK hP (0) (SW_ob cy x0 ad τ) rfl 3 (by decide) wd2 (fun _ h9 => h9) rfl dX5_decree_79 ?_
            refine lv_iload_n hx hb dX5_decree_82 rfl (lv_at hl 1 rfl) ?_
            have h17 : k < 8 := by omega
            refine g_iald hx hb hK hP (2) 0 k (SW_2 cy x0 ad τ) rfl (nI_clamp (by omega)) (vp_in_nI h17 (by decide)) dX5_decree_83 ?_
            refine lv_iconst (v := nI 1) hx hb dX5_decree_84 (by decide) ?_
            refine lv_isub hx hb dX5_decree_85 ?_
            refine va_mmax hx hb (hml.trans hl.1.symm) hown wd3 wd4 wd5 wd6 (Nat.le_of_ble_eq_true rfl) (Nat.le_of_ble_eq_true rfl) (Nat.le_of_ble_eq_true rfl) (Nat.le_of_ble_eq_true rfl) dX5_decree_86 ?_
            have h18 : k < 8 := by omega
            refine g_iast (σ1 := up τ 2 k (m_max (nI 0) ((τ 2 k) - (nI 1)))) hx hb hK hP hD hS (2) 0 k (SW_2 cy x0 ad τ) rfl (nI_clamp (by omega)) (vp_in_nI h18 (by decide)) (SW_2_set cy x0 ad τ k _) dX5_decree_89 ?_
            intro u19 eu19 H locs hP hD hS
            replace hf := hf.trans (ltt_r eu19)
            have hz : u19 0 = σ 0 := by rw [eu19]; exact keep_up rfl (by decide) hz
            refine lv_aload_n hx hb dX5_decree_90 rfl (lv_at hl 0 rfl) ?_
            refine va_get (D := D) (ci := 5) (v := .ref (ad 3)) (C := RX5) (T := TX5) (N := 22) hx hb hts hin5 hown hK hP (0) (SW_ob cy x0 ad u19) rfl 4 (by decide) wd1 (fun _ h9 => h9) rfl dX5_decree_91 ?_
            refine lv_iconst (v := nI 5) hx hb dX5_decree_94 (by decide) ?_
            refine lv_iload_n hx hb dX5_decree_95 rfl (lv_at hl 1 rfl) ?_
            refine lv_imul hx hb dX5_decree_96 ?_
            refine g_top (pk_mul _ _) ?_
            refine lv_iconst (v := nI 3) hx hb dX5_decree_97 (by decide) ?_
            refine lv_iadd hx hb dX5_decree_98 ?_
            refine g_top (nI_add _ _) ?_
            refine lv_iconst (v := nI 0) hx hb dX5_decree_99 (by decide) ?_
            have h20 : (5 * k) + 3 < 40 := by omega
            refine g_iast (σ1 := up u19 3 ((5 * k) + 3) (nI 0)) hx hb hK hP hD hS (3) 0 ((5 * k) + 3) (SW_3 cy x0 ad u19) rfl (nI_clamp (by omega)) (vp_in_nI h20 (by decide)) (SW_3_set cy x0 ad u19 ((5 * k) + 3) _) dX5_decree_100 ?_
            intro u21 eu21 H locs hP hD hS
            replace hf := hf.trans (ltt_r eu21)
            have hz : u21 0 = σ 0 := by rw [eu21]; exact keep_up rfl (by decide) hz
            refine lv_aload_n hx hb dX5_decree_101 rfl (lv_at hl 0 rfl) ?_
            refine va_get (D := D) (ci := 5) (v := .ref (ad 3)) (C := RX5) (T := TX5) (N := 22) hx hb hts hin5 hown hK hP (0) (SW_ob cy x0 ad u21) rfl 4 (by decide) wd1 (fun _ h9 => h9) rfl dX5_decree_102 ?_
            refine lv_iconst (v := nI 5) hx hb dX5_decree_105 (by decide) ?_
            refine lv_iload_n hx hb dX5_decree_106 rfl (lv_at hl 1 rfl) ?_
            refine lv_imul hx hb dX5_decree_107 ?_
            refine g_top (pk_mul _ _) ?_
            refine lv_iconst (v := nI 4) hx hb dX5_decree_108 (by decide) ?_
            refine lv_iadd hx hb dX5_decree_109 ?_
            refine g_top (nI_add _ _) ?_
            refine lv_iconst (v := nI 0) hx hb dX5_decree_110 (by decide) ?_
            have h22 : (5 * k) + 4 < 40 := by omega
            refine g_iast (σ1 := up u21 3 ((5 * k) + 4) (nI 0)) hx hb hK hP hD hS (3) 0 ((5 * k) + 4) (SW_3 cy x0 ad u21) rfl (nI_clamp (by omega)) (vp_in_nI h22 (by decide)) (SW_3_set cy x0 ad u21 ((5 * k) + 4) _) dX5_decree_111 ?_
            intro u23 eu23 H locs hP hD hS
            replace hf := hf.trans (ltt_r eu23)
            have hz : u23 0 = σ 0 := by rw [eu23]; exact keep_up rfl (by decide) hz
            refine lv_iinc (v := nI (k + 1)) (lv' := [(1, .int (nI (k + 1))), (0, .ref (ad 0))]) hx hb dX5_decree_112 hl (k := 1) rfl (nI_1 _) (by decide) rfl (fun ls hl => ?_)
            refine lv_goto (tgt := 2) hx hb dX5_decree_115 (by decide) ?_
            exact ih (k + 1)  u23 _ _ _ (by omega) hz  hP hD hS (lv_sub hl [1, 0] rfl) (fun u eu => K u (eu.trans hf.symm))
      · replace hf := hf.trans (if_neg c4)
        refine lv_aload_n hx hb dX5_decree_24 rfl (lv_at hl 0 rfl) ?_
        refine va_get (D := D) (ci := 5) (v := .ref (ad 2)) (C := RX5) (T := TX5) (N := 22) hx hb hts hin5 hown hK hP (0) (SW_ob cy x0 ad τ) rfl 3 (by decide) wd2 (fun _ h9 => h9) rfl dX5_decree_25 ?_
        refine lv_iload_n hx hb dX5_decree_28 rfl (lv_at hl 1 rfl) ?_
        refine lv_bipush (v := nI 10) hx hb dX5_decree_29 (by decide) ?_
        refine lv_aload_n hx hb dX5_decree_31 rfl (lv_at hl 0 rfl) ?_
        refine va_get (D := D) (ci := 5) (v := .ref (ad 2)) (C := RX5) (T := TX5) (N := 22) hx hb hts hin5 hown hK hP (0) (SW_ob cy x0 ad τ) rfl 3 (by decide) wd2 (fun _ h9 => h9) rfl dX5_decree_32 ?_
        refine lv_iload_n hx hb dX5_decree_35 rfl (lv_at hl 1 rfl) ?_
        have h24 : k < 8 := by omega
        refine g_iald hx hb hK hP (2) 0 k (SW_2 cy x0 ad τ) rfl (nI_clamp (by omega)) (vp_in_nI h24 (by decide)) dX5_decree_36 ?_
        refine lv_iconst (v := nI 1) hx hb dX5_decree_37 (by decide) ?_
        refine lv_iadd hx hb dX5_decree_38 ?_
        refine va_mmin hx hb (hml.trans hl.1.symm) hown wd7 wd8 wd5 wd9 (Nat.le_of_ble_eq_true rfl) (Nat.le_of_ble_eq_true rfl) (Nat.le_of_ble_eq_true rfl) (Nat.le_of_ble_eq_true rfl) dX5_decree_39 ?_
        have h25 : k < 8 := by omega
        refine g_iast (σ1 := up τ 2 k (m_min (nI 10) ((τ 2 k) + (nI 1)))) hx hb hK hP hD hS (2) 0 k (SW_2 cy x0 ad τ) rfl (nI_clamp (by omega)) (vp_in_nI h25 (by decide)) (SW_2_set cy x0 ad τ k _) dX5_decree_42 ?_
        intro u26 eu26 H locs hP hD hS
        replace hf := hf.trans (ltt_r eu26)
        have hz : u26 0 = σ 0 := by rw [eu26]; exact keep_up rfl (by decide) hz
        refine lv_goto (tgt := 90) hx hb dX5_decree_43 (by decide) ?_
        refine lv_aload_n hx hb dX5_decree_90 rfl (lv_at hl 0 rfl) ?_
        refine va_get (D := D) (ci := 5) (v := .ref (ad 3)) (C := RX5) (T := TX5) (N := 22) hx hb hts hin5 hown hK hP (0) (SW_ob cy x0 ad u26) rfl 4 (by decide) wd1 (fun _ h9 => h9) rfl dX5_decree_91 ?_
        refine lv_iconst (v := nI 5) hx hb dX5_decree_94 (by decide) ?_
        refine lv_iload_n hx hb dX5_decree_95 rfl (lv_at hl 1 rfl) ?_
        refine lv_imul hx hb dX5_decree_96 ?_
        refine g_top (pk_mul _ _) ?_
        refine lv_iconst (v := nI 3) hx hb dX5_decree_97 (by decide) ?_
        refine lv_iadd hx hb dX5_decree_98 ?_
        refine g_top (nI_add _ _) ?_
        refine lv_iconst (v := nI 0) hx hb dX5_decree_99 (by decide) ?_
        have h27 : (5 * k) + 3 < 40 := by omega
        refine g_iast (σ1 := up u26 3 ((5 * k) + 3) (nI 0)) hx hb hK hP hD hS (3) 0 ((5 * k) + 3) (SW_3 cy x0 ad u26) rfl (nI_clamp (by omega)) (vp_in_nI h27 (by decide)) (SW_3_set cy x0 ad u26 ((5 * k) + 3) _) dX5_decree_100 ?_
        intro u28 eu28 H locs hP hD hS
        replace hf := hf.trans (ltt_r eu28)
        have hz : u28 0 = σ 0 := by rw [eu28]; exact keep_up rfl (by decide) hz
        refine lv_aload_n hx hb dX5_decree_101 rfl (lv_at hl 0 rfl) ?_
        refine va_get (D := D) (ci := 5) (v := .ref (ad 3)) (C := RX5) (T := TX5) (N := 22) hx hb hts hin5 hown hK hP (0) (SW_ob cy x0 ad u28) rfl 4 (by decide) wd1 (fun _ h9 => h9) rfl dX5_decree_102 ?_
        refine lv_iconst (v := nI 5) hx hb dX5_decree_105 (by decide) ?_
        refine lv_iload_n hx hb dX5_decree_106 rfl (lv_at hl 1 rfl) ?_
        refine lv_imul hx hb dX5_decree_107 ?_
        refine g_top (pk_mul _ _) ?_
        refine lv_iconst (v := nI 4) hx hb dX5_decree_108 (by decide) ?_
        refine lv_iadd hx hb dX5_decree_109 ?_
        refine g_top (nI_add _ _) ?_
        refine lv_iconst (v := nI 0) hx hb dX5_decree_110 (by decide) ?_
        have h29 : (5 * k) + 4 < 40 := by omega
        refine g_iast (σ1 := up u28 3 ((5 * k) + 4) (nI 0)) hx hb hK hP hD hS (3) 0 ((5 * k) + 4) (SW_3 cy x0 ad u28) rfl (nI_clamp (by omega)) (vp_in_nI h29 (by decide)) (SW_3_set cy x0 ad u28 ((5 * k) + 4) _) dX5_decree_111 ?_
        intro u30 eu30 H locs hP hD hS
        replace hf := hf.trans (ltt_r eu30)
        have hz : u30 0 = σ 0 := by rw [eu30]; exact keep_up rfl (by decide) hz
        refine lv_iinc (v := nI (k + 1)) (lv' := [(1, .int (nI (k + 1))), (0, .ref (ad 0))]) hx hb dX5_decree_112 hl (k := 1) rfl (nI_1 _) (by decide) rfl (fun ls hl => ?_)
        refine lv_goto (tgt := 2) hx hb dX5_decree_115 (by decide) ?_
        exact ih (k + 1)  u30 _ _ _ (by omega) hz  hP hD hS (lv_sub hl [1, 0] rfl) (fun u eu => K u (eu.trans hf.symm))
  refine lv_iconst (v := nI 0) hx hb dX5_decree_0 (by decide) ?_
  refine lv_istore_n (lv' := [(1, .int (nI 0)), (0, .ref (ad 0))]) hx hb dX5_decree_1 rfl hl (by decide) rfl (fun ls hl => ?_)
  refine loop2  (tn (σ 0 1)) 0  σ _ _ _ (by omega) hz  hP hD hS (lv_sub hl [1, 0] rfl) ?_
  intro q31 eq31 H locs ls hP hD hS hl
  replace hf := hf.trans (ltt_r eq31)
  have hz : q31 0 = σ 0 := by rw [eq31]; exact (z_lp_X5_decree_2 σ (tn (σ 0 1)) 0 σ).trans hz
  exact g_endv hx hb hr hlocks hf hP hD hS (Nat.le_of_ble_eq_true rfl) (Nat.le_of_ble_eq_true rfl) dX5_decree_118
def s_X5_lay (σ : Sg) (ci : Nat) (u : Nat) : Sg := if ((σ 16 ((4 * ci) + 1)) - (σ 16 ((4 * ci) + 1)) / (σ 10 ((5 * ci) + 4)) * (σ 10 ((5 * ci) + 4))) = 0 then ltt (up σ 4 u (nI 2)) (fun u18 => ltt (up u18 5 u (-1 : Int32)) (fun u21 => ltt (up u21 15 ci (m_max (nI 0) ((u21 15 ci) - (nI 2)))) (fun u25 => ltt (up u25 7 u (nI 24)) (fun u28 => ltt (up u28 16 ((4 * ci) + 2) ((u28 16 ((4 * ci) + 2)) + (nI 1))) (fun u31 => ltt (up u31 3 ((5 * (tn (σ 9 u))) + 1) ((u31 3 ((5 * (tn (σ 9 u))) + 1)) + (nI 1))) (fun u35 => ltt (up u35 3 ((5 * (tn (σ 9 u))) + 3) ((u35 3 ((5 * (tn (σ 9 u))) + 3)) + (nI 1))) (fun u39 => u39))))))) else ltt (up σ 4 u (nI 0)) (fun u6 => ltt (up u6 5 u (u6 11 ci)) (fun u10 => ltt (up u10 15 ci (m_min (nI 10) ((u10 15 ci) + (nI 1)))) (fun u14 => u14)))
abbrev rm_X5_lay : Room := { frames := 1, cells := 0, slots := 0, locals := 21 }
set_option maxHeartbeats 4000000 in
set_option maxRecDepth 100000 in
theorem c_X5_lay (l : Launch) (D : va_G) (cy : Nat → ClassId) (x0 : Nat) (ad : Nat → Nat) (σ : Sg) (ci : Nat) (u : Nat) (hc : ci < 10) (hu : u < 40) (hfo : ¬ σ 10 (5 * ci + 4) = 0) (hfr : vp_in (σ 9 u) 8) : gMv l yX5_lay wsX5_lay rm_X5_lay D (Ty cy) (SW cy x0 ad) [.ref (ad 0), .int (nI ci), .int (nI u)] σ (s_X5_lay σ ci u) 0 0 := by
  refine gstartv cX5_lay 4 RX5 (by decide) rfl rfl (Nat.le_of_ble_eq_true rfl) ?_
  intro p e s m below meth c A ls hx hb hml hown hts hr hlocks hK hP hD hA hS hl
  have hl : lv_has ls 4 [(0, .ref (ad 0)), (1, .int (nI ci)), (2, .int (nI u))] := hl
  have hf : s_X5_lay σ ci u = s_X5_lay σ ci u := rfl
  have k9_0 : σ 9 = σ 9 := rfl
  have hin5 : ∀ w ∈ wsX50, w ∈ wsX5_lay := by decide +kernel
  have wd0 := hts (.fieldLink RX5 61 "UmbrellaLandModel$State" "own" "[I") (by decide +kernel)
  have wd1 := hts (.fieldLink RX5 43 "UmbrellaLandModel$State" "citizen" "[I") (by decide +kernel)
  have wd2 := hts (.fieldLink RX5 25 "UmbrellaLandModel$State" "kind" "[I") (by decide +kernel)
  have wd3 := hts (.fieldLink RX5 28 "UmbrellaLandModel$State" "at" "[I") (by decide +kernel)
  have wd4 := hts (.fieldLink RX5 46 "UmbrellaLandModel$State" "is" "[I") (by decide +kernel)
  have wd5 := hts (.fieldLink RX5 58 "UmbrellaLandModel$State" "trust" "[I") (by decide +kernel)
  have wd6 := hts (.methodLink RX5 130 Lib.Math.min.name) (by decide +kernel)
  have wd7 := hts (.static Lib.Math.min.name) (by decide +kernel)
  have wd8 := hts (.initialized "java/lang/Math") (by decide +kernel)
  have wd9 := hts (.code Lib.Math.min.name Lib.Math.min.code 2 (some .int)) (by decide +kernel)
  have wd10 := hts (.methodLink RX5 124 Lib.Math.max.name) (by decide +kernel)
  have wd11 := hts (.static Lib.Math.max.name) (by decide +kernel)
  have wd12 := hts (.code Lib.Math.max.name Lib.Math.max.code 2 (some .int)) (by decide +kernel)
  have wd13 := hts (.fieldLink RX5 34 "UmbrellaLandModel$State" "waits" "[I") (by decide +kernel)
  have wd14 := hts (.fieldLink RX5 22 "UmbrellaLandModel$State" "told" "[I") (by decide +kernel)
  have wd15 := hts (.fieldLink RX5 40 "UmbrellaLandModel$State" "from" "[I") (by decide +kernel)
  have hfrb : tn (σ 9 u) < 8 := tn_in hfr
  refine lv_aload_n hx hb dX5_lay_0 rfl (lv_at hl 0 rfl) ?_
  refine va_get (D := D) (ci := 5) (v := .ref (ad 16)) (C := RX5) (T := TX5) (N := 22) hx hb hts hin5 hown hK hP (0) (SW_ob cy x0 ad σ) rfl 19 (by decide) wd0 (fun _ h9 => h9) rfl dX5_lay_1 ?_
  refine lv_iconst (v := nI 4) hx hb dX5_lay_4 (by decide) ?_
  refine lv_iload_n hx hb dX5_lay_5 rfl (lv_at hl 1 rfl) ?_
  refine lv_imul hx hb dX5_lay_6 ?_
  refine g_top (pk_mul _ _) ?_
  refine lv_iconst (v := nI 1) hx hb dX5_lay_7 (by decide) ?_
  refine lv_iadd hx hb dX5_lay_8 ?_
  refine g_top (nI_add _ _) ?_
  have h1 : (4 * ci) + 1 < 40 := by omega
  refine g_iald hx hb hK hP (16) 0 ((4 * ci) + 1) (SW_16 cy x0 ad σ) rfl (nI_clamp (by omega)) (vp_in_nI h1 (by decide)) dX5_lay_9 ?_
  refine lv_aload_n hx hb dX5_lay_10 rfl (lv_at hl 0 rfl) ?_
  refine va_get (D := D) (ci := 5) (v := .ref (ad 10)) (C := RX5) (T := TX5) (N := 22) hx hb hts hin5 hown hK hP (0) (SW_ob cy x0 ad σ) rfl 13 (by decide) wd1 (fun _ h9 => h9) rfl dX5_lay_11 ?_
  refine lv_iconst (v := nI 5) hx hb dX5_lay_14 (by decide) ?_
  refine lv_iload_n hx hb dX5_lay_15 rfl (lv_at hl 1 rfl) ?_
  refine lv_imul hx hb dX5_lay_16 ?_
  refine g_top (pk_mul _ _) ?_
  refine lv_iconst (v := nI 4) hx hb dX5_lay_17 (by decide) ?_
  refine lv_iadd hx hb dX5_lay_18 ?_
  refine g_top (nI_add _ _) ?_
  have h2 : (5 * ci) + 4 < 50 := by omega
  refine g_iald hx hb hK hP (10) 0 ((5 * ci) + 4) (SW_10 cy x0 ad σ) rfl (nI_clamp (by omega)) (vp_in_nI h2 (by decide)) dX5_lay_19 ?_
  refine lv_irem hx hb dX5_lay_20 hfo ?_
  refine lv_if_ne (tgt := 28) hx hb dX5_lay_21 (by decide) (fun c3 => ?_) (fun c3 => ?_)
  · replace hf := hf.trans (if_neg c3)
    refine lv_iconst (v := nI 0) hx hb dX5_lay_28 (by decide) ?_
    refine lv_istore_n (lv' := [(3, .int (nI 0)), (0, .ref (ad 0)), (1, .int (nI ci)), (2, .int (nI u))]) hx hb dX5_lay_29 rfl hl (by decide) rfl (fun ls hl => ?_)
    refine lv_aload_n hx hb dX5_lay_30 rfl (lv_at hl 1 rfl) ?_
    refine va_get (D := D) (ci := 5) (v := .ref (ad 4)) (C := RX5) (T := TX5) (N := 22) hx hb hts hin5 hown hK hP (0) (SW_ob cy x0 ad σ) rfl 6 (by decide) wd2 (fun _ h9 => h9) rfl dX5_lay_31 ?_
    refine lv_iload_n hx hb dX5_lay_34 rfl (lv_at hl 3 rfl) ?_
    refine lv_iload_n hx hb dX5_lay_35 rfl (lv_at hl 0 rfl) ?_
    refine lv_if_eq (tgt := 43) hx hb dX5_lay_36 (by decide) (fun c4 => ?_) (fun c4 => absurd (by decide) c4)
    refine lv_iconst (v := nI 0) hx hb dX5_lay_43 (by decide) ?_
    have h5 : u < 40 := by omega
    refine g_iast (σ1 := up σ 4 u (nI 0)) hx hb hK hP hD hS (4) 0 u (SW_4 cy x0 ad σ) rfl (nI_clamp (by omega)) (vp_in_nI h5 (by decide)) (SW_4_set cy x0 ad σ u _) dX5_lay_44 ?_
    intro u6 eu6 H locs hP hD hS
    replace hf := hf.trans (ltt_r eu6)
    have k9_u6 : u6 9 = σ 9 := by rw [eu6]; exact keep_up rfl (by decide) k9_0
    refine lv_aload_n hx hb dX5_lay_45 rfl (lv_at hl 1 rfl) ?_
    refine va_get (D := D) (ci := 5) (v := .ref (ad 5)) (C := RX5) (T := TX5) (N := 22) hx hb hts hin5 hown hK hP (0) (SW_ob cy x0 ad u6) rfl 7 (by decide) wd3 (fun _ h9 => h9) rfl dX5_lay_46 ?_
    refine lv_iload_n hx hb dX5_lay_49 rfl (lv_at hl 3 rfl) ?_
    refine lv_iload_n hx hb dX5_lay_50 rfl (lv_at hl 0 rfl) ?_
    refine lv_if_eq (tgt := 58) hx hb dX5_lay_51 (by decide) (fun c7 => ?_) (fun c7 => absurd (by decide) c7)
    refine lv_aload_n hx hb dX5_lay_58 rfl (lv_at hl 1 rfl) ?_
    refine va_get (D := D) (ci := 5) (v := .ref (ad 11)) (C := RX5) (T := TX5) (N := 22) hx hb hts hin5 hown hK hP (0) (SW_ob cy x0 ad u6) rfl 14 (by decide) wd4 (fun _ h9 => h9) rfl dX5_lay_59 ?_
    refine lv_iload_n hx hb dX5_lay_62 rfl (lv_at hl 2 rfl) ?_
    have h8 : ci < 10 := by omega
    refine g_iald hx hb hK hP (11) 0 ci (SW_11 cy x0 ad u6) rfl (nI_clamp (by omega)) (vp_in_nI h8 (by decide)) dX5_lay_63 ?_
    have h9 : u < 40 := by omega
    refine g_iast (σ1 := up u6 5 u (u6 11 ci)) hx hb hK hP hD hS (5) 0 u (SW_5 cy x0 ad u6) rfl (nI_clamp (by omega)) (vp_in_nI h9 (by decide)) (SW_5_set cy x0 ad u6 u _) dX5_lay_64 ?_
    intro u10 eu10 H locs hP hD hS
    replace hf := hf.trans (ltt_r eu10)
    have k9_u10 : u10 9 = σ 9 := by rw [eu10]; exact keep_up rfl (by decide) k9_u6
    refine lv_aload_n hx hb dX5_lay_65 rfl (lv_at hl 1 rfl) ?_
    refine va_get (D := D) (ci := 5) (v := .ref (ad 15)) (C := RX5) (T := TX5) (N := 22) hx hb hts hin5 hown hK hP (0) (SW_ob cy x0 ad u10) rfl 18 (by decide) wd5 (fun _ h9 => h9) rfl dX5_lay_66 ?_
    refine lv_iload_n hx hb dX5_lay_69 rfl (lv_at hl 2 rfl) ?_
    refine lv_iload_n hx hb dX5_lay_70 rfl (lv_at hl 0 rfl) ?_
    refine lv_if_eq (tgt := 89) hx hb dX5_lay_71 (by decide) (fun c11 => ?_) (fun c11 => absurd (by decide) c11)
    refine lv_bipush (v := nI 10) hx hb dX5_lay_89 (by decide) ?_
    refine lv_aload_n hx hb dX5_lay_91 rfl (lv_at hl 1 rfl) ?_
    refine va_get (D := D) (ci := 5) (v := .ref (ad 15)) (C := RX5) (T := TX5) (N := 22) hx hb hts hin5 hown hK hP (0) (SW_ob cy x0 ad u10) rfl 18 (by decide) wd5 (fun _ h9 => h9) rfl dX5_lay_92 ?_
    refine lv_iload_n hx hb dX5_lay_95 rfl (lv_at hl 2 rfl) ?_
    have h12 : ci < 10 := by omega
    refine g_iald hx hb hK hP (15) 0 ci (SW_15 cy x0 ad u10) rfl (nI_clamp (by omega)) (vp_in_nI h12 (by decide)) dX5_lay_96 ?_
    refine lv_iconst (v := nI 1) hx hb dX5_lay_97 (by decide) ?_
    refine lv_iadd hx hb dX5_lay_98 ?_
    refine va_mmin hx hb (hml.trans hl.1.symm) hown wd6 wd7 wd8 wd9 (Nat.le_of_ble_eq_true rfl) (Nat.le_of_ble_eq_true rfl) (Nat.le_of_ble_eq_true rfl) (Nat.le_of_ble_eq_true rfl) dX5_lay_99 ?_
    have h13 : ci < 10 := by omega
    refine g_iast (σ1 := up u10 15 ci (m_min (nI 10) ((u10 15 ci) + (nI 1)))) hx hb hK hP hD hS (15) 0 ci (SW_15 cy x0 ad u10) rfl (nI_clamp (by omega)) (vp_in_nI h13 (by decide)) (SW_15_set cy x0 ad u10 ci _) dX5_lay_102 ?_
    intro u14 eu14 H locs hP hD hS
    replace hf := hf.trans (ltt_r eu14)
    have k9_u14 : u14 9 = σ 9 := by rw [eu14]; exact keep_up rfl (by decide) k9_u10
    refine lv_iload_n hx hb dX5_lay_103 rfl (lv_at hl 0 rfl) ?_
    refine lv_if_ne (tgt := 108) hx hb dX5_lay_104 (by decide) (fun c15 => absurd (by decide) c15) (fun c15 => ?_)
    exact g_endv hx hb hr hlocks hf hP hD hS (Nat.le_of_ble_eq_true rfl) (Nat.le_of_ble_eq_true rfl) dX5_lay_107
  · replace hf := hf.trans (if_pos c3)
    refine lv_iconst (v := nI 1) hx hb dX5_lay_24 (by decide) ?_
    refine lv_goto (tgt := 29) hx hb dX5_lay_25 (by decide) ?_
    refine lv_istore_n (lv' := [(3, .int (nI 1)), (0, .ref (ad 0)), (1, .int (nI ci)), (2, .int (nI u))]) hx hb dX5_lay_29 rfl hl (by decide) rfl (fun ls hl => ?_)
    refine lv_aload_n hx hb dX5_lay_30 rfl (lv_at hl 1 rfl) ?_
    refine va_get (D := D) (ci := 5) (v := .ref (ad 4)) (C := RX5) (T := TX5) (N := 22) hx hb hts hin5 hown hK hP (0) (SW_ob cy x0 ad σ) rfl 6 (by decide) wd2 (fun _ h9 => h9) rfl dX5_lay_31 ?_
    refine lv_iload_n hx hb dX5_lay_34 rfl (lv_at hl 3 rfl) ?_
    refine lv_iload_n hx hb dX5_lay_35 rfl (lv_at hl 0 rfl) ?_
    refine lv_if_eq (tgt := 43) hx hb dX5_lay_36 (by decide) (fun c16 => absurd c16 (by decide)) (fun c16 => ?_)
    refine lv_iconst (v := nI 2) hx hb dX5_lay_39 (by decide) ?_
    refine lv_goto (tgt := 44) hx hb dX5_lay_40 (by decide) ?_
    have h17 : u < 40 := by omega
    refine g_iast (σ1 := up σ 4 u (nI 2)) hx hb hK hP hD hS (4) 0 u (SW_4 cy x0 ad σ) rfl (nI_clamp (by omega)) (vp_in_nI h17 (by decide)) (SW_4_set cy x0 ad σ u _) dX5_lay_44 ?_
    intro u18 eu18 H locs hP hD hS
    replace hf := hf.trans (ltt_r eu18)
    have k9_u18 : u18 9 = σ 9 := by rw [eu18]; exact keep_up rfl (by decide) k9_0
    refine lv_aload_n hx hb dX5_lay_45 rfl (lv_at hl 1 rfl) ?_
    refine va_get (D := D) (ci := 5) (v := .ref (ad 5)) (C := RX5) (T := TX5) (N := 22) hx hb hts hin5 hown hK hP (0) (SW_ob cy x0 ad u18) rfl 7 (by decide) wd3 (fun _ h9 => h9) rfl dX5_lay_46 ?_
    refine lv_iload_n hx hb dX5_lay_49 rfl (lv_at hl 3 rfl) ?_
    refine lv_iload_n hx hb dX5_lay_50 rfl (lv_at hl 0 rfl) ?_
    refine lv_if_eq (tgt := 58) hx hb dX5_lay_51 (by decide) (fun c19 => absurd c19 (by decide)) (fun c19 => ?_)
    refine lv_iconst (v := (-1 : Int32)) hx hb dX5_lay_54 (by decide) ?_
    refine lv_goto (tgt := 64) hx hb dX5_lay_55 (by decide) ?_
    have h20 : u < 40 := by omega
    refine g_iast (σ1 := up u18 5 u (-1 : Int32)) hx hb hK hP hD hS (5) 0 u (SW_5 cy x0 ad u18) rfl (nI_clamp (by omega)) (vp_in_nI h20 (by decide)) (SW_5_set cy x0 ad u18 u _) dX5_lay_64 ?_
    intro u21 eu21 H locs hP hD hS
    replace hf := hf.trans (ltt_r eu21)
    have k9_u21 : u21 9 = σ 9 := by rw [eu21]; exact keep_up rfl (by decide) k9_u18
    refine lv_aload_n hx hb dX5_lay_65 rfl (lv_at hl 1 rfl) ?_
    refine va_get (D := D) (ci := 5) (v := .ref (ad 15)) (C := RX5) (T := TX5) (N := 22) hx hb hts hin5 hown hK hP (0) (SW_ob cy x0 ad u21) rfl 18 (by decide) wd5 (fun _ h9 => h9) rfl dX5_lay_66 ?_
    refine lv_iload_n hx hb dX5_lay_69 rfl (lv_at hl 2 rfl) ?_
    refine lv_iload_n hx hb dX5_lay_70 rfl (lv_at hl 0 rfl) ?_
    refine lv_if_eq (tgt := 89) hx hb dX5_lay_71 (by decide) (fun c22 => absurd c22 (by decide)) (fun c22 => ?_)
    refine lv_iconst (v := nI 0) hx hb dX5_lay_74 (by decide) ?_
    refine lv_aload_n hx hb dX5_lay_75 rfl (lv_at hl 1 rfl) ?_
    refine va_get (D := D) (ci := 5) (v := .ref (ad 15)) (C := RX5) (T := TX5) (N := 22) hx hb hts hin5 hown hK hP (0) (SW_ob cy x0 ad u21) rfl 18 (by decide) wd5 (fun _ h9 => h9) rfl dX5_lay_76 ?_
    refine lv_iload_n hx hb dX5_lay_79 rfl (lv_at hl 2 rfl) ?_
    have h23 : ci < 10 := by omega
    refine g_iald hx hb hK hP (15) 0 ci (SW_15 cy x0 ad u21) rfl (nI_clamp (by omega)) (vp_in_nI h23 (by decide)) dX5_lay_80 ?_
    refine lv_iconst (v := nI 2) hx hb dX5_lay_81 (by decide) ?_
    refine lv_isub hx hb dX5_lay_82 ?_
    refine va_mmax hx hb (hml.trans hl.1.symm) hown wd10 wd11 wd8 wd12 (Nat.le_of_ble_eq_true rfl) (Nat.le_of_ble_eq_true rfl) (Nat.le_of_ble_eq_true rfl) (Nat.le_of_ble_eq_true rfl) dX5_lay_83 ?_
    refine lv_goto (tgt := 102) hx hb dX5_lay_86 (by decide) ?_
    have h24 : ci < 10 := by omega
    refine g_iast (σ1 := up u21 15 ci (m_max (nI 0) ((u21 15 ci) - (nI 2)))) hx hb hK hP hD hS (15) 0 ci (SW_15 cy x0 ad u21) rfl (nI_clamp (by omega)) (vp_in_nI h24 (by decide)) (SW_15_set cy x0 ad u21 ci _) dX5_lay_102 ?_
    intro u25 eu25 H locs hP hD hS
    replace hf := hf.trans (ltt_r eu25)
    have k9_u25 : u25 9 = σ 9 := by rw [eu25]; exact keep_up rfl (by decide) k9_u21
    refine lv_iload_n hx hb dX5_lay_103 rfl (lv_at hl 0 rfl) ?_
    refine lv_if_ne (tgt := 108) hx hb dX5_lay_104 (by decide) (fun c26 => ?_) (fun c26 => absurd c26 (by decide))
    refine lv_aload_n hx hb dX5_lay_108 rfl (lv_at hl 1 rfl) ?_
    refine va_get (D := D) (ci := 5) (v := .ref (ad 7)) (C := RX5) (T := TX5) (N := 22) hx hb hts hin5 hown hK hP (0) (SW_ob cy x0 ad u25) rfl 9 (by decide) wd13 (fun _ h9 => h9) rfl dX5_lay_109 ?_
    refine lv_iload_n hx hb dX5_lay_112 rfl (lv_at hl 3 rfl) ?_
    refine lv_bipush (v := nI 24) hx hb dX5_lay_113 (by decide) ?_
    have h27 : u < 40 := by omega
    refine g_iast (σ1 := up u25 7 u (nI 24)) hx hb hK hP hD hS (7) 0 u (SW_7 cy x0 ad u25) rfl (nI_clamp (by omega)) (vp_in_nI h27 (by decide)) (SW_7_set cy x0 ad u25 u _) dX5_lay_115 ?_
    intro u28 eu28 H locs hP hD hS
    replace hf := hf.trans (ltt_r eu28)
    have k9_u28 : u28 9 = σ 9 := by rw [eu28]; exact keep_up rfl (by decide) k9_u25
    refine lv_aload_n hx hb dX5_lay_116 rfl (lv_at hl 1 rfl) ?_
    refine va_get (D := D) (ci := 5) (v := .ref (ad 16)) (C := RX5) (T := TX5) (N := 22) hx hb hts hin5 hown hK hP (0) (SW_ob cy x0 ad u28) rfl 19 (by decide) wd0 (fun _ h9 => h9) rfl dX5_lay_117 ?_
    refine lv_iconst (v := nI 4) hx hb dX5_lay_120 (by decide) ?_
    refine lv_iload_n hx hb dX5_lay_121 rfl (lv_at hl 2 rfl) ?_
    refine lv_imul hx hb dX5_lay_122 ?_
    refine g_top (pk_mul _ _) ?_
    refine lv_iconst (v := nI 2) hx hb dX5_lay_123 (by decide) ?_
    refine lv_iadd hx hb dX5_lay_124 ?_
    refine g_top (nI_add _ _) ?_
    refine lv_dup2_11 hx hb dX5_lay_125 rfl rfl ?_
    have h29 : (4 * ci) + 2 < 40 := by omega
    refine g_iald hx hb hK hP (16) 0 ((4 * ci) + 2) (SW_16 cy x0 ad u28) rfl (nI_clamp (by omega)) (vp_in_nI h29 (by decide)) dX5_lay_126 ?_
    refine lv_iconst (v := nI 1) hx hb dX5_lay_127 (by decide) ?_
    refine lv_iadd hx hb dX5_lay_128 ?_
    have h30 : (4 * ci) + 2 < 40 := by omega
    refine g_iast (σ1 := up u28 16 ((4 * ci) + 2) ((u28 16 ((4 * ci) + 2)) + (nI 1))) hx hb hK hP hD hS (16) 0 ((4 * ci) + 2) (SW_16 cy x0 ad u28) rfl (nI_clamp (by omega)) (vp_in_nI h30 (by decide)) (SW_16_set cy x0 ad u28 ((4 * ci) + 2) _) dX5_lay_129 ?_
    intro u31 eu31 H locs hP hD hS
    replace hf := hf.trans (ltt_r eu31)
    have k9_u31 : u31 9 = σ 9 := by rw [eu31]; exact keep_up rfl (by decide) k9_u28
    refine lv_aload_n hx hb dX5_lay_130 rfl (lv_at hl 1 rfl) ?_
    refine va_get (D := D) (ci := 5) (v := .ref (ad 3)) (C := RX5) (T := TX5) (N := 22) hx hb hts hin5 hown hK hP (0) (SW_ob cy x0 ad u31) rfl 4 (by decide) wd14 (fun _ h9 => h9) rfl dX5_lay_131 ?_
    refine lv_iconst (v := nI 5) hx hb dX5_lay_134 (by decide) ?_
    refine lv_aload_n hx hb dX5_lay_135 rfl (lv_at hl 1 rfl) ?_
    refine va_get (D := D) (ci := 5) (v := .ref (ad 9)) (C := RX5) (T := TX5) (N := 22) hx hb hts hin5 hown hK hP (0) (SW_ob cy x0 ad u31) rfl 11 (by decide) wd15 (fun _ h9 => h9) rfl dX5_lay_136 ?_
    refine lv_iload_n hx hb dX5_lay_139 rfl (lv_at hl 3 rfl) ?_
    have h32 : u < 40 := by omega
    refine g_iald hx hb hK hP (9) 0 u (SW_9 cy x0 ad u31) rfl (nI_clamp (by omega)) (vp_in_nI h32 (by decide)) dX5_lay_140 ?_
    refine g_top (y := nI (tn (σ 9 u))) ((congrFun k9_u31 u).trans (tn_eq hfr (by decide))) ?_
    refine lv_imul hx hb dX5_lay_141 ?_
    refine g_top (pk_mul _ _) ?_
    refine lv_iconst (v := nI 1) hx hb dX5_lay_142 (by decide) ?_
    refine lv_iadd hx hb dX5_lay_143 ?_
    refine g_top (nI_add _ _) ?_
    refine lv_dup2_11 hx hb dX5_lay_144 rfl rfl ?_
    have h33 : (5 * (tn (σ 9 u))) + 1 < 40 := by omega
    refine g_iald hx hb hK hP (3) 0 ((5 * (tn (σ 9 u))) + 1) (SW_3 cy x0 ad u31) rfl (nI_clamp (by omega)) (vp_in_nI h33 (by decide)) dX5_lay_145 ?_
    refine lv_iconst (v := nI 1) hx hb dX5_lay_146 (by decide) ?_
    refine lv_iadd hx hb dX5_lay_147 ?_
    have h34 : (5 * (tn (σ 9 u))) + 1 < 40 := by omega
    refine g_iast (σ1 := up u31 3 ((5 * (tn (σ 9 u))) + 1) ((u31 3 ((5 * (tn (σ 9 u))) + 1)) + (nI 1))) hx hb hK hP hD hS (3) 0 ((5 * (tn (σ 9 u))) + 1) (SW_3 cy x0 ad u31) rfl (nI_clamp (by omega)) (vp_in_nI h34 (by decide)) (SW_3_set cy x0 ad u31 ((5 * (tn (σ 9 u))) + 1) _) dX5_lay_148 ?_
    intro u35 eu35 H locs hP hD hS
    replace hf := hf.trans (ltt_r eu35)
    have k9_u35 : u35 9 = σ 9 := by rw [eu35]; exact keep_up rfl (by decide) k9_u31
    refine lv_aload_n hx hb dX5_lay_149 rfl (lv_at hl 1 rfl) ?_
    refine va_get (D := D) (ci := 5) (v := .ref (ad 3)) (C := RX5) (T := TX5) (N := 22) hx hb hts hin5 hown hK hP (0) (SW_ob cy x0 ad u35) rfl 4 (by decide) wd14 (fun _ h9 => h9) rfl dX5_lay_150 ?_
    refine lv_iconst (v := nI 5) hx hb dX5_lay_153 (by decide) ?_
    refine lv_aload_n hx hb dX5_lay_154 rfl (lv_at hl 1 rfl) ?_
    refine va_get (D := D) (ci := 5) (v := .ref (ad 9)) (C := RX5) (T := TX5) (N := 22) hx hb hts hin5 hown hK hP (0) (SW_ob cy x0 ad u35) rfl 11 (by decide) wd15 (fun _ h9 => h9) rfl dX5_lay_155 ?_
    refine lv_iload_n hx hb dX5_lay_158 rfl (lv_at hl 3 rfl) ?_
    have h36 : u < 40 := by omega
    refine g_iald hx hb hK hP (9) 0 u (SW_9 cy x0 ad u35) rfl (nI_clamp (by omega)) (vp_in_nI h36 (by decide)) dX5_lay_159 ?_
    refine g_top (y := nI (tn (σ 9 u))) ((congrFun k9_u35 u).trans (tn_eq hfr (by decide))) ?_
    refine lv_imul hx hb dX5_lay_160 ?_
    refine g_top (pk_mul _ _) ?_
    refine lv_iconst (v := nI 3) hx hb dX5_lay_161 (by decide) ?_
    refine lv_iadd hx hb dX5_lay_162 ?_
    refine g_top (nI_add _ _) ?_
    refine lv_dup2_11 hx hb dX5_lay_163 rfl rfl ?_
    have h37 : (5 * (tn (σ 9 u))) + 3 < 40 := by omega
    refine g_iald hx hb hK hP (3) 0 ((5 * (tn (σ 9 u))) + 3) (SW_3 cy x0 ad u35) rfl (nI_clamp (by omega)) (vp_in_nI h37 (by decide)) dX5_lay_164 ?_
    refine lv_iconst (v := nI 1) hx hb dX5_lay_165 (by decide) ?_
    refine lv_iadd hx hb dX5_lay_166 ?_
    have h38 : (5 * (tn (σ 9 u))) + 3 < 40 := by omega
    refine g_iast (σ1 := up u35 3 ((5 * (tn (σ 9 u))) + 3) ((u35 3 ((5 * (tn (σ 9 u))) + 3)) + (nI 1))) hx hb hK hP hD hS (3) 0 ((5 * (tn (σ 9 u))) + 3) (SW_3 cy x0 ad u35) rfl (nI_clamp (by omega)) (vp_in_nI h38 (by decide)) (SW_3_set cy x0 ad u35 ((5 * (tn (σ 9 u))) + 3) _) dX5_lay_167 ?_
    intro u39 eu39 H locs hP hD hS
    replace hf := hf.trans (ltt_r eu39)
    have k9_u39 : u39 9 = σ 9 := by rw [eu39]; exact keep_up rfl (by decide) k9_u35
    exact g_endv hx hb hr hlocks hf hP hD hS (Nat.le_of_ble_eq_true rfl) (Nat.le_of_ble_eq_true rfl) dX5_lay_168
def s_X5_walk (σ : Sg) (ci : Nat) (x : Int32) : Sg := ltt (up σ 13 ci ((σ 13 ci) - (nI 1))) (fun u3 => if (σ 14 ci) = (-1 : Int32) then ltt (up u3 16 (4 * ci) ((u3 16 (4 * ci)) + x)) (fun u57 => if (u57 13 ci) ≤ 0 then ltt (up u57 11 ci (u57 12 ci)) (fun u62 => if (σ 14 ci) = (-1 : Int32) then ltt (up u62 14 ci (-1 : Int32)) (fun u66 => u66) else ltt (s_X5_lay u62 ci (tn (σ 14 ci))) (fun u68 => ltt (up u68 14 ci (-1 : Int32)) (fun u70 => u70))) else u57) else if x ≤ 0 then if (u3 13 ci) ≤ 0 then ltt (up u3 11 ci (u3 12 ci)) (fun u11 => if (σ 14 ci) = (-1 : Int32) then ltt (up u11 14 ci (-1 : Int32)) (fun u15 => u15) else ltt (s_X5_lay u11 ci (tn (σ 14 ci))) (fun u17 => ltt (up u17 14 ci (-1 : Int32)) (fun u19 => u19))) else u3 else ltt (up u3 6 (tn (σ 14 ci)) ((u3 6 (tn (σ 14 ci))) + x)) (fun u22 => if (u22 6 (tn (σ 14 ci))) < (nI 30) then if (u22 13 ci) ≤ 0 then ltt (up u22 11 ci (u22 12 ci)) (fun u29 => if (σ 14 ci) = (-1 : Int32) then ltt (up u29 14 ci (-1 : Int32)) (fun u33 => u33) else ltt (s_X5_lay u29 ci (tn (σ 14 ci))) (fun u35 => ltt (up u35 14 ci (-1 : Int32)) (fun u37 => u37))) else u22 else ltt (up u22 4 (tn (σ 14 ci)) (nI 3)) (fun u39 => ltt (up u39 5 (tn (σ 14 ci)) (-1 : Int32)) (fun u41 => ltt (up u41 7 (tn (σ 14 ci)) (nI 12)) (fun u43 => ltt (up u43 14 ci (-1 : Int32)) (fun u45 => if (u45 13 ci) ≤ 0 then ltt (up u45 11 ci (u45 12 ci)) (fun u50 => ltt (up u50 14 ci (-1 : Int32)) (fun u54 => u54)) else u45))))))
abbrev rm_X5_walk : Room := { frames := 2, cells := 0, slots := 0, locals := 44 }
set_option maxHeartbeats 4000000 in
set_option maxRecDepth 100000 in
theorem c_X5_walk (l : Launch) (D : va_G) (cy : Nat → ClassId) (x0 : Nat) (ad : Nat → Nat) (σ : Sg) (ci : Nat) (x : Int32) (hc : ci < 10) (hho : σ 14 ci = (-1 : Int32) ∨ (vp_in (σ 14 ci) 40 ∧ vp_in (σ 9 (tn (σ 14 ci))) 8)) (hfo : ¬ σ 10 (5 * ci + 4) = 0) : gMv l yX5_walk wsX5_walk rm_X5_walk D (Ty cy) (SW cy x0 ad) [.ref (ad 0), .int (nI ci), .int (x)] σ (s_X5_walk σ ci x) 0 0 := by
  refine gstartv cX5_walk 4 RX5 (by decide) rfl rfl (Nat.le_of_ble_eq_true rfl) ?_
  intro p e s m below meth c A ls hx hb hml hown hts hr hlocks hK hP hD hA hS hl
  have hl : lv_has ls 4 [(0, .ref (ad 0)), (1, .int (nI ci)), (2, .int (x))] := hl
  have hf : s_X5_walk σ ci x = s_X5_walk σ ci x := rfl
  have k9_0 : σ 9 = σ 9 := rfl
  have k10_0 : σ 10 = σ 10 := rfl
  have k14_0 : σ 14 = σ 14 := rfl
  have hin5 : ∀ w ∈ wsX50, w ∈ wsX5_walk := by decide +kernel
  have wd0 := hts (.fieldLink RX5 52 "UmbrellaLandModel$State" "left" "[I") (by decide +kernel)
  have wd1 := hts (.fieldLink RX5 55 "UmbrellaLandModel$State" "holds" "[I") (by decide +kernel)
  have wd2 := hts (.fieldLink RX5 46 "UmbrellaLandModel$State" "is" "[I") (by decide +kernel)
  have wd3 := hts (.fieldLink RX5 49 "UmbrellaLandModel$State" "to" "[I") (by decide +kernel)
  have wd4 := hts (.fieldLink RX5 31 "UmbrellaLandModel$State" "wear" "[I") (by decide +kernel)
  have wd5 := hts (.fieldLink RX5 25 "UmbrellaLandModel$State" "kind" "[I") (by decide +kernel)
  have wd6 := hts (.fieldLink RX5 28 "UmbrellaLandModel$State" "at" "[I") (by decide +kernel)
  have wd7 := hts (.fieldLink RX5 34 "UmbrellaLandModel$State" "waits" "[I") (by decide +kernel)
  have wd8 := hts (.fieldLink RX5 61 "UmbrellaLandModel$State" "own" "[I") (by decide +kernel)
  refine lv_aload_n hx hb dX5_walk_0 rfl (lv_at hl 0 rfl) ?_
  refine va_get (D := D) (ci := 5) (v := .ref (ad 13)) (C := RX5) (T := TX5) (N := 22) hx hb hts hin5 hown hK hP (0) (SW_ob cy x0 ad σ) rfl 16 (by decide) wd0 (fun _ h9 => h9) rfl dX5_walk_1 ?_
  refine lv_iload_n hx hb dX5_walk_4 rfl (lv_at hl 1 rfl) ?_
  refine lv_dup2_11 hx hb dX5_walk_5 rfl rfl ?_
  have h1 : ci < 10 := by omega
  refine g_iald hx hb hK hP (13) 0 ci (SW_13 cy x0 ad σ) rfl (nI_clamp (by omega)) (vp_in_nI h1 (by decide)) dX5_walk_6 ?_
  refine lv_iconst (v := nI 1) hx hb dX5_walk_7 (by decide) ?_
  refine lv_isub hx hb dX5_walk_8 ?_
  have h2 : ci < 10 := by omega
  refine g_iast (σ1 := up σ 13 ci ((σ 13 ci) - (nI 1))) hx hb hK hP hD hS (13) 0 ci (SW_13 cy x0 ad σ) rfl (nI_clamp (by omega)) (vp_in_nI h2 (by decide)) (SW_13_set cy x0 ad σ ci _) dX5_walk_9 ?_
  intro u3 eu3 H locs hP hD hS
  replace hf := hf.trans (ltt_r eu3)
  have k9_u3 : u3 9 = σ 9 := by rw [eu3]; exact keep_up rfl (by decide) k9_0
  have k10_u3 : u3 10 = σ 10 := by rw [eu3]; exact keep_up rfl (by decide) k10_0
  have k14_u3 : u3 14 = σ 14 := by rw [eu3]; exact keep_up rfl (by decide) k14_0
  refine lv_aload_n hx hb dX5_walk_10 rfl (lv_at hl 0 rfl) ?_
  refine va_get (D := D) (ci := 5) (v := .ref (ad 14)) (C := RX5) (T := TX5) (N := 22) hx hb hts hin5 hown hK hP (0) (SW_ob cy x0 ad u3) rfl 17 (by decide) wd1 (fun _ h9 => h9) rfl dX5_walk_11 ?_
  refine lv_iload_n hx hb dX5_walk_14 rfl (lv_at hl 1 rfl) ?_
  have h4 : ci < 10 := by omega
  refine g_iald hx hb hK hP (14) 0 ci (SW_14 cy x0 ad u3) rfl (nI_clamp (by omega)) (vp_in_nI h4 (by decide)) dX5_walk_15 ?_
  refine g_top (y := σ 14 ci) (congrFun k14_u3 ci) ?_
  refine lv_istore_n (lv' := [(3, .int (σ 14 ci)), (0, .ref (ad 0)), (1, .int (nI ci)), (2, .int (x))]) hx hb dX5_walk_16 rfl hl (by decide) rfl (fun ls hl => ?_)
  refine lv_iload_n hx hb dX5_walk_17 rfl (lv_at hl 0 rfl) ?_
  refine lv_iconst (v := (-1 : Int32)) hx hb dX5_walk_18 (by decide) ?_
  refine lv_icmp_ne (tgt := 37) hx hb dX5_walk_19 (by decide) (fun c5 => ?_) (fun c5 => ?_)
  · replace hf := hf.trans (if_neg c5)
    refine lv_iload_n hx hb dX5_walk_37 rfl (lv_at hl 3 rfl) ?_
    refine lv_if_le (tgt := 91) hx hb dX5_walk_38 (by decide) (fun c6 => ?_) (fun c6 => ?_)
    · replace hf := hf.trans (if_pos c6)
      refine lv_aload_n hx hb dX5_walk_91 rfl (lv_at hl 1 rfl) ?_
      refine va_get (D := D) (ci := 5) (v := .ref (ad 13)) (C := RX5) (T := TX5) (N := 22) hx hb hts hin5 hown hK hP (0) (SW_ob cy x0 ad u3) rfl 16 (by decide) wd0 (fun _ h9 => h9) rfl dX5_walk_92 ?_
      refine lv_iload_n hx hb dX5_walk_95 rfl (lv_at hl 2 rfl) ?_
      have h7 : ci < 10 := by omega
      refine g_iald hx hb hK hP (13) 0 ci (SW_13 cy x0 ad u3) rfl (nI_clamp (by omega)) (vp_in_nI h7 (by decide)) dX5_walk_96 ?_
      refine lv_if_le (tgt := 101) hx hb dX5_walk_97 (by decide) (fun c8 => ?_) (fun c8 => ?_)
      · replace hf := hf.trans (if_pos c8)
        refine lv_aload_n hx hb dX5_walk_101 rfl (lv_at hl 1 rfl) ?_
        refine va_get (D := D) (ci := 5) (v := .ref (ad 11)) (C := RX5) (T := TX5) (N := 22) hx hb hts hin5 hown hK hP (0) (SW_ob cy x0 ad u3) rfl 14 (by decide) wd2 (fun _ h9 => h9) rfl dX5_walk_102 ?_
        refine lv_iload_n hx hb dX5_walk_105 rfl (lv_at hl 2 rfl) ?_
        refine lv_aload_n hx hb dX5_walk_106 rfl (lv_at hl 1 rfl) ?_
        refine va_get (D := D) (ci := 5) (v := .ref (ad 12)) (C := RX5) (T := TX5) (N := 22) hx hb hts hin5 hown hK hP (0) (SW_ob cy x0 ad u3) rfl 15 (by decide) wd3 (fun _ h9 => h9) rfl dX5_walk_107 ?_
        refine lv_iload_n hx hb dX5_walk_110 rfl (lv_at hl 2 rfl) ?_
        have h9 : ci < 10 := by omega
        refine g_iald hx hb hK hP (12) 0 ci (SW_12 cy x0 ad u3) rfl (nI_clamp (by omega)) (vp_in_nI h9 (by decide)) dX5_walk_111 ?_
        have h10 : ci < 10 := by omega
        refine g_iast (σ1 := up u3 11 ci (u3 12 ci)) hx hb hK hP hD hS (11) 0 ci (SW_11 cy x0 ad u3) rfl (nI_clamp (by omega)) (vp_in_nI h10 (by decide)) (SW_11_set cy x0 ad u3 ci _) dX5_walk_112 ?_
        intro u11 eu11 H locs hP hD hS
        replace hf := hf.trans (ltt_r eu11)
        have k9_u11 : u11 9 = σ 9 := by rw [eu11]; exact keep_up rfl (by decide) k9_u3
        have k10_u11 : u11 10 = σ 10 := by rw [eu11]; exact keep_up rfl (by decide) k10_u3
        have k14_u11 : u11 14 = σ 14 := by rw [eu11]; exact keep_up rfl (by decide) k14_u3
        refine lv_aload_n hx hb dX5_walk_113 rfl (lv_at hl 1 rfl) ?_
        refine va_get (D := D) (ci := 5) (v := .ref (ad 14)) (C := RX5) (T := TX5) (N := 22) hx hb hts hin5 hown hK hP (0) (SW_ob cy x0 ad u11) rfl 17 (by decide) wd1 (fun _ h9 => h9) rfl dX5_walk_114 ?_
        refine lv_iload_n hx hb dX5_walk_117 rfl (lv_at hl 2 rfl) ?_
        have h12 : ci < 10 := by omega
        refine g_iald hx hb hK hP (14) 0 ci (SW_14 cy x0 ad u11) rfl (nI_clamp (by omega)) (vp_in_nI h12 (by decide)) dX5_walk_118 ?_
        refine g_top (y := σ 14 ci) (congrFun k14_u11 ci) ?_
        refine lv_iconst (v := (-1 : Int32)) hx hb dX5_walk_119 (by decide) ?_
        refine lv_icmp_eq (tgt := 134) hx hb dX5_walk_120 (by decide) (fun c13 => ?_) (fun c13 => ?_)
        · replace hf := hf.trans (if_pos c13)
          refine lv_aload_n hx hb dX5_walk_134 rfl (lv_at hl 1 rfl) ?_
          refine va_get (D := D) (ci := 5) (v := .ref (ad 14)) (C := RX5) (T := TX5) (N := 22) hx hb hts hin5 hown hK hP (0) (SW_ob cy x0 ad u11) rfl 17 (by decide) wd1 (fun _ h9 => h9) rfl dX5_walk_135 ?_
          refine lv_iload_n hx hb dX5_walk_138 rfl (lv_at hl 2 rfl) ?_
          refine lv_iconst (v := (-1 : Int32)) hx hb dX5_walk_139 (by decide) ?_
          have h14 : ci < 10 := by omega
          refine g_iast (σ1 := up u11 14 ci (-1 : Int32)) hx hb hK hP hD hS (14) 0 ci (SW_14 cy x0 ad u11) rfl (nI_clamp (by omega)) (vp_in_nI h14 (by decide)) (SW_14_set cy x0 ad u11 ci _) dX5_walk_140 ?_
          intro u15 eu15 H locs hP hD hS
          replace hf := hf.trans (ltt_r eu15)
          have k9_u15 : u15 9 = σ 9 := by rw [eu15]; exact keep_up rfl (by decide) k9_u11
          have k10_u15 : u15 10 = σ 10 := by rw [eu15]; exact keep_up rfl (by decide) k10_u11
          exact g_endv hx hb hr hlocks hf hP hD hS (Nat.le_of_ble_eq_true rfl) (Nat.le_of_ble_eq_true rfl) dX5_walk_141
        · replace hf := hf.trans (if_neg c13)
          refine lv_aload_n hx hb dX5_walk_123 rfl (lv_at hl 1 rfl) ?_
          refine lv_iload_n hx hb dX5_walk_124 rfl (lv_at hl 2 rfl) ?_
          refine lv_aload_n hx hb dX5_walk_125 rfl (lv_at hl 1 rfl) ?_
          refine va_get (D := D) (ci := 5) (v := .ref (ad 14)) (C := RX5) (T := TX5) (N := 22) hx hb hts hin5 hown hK hP (0) (SW_ob cy x0 ad u11) rfl 17 (by decide) wd1 (fun _ h9 => h9) rfl dX5_walk_126 ?_
          refine lv_iload_n hx hb dX5_walk_129 rfl (lv_at hl 2 rfl) ?_
          have h16 : ci < 10 := by omega
          refine g_iald hx hb hK hP (14) 0 ci (SW_14 cy x0 ad u11) rfl (nI_clamp (by omega)) (vp_in_nI h16 (by decide)) dX5_walk_130 ?_
          refine g_top (y := nI (tn (σ 14 ci))) ((congrFun k14_u11 ci).trans (tn_eq (hho.resolve_left c13).1 (by decide))) ?_
          refine g_callv (q0 := 0) (wf := (SW cy x0 ad)) (σ := u11) (wfc := (SW cy x0 ad)) (σc := u11) hx hb hml hown hts hK hP hD hS hA hl.1 [] pm_0 (fun u => u) (fun _ => pm_0b) [.int (nI ci), .int (nI (tn (σ 14 ci)))] (c_X5_lay l D cy x0 ad u11 ci (tn (σ 14 ci)) (by omega) (tn_in (hho.resolve_left c13).1) (by rw [k10_u11]; exact hfo) (by rw [k9_u11]; exact (hho.resolve_left c13).2)) (cwV 2 hts gX5_walk_X5_lay rfl rfl rfl (by decide +kernel) ⟨Nat.le_of_ble_eq_true rfl, Nat.le_of_ble_eq_true rfl⟩) (SW_ob cy x0 ad u11) rfl rfl rfl rfl (Nat.le_of_ble_eq_true rfl) dX5_walk_131 ⟨Nat.le_of_ble_eq_true rfl, Nat.le_of_ble_eq_true rfl⟩ rfl rfl ?_
          intro u17 eu17 H locs hP hD hS
          replace hf := hf.trans (ltt_r eu17)
          refine lv_aload_n hx hb dX5_walk_134 rfl (lv_at hl 1 rfl) ?_
          refine va_get (D := D) (ci := 5) (v := .ref (ad 14)) (C := RX5) (T := TX5) (N := 22) hx hb hts hin5 hown hK hP (0) (SW_ob cy x0 ad u17) rfl 17 (by decide) wd1 (fun _ h9 => h9) rfl dX5_walk_135 ?_
          refine lv_iload_n hx hb dX5_walk_138 rfl (lv_at hl 2 rfl) ?_
          refine lv_iconst (v := (-1 : Int32)) hx hb dX5_walk_139 (by decide) ?_
          have h18 : ci < 10 := by omega
          refine g_iast (σ1 := up u17 14 ci (-1 : Int32)) hx hb hK hP hD hS (14) 0 ci (SW_14 cy x0 ad u17) rfl (nI_clamp (by omega)) (vp_in_nI h18 (by decide)) (SW_14_set cy x0 ad u17 ci _) dX5_walk_140 ?_
          intro u19 eu19 H locs hP hD hS
          replace hf := hf.trans (ltt_r eu19)
          exact g_endv hx hb hr hlocks hf hP hD hS (Nat.le_of_ble_eq_true rfl) (Nat.le_of_ble_eq_true rfl) dX5_walk_141
      · replace hf := hf.trans (if_neg c8)
        exact g_endv hx hb hr hlocks hf hP hD hS (Nat.le_of_ble_eq_true rfl) (Nat.le_of_ble_eq_true rfl) dX5_walk_100
    · replace hf := hf.trans (if_neg c6)
      refine lv_aload_n hx hb dX5_walk_41 rfl (lv_at hl 1 rfl) ?_
      refine va_get (D := D) (ci := 5) (v := .ref (ad 6)) (C := RX5) (T := TX5) (N := 22) hx hb hts hin5 hown hK hP (0) (SW_ob cy x0 ad u3) rfl 8 (by decide) wd4 (fun _ h9 => h9) rfl dX5_walk_42 ?_
      refine lv_iload_n hx hb dX5_walk_45 rfl (lv_at hl 0 rfl) ?_
      refine lv_dup2_11 hx hb dX5_walk_46 rfl rfl ?_
      have h20 : vp_in (σ 14 ci) 40 := (hho.resolve_left c5).1
      have h20b : tn (σ 14 ci) < 40 := tn_in h20
      refine g_iald hx hb hK hP (6) 0 (tn (σ 14 ci)) (SW_6 cy x0 ad u3) rfl rfl h20 dX5_walk_47 ?_
      refine lv_iload_n hx hb dX5_walk_48 rfl (lv_at hl 3 rfl) ?_
      refine lv_iadd hx hb dX5_walk_49 ?_
      have h21 : vp_in (σ 14 ci) 40 := (hho.resolve_left c5).1
      have h21b : tn (σ 14 ci) < 40 := tn_in h21
      refine g_iast (σ1 := up u3 6 (tn (σ 14 ci)) ((u3 6 (tn (σ 14 ci))) + x)) hx hb hK hP hD hS (6) 0 (tn (σ 14 ci)) (SW_6 cy x0 ad u3) rfl rfl h21 (SW_6_set cy x0 ad u3 (tn (σ 14 ci)) _) dX5_walk_50 ?_
      intro u22 eu22 H locs hP hD hS
      replace hf := hf.trans (ltt_r eu22)
      have k9_u22 : u22 9 = σ 9 := by rw [eu22]; exact keep_up rfl (by decide) k9_u3
      have k10_u22 : u22 10 = σ 10 := by rw [eu22]; exact keep_up rfl (by decide) k10_u3
      have k14_u22 : u22 14 = σ 14 := by rw [eu22]; exact keep_up rfl (by decide) k14_u3
      refine lv_aload_n hx hb dX5_walk_51 rfl (lv_at hl 1 rfl) ?_
      refine va_get (D := D) (ci := 5) (v := .ref (ad 6)) (C := RX5) (T := TX5) (N := 22) hx hb hts hin5 hown hK hP (0) (SW_ob cy x0 ad u22) rfl 8 (by decide) wd4 (fun _ h9 => h9) rfl dX5_walk_52 ?_
      refine lv_iload_n hx hb dX5_walk_55 rfl (lv_at hl 0 rfl) ?_
      have h23 : vp_in (σ 14 ci) 40 := (hho.resolve_left c5).1
      have h23b : tn (σ 14 ci) < 40 := tn_in h23
      refine g_iald hx hb hK hP (6) 0 (tn (σ 14 ci)) (SW_6 cy x0 ad u22) rfl rfl h23 dX5_walk_56 ?_
      refine lv_bipush (v := nI 30) hx hb dX5_walk_57 (by decide) ?_
      refine lv_icmp_lt (tgt := 91) hx hb dX5_walk_59 (by decide) (fun c24 => ?_) (fun c24 => ?_)
      · replace hf := hf.trans (if_pos c24)
        refine lv_aload_n hx hb dX5_walk_91 rfl (lv_at hl 1 rfl) ?_
        refine va_get (D := D) (ci := 5) (v := .ref (ad 13)) (C := RX5) (T := TX5) (N := 22) hx hb hts hin5 hown hK hP (0) (SW_ob cy x0 ad u22) rfl 16 (by decide) wd0 (fun _ h9 => h9) rfl dX5_walk_92 ?_
        refine lv_iload_n hx hb dX5_walk_95 rfl (lv_at hl 2 rfl) ?_
        have h25 : ci < 10 := by omega
        refine g_iald hx hb hK hP (13) 0 ci (SW_13 cy x0 ad u22) rfl (nI_clamp (by omega)) (vp_in_nI h25 (by decide)) dX5_walk_96 ?_
        refine lv_if_le (tgt := 101) hx hb dX5_walk_97 (by decide) (fun c26 => ?_) (fun c26 => ?_)
        · replace hf := hf.trans (if_pos c26)
          refine lv_aload_n hx hb dX5_walk_101 rfl (lv_at hl 1 rfl) ?_
          refine va_get (D := D) (ci := 5) (v := .ref (ad 11)) (C := RX5) (T := TX5) (N := 22) hx hb hts hin5 hown hK hP (0) (SW_ob cy x0 ad u22) rfl 14 (by decide) wd2 (fun _ h9 => h9) rfl dX5_walk_102 ?_
          refine lv_iload_n hx hb dX5_walk_105 rfl (lv_at hl 2 rfl) ?_
          refine lv_aload_n hx hb dX5_walk_106 rfl (lv_at hl 1 rfl) ?_
          refine va_get (D := D) (ci := 5) (v := .ref (ad 12)) (C := RX5) (T := TX5) (N := 22) hx hb hts hin5 hown hK hP (0) (SW_ob cy x0 ad u22) rfl 15 (by decide) wd3 (fun _ h9 => h9) rfl dX5_walk_107 ?_
          refine lv_iload_n hx hb dX5_walk_110 rfl (lv_at hl 2 rfl) ?_
          have h27 : ci < 10 := by omega
          refine g_iald hx hb hK hP (12) 0 ci (SW_12 cy x0 ad u22) rfl (nI_clamp (by omega)) (vp_in_nI h27 (by decide)) dX5_walk_111 ?_
          have h28 : ci < 10 := by omega
          refine g_iast (σ1 := up u22 11 ci (u22 12 ci)) hx hb hK hP hD hS (11) 0 ci (SW_11 cy x0 ad u22) rfl (nI_clamp (by omega)) (vp_in_nI h28 (by decide)) (SW_11_set cy x0 ad u22 ci _) dX5_walk_112 ?_
          intro u29 eu29 H locs hP hD hS
          replace hf := hf.trans (ltt_r eu29)
          have k9_u29 : u29 9 = σ 9 := by rw [eu29]; exact keep_up rfl (by decide) k9_u22
          have k10_u29 : u29 10 = σ 10 := by rw [eu29]; exact keep_up rfl (by decide) k10_u22
          have k14_u29 : u29 14 = σ 14 := by rw [eu29]; exact keep_up rfl (by decide) k14_u22
          refine lv_aload_n hx hb dX5_walk_113 rfl (lv_at hl 1 rfl) ?_
          refine va_get (D := D) (ci := 5) (v := .ref (ad 14)) (C := RX5) (T := TX5) (N := 22) hx hb hts hin5 hown hK hP (0) (SW_ob cy x0 ad u29) rfl 17 (by decide) wd1 (fun _ h9 => h9) rfl dX5_walk_114 ?_
          refine lv_iload_n hx hb dX5_walk_117 rfl (lv_at hl 2 rfl) ?_
          have h30 : ci < 10 := by omega
          refine g_iald hx hb hK hP (14) 0 ci (SW_14 cy x0 ad u29) rfl (nI_clamp (by omega)) (vp_in_nI h30 (by decide)) dX5_walk_118 ?_
          refine g_top (y := σ 14 ci) (congrFun k14_u29 ci) ?_
          refine lv_iconst (v := (-1 : Int32)) hx hb dX5_walk_119 (by decide) ?_
          refine lv_icmp_eq (tgt := 134) hx hb dX5_walk_120 (by decide) (fun c31 => ?_) (fun c31 => ?_)
          · replace hf := hf.trans (if_pos c31)
            refine lv_aload_n hx hb dX5_walk_134 rfl (lv_at hl 1 rfl) ?_
            refine va_get (D := D) (ci := 5) (v := .ref (ad 14)) (C := RX5) (T := TX5) (N := 22) hx hb hts hin5 hown hK hP (0) (SW_ob cy x0 ad u29) rfl 17 (by decide) wd1 (fun _ h9 => h9) rfl dX5_walk_135 ?_
            refine lv_iload_n hx hb dX5_walk_138 rfl (lv_at hl 2 rfl) ?_
            refine lv_iconst (v := (-1 : Int32)) hx hb dX5_walk_139 (by decide) ?_
            have h32 : ci < 10 := by omega
            refine g_iast (σ1 := up u29 14 ci (-1 : Int32)) hx hb hK hP hD hS (14) 0 ci (SW_14 cy x0 ad u29) rfl (nI_clamp (by omega)) (vp_in_nI h32 (by decide)) (SW_14_set cy x0 ad u29 ci _) dX5_walk_140 ?_
            intro u33 eu33 H locs hP hD hS
            replace hf := hf.trans (ltt_r eu33)
            have k9_u33 : u33 9 = σ 9 := by rw [eu33]; exact keep_up rfl (by decide) k9_u29
            have k10_u33 : u33 10 = σ 10 := by rw [eu33]; exact keep_up rfl (by decide) k10_u29
            exact g_endv hx hb hr hlocks hf hP hD hS (Nat.le_of_ble_eq_true rfl) (Nat.le_of_ble_eq_true rfl) dX5_walk_141
          · replace hf := hf.trans (if_neg c31)
            refine lv_aload_n hx hb dX5_walk_123 rfl (lv_at hl 1 rfl) ?_
            refine lv_iload_n hx hb dX5_walk_124 rfl (lv_at hl 2 rfl) ?_
            refine lv_aload_n hx hb dX5_walk_125 rfl (lv_at hl 1 rfl) ?_
            refine va_get (D := D) (ci := 5) (v := .ref (ad 14)) (C := RX5) (T := TX5) (N := 22) hx hb hts hin5 hown hK hP (0) (SW_ob cy x0 ad u29) rfl 17 (by decide) wd1 (fun _ h9 => h9) rfl dX5_walk_126 ?_
            refine lv_iload_n hx hb dX5_walk_129 rfl (lv_at hl 2 rfl) ?_
            have h34 : ci < 10 := by omega
            refine g_iald hx hb hK hP (14) 0 ci (SW_14 cy x0 ad u29) rfl (nI_clamp (by omega)) (vp_in_nI h34 (by decide)) dX5_walk_130 ?_
            refine g_top (y := nI (tn (σ 14 ci))) ((congrFun k14_u29 ci).trans (tn_eq (hho.resolve_left c31).1 (by decide))) ?_
            refine g_callv (q0 := 0) (wf := (SW cy x0 ad)) (σ := u29) (wfc := (SW cy x0 ad)) (σc := u29) hx hb hml hown hts hK hP hD hS hA hl.1 [] pm_0 (fun u => u) (fun _ => pm_0b) [.int (nI ci), .int (nI (tn (σ 14 ci)))] (c_X5_lay l D cy x0 ad u29 ci (tn (σ 14 ci)) (by omega) (tn_in (hho.resolve_left c31).1) (by rw [k10_u29]; exact hfo) (by rw [k9_u29]; exact (hho.resolve_left c31).2)) (cwV 2 hts gX5_walk_X5_lay rfl rfl rfl (by decide +kernel) ⟨Nat.le_of_ble_eq_true rfl, Nat.le_of_ble_eq_true rfl⟩) (SW_ob cy x0 ad u29) rfl rfl rfl rfl (Nat.le_of_ble_eq_true rfl) dX5_walk_131 ⟨Nat.le_of_ble_eq_true rfl, Nat.le_of_ble_eq_true rfl⟩ rfl rfl ?_
            intro u35 eu35 H locs hP hD hS
            replace hf := hf.trans (ltt_r eu35)
            refine lv_aload_n hx hb dX5_walk_134 rfl (lv_at hl 1 rfl) ?_
            refine va_get (D := D) (ci := 5) (v := .ref (ad 14)) (C := RX5) (T := TX5) (N := 22) hx hb hts hin5 hown hK hP (0) (SW_ob cy x0 ad u35) rfl 17 (by decide) wd1 (fun _ h9 => h9) rfl dX5_walk_135 ?_
            refine lv_iload_n hx hb dX5_walk_138 rfl (lv_at hl 2 rfl) ?_
            refine lv_iconst (v := (-1 : Int32)) hx hb dX5_walk_139 (by decide) ?_
            have h36 : ci < 10 := by omega
            refine g_iast (σ1 := up u35 14 ci (-1 : Int32)) hx hb hK hP hD hS (14) 0 ci (SW_14 cy x0 ad u35) rfl (nI_clamp (by omega)) (vp_in_nI h36 (by decide)) (SW_14_set cy x0 ad u35 ci _) dX5_walk_140 ?_
            intro u37 eu37 H locs hP hD hS
            replace hf := hf.trans (ltt_r eu37)
            exact g_endv hx hb hr hlocks hf hP hD hS (Nat.le_of_ble_eq_true rfl) (Nat.le_of_ble_eq_true rfl) dX5_walk_141
        · replace hf := hf.trans (if_neg c26)
          exact g_endv hx hb hr hlocks hf hP hD hS (Nat.le_of_ble_eq_true rfl) (Nat.le_of_ble_eq_true rfl) dX5_walk_100
      · replace hf := hf.trans (if_neg c24)
        refine lv_aload_n hx hb dX5_walk_62 rfl (lv_at hl 1 rfl) ?_
        refine va_get (D := D) (ci := 5) (v := .ref (ad 4)) (C := RX5) (T := TX5) (N := 22) hx hb hts hin5 hown hK hP (0) (SW_ob cy x0 ad u22) rfl 6 (by decide) wd5 (fun _ h9 => h9) rfl dX5_walk_63 ?_
        refine lv_iload_n hx hb dX5_walk_66 rfl (lv_at hl 0 rfl) ?_
        refine lv_iconst (v := nI 3) hx hb dX5_walk_67 (by decide) ?_
        have h38 : vp_in (σ 14 ci) 40 := (hho.resolve_left c5).1
        have h38b : tn (σ 14 ci) < 40 := tn_in h38
        refine g_iast (σ1 := up u22 4 (tn (σ 14 ci)) (nI 3)) hx hb hK hP hD hS (4) 0 (tn (σ 14 ci)) (SW_4 cy x0 ad u22) rfl rfl h38 (SW_4_set cy x0 ad u22 (tn (σ 14 ci)) _) dX5_walk_68 ?_
        intro u39 eu39 H locs hP hD hS
        replace hf := hf.trans (ltt_r eu39)
        have k9_u39 : u39 9 = σ 9 := by rw [eu39]; exact keep_up rfl (by decide) k9_u22
        have k10_u39 : u39 10 = σ 10 := by rw [eu39]; exact keep_up rfl (by decide) k10_u22
        have k14_u39 : u39 14 = σ 14 := by rw [eu39]; exact keep_up rfl (by decide) k14_u22
        refine lv_aload_n hx hb dX5_walk_69 rfl (lv_at hl 1 rfl) ?_
        refine va_get (D := D) (ci := 5) (v := .ref (ad 5)) (C := RX5) (T := TX5) (N := 22) hx hb hts hin5 hown hK hP (0) (SW_ob cy x0 ad u39) rfl 7 (by decide) wd6 (fun _ h9 => h9) rfl dX5_walk_70 ?_
        refine lv_iload_n hx hb dX5_walk_73 rfl (lv_at hl 0 rfl) ?_
        refine lv_iconst (v := (-1 : Int32)) hx hb dX5_walk_74 (by decide) ?_
        have h40 : vp_in (σ 14 ci) 40 := (hho.resolve_left c5).1
        have h40b : tn (σ 14 ci) < 40 := tn_in h40
        refine g_iast (σ1 := up u39 5 (tn (σ 14 ci)) (-1 : Int32)) hx hb hK hP hD hS (5) 0 (tn (σ 14 ci)) (SW_5 cy x0 ad u39) rfl rfl h40 (SW_5_set cy x0 ad u39 (tn (σ 14 ci)) _) dX5_walk_75 ?_
        intro u41 eu41 H locs hP hD hS
        replace hf := hf.trans (ltt_r eu41)
        have k9_u41 : u41 9 = σ 9 := by rw [eu41]; exact keep_up rfl (by decide) k9_u39
        have k10_u41 : u41 10 = σ 10 := by rw [eu41]; exact keep_up rfl (by decide) k10_u39
        have k14_u41 : u41 14 = σ 14 := by rw [eu41]; exact keep_up rfl (by decide) k14_u39
        refine lv_aload_n hx hb dX5_walk_76 rfl (lv_at hl 1 rfl) ?_
        refine va_get (D := D) (ci := 5) (v := .ref (ad 7)) (C := RX5) (T := TX5) (N := 22) hx hb hts hin5 hown hK hP (0) (SW_ob cy x0 ad u41) rfl 9 (by decide) wd7 (fun _ h9 => h9) rfl dX5_walk_77 ?_
        refine lv_iload_n hx hb dX5_walk_80 rfl (lv_at hl 0 rfl) ?_
        refine lv_bipush (v := nI 12) hx hb dX5_walk_81 (by decide) ?_
        have h42 : vp_in (σ 14 ci) 40 := (hho.resolve_left c5).1
        have h42b : tn (σ 14 ci) < 40 := tn_in h42
        refine g_iast (σ1 := up u41 7 (tn (σ 14 ci)) (nI 12)) hx hb hK hP hD hS (7) 0 (tn (σ 14 ci)) (SW_7 cy x0 ad u41) rfl rfl h42 (SW_7_set cy x0 ad u41 (tn (σ 14 ci)) _) dX5_walk_83 ?_
        intro u43 eu43 H locs hP hD hS
        replace hf := hf.trans (ltt_r eu43)
        have k9_u43 : u43 9 = σ 9 := by rw [eu43]; exact keep_up rfl (by decide) k9_u41
        have k10_u43 : u43 10 = σ 10 := by rw [eu43]; exact keep_up rfl (by decide) k10_u41
        have k14_u43 : u43 14 = σ 14 := by rw [eu43]; exact keep_up rfl (by decide) k14_u41
        refine lv_aload_n hx hb dX5_walk_84 rfl (lv_at hl 1 rfl) ?_
        refine va_get (D := D) (ci := 5) (v := .ref (ad 14)) (C := RX5) (T := TX5) (N := 22) hx hb hts hin5 hown hK hP (0) (SW_ob cy x0 ad u43) rfl 17 (by decide) wd1 (fun _ h9 => h9) rfl dX5_walk_85 ?_
        refine lv_iload_n hx hb dX5_walk_88 rfl (lv_at hl 2 rfl) ?_
        refine lv_iconst (v := (-1 : Int32)) hx hb dX5_walk_89 (by decide) ?_
        have h44 : ci < 10 := by omega
        refine g_iast (σ1 := up u43 14 ci (-1 : Int32)) hx hb hK hP hD hS (14) 0 ci (SW_14 cy x0 ad u43) rfl (nI_clamp (by omega)) (vp_in_nI h44 (by decide)) (SW_14_set cy x0 ad u43 ci _) dX5_walk_90 ?_
        intro u45 eu45 H locs hP hD hS
        replace hf := hf.trans (ltt_r eu45)
        have k9_u45 : u45 9 = σ 9 := by rw [eu45]; exact keep_up rfl (by decide) k9_u43
        have k10_u45 : u45 10 = σ 10 := by rw [eu45]; exact keep_up rfl (by decide) k10_u43
        refine lv_aload_n hx hb dX5_walk_91 rfl (lv_at hl 1 rfl) ?_
        refine va_get (D := D) (ci := 5) (v := .ref (ad 13)) (C := RX5) (T := TX5) (N := 22) hx hb hts hin5 hown hK hP (0) (SW_ob cy x0 ad u45) rfl 16 (by decide) wd0 (fun _ h9 => h9) rfl dX5_walk_92 ?_
        refine lv_iload_n hx hb dX5_walk_95 rfl (lv_at hl 2 rfl) ?_
        have h46 : ci < 10 := by omega
        refine g_iald hx hb hK hP (13) 0 ci (SW_13 cy x0 ad u45) rfl (nI_clamp (by omega)) (vp_in_nI h46 (by decide)) dX5_walk_96 ?_
        refine lv_if_le (tgt := 101) hx hb dX5_walk_97 (by decide) (fun c47 => ?_) (fun c47 => ?_)
        · replace hf := hf.trans (if_pos c47)
          refine lv_aload_n hx hb dX5_walk_101 rfl (lv_at hl 1 rfl) ?_
          refine va_get (D := D) (ci := 5) (v := .ref (ad 11)) (C := RX5) (T := TX5) (N := 22) hx hb hts hin5 hown hK hP (0) (SW_ob cy x0 ad u45) rfl 14 (by decide) wd2 (fun _ h9 => h9) rfl dX5_walk_102 ?_
          refine lv_iload_n hx hb dX5_walk_105 rfl (lv_at hl 2 rfl) ?_
          refine lv_aload_n hx hb dX5_walk_106 rfl (lv_at hl 1 rfl) ?_
          refine va_get (D := D) (ci := 5) (v := .ref (ad 12)) (C := RX5) (T := TX5) (N := 22) hx hb hts hin5 hown hK hP (0) (SW_ob cy x0 ad u45) rfl 15 (by decide) wd3 (fun _ h9 => h9) rfl dX5_walk_107 ?_
          refine lv_iload_n hx hb dX5_walk_110 rfl (lv_at hl 2 rfl) ?_
          have h48 : ci < 10 := by omega
          refine g_iald hx hb hK hP (12) 0 ci (SW_12 cy x0 ad u45) rfl (nI_clamp (by omega)) (vp_in_nI h48 (by decide)) dX5_walk_111 ?_
          have h49 : ci < 10 := by omega
          refine g_iast (σ1 := up u45 11 ci (u45 12 ci)) hx hb hK hP hD hS (11) 0 ci (SW_11 cy x0 ad u45) rfl (nI_clamp (by omega)) (vp_in_nI h49 (by decide)) (SW_11_set cy x0 ad u45 ci _) dX5_walk_112 ?_
          intro u50 eu50 H locs hP hD hS
          replace hf := hf.trans (ltt_r eu50)
          have k9_u50 : u50 9 = σ 9 := by rw [eu50]; exact keep_up rfl (by decide) k9_u45
          have k10_u50 : u50 10 = σ 10 := by rw [eu50]; exact keep_up rfl (by decide) k10_u45
          refine lv_aload_n hx hb dX5_walk_113 rfl (lv_at hl 1 rfl) ?_
          refine va_get (D := D) (ci := 5) (v := .ref (ad 14)) (C := RX5) (T := TX5) (N := 22) hx hb hts hin5 hown hK hP (0) (SW_ob cy x0 ad u50) rfl 17 (by decide) wd1 (fun _ h9 => h9) rfl dX5_walk_114 ?_
          refine lv_iload_n hx hb dX5_walk_117 rfl (lv_at hl 2 rfl) ?_
          have h51 : ci < 10 := by omega
          refine g_iald hx hb hK hP (14) 0 ci (SW_14 cy x0 ad u50) rfl (nI_clamp (by omega)) (vp_in_nI h51 (by decide)) dX5_walk_118 ?_
          refine g_top (y := (-1 : Int32)) ((by rw [eu50, eu45]; simp [up])) ?_
          refine lv_iconst (v := (-1 : Int32)) hx hb dX5_walk_119 (by decide) ?_
          refine lv_icmp_eq (tgt := 134) hx hb dX5_walk_120 (by decide) (fun c52 => ?_) (fun c52 => absurd (rfl) c52)
          refine lv_aload_n hx hb dX5_walk_134 rfl (lv_at hl 1 rfl) ?_
          refine va_get (D := D) (ci := 5) (v := .ref (ad 14)) (C := RX5) (T := TX5) (N := 22) hx hb hts hin5 hown hK hP (0) (SW_ob cy x0 ad u50) rfl 17 (by decide) wd1 (fun _ h9 => h9) rfl dX5_walk_135 ?_
          refine lv_iload_n hx hb dX5_walk_138 rfl (lv_at hl 2 rfl) ?_
          refine lv_iconst (v := (-1 : Int32)) hx hb dX5_walk_139 (by decide) ?_
          have h53 : ci < 10 := by omega
          refine g_iast (σ1 := up u50 14 ci (-1 : Int32)) hx hb hK hP hD hS (14) 0 ci (SW_14 cy x0 ad u50) rfl (nI_clamp (by omega)) (vp_in_nI h53 (by decide)) (SW_14_set cy x0 ad u50 ci _) dX5_walk_140 ?_
          intro u54 eu54 H locs hP hD hS
          replace hf := hf.trans (ltt_r eu54)
          have k9_u54 : u54 9 = σ 9 := by rw [eu54]; exact keep_up rfl (by decide) k9_u50
          have k10_u54 : u54 10 = σ 10 := by rw [eu54]; exact keep_up rfl (by decide) k10_u50
          exact g_endv hx hb hr hlocks hf hP hD hS (Nat.le_of_ble_eq_true rfl) (Nat.le_of_ble_eq_true rfl) dX5_walk_141
        · replace hf := hf.trans (if_neg c47)
          exact g_endv hx hb hr hlocks hf hP hD hS (Nat.le_of_ble_eq_true rfl) (Nat.le_of_ble_eq_true rfl) dX5_walk_100
  · replace hf := hf.trans (if_pos c5)
    refine lv_aload_n hx hb dX5_walk_22 rfl (lv_at hl 1 rfl) ?_
    refine va_get (D := D) (ci := 5) (v := .ref (ad 16)) (C := RX5) (T := TX5) (N := 22) hx hb hts hin5 hown hK hP (0) (SW_ob cy x0 ad u3) rfl 19 (by decide) wd8 (fun _ h9 => h9) rfl dX5_walk_23 ?_
    refine lv_iconst (v := nI 4) hx hb dX5_walk_26 (by decide) ?_
    refine lv_iload_n hx hb dX5_walk_27 rfl (lv_at hl 2 rfl) ?_
    refine lv_imul hx hb dX5_walk_28 ?_
    refine g_top (pk_mul _ _) ?_
    refine lv_dup2_11 hx hb dX5_walk_29 rfl rfl ?_
    have h55 : 4 * ci < 40 := by omega
    refine g_iald hx hb hK hP (16) 0 (4 * ci) (SW_16 cy x0 ad u3) rfl (nI_clamp (by omega)) (vp_in_nI h55 (by decide)) dX5_walk_30 ?_
    refine lv_iload_n hx hb dX5_walk_31 rfl (lv_at hl 3 rfl) ?_
    refine lv_iadd hx hb dX5_walk_32 ?_
    have h56 : 4 * ci < 40 := by omega
    refine g_iast (σ1 := up u3 16 (4 * ci) ((u3 16 (4 * ci)) + x)) hx hb hK hP hD hS (16) 0 (4 * ci) (SW_16 cy x0 ad u3) rfl (nI_clamp (by omega)) (vp_in_nI h56 (by decide)) (SW_16_set cy x0 ad u3 (4 * ci) _) dX5_walk_33 ?_
    intro u57 eu57 H locs hP hD hS
    replace hf := hf.trans (ltt_r eu57)
    have k9_u57 : u57 9 = σ 9 := by rw [eu57]; exact keep_up rfl (by decide) k9_u3
    have k10_u57 : u57 10 = σ 10 := by rw [eu57]; exact keep_up rfl (by decide) k10_u3
    have k14_u57 : u57 14 = σ 14 := by rw [eu57]; exact keep_up rfl (by decide) k14_u3
    refine lv_goto (tgt := 91) hx hb dX5_walk_34 (by decide) ?_
    refine lv_aload_n hx hb dX5_walk_91 rfl (lv_at hl 1 rfl) ?_
    refine va_get (D := D) (ci := 5) (v := .ref (ad 13)) (C := RX5) (T := TX5) (N := 22) hx hb hts hin5 hown hK hP (0) (SW_ob cy x0 ad u57) rfl 16 (by decide) wd0 (fun _ h9 => h9) rfl dX5_walk_92 ?_
    refine lv_iload_n hx hb dX5_walk_95 rfl (lv_at hl 2 rfl) ?_
    have h58 : ci < 10 := by omega
    refine g_iald hx hb hK hP (13) 0 ci (SW_13 cy x0 ad u57) rfl (nI_clamp (by omega)) (vp_in_nI h58 (by decide)) dX5_walk_96 ?_
    refine lv_if_le (tgt := 101) hx hb dX5_walk_97 (by decide) (fun c59 => ?_) (fun c59 => ?_)
    · replace hf := hf.trans (if_pos c59)
      refine lv_aload_n hx hb dX5_walk_101 rfl (lv_at hl 1 rfl) ?_
      refine va_get (D := D) (ci := 5) (v := .ref (ad 11)) (C := RX5) (T := TX5) (N := 22) hx hb hts hin5 hown hK hP (0) (SW_ob cy x0 ad u57) rfl 14 (by decide) wd2 (fun _ h9 => h9) rfl dX5_walk_102 ?_
      refine lv_iload_n hx hb dX5_walk_105 rfl (lv_at hl 2 rfl) ?_
      refine lv_aload_n hx hb dX5_walk_106 rfl (lv_at hl 1 rfl) ?_
      refine va_get (D := D) (ci := 5) (v := .ref (ad 12)) (C := RX5) (T := TX5) (N := 22) hx hb hts hin5 hown hK hP (0) (SW_ob cy x0 ad u57) rfl 15 (by decide) wd3 (fun _ h9 => h9) rfl dX5_walk_107 ?_
      refine lv_iload_n hx hb dX5_walk_110 rfl (lv_at hl 2 rfl) ?_
      have h60 : ci < 10 := by omega
      refine g_iald hx hb hK hP (12) 0 ci (SW_12 cy x0 ad u57) rfl (nI_clamp (by omega)) (vp_in_nI h60 (by decide)) dX5_walk_111 ?_
      have h61 : ci < 10 := by omega
      refine g_iast (σ1 := up u57 11 ci (u57 12 ci)) hx hb hK hP hD hS (11) 0 ci (SW_11 cy x0 ad u57) rfl (nI_clamp (by omega)) (vp_in_nI h61 (by decide)) (SW_11_set cy x0 ad u57 ci _) dX5_walk_112 ?_
      intro u62 eu62 H locs hP hD hS
      replace hf := hf.trans (ltt_r eu62)
      have k9_u62 : u62 9 = σ 9 := by rw [eu62]; exact keep_up rfl (by decide) k9_u57
      have k10_u62 : u62 10 = σ 10 := by rw [eu62]; exact keep_up rfl (by decide) k10_u57
      have k14_u62 : u62 14 = σ 14 := by rw [eu62]; exact keep_up rfl (by decide) k14_u57
      refine lv_aload_n hx hb dX5_walk_113 rfl (lv_at hl 1 rfl) ?_
      refine va_get (D := D) (ci := 5) (v := .ref (ad 14)) (C := RX5) (T := TX5) (N := 22) hx hb hts hin5 hown hK hP (0) (SW_ob cy x0 ad u62) rfl 17 (by decide) wd1 (fun _ h9 => h9) rfl dX5_walk_114 ?_
      refine lv_iload_n hx hb dX5_walk_117 rfl (lv_at hl 2 rfl) ?_
      have h63 : ci < 10 := by omega
      refine g_iald hx hb hK hP (14) 0 ci (SW_14 cy x0 ad u62) rfl (nI_clamp (by omega)) (vp_in_nI h63 (by decide)) dX5_walk_118 ?_
      refine g_top (y := σ 14 ci) (congrFun k14_u62 ci) ?_
      refine lv_iconst (v := (-1 : Int32)) hx hb dX5_walk_119 (by decide) ?_
      refine lv_icmp_eq (tgt := 134) hx hb dX5_walk_120 (by decide) (fun c64 => ?_) (fun c64 => ?_)
      · replace hf := hf.trans (if_pos c64)
        refine lv_aload_n hx hb dX5_walk_134 rfl (lv_at hl 1 rfl) ?_
        refine va_get (D := D) (ci := 5) (v := .ref (ad 14)) (C := RX5) (T := TX5) (N := 22) hx hb hts hin5 hown hK hP (0) (SW_ob cy x0 ad u62) rfl 17 (by decide) wd1 (fun _ h9 => h9) rfl dX5_walk_135 ?_
        refine lv_iload_n hx hb dX5_walk_138 rfl (lv_at hl 2 rfl) ?_
        refine lv_iconst (v := (-1 : Int32)) hx hb dX5_walk_139 (by decide) ?_
        have h65 : ci < 10 := by omega
        refine g_iast (σ1 := up u62 14 ci (-1 : Int32)) hx hb hK hP hD hS (14) 0 ci (SW_14 cy x0 ad u62) rfl (nI_clamp (by omega)) (vp_in_nI h65 (by decide)) (SW_14_set cy x0 ad u62 ci _) dX5_walk_140 ?_
        intro u66 eu66 H locs hP hD hS
        replace hf := hf.trans (ltt_r eu66)
        have k9_u66 : u66 9 = σ 9 := by rw [eu66]; exact keep_up rfl (by decide) k9_u62
        have k10_u66 : u66 10 = σ 10 := by rw [eu66]; exact keep_up rfl (by decide) k10_u62
        exact g_endv hx hb hr hlocks hf hP hD hS (Nat.le_of_ble_eq_true rfl) (Nat.le_of_ble_eq_true rfl) dX5_walk_141
      · replace hf := hf.trans (if_neg c64)
        refine lv_aload_n hx hb dX5_walk_123 rfl (lv_at hl 1 rfl) ?_
        refine lv_iload_n hx hb dX5_walk_124 rfl (lv_at hl 2 rfl) ?_
        refine lv_aload_n hx hb dX5_walk_125 rfl (lv_at hl 1 rfl) ?_
        refine va_get (D := D) (ci := 5) (v := .ref (ad 14)) (C := RX5) (T := TX5) (N := 22) hx hb hts hin5 hown hK hP (0) (SW_ob cy x0 ad u62) rfl 17 (by decide) wd1 (fun _ h9 => h9) rfl dX5_walk_126 ?_
        refine lv_iload_n hx hb dX5_walk_129 rfl (lv_at hl 2 rfl) ?_
        have h67 : ci < 10 := by omega
        refine g_iald hx hb hK hP (14) 0 ci (SW_14 cy x0 ad u62) rfl (nI_clamp (by omega)) (vp_in_nI h67 (by decide)) dX5_walk_130 ?_
        refine g_top (y := nI (tn (σ 14 ci))) ((congrFun k14_u62 ci).trans (tn_eq (hho.resolve_left c64).1 (by decide))) ?_
        refine g_callv (q0 := 0) (wf := (SW cy x0 ad)) (σ := u62) (wfc := (SW cy x0 ad)) (σc := u62) hx hb hml hown hts hK hP hD hS hA hl.1 [] pm_0 (fun u => u) (fun _ => pm_0b) [.int (nI ci), .int (nI (tn (σ 14 ci)))] (c_X5_lay l D cy x0 ad u62 ci (tn (σ 14 ci)) (by omega) (tn_in (hho.resolve_left c64).1) (by rw [k10_u62]; exact hfo) (by rw [k9_u62]; exact (hho.resolve_left c64).2)) (cwV 2 hts gX5_walk_X5_lay rfl rfl rfl (by decide +kernel) ⟨Nat.le_of_ble_eq_true rfl, Nat.le_of_ble_eq_true rfl⟩) (SW_ob cy x0 ad u62) rfl rfl rfl rfl (Nat.le_of_ble_eq_true rfl) dX5_walk_131 ⟨Nat.le_of_ble_eq_true rfl, Nat.le_of_ble_eq_true rfl⟩ rfl rfl ?_
        intro u68 eu68 H locs hP hD hS
        replace hf := hf.trans (ltt_r eu68)
        refine lv_aload_n hx hb dX5_walk_134 rfl (lv_at hl 1 rfl) ?_
        refine va_get (D := D) (ci := 5) (v := .ref (ad 14)) (C := RX5) (T := TX5) (N := 22) hx hb hts hin5 hown hK hP (0) (SW_ob cy x0 ad u68) rfl 17 (by decide) wd1 (fun _ h9 => h9) rfl dX5_walk_135 ?_
        refine lv_iload_n hx hb dX5_walk_138 rfl (lv_at hl 2 rfl) ?_
        refine lv_iconst (v := (-1 : Int32)) hx hb dX5_walk_139 (by decide) ?_
        have h69 : ci < 10 := by omega
        refine g_iast (σ1 := up u68 14 ci (-1 : Int32)) hx hb hK hP hD hS (14) 0 ci (SW_14 cy x0 ad u68) rfl (nI_clamp (by omega)) (vp_in_nI h69 (by decide)) (SW_14_set cy x0 ad u68 ci _) dX5_walk_140 ?_
        intro u70 eu70 H locs hP hD hS
        replace hf := hf.trans (ltt_r eu70)
        exact g_endv hx hb hr hlocks hf hP hD hS (Nat.le_of_ble_eq_true rfl) (Nat.le_of_ble_eq_true rfl) dX5_walk_141
    · replace hf := hf.trans (if_neg c59)
      exact g_endv hx hb hr hlocks hf hP hD hS (Nat.le_of_ble_eq_true rfl) (Nat.le_of_ble_eq_true rfl) dX5_walk_100
