/-- what a predicate of a state and the model's own must give, and what must keep it, for the hours to go by -/
def PInv (Inv : Sg × Sg → Prop) : Prop :=
  (∀ τ, Inv τ → OkN τ.1) ∧
  (∀ τ, Inv τ → ∀ c, c < tn (τ.1 0 12) → (τ.1 11 c = (-1 : Int32) ∨ vp_in (τ.1 11 c) 8) ∧ vp_in (τ.1 10 (5 * c)) 8 ∧ vp_in (τ.1 10 (5 * c + 1)) 8 ∧ ¬ τ.1 10 (5 * c + 4) = 0 ∧ (τ.1 14 c = (-1 : Int32) ∨ (vp_in (τ.1 14 c) 40 ∧ vp_in (τ.1 9 (tn (τ.1 14 c))) 8))) ∧
  (∀ τ u, Inv τ → u < tn (τ.1 0 5) → ¬ τ.1 7 u ≤ 0 → Inv (s_X5_comeBack τ.1 u, τ.2)) ∧
  (∀ τ c now, Inv τ → c < tn (τ.1 0 12) → ¬ τ.1 11 c = (-1 : Int32) → now < 24 → Inv (s_X5_leave τ c now).2) ∧
  (∀ τ c now, Inv τ → c < tn (τ.1 0 12) → τ.1 11 c = (-1 : Int32) → now < 24 → Inv (s_X5_walk τ.1 c (τ.2 1 now), τ.2))
theorem tn_31 (x : Int32) : tn x < 2 ^ 31 := by
  have h := Int32.toInt_lt x
  show x.toInt.toNat < 2 ^ 31
  omega
def lp_X5_pass_10 (σ : Sg × Sg)  : Nat → Nat → Sg × Sg → (Sg × Sg)
  | 0, k, τ => τ
  | n + 1, k, τ => if (τ.1 7 k) ≤ 0 then lp_X5_pass_10 σ n (k + 1) τ else ltt (s_X5_comeBack τ.1 k) (fun u5 => lp_X5_pass_10 σ n (k + 1) (u5, τ.2))
def lp_X5_pass_42 (σ : Sg × Sg)  : Nat → Nat → Int32 → Sg × Sg → Int32 × (Sg × Sg)
  | 0, k, many, τ => (many, τ)
  | n + 1, k, many, τ => if (τ.1 11 k) = (τ.1 10 (5 * k)) then if (τ.1 11 k) = (-1 : Int32) then lp_X5_pass_42 σ n (k + 1) many τ else if (nI (tn (σ.1 0 0) % 24)) = (τ.1 10 ((5 * k) + 2)) then ltt (s_X5_leave τ k (tn (σ.1 0 0) % 24)) (fun r22 => lp_X5_pass_42 σ n (k + 1) (many + r22.1) r22.2) else lp_X5_pass_42 σ n (k + 1) many τ else if (τ.1 11 k) = (-1 : Int32) then lp_X5_pass_42 σ n (k + 1) many τ else if (nI (tn (σ.1 0 0) % 24)) = (τ.1 10 ((5 * k) + 3)) then ltt (s_X5_leave τ k (tn (σ.1 0 0) % 24)) (fun r16 => lp_X5_pass_42 σ n (k + 1) (many + r16.1) r16.2) else lp_X5_pass_42 σ n (k + 1) many τ
def lp_X5_pass_124 (σ : Sg × Sg) (many : Int32) : Nat → Nat → Sg × Sg → (Sg × Sg)
  | 0, k, τ => τ
  | n + 1, k, τ => if (τ.1 11 k) = (-1 : Int32) then ltt (s_X5_walk τ.1 k (τ.2 1 (tn (σ.1 0 0) % 24))) (fun u28 => lp_X5_pass_124 σ many n (k + 1) (u28, τ.2)) else lp_X5_pass_124 σ many n (k + 1) τ
def s_X5_pass (σ : Sg × Sg) : Int32 × (Sg × Sg) := ltt (lp_X5_pass_10 σ (tn (σ.1 0 5)) 0 σ) (fun q29 => ltt (lp_X5_pass_42 σ (tn (σ.1 0 12)) 0 (nI 0) q29) (fun q30 => ltt (lp_X5_pass_124 σ q30.1 (tn (σ.1 0 12)) 0 q30.2) (fun q31 => if (nI (((tn (σ.1 0 0)) % 24) % 6)) = 0 then ltt (s_X5_cart q31.1) (fun u37 => if (nI ((tn (σ.1 0 0)) % 24)) = (nI 23) then ltt (s_X5_decree u37) (fun u40 => ltt ((up u40 0 0 ((u40 0 0) + (nI 1)), q31.2)) (fun u41 => (q30.1, u41))) else ltt ((up u37 0 0 ((u37 0 0) + (nI 1)), q31.2)) (fun u39 => (q30.1, u39))) else if (nI ((tn (σ.1 0 0)) % 24)) = (nI 23) then ltt (s_X5_decree q31.1) (fun u35 => ltt ((up u35 0 0 ((u35 0 0) + (nI 1)), q31.2)) (fun u36 => (q30.1, u36))) else ltt ((up q31.1 0 0 ((q31.1 0 0) + (nI 1)), q31.2)) (fun u34 => (q30.1, u34)))))
abbrev rm_X5_pass : Room := { frames := 3, cells := 0, slots := 0, locals := 70 }
set_option maxHeartbeats 4000000 in
set_option maxRecDepth 100000 in
theorem c_X5_pass (l : Launch) (D : va_G) (cy : Nat → ClassId) (ax : Nat → Nat) (bs ba : Nat) (ad : Nat → Nat) (σ : Sg × Sg) (hhr : σ.1 0 0 = nI (tn (σ.1 0 0))) (Inv : Sg × Sg → Prop) (hV : PInv Inv) (hi : Inv σ) : gMiN l yX5_pass wsX5_pass rm_X5_pass D (Ty cy) (PW cy ax bs ba ad) [.ref (ad 0)] σ (s_X5_pass σ) 0 0 := by
  refine gstartiN cX5_pass 5 RX5 (by decide) rfl rfl (Nat.le_of_ble_eq_true rfl) ?_
  intro p e s m below meth c A ls hx hb hml hown hts hr hlocks hK hP hD hA hS hl hnw
  have hl : lv_has ls 5 [(0, .ref (ad 0))] := hl
  have hf : s_X5_pass σ = s_X5_pass σ := rfl
  have hz : σ.1 0 = σ.1 0 := rfl
  have hin5 : ∀ w ∈ wsX50, w ∈ wsX5_pass := by decide +kernel
  have hin6 : ∀ w ∈ wsX60, w ∈ wsX5_pass := by decide +kernel
  have wd0 := hts (.fieldLink RX5 77 "UmbrellaLandModel$State" "umbrellas" "I") (by decide +kernel)
  have wd1 := hts (.fieldLink RX5 34 "UmbrellaLandModel$State" "waits" "[I") (by decide +kernel)
  have wd2 := hts (.fieldLink RX5 80 "UmbrellaLandModel$State" "citizens" "I") (by decide +kernel)
  have wd3 := hts (.fieldLink RX5 46 "UmbrellaLandModel$State" "is" "[I") (by decide +kernel)
  have wd4 := hts (.fieldLink RX5 43 "UmbrellaLandModel$State" "citizen" "[I") (by decide +kernel)
  have wd5 := hts (.fieldLink RX5 3 "UmbrellaLandModel$State" "this$0" "LUmbrellaLandModel;") (by decide +kernel)
  have wd6 := hts (.fieldLink RX5 70 "UmbrellaLandModel$State" "hour" "I") (by decide +kernel)
  have hI := hV.1 _ hi
  have n1 := hI.n1
  have n5 := hI.n5
  have n12 := hI.n12
  have hhb := tn_31 (σ.1 0 0)
  have hnow : tn (σ.1 0 0) % 24 < 24 := Nat.mod_lt _ (by decide)
  have loop10 : ∀  (n k : Nat)  (τ : Sg × Sg) (H : Heap) (locs : List Loc) (ls : Array Slot), n = tn (σ.1 0 5) - k ∧ k ≤ tn (σ.1 0 5) + 1 → τ.1 0 = σ.1 0 → (Inv τ) → va_P D vwCl ((PW cy ax bs ba ad) τ) H → va_D A ((PW cy ax bs ba ad) τ) → va_S A s.heap H locs → lv_has ls 5 [(0, .ref (ad 0)), (1, .int (nI (tn (σ.1 0 0) % 24))), (2, .int (nI k))] → (∀ u : (Sg × Sg), u = lp_X5_pass_10 σ n k τ → u.1 0 = σ.1 0 → (Inv u) → ∀ (H : Heap) (locs : List Loc) (ls : Array Slot), va_P D vwCl ((PW cy ax bs ba ad) u) H → va_D A ((PW cy ax bs ba ad) u) → va_S A s.heap H locs → lv_has ls 5 [(0, .ref (ad 0)), (1, .int (nI (tn (σ.1 0 0) % 24)))] → W p l e rm_X5_pass s m [.ref (ad 0)].toArray below meth c H locs 0 0 (MQ below (va_Qi (fun r u => (r, u) = s_X5_pass σ) (gPost D (PW cy ax bs ba ad) A) A) [.ref (ad 0)].toArray s 0 0 A) (F0 m 38 ls [])) → W p l e rm_X5_pass s m [.ref (ad 0)].toArray below meth c H locs 0 0 (MQ below (va_Qi (fun r u => (r, u) = s_X5_pass σ) (gPost D (PW cy ax bs ba ad) A) A) [.ref (ad 0)].toArray s 0 0 A) (F0 m 10 ls []) := by
    intro n
    induction n with
    | zero =>
      intro k τ H locs ls hN hz hi0 hP hD hS hl K
      have hf : lp_X5_pass_10 σ 0 k τ = lp_X5_pass_10 σ 0 k τ := rfl
      refine lv_iload_n hx hb dX5_pass_10 rfl (lv_at hl 2 rfl) ?_
      refine lv_aload_n hx hb dX5_pass_11 rfl (lv_at hl 0 rfl) ?_
      refine va_get (D := D) (ci := 5) (v := .int (τ.1 0 5)) (C := RX5) (T := TX5) (N := 22) hx hb hts hin5 hown hK hP (0) (gx_l (SW_ob cy (ax 0) ad τ.1)) rfl 5 (by decide) wd0 (fun _ h9 => h9) rfl dX5_pass_12 ?_
      refine g_top ((congrFun hz 5).trans hI.c5) ?_
      refine lv_icmp_ge (tgt := 38) hx hb dX5_pass_15 (by decide) (fun c1 => ?_) (fun c1 => absurd (nI_le (by omega) (by omega)) c1)
      exact K τ hf.symm hz hi0 _ _ _ hP hD hS (lv_sub hl [0, 1] rfl)
    | succ n ih =>
      intro k τ H locs ls hN hz hi0 hP hD hS hl K
      have hf : lp_X5_pass_10 σ (n + 1) k τ = lp_X5_pass_10 σ (n + 1) k τ := rfl
      have hz0 := hz
      refine lv_iload_n hx hb dX5_pass_10 rfl (lv_at hl 2 rfl) ?_
      refine lv_aload_n hx hb dX5_pass_11 rfl (lv_at hl 0 rfl) ?_
      refine va_get (D := D) (ci := 5) (v := .int (τ.1 0 5)) (C := RX5) (T := TX5) (N := 22) hx hb hts hin5 hown hK hP (0) (gx_l (SW_ob cy (ax 0) ad τ.1)) rfl 5 (by decide) wd0 (fun _ h9 => h9) rfl dX5_pass_12 ?_
      refine g_top ((congrFun hz 5).trans hI.c5) ?_
      refine lv_icmp_ge (tgt := 38) hx hb dX5_pass_15 (by decide) (fun c2 => absurd c2 (nI_ge (by omega) (by omega))) (fun c2 => ?_)
      refine lv_aload_n hx hb dX5_pass_18 rfl (lv_at hl 0 rfl) ?_
      refine va_get (D := D) (ci := 5) (v := .ref (ad 7)) (C := RX5) (T := TX5) (N := 22) hx hb hts hin5 hown hK hP (0) (gx_l (SW_ob cy (ax 0) ad τ.1)) rfl 9 (by decide) wd1 (fun _ h9 => h9) rfl dX5_pass_19 ?_
      refine lv_iload_n hx hb dX5_pass_22 rfl (lv_at hl 2 rfl) ?_
      have h3 : k < 40 := by omega
      refine g_iald hx hb hK hP (7) 0 k (gx_l (SW_7 cy (ax 0) ad τ.1)) rfl (nI_clamp (by omega)) (vp_in_nI h3 (by decide)) dX5_pass_23 ?_
      refine lv_if_le (tgt := 32) hx hb dX5_pass_24 (by decide) (fun c4 => ?_) (fun c4 => ?_)
      · replace hf := hf.trans (if_pos c4)
        refine lv_iinc (v := nI (k + 1)) (lv' := [(2, .int (nI (k + 1))), (0, .ref (ad 0)), (1, .int (nI (tn (σ.1 0 0) % 24)))]) hx hb dX5_pass_32 hl (k := 2) rfl (nI_1 _) (by decide) rfl (fun ls hl => ?_)
        refine lv_goto (tgt := 10) hx hb dX5_pass_35 (by decide) ?_
        exact ih (k + 1)  τ _ _ _ (by omega) hz hi0 hP hD hS (lv_sub hl [1, 2, 0] rfl) (fun u eu => K u (eu.trans hf.symm))
      · replace hf := hf.trans (if_neg c4)
        refine lv_aload_n hx hb dX5_pass_27 rfl (lv_at hl 0 rfl) ?_
        refine lv_iload_n hx hb dX5_pass_28 rfl (lv_at hl 2 rfl) ?_
        refine g_callv (q0 := 0) (wf := (PW cy ax bs ba ad)) (σ := τ) (wfc := (SW cy (ax 0) ad)) (σc := τ.1) hx hb hml hown hts hK hP hD hS hA hl.1 (OW cy ax bs ba (τ.2)) (List.Perm.refl _) (fun u => (u, τ.2)) (fun _ => List.Perm.refl _) [.int (nI k)] (c_X5_comeBack l D cy (ax 0) ad τ.1 k (by omega)) (cwV 1 hts gX5_pass_X5_comeBack rfl rfl rfl (by decide +kernel) ⟨Nat.le_of_ble_eq_true rfl, Nat.le_of_ble_eq_true rfl⟩) (gx_l (SW_ob cy (ax 0) ad τ.1)) rfl rfl rfl rfl (Nat.le_of_ble_eq_true rfl) dX5_pass_29 ⟨Nat.le_of_ble_eq_true rfl, Nat.le_of_ble_eq_true rfl⟩ rfl rfl ?_
        intro u5 eu5 H locs hP hD hS
        replace hf := hf.trans (ltt_r eu5)
        have hz : u5 0 = σ.1 0 := by rw [eu5]; exact (z_X5_comeBack τ.1 k).trans hz
        refine lv_iinc (v := nI (k + 1)) (lv' := [(2, .int (nI (k + 1))), (0, .ref (ad 0)), (1, .int (nI (tn (σ.1 0 0) % 24)))]) hx hb dX5_pass_32 hl (k := 2) rfl (nI_1 _) (by decide) rfl (fun ls hl => ?_)
        refine lv_goto (tgt := 10) hx hb dX5_pass_35 (by decide) ?_
        exact ih (k + 1)  (u5, τ.2) _ _ _ (by omega) hz (by rw [eu5]; exact hV.2.2.1 τ k hi0 (by rw [congrFun hz0 5]; omega) c4) hP hD hS (lv_sub hl [1, 2, 0] rfl) (fun u eu => K u (eu.trans hf.symm))
  have loop42 : ∀  (n k : Nat) (many : Int32) (τ : Sg × Sg) (H : Heap) (locs : List Loc) (ls : Array Slot), n = tn (σ.1 0 12) - k ∧ k ≤ tn (σ.1 0 12) + 1 → τ.1 0 = σ.1 0 → (Inv τ) → va_P D vwCl ((PW cy ax bs ba ad) τ) H → va_D A ((PW cy ax bs ba ad) τ) → va_S A s.heap H locs → lv_has ls 5 [(0, .ref (ad 0)), (1, .int (nI (tn (σ.1 0 0) % 24))), (2, .int (many)), (3, .int (nI k))] → (∀ u : Int32 × (Sg × Sg), u = lp_X5_pass_42 σ n k many τ → u.2.1 0 = σ.1 0 → (Inv u.2) → ∀ (H : Heap) (locs : List Loc) (ls : Array Slot), va_P D vwCl ((PW cy ax bs ba ad) u.2) H → va_D A ((PW cy ax bs ba ad) u.2) → va_S A s.heap H locs → lv_has ls 5 [(0, .ref (ad 0)), (1, .int (nI (tn (σ.1 0 0) % 24))), (2, .int (u.1))] → W p l e rm_X5_pass s m [.ref (ad 0)].toArray below meth c H locs 0 0 (MQ below (va_Qi (fun r u => (r, u) = s_X5_pass σ) (gPost D (PW cy ax bs ba ad) A) A) [.ref (ad 0)].toArray s 0 0 A) (F0 m 122 ls [])) → W p l e rm_X5_pass s m [.ref (ad 0)].toArray below meth c H locs 0 0 (MQ below (va_Qi (fun r u => (r, u) = s_X5_pass σ) (gPost D (PW cy ax bs ba ad) A) A) [.ref (ad 0)].toArray s 0 0 A) (F0 m 42 ls []) := by
    intro n
    induction n with
    | zero =>
      intro k many τ H locs ls hN hz hi0 hP hD hS hl K
      have hf : lp_X5_pass_42 σ 0 k many τ = lp_X5_pass_42 σ 0 k many τ := rfl
      refine lv_iload_n hx hb dX5_pass_42 rfl (lv_at hl 3 rfl) ?_
      refine lv_aload_n hx hb dX5_pass_43 rfl (lv_at hl 0 rfl) ?_
      refine va_get (D := D) (ci := 5) (v := .int (τ.1 0 12)) (C := RX5) (T := TX5) (N := 22) hx hb hts hin5 hown hK hP (0) (gx_l (SW_ob cy (ax 0) ad τ.1)) rfl 12 (by decide) wd2 (fun _ h9 => h9) rfl dX5_pass_44 ?_
      refine g_top ((congrFun hz 12).trans hI.c12) ?_
      refine lv_icmp_ge (tgt := 122) hx hb dX5_pass_47 (by decide) (fun c6 => ?_) (fun c6 => absurd (nI_le (by omega) (by omega)) c6)
      exact K (many, τ) hf.symm hz hi0 _ _ _ hP hD hS (lv_sub hl [0, 1, 2] rfl)
    | succ n ih =>
      intro k many τ H locs ls hN hz hi0 hP hD hS hl K
      have hf : lp_X5_pass_42 σ (n + 1) k many τ = lp_X5_pass_42 σ (n + 1) k many τ := rfl
      have hz0 := hz
      have hkb : k < tn (τ.1 0 12) := by rw [congrFun hz 12]; omega
      have hL := hV.2.1 τ hi0 k hkb
      refine lv_iload_n hx hb dX5_pass_42 rfl (lv_at hl 3 rfl) ?_
      refine lv_aload_n hx hb dX5_pass_43 rfl (lv_at hl 0 rfl) ?_
      refine va_get (D := D) (ci := 5) (v := .int (τ.1 0 12)) (C := RX5) (T := TX5) (N := 22) hx hb hts hin5 hown hK hP (0) (gx_l (SW_ob cy (ax 0) ad τ.1)) rfl 12 (by decide) wd2 (fun _ h9 => h9) rfl dX5_pass_44 ?_
      refine g_top ((congrFun hz 12).trans hI.c12) ?_
      refine lv_icmp_ge (tgt := 122) hx hb dX5_pass_47 (by decide) (fun c7 => absurd c7 (nI_ge (by omega) (by omega))) (fun c7 => ?_)
      refine lv_aload_n hx hb dX5_pass_50 rfl (lv_at hl 0 rfl) ?_
      refine va_get (D := D) (ci := 5) (v := .ref (ad 11)) (C := RX5) (T := TX5) (N := 22) hx hb hts hin5 hown hK hP (0) (gx_l (SW_ob cy (ax 0) ad τ.1)) rfl 14 (by decide) wd3 (fun _ h9 => h9) rfl dX5_pass_51 ?_
      refine lv_iload_n hx hb dX5_pass_54 rfl (lv_at hl 3 rfl) ?_
      have h8 : k < 10 := by omega
      refine g_iald hx hb hK hP (11) 0 k (gx_l (SW_11 cy (ax 0) ad τ.1)) rfl (nI_clamp (by omega)) (vp_in_nI h8 (by decide)) dX5_pass_55 ?_
      refine lv_aload_n hx hb dX5_pass_56 rfl (lv_at hl 0 rfl) ?_
      refine va_get (D := D) (ci := 5) (v := .ref (ad 10)) (C := RX5) (T := TX5) (N := 22) hx hb hts hin5 hown hK hP (0) (gx_l (SW_ob cy (ax 0) ad τ.1)) rfl 13 (by decide) wd4 (fun _ h9 => h9) rfl dX5_pass_57 ?_
      refine lv_iconst (v := nI 5) hx hb dX5_pass_60 (by decide) ?_
      refine lv_iload_n hx hb dX5_pass_61 rfl (lv_at hl 3 rfl) ?_
      refine lv_imul hx hb dX5_pass_62 ?_
      refine g_top (pk_mul _ _) ?_
      have h9 : 5 * k < 50 := by omega
      refine g_iald hx hb hK hP (10) 0 (5 * k) (gx_l (SW_10 cy (ax 0) ad τ.1)) rfl (nI_clamp (by omega)) (vp_in_nI h9 (by decide)) dX5_pass_63 ?_
      refine lv_icmp_ne (tgt := 71) hx hb dX5_pass_64 (by decide) (fun c10 => ?_) (fun c10 => ?_)
      · replace hf := hf.trans (if_neg c10)
        refine lv_iconst (v := nI 0) hx hb dX5_pass_71 (by decide) ?_
        refine lv_istore (lv' := [(4, .int (nI 0)), (0, .ref (ad 0)), (1, .int (nI (tn (σ.1 0 0) % 24))), (2, .int (many)), (3, .int (nI k))]) hx hb dX5_pass_72 hl (by decide) rfl (fun ls hl => ?_)
        refine lv_aload_n hx hb dX5_pass_74 rfl (lv_at hl 1 rfl) ?_
        refine va_get (D := D) (ci := 5) (v := .ref (ad 11)) (C := RX5) (T := TX5) (N := 22) hx hb hts hin5 hown hK hP (0) (gx_l (SW_ob cy (ax 0) ad τ.1)) rfl 14 (by decide) wd3 (fun _ h9 => h9) rfl dX5_pass_75 ?_
        refine lv_iload_n hx hb dX5_pass_78 rfl (lv_at hl 4 rfl) ?_
        have h11 : k < 10 := by omega
        refine g_iald hx hb hK hP (11) 0 k (gx_l (SW_11 cy (ax 0) ad τ.1)) rfl (nI_clamp (by omega)) (vp_in_nI h11 (by decide)) dX5_pass_79 ?_
        refine lv_iconst (v := (-1 : Int32)) hx hb dX5_pass_80 (by decide) ?_
        refine lv_icmp_eq (tgt := 116) hx hb dX5_pass_81 (by decide) (fun c12 => ?_) (fun c12 => ?_)
        · replace hf := hf.trans (if_pos c12)
          refine lv_iinc (v := nI (k + 1)) (lv' := [(3, .int (nI (k + 1))), (4, .int (nI 0)), (0, .ref (ad 0)), (1, .int (nI (tn (σ.1 0 0) % 24))), (2, .int (many))]) hx hb dX5_pass_116 hl (k := 4) rfl (nI_1 _) (by decide) rfl (fun ls hl => ?_)
          refine lv_goto (tgt := 42) hx hb dX5_pass_119 (by decide) ?_
          exact ih (k + 1) many τ _ _ _ (by omega) hz hi0 hP hD hS (lv_sub hl [2, 3, 4, 0] rfl) (fun u eu => K u (eu.trans hf.symm))
        · replace hf := hf.trans (if_neg c12)
          refine lv_iload_n hx hb dX5_pass_84 rfl (lv_at hl 2 rfl) ?_
          refine lv_aload_n hx hb dX5_pass_85 rfl (lv_at hl 1 rfl) ?_
          refine va_get (D := D) (ci := 5) (v := .ref (ad 10)) (C := RX5) (T := TX5) (N := 22) hx hb hts hin5 hown hK hP (0) (gx_l (SW_ob cy (ax 0) ad τ.1)) rfl 13 (by decide) wd4 (fun _ h9 => h9) rfl dX5_pass_86 ?_
          refine lv_iconst (v := nI 5) hx hb dX5_pass_89 (by decide) ?_
          refine lv_iload_n hx hb dX5_pass_90 rfl (lv_at hl 4 rfl) ?_
          refine lv_imul hx hb dX5_pass_91 ?_
          refine g_top (pk_mul _ _) ?_
          refine lv_iload hx hb dX5_pass_92 (lv_at hl 0 rfl) ?_
          refine lv_if_eq (tgt := 101) hx hb dX5_pass_94 (by decide) (fun c13 => ?_) (fun c13 => absurd (by decide) c13)
          refine lv_iconst (v := nI 3) hx hb dX5_pass_101 (by decide) ?_
          refine lv_iadd hx hb dX5_pass_102 ?_
          refine g_top (nI_add _ _) ?_
          have h14 : (5 * k) + 3 < 50 := by omega
          refine g_iald hx hb hK hP (10) 0 ((5 * k) + 3) (gx_l (SW_10 cy (ax 0) ad τ.1)) rfl (nI_clamp (by omega)) (vp_in_nI h14 (by decide)) dX5_pass_103 ?_
          refine lv_icmp_ne (tgt := 116) hx hb dX5_pass_104 (by decide) (fun c15 => ?_) (fun c15 => ?_)
          · replace hf := hf.trans (if_neg c15)
            refine lv_iinc (v := nI (k + 1)) (lv' := [(3, .int (nI (k + 1))), (4, .int (nI 0)), (0, .ref (ad 0)), (1, .int (nI (tn (σ.1 0 0) % 24))), (2, .int (many))]) hx hb dX5_pass_116 hl (k := 4) rfl (nI_1 _) (by decide) rfl (fun ls hl => ?_)
            refine lv_goto (tgt := 42) hx hb dX5_pass_119 (by decide) ?_
            exact ih (k + 1) many τ _ _ _ (by omega) hz hi0 hP hD hS (lv_sub hl [2, 3, 4, 0] rfl) (fun u eu => K u (eu.trans hf.symm))
          · replace hf := hf.trans (if_pos c15)
            refine lv_iload_n hx hb dX5_pass_107 rfl (lv_at hl 3 rfl) ?_
            refine lv_aload_n hx hb dX5_pass_108 rfl (lv_at hl 1 rfl) ?_
            refine lv_iload_n hx hb dX5_pass_109 rfl (lv_at hl 4 rfl) ?_
            refine lv_iload_n hx hb dX5_pass_110 rfl (lv_at hl 2 rfl) ?_
            refine g_calliN (q0 := 0) hnw (wf := (PW cy ax bs ba ad)) (σ := τ) (wfc := (PW cy ax bs ba ad)) (σc := τ) hx hb hml hown hts hK hP hD hS hA hl.1 [] pm_0 (fun u => u) (fun _ => pm_0b) [.int (nI k), .int (nI (tn (σ.1 0 0) % 24))] (c_X5_leave l D cy ax bs ba ad τ k (tn (σ.1 0 0) % 24) (by omega) (by omega) (hI.mv hz) (hL.1.resolve_left c12) hL.2.1 hL.2.2.1) (cwV 2 hts gX5_pass_X5_leave rfl rfl rfl (by decide +kernel) ⟨Nat.le_of_ble_eq_true rfl, Nat.le_of_ble_eq_true rfl⟩) (gx_l (SW_ob cy (ax 0) ad τ.1)) rfl rfl rfl rfl (Nat.le_of_ble_eq_true rfl) dX5_pass_111 ⟨Nat.le_of_ble_eq_true rfl, Nat.le_of_ble_eq_true rfl⟩ rfl rfl ?_
            intro r16 er16 H locs hP hD hS
            replace hf := hf.trans (ltt_r er16)
            have hz : r16.2.1 0 = σ.1 0 := by rw [er16]; exact (z_X5_leave τ k (tn (σ.1 0 0) % 24)).trans hz
            refine lv_iadd hx hb dX5_pass_114 ?_
            refine lv_istore_n (lv' := [(2, .int (many + r16.1)), (4, .int (nI 0)), (0, .ref (ad 0)), (1, .int (nI (tn (σ.1 0 0) % 24))), (3, .int (nI k))]) hx hb dX5_pass_115 rfl hl (by decide) rfl (fun ls hl => ?_)
            refine lv_iinc (v := nI (k + 1)) (lv' := [(3, .int (nI (k + 1))), (2, .int (many + r16.1)), (4, .int (nI 0)), (0, .ref (ad 0)), (1, .int (nI (tn (σ.1 0 0) % 24)))]) hx hb dX5_pass_116 hl (k := 4) rfl (nI_1 _) (by decide) rfl (fun ls hl => ?_)
            refine lv_goto (tgt := 42) hx hb dX5_pass_119 (by decide) ?_
            exact ih (k + 1) (many + r16.1) r16.2 _ _ _ (by omega) hz (by rw [er16]; exact hV.2.2.2.1 τ k _ hi0 hkb c12 (by omega)) hP hD hS (lv_sub hl [3, 4, 1, 0] rfl) (fun u eu => K u (eu.trans hf.symm))
      · replace hf := hf.trans (if_pos c10)
        refine lv_iconst (v := nI 1) hx hb dX5_pass_67 (by decide) ?_
        refine lv_goto (tgt := 72) hx hb dX5_pass_68 (by decide) ?_
        refine lv_istore (lv' := [(4, .int (nI 1)), (0, .ref (ad 0)), (1, .int (nI (tn (σ.1 0 0) % 24))), (2, .int (many)), (3, .int (nI k))]) hx hb dX5_pass_72 hl (by decide) rfl (fun ls hl => ?_)
        refine lv_aload_n hx hb dX5_pass_74 rfl (lv_at hl 1 rfl) ?_
        refine va_get (D := D) (ci := 5) (v := .ref (ad 11)) (C := RX5) (T := TX5) (N := 22) hx hb hts hin5 hown hK hP (0) (gx_l (SW_ob cy (ax 0) ad τ.1)) rfl 14 (by decide) wd3 (fun _ h9 => h9) rfl dX5_pass_75 ?_
        refine lv_iload_n hx hb dX5_pass_78 rfl (lv_at hl 4 rfl) ?_
        have h17 : k < 10 := by omega
        refine g_iald hx hb hK hP (11) 0 k (gx_l (SW_11 cy (ax 0) ad τ.1)) rfl (nI_clamp (by omega)) (vp_in_nI h17 (by decide)) dX5_pass_79 ?_
        refine lv_iconst (v := (-1 : Int32)) hx hb dX5_pass_80 (by decide) ?_
        refine lv_icmp_eq (tgt := 116) hx hb dX5_pass_81 (by decide) (fun c18 => ?_) (fun c18 => ?_)
        · replace hf := hf.trans (if_pos c18)
          refine lv_iinc (v := nI (k + 1)) (lv' := [(3, .int (nI (k + 1))), (4, .int (nI 1)), (0, .ref (ad 0)), (1, .int (nI (tn (σ.1 0 0) % 24))), (2, .int (many))]) hx hb dX5_pass_116 hl (k := 4) rfl (nI_1 _) (by decide) rfl (fun ls hl => ?_)
          refine lv_goto (tgt := 42) hx hb dX5_pass_119 (by decide) ?_
          exact ih (k + 1) many τ _ _ _ (by omega) hz hi0 hP hD hS (lv_sub hl [2, 3, 4, 0] rfl) (fun u eu => K u (eu.trans hf.symm))
        · replace hf := hf.trans (if_neg c18)
          refine lv_iload_n hx hb dX5_pass_84 rfl (lv_at hl 2 rfl) ?_
          refine lv_aload_n hx hb dX5_pass_85 rfl (lv_at hl 1 rfl) ?_
          refine va_get (D := D) (ci := 5) (v := .ref (ad 10)) (C := RX5) (T := TX5) (N := 22) hx hb hts hin5 hown hK hP (0) (gx_l (SW_ob cy (ax 0) ad τ.1)) rfl 13 (by decide) wd4 (fun _ h9 => h9) rfl dX5_pass_86 ?_
          refine lv_iconst (v := nI 5) hx hb dX5_pass_89 (by decide) ?_
          refine lv_iload_n hx hb dX5_pass_90 rfl (lv_at hl 4 rfl) ?_
          refine lv_imul hx hb dX5_pass_91 ?_
          refine g_top (pk_mul _ _) ?_
          refine lv_iload hx hb dX5_pass_92 (lv_at hl 0 rfl) ?_
          refine lv_if_eq (tgt := 101) hx hb dX5_pass_94 (by decide) (fun c19 => absurd c19 (by decide)) (fun c19 => ?_)
          refine lv_iconst (v := nI 2) hx hb dX5_pass_97 (by decide) ?_
          refine lv_goto (tgt := 102) hx hb dX5_pass_98 (by decide) ?_
          refine lv_iadd hx hb dX5_pass_102 ?_
          refine g_top (nI_add _ _) ?_
          have h20 : (5 * k) + 2 < 50 := by omega
          refine g_iald hx hb hK hP (10) 0 ((5 * k) + 2) (gx_l (SW_10 cy (ax 0) ad τ.1)) rfl (nI_clamp (by omega)) (vp_in_nI h20 (by decide)) dX5_pass_103 ?_
          refine lv_icmp_ne (tgt := 116) hx hb dX5_pass_104 (by decide) (fun c21 => ?_) (fun c21 => ?_)
          · replace hf := hf.trans (if_neg c21)
            refine lv_iinc (v := nI (k + 1)) (lv' := [(3, .int (nI (k + 1))), (4, .int (nI 1)), (0, .ref (ad 0)), (1, .int (nI (tn (σ.1 0 0) % 24))), (2, .int (many))]) hx hb dX5_pass_116 hl (k := 4) rfl (nI_1 _) (by decide) rfl (fun ls hl => ?_)
            refine lv_goto (tgt := 42) hx hb dX5_pass_119 (by decide) ?_
            exact ih (k + 1) many τ _ _ _ (by omega) hz hi0 hP hD hS (lv_sub hl [2, 3, 4, 0] rfl) (fun u eu => K u (eu.trans hf.symm))
          · replace hf := hf.trans (if_pos c21)
            refine lv_iload_n hx hb dX5_pass_107 rfl (lv_at hl 3 rfl) ?_
            refine lv_aload_n hx hb dX5_pass_108 rfl (lv_at hl 1 rfl) ?_
            refine lv_iload_n hx hb dX5_pass_109 rfl (lv_at hl 4 rfl) ?_
            refine lv_iload_n hx hb dX5_pass_110 rfl (lv_at hl 2 rfl) ?_
            refine g_calliN (q0 := 0) hnw (wf := (PW cy ax bs ba ad)) (σ := τ) (wfc := (PW cy ax bs ba ad)) (σc := τ) hx hb hml hown hts hK hP hD hS hA hl.1 [] pm_0 (fun u => u) (fun _ => pm_0b) [.int (nI k), .int (nI (tn (σ.1 0 0) % 24))] (c_X5_leave l D cy ax bs ba ad τ k (tn (σ.1 0 0) % 24) (by omega) (by omega) (hI.mv hz) (hL.1.resolve_left c18) hL.2.1 hL.2.2.1) (cwV 2 hts gX5_pass_X5_leave rfl rfl rfl (by decide +kernel) ⟨Nat.le_of_ble_eq_true rfl, Nat.le_of_ble_eq_true rfl⟩) (gx_l (SW_ob cy (ax 0) ad τ.1)) rfl rfl rfl rfl (Nat.le_of_ble_eq_true rfl) dX5_pass_111 ⟨Nat.le_of_ble_eq_true rfl, Nat.le_of_ble_eq_true rfl⟩ rfl rfl ?_
            intro r22 er22 H locs hP hD hS
            replace hf := hf.trans (ltt_r er22)
            have hz : r22.2.1 0 = σ.1 0 := by rw [er22]; exact (z_X5_leave τ k (tn (σ.1 0 0) % 24)).trans hz
            refine lv_iadd hx hb dX5_pass_114 ?_
            refine lv_istore_n (lv' := [(2, .int (many + r22.1)), (4, .int (nI 1)), (0, .ref (ad 0)), (1, .int (nI (tn (σ.1 0 0) % 24))), (3, .int (nI k))]) hx hb dX5_pass_115 rfl hl (by decide) rfl (fun ls hl => ?_)
            refine lv_iinc (v := nI (k + 1)) (lv' := [(3, .int (nI (k + 1))), (2, .int (many + r22.1)), (4, .int (nI 1)), (0, .ref (ad 0)), (1, .int (nI (tn (σ.1 0 0) % 24)))]) hx hb dX5_pass_116 hl (k := 4) rfl (nI_1 _) (by decide) rfl (fun ls hl => ?_)
            refine lv_goto (tgt := 42) hx hb dX5_pass_119 (by decide) ?_
            exact ih (k + 1) (many + r22.1) r22.2 _ _ _ (by omega) hz (by rw [er22]; exact hV.2.2.2.1 τ k _ hi0 hkb c18 (by omega)) hP hD hS (lv_sub hl [3, 4, 1, 0] rfl) (fun u eu => K u (eu.trans hf.symm))
  have loop124 : ∀ (many : Int32) (n k : Nat)  (τ : Sg × Sg) (H : Heap) (locs : List Loc) (ls : Array Slot), n = tn (σ.1 0 12) - k ∧ k ≤ tn (σ.1 0 12) + 1 → τ.1 0 = σ.1 0 → (Inv τ) → va_P D vwCl ((PW cy ax bs ba ad) τ) H → va_D A ((PW cy ax bs ba ad) τ) → va_S A s.heap H locs → lv_has ls 5 [(0, .ref (ad 0)), (1, .int (nI (tn (σ.1 0 0) % 24))), (2, .int (many)), (3, .int (nI k))] → (∀ u : (Sg × Sg), u = lp_X5_pass_124 σ many n k τ → u.1 0 = σ.1 0 → (Inv u) → ∀ (H : Heap) (locs : List Loc) (ls : Array Slot), va_P D vwCl ((PW cy ax bs ba ad) u) H → va_D A ((PW cy ax bs ba ad) u) → va_S A s.heap H locs → lv_has ls 5 [(0, .ref (ad 0)), (1, .int (nI (tn (σ.1 0 0) % 24))), (2, .int (many))] → W p l e rm_X5_pass s m [.ref (ad 0)].toArray below meth c H locs 0 0 (MQ below (va_Qi (fun r u => (r, u) = s_X5_pass σ) (gPost D (PW cy ax bs ba ad) A) A) [.ref (ad 0)].toArray s 0 0 A) (F0 m 162 ls [])) → W p l e rm_X5_pass s m [.ref (ad 0)].toArray below meth c H locs 0 0 (MQ below (va_Qi (fun r u => (r, u) = s_X5_pass σ) (gPost D (PW cy ax bs ba ad) A) A) [.ref (ad 0)].toArray s 0 0 A) (F0 m 124 ls []) := by
    intro many n
    induction n with
    | zero =>
      intro k τ H locs ls hN hz hi0 hP hD hS hl K
      have hf : lp_X5_pass_124 σ many 0 k τ = lp_X5_pass_124 σ many 0 k τ := rfl
      refine lv_iload_n hx hb dX5_pass_124 rfl (lv_at hl 3 rfl) ?_
      refine lv_aload_n hx hb dX5_pass_125 rfl (lv_at hl 0 rfl) ?_
      refine va_get (D := D) (ci := 5) (v := .int (τ.1 0 12)) (C := RX5) (T := TX5) (N := 22) hx hb hts hin5 hown hK hP (0) (gx_l (SW_ob cy (ax 0) ad τ.1)) rfl 12 (by decide) wd2 (fun _ h9 => h9) rfl dX5_pass_126 ?_
      refine g_top ((congrFun hz 12).trans hI.c12) ?_
      refine lv_icmp_ge (tgt := 162) hx hb dX5_pass_129 (by decide) (fun c23 => ?_) (fun c23 => absurd (nI_le (by omega) (by omega)) c23)
      exact K τ hf.symm hz hi0 _ _ _ hP hD hS (lv_sub hl [0, 1, 2] rfl)
    | succ n ih =>
      intro k τ H locs ls hN hz hi0 hP hD hS hl K
      have hf : lp_X5_pass_124 σ many (n + 1) k τ = lp_X5_pass_124 σ many (n + 1) k τ := rfl
      have hz0 := hz
      have hkb : k < tn (τ.1 0 12) := by rw [congrFun hz 12]; omega
      have hL := hV.2.1 τ hi0 k hkb
      refine lv_iload_n hx hb dX5_pass_124 rfl (lv_at hl 3 rfl) ?_
      refine lv_aload_n hx hb dX5_pass_125 rfl (lv_at hl 0 rfl) ?_
      refine va_get (D := D) (ci := 5) (v := .int (τ.1 0 12)) (C := RX5) (T := TX5) (N := 22) hx hb hts hin5 hown hK hP (0) (gx_l (SW_ob cy (ax 0) ad τ.1)) rfl 12 (by decide) wd2 (fun _ h9 => h9) rfl dX5_pass_126 ?_
      refine g_top ((congrFun hz 12).trans hI.c12) ?_
      refine lv_icmp_ge (tgt := 162) hx hb dX5_pass_129 (by decide) (fun c24 => absurd c24 (nI_ge (by omega) (by omega))) (fun c24 => ?_)
      refine lv_aload_n hx hb dX5_pass_132 rfl (lv_at hl 0 rfl) ?_
      refine va_get (D := D) (ci := 5) (v := .ref (ad 11)) (C := RX5) (T := TX5) (N := 22) hx hb hts hin5 hown hK hP (0) (gx_l (SW_ob cy (ax 0) ad τ.1)) rfl 14 (by decide) wd3 (fun _ h9 => h9) rfl dX5_pass_133 ?_
      refine lv_iload_n hx hb dX5_pass_136 rfl (lv_at hl 3 rfl) ?_
      have h25 : k < 10 := by omega
      refine g_iald hx hb hK hP (11) 0 k (gx_l (SW_11 cy (ax 0) ad τ.1)) rfl (nI_clamp (by omega)) (vp_in_nI h25 (by decide)) dX5_pass_137 ?_
      refine lv_iconst (v := (-1 : Int32)) hx hb dX5_pass_138 (by decide) ?_
      refine lv_icmp_ne (tgt := 156) hx hb dX5_pass_139 (by decide) (fun c26 => ?_) (fun c26 => ?_)
      · replace hf := hf.trans (if_neg c26)
        refine lv_iinc (v := nI (k + 1)) (lv' := [(3, .int (nI (k + 1))), (0, .ref (ad 0)), (1, .int (nI (tn (σ.1 0 0) % 24))), (2, .int (many))]) hx hb dX5_pass_156 hl (k := 3) rfl (nI_1 _) (by decide) rfl (fun ls hl => ?_)
        refine lv_goto (tgt := 124) hx hb dX5_pass_159 (by decide) ?_
        exact ih (k + 1)  τ _ _ _ (by omega) hz hi0 hP hD hS (lv_sub hl [1, 2, 3, 0] rfl) (fun u eu => K u (eu.trans hf.symm))
      · replace hf := hf.trans (if_pos c26)
        refine lv_aload_n hx hb dX5_pass_142 rfl (lv_at hl 0 rfl) ?_
        refine lv_iload_n hx hb dX5_pass_143 rfl (lv_at hl 3 rfl) ?_
        refine lv_aload_n hx hb dX5_pass_144 rfl (lv_at hl 0 rfl) ?_
        refine va_get (D := D) (ci := 5) (v := .ref (ax 0)) (C := RX5) (T := TX5) (N := 22) hx hb hts hin5 hown hK hP (0) (gx_l (SW_ob cy (ax 0) ad τ.1)) rfl 21 (by decide) wd5 (fun _ h9 => h9) rfl dX5_pass_145 ?_
        refine va_getN (D := D) (ci := 6) (v := .ref (ax 1)) (C := RX6) (T := TX6) (N := 4) hx hb hts hin6 hown hK hP (17 + (0)) (gx_r (WD_len _ _ _ _) (OW_ob cy ax bs ba τ.2)) rfl 1 (by decide) (nl_rain hnw) (fun _ h9 => h9) rfl dX5_pass_148 ?_
        refine lv_iload_n hx hb dX5_pass_151 rfl (lv_at hl 1 rfl) ?_
        have h27 : tn (σ.1 0 0) % 24 < 24 := by omega
        refine g_iald hx hb hK hP (17 + (1)) 0 (tn (σ.1 0 0) % 24) (gx_r (WD_len _ _ _ _) (OW_rn cy ax bs ba τ.2)) rfl (nI_clamp (by omega)) (vp_in_nI h27 (by decide)) dX5_pass_152 ?_
        refine g_callv (q0 := 0) (wf := (PW cy ax bs ba ad)) (σ := τ) (wfc := (SW cy (ax 0) ad)) (σc := τ.1) hx hb hml hown hts hK hP hD hS hA hl.1 (OW cy ax bs ba (τ.2)) (List.Perm.refl _) (fun u => (u, τ.2)) (fun _ => List.Perm.refl _) [.int (nI k), .int (τ.2 1 (tn (σ.1 0 0) % 24))] (c_X5_walk l D cy (ax 0) ad τ.1 k (τ.2 1 (tn (σ.1 0 0) % 24)) (by omega) hL.2.2.2.2 hL.2.2.2.1) (cwV 2 hts gX5_pass_X5_walk rfl rfl rfl (by decide +kernel) ⟨Nat.le_of_ble_eq_true rfl, Nat.le_of_ble_eq_true rfl⟩) (gx_l (SW_ob cy (ax 0) ad τ.1)) rfl rfl rfl rfl (Nat.le_of_ble_eq_true rfl) dX5_pass_153 ⟨Nat.le_of_ble_eq_true rfl, Nat.le_of_ble_eq_true rfl⟩ rfl rfl ?_
        intro u28 eu28 H locs hP hD hS
        replace hf := hf.trans (ltt_r eu28)
        have hz : u28 0 = σ.1 0 := by rw [eu28]; exact (z_X5_walk τ.1 k (τ.2 1 (tn (σ.1 0 0) % 24))).trans hz
        refine lv_iinc (v := nI (k + 1)) (lv' := [(3, .int (nI (k + 1))), (0, .ref (ad 0)), (1, .int (nI (tn (σ.1 0 0) % 24))), (2, .int (many))]) hx hb dX5_pass_156 hl (k := 3) rfl (nI_1 _) (by decide) rfl (fun ls hl => ?_)
        refine lv_goto (tgt := 124) hx hb dX5_pass_159 (by decide) ?_
        exact ih (k + 1)  (u28, τ.2) _ _ _ (by omega) hz (by rw [eu28]; exact hV.2.2.2.2 τ k _ hi0 hkb c26 (by omega)) hP hD hS (lv_sub hl [1, 2, 3, 0] rfl) (fun u eu => K u (eu.trans hf.symm))
  refine lv_aload_n hx hb dX5_pass_0 rfl (lv_at hl 0 rfl) ?_
  refine va_get (D := D) (ci := 5) (v := .int (σ.1 0 0)) (C := RX5) (T := TX5) (N := 22) hx hb hts hin5 hown hK hP (0) (gx_l (SW_ob cy (ax 0) ad σ.1)) rfl 0 (by decide) wd6 (fun _ h9 => h9) rfl dX5_pass_1 ?_
  refine g_top (y := nI (tn (σ.1 0 0))) (hhr) ?_
  refine lv_bipush (v := nI 24) hx hb dX5_pass_4 (by decide) ?_
  refine lv_irem hx hb dX5_pass_6 (by decide) ?_
  refine g_top (nI_rem (tn (σ.1 0 0)) 24 (by omega) (by decide) (by decide)) ?_
  refine lv_istore_n (lv' := [(1, .int (nI ((tn (σ.1 0 0)) % 24))), (0, .ref (ad 0))]) hx hb dX5_pass_7 rfl hl (by decide) rfl (fun ls hl => ?_)
  refine lv_iconst (v := nI 0) hx hb dX5_pass_8 (by decide) ?_
  refine lv_istore_n (lv' := [(2, .int (nI 0)), (1, .int (nI ((tn (σ.1 0 0)) % 24))), (0, .ref (ad 0))]) hx hb dX5_pass_9 rfl hl (by decide) rfl (fun ls hl => ?_)
  refine loop10  (tn (σ.1 0 5)) 0  σ _ _ _ (by omega) hz hi hP hD hS (lv_sub hl [2, 1, 0] rfl) ?_
  intro q29 eq29 hz hk1 H locs ls hP hD hS hl
  replace hf := hf.trans (ltt_r eq29)
  refine lv_iconst (v := nI 0) hx hb dX5_pass_38 (by decide) ?_
  refine lv_istore_n (lv' := [(2, .int (nI 0)), (0, .ref (ad 0)), (1, .int (nI ((tn (σ.1 0 0)) % 24)))]) hx hb dX5_pass_39 rfl hl (by decide) rfl (fun ls hl => ?_)
  refine lv_iconst (v := nI 0) hx hb dX5_pass_40 (by decide) ?_
  refine lv_istore_n (lv' := [(3, .int (nI 0)), (2, .int (nI 0)), (0, .ref (ad 0)), (1, .int (nI ((tn (σ.1 0 0)) % 24)))]) hx hb dX5_pass_41 rfl hl (by decide) rfl (fun ls hl => ?_)
  refine loop42  (tn (σ.1 0 12)) 0 (nI 0) q29 _ _ _ (by omega) hz hk1 hP hD hS (lv_sub hl [2, 3, 1, 0] rfl) ?_
  intro q30 eq30 hz hk2 H locs ls hP hD hS hl
  replace hf := hf.trans (ltt_r eq30)
  refine lv_iconst (v := nI 0) hx hb dX5_pass_122 (by decide) ?_
  refine lv_istore_n (lv' := [(3, .int (nI 0)), (0, .ref (ad 0)), (1, .int (nI ((tn (σ.1 0 0)) % 24))), (2, .int (q30.1))]) hx hb dX5_pass_123 rfl hl (by decide) rfl (fun ls hl => ?_)
  refine loop124 q30.1 (tn (σ.1 0 12)) 0  q30.2 _ _ _ (by omega) hz hk2 hP hD hS (lv_sub hl [1, 2, 3, 0] rfl) ?_
  intro q31 eq31 hz hk3 H locs ls hP hD hS hl
  replace hf := hf.trans (ltt_r eq31)
  refine lv_iload_n hx hb dX5_pass_162 rfl (lv_at hl 1 rfl) ?_
  refine lv_bipush (v := nI 6) hx hb dX5_pass_163 (by decide) ?_
  refine lv_irem hx hb dX5_pass_165 (by decide) ?_
  refine g_top (nI_rem ((tn (σ.1 0 0)) % 24) 6 (by omega) (by decide) (by decide)) ?_
  refine lv_if_ne (tgt := 173) hx hb dX5_pass_166 (by decide) (fun c32 => ?_) (fun c32 => ?_)
  · replace hf := hf.trans (if_neg c32)
    refine lv_iload_n hx hb dX5_pass_173 rfl (lv_at hl 1 rfl) ?_
    refine lv_bipush (v := nI 23) hx hb dX5_pass_174 (by decide) ?_
    refine lv_icmp_ne (tgt := 183) hx hb dX5_pass_176 (by decide) (fun c33 => ?_) (fun c33 => ?_)
    · replace hf := hf.trans (if_neg c33)
      refine lv_aload_n hx hb dX5_pass_183 rfl (lv_at hl 0 rfl) ?_
      refine lv_dup hx hb dX5_pass_184 rfl ?_
      refine va_get (D := D) (ci := 5) (v := .int (q31.1 0 0)) (C := RX5) (T := TX5) (N := 22) hx hb hts hin5 hown hK hP (0) (gx_l (SW_ob cy (ax 0) ad q31.1)) rfl 0 (by decide) wd6 (fun _ h9 => h9) rfl dX5_pass_185 ?_
      refine lv_iconst (v := nI 1) hx hb dX5_pass_188 (by decide) ?_
      refine lv_iadd hx hb dX5_pass_189 ?_
      refine g_put (σ1 := (up q31.1 0 0 ((q31.1 0 0) + (nI 1)), q31.2)) (fs := stF (ax 0) ad (q31.1 0)) (C := RX5) (T := TX5) (N := 22) hx hb hts hin5 tyX5_ok nmX5 hown hK hP hD hS (0) (gx_l (SW_ob cy (ax 0) ad q31.1)) rfl 0 (by decide) wd6 rfl rfl (Nat.le_of_ble_eq_true rfl) (gx_setl (by rw [WD_len]; omega) (SW_ob_set cy (ax 0) ad q31.1 0 (by decide) _)) dX5_pass_190 ?_
      intro u34 eu34 H locs hP hD hS
      replace hf := hf.trans (ltt_r eu34)
      refine lv_iload_n hx hb dX5_pass_193 rfl (lv_at hl 2 rfl) ?_
      exact g_endi hx hb hr hlocks rfl hf hP hD hS (Nat.le_of_ble_eq_true rfl) (Nat.le_of_ble_eq_true rfl) dX5_pass_194
    · replace hf := hf.trans (if_pos c33)
      refine lv_aload_n hx hb dX5_pass_179 rfl (lv_at hl 0 rfl) ?_
      refine g_callv (q0 := 0) (wf := (PW cy ax bs ba ad)) (σ := q31) (wfc := (SW cy (ax 0) ad)) (σc := q31.1) hx hb hml hown hts hK hP hD hS hA hl.1 (OW cy ax bs ba (q31.2)) (List.Perm.refl _) (fun u => (u, q31.2)) (fun _ => List.Perm.refl _) [] (c_X5_decree l D cy (ax 0) ad q31.1 (hI.mv hz)) (cwV 0 hts gX5_pass_X5_decree rfl rfl rfl (by decide +kernel) ⟨Nat.le_of_ble_eq_true rfl, Nat.le_of_ble_eq_true rfl⟩) (gx_l (SW_ob cy (ax 0) ad q31.1)) rfl rfl rfl rfl (Nat.le_of_ble_eq_true rfl) dX5_pass_180 ⟨Nat.le_of_ble_eq_true rfl, Nat.le_of_ble_eq_true rfl⟩ rfl rfl ?_
      intro u35 eu35 H locs hP hD hS
      replace hf := hf.trans (ltt_r eu35)
      have hz : u35 0 = σ.1 0 := by rw [eu35]; exact (z_X5_decree q31.1 ).trans hz
      refine lv_aload_n hx hb dX5_pass_183 rfl (lv_at hl 0 rfl) ?_
      refine lv_dup hx hb dX5_pass_184 rfl ?_
      refine va_get (D := D) (ci := 5) (v := .int (u35 0 0)) (C := RX5) (T := TX5) (N := 22) hx hb hts hin5 hown hK hP (0) (gx_l (SW_ob cy (ax 0) ad u35)) rfl 0 (by decide) wd6 (fun _ h9 => h9) rfl dX5_pass_185 ?_
      refine lv_iconst (v := nI 1) hx hb dX5_pass_188 (by decide) ?_
      refine lv_iadd hx hb dX5_pass_189 ?_
      refine g_put (σ1 := (up u35 0 0 ((u35 0 0) + (nI 1)), q31.2)) (fs := stF (ax 0) ad (u35 0)) (C := RX5) (T := TX5) (N := 22) hx hb hts hin5 tyX5_ok nmX5 hown hK hP hD hS (0) (gx_l (SW_ob cy (ax 0) ad u35)) rfl 0 (by decide) wd6 rfl rfl (Nat.le_of_ble_eq_true rfl) (gx_setl (by rw [WD_len]; omega) (SW_ob_set cy (ax 0) ad u35 0 (by decide) _)) dX5_pass_190 ?_
      intro u36 eu36 H locs hP hD hS
      replace hf := hf.trans (ltt_r eu36)
      refine lv_iload_n hx hb dX5_pass_193 rfl (lv_at hl 2 rfl) ?_
      exact g_endi hx hb hr hlocks rfl hf hP hD hS (Nat.le_of_ble_eq_true rfl) (Nat.le_of_ble_eq_true rfl) dX5_pass_194
  · replace hf := hf.trans (if_pos c32)
    refine lv_aload_n hx hb dX5_pass_169 rfl (lv_at hl 0 rfl) ?_
    refine g_callv (q0 := 0) (wf := (PW cy ax bs ba ad)) (σ := q31) (wfc := (SW cy (ax 0) ad)) (σc := q31.1) hx hb hml hown hts hK hP hD hS hA hl.1 (OW cy ax bs ba (q31.2)) (List.Perm.refl _) (fun u => (u, q31.2)) (fun _ => List.Perm.refl _) [] (c_X5_cart l D cy (ax 0) ad q31.1 (hI.mv hz)) (cwV 0 hts gX5_pass_X5_cart rfl rfl rfl (by decide +kernel) ⟨Nat.le_of_ble_eq_true rfl, Nat.le_of_ble_eq_true rfl⟩) (gx_l (SW_ob cy (ax 0) ad q31.1)) rfl rfl rfl rfl (Nat.le_of_ble_eq_true rfl) dX5_pass_170 ⟨Nat.le_of_ble_eq_true rfl, Nat.le_of_ble_eq_true rfl⟩ rfl rfl ?_
    intro u37 eu37 H locs hP hD hS
    replace hf := hf.trans (ltt_r eu37)
    refine lv_iload_n hx hb dX5_pass_173 rfl (lv_at hl 1 rfl) ?_
    refine lv_bipush (v := nI 23) hx hb dX5_pass_174 (by decide) ?_
    refine lv_icmp_ne (tgt := 183) hx hb dX5_pass_176 (by decide) (fun c38 => ?_) (fun c38 => ?_)
    · replace hf := hf.trans (if_neg c38)
      refine lv_aload_n hx hb dX5_pass_183 rfl (lv_at hl 0 rfl) ?_
      refine lv_dup hx hb dX5_pass_184 rfl ?_
      refine va_get (D := D) (ci := 5) (v := .int (u37 0 0)) (C := RX5) (T := TX5) (N := 22) hx hb hts hin5 hown hK hP (0) (gx_l (SW_ob cy (ax 0) ad u37)) rfl 0 (by decide) wd6 (fun _ h9 => h9) rfl dX5_pass_185 ?_
      refine lv_iconst (v := nI 1) hx hb dX5_pass_188 (by decide) ?_
      refine lv_iadd hx hb dX5_pass_189 ?_
      refine g_put (σ1 := (up u37 0 0 ((u37 0 0) + (nI 1)), q31.2)) (fs := stF (ax 0) ad (u37 0)) (C := RX5) (T := TX5) (N := 22) hx hb hts hin5 tyX5_ok nmX5 hown hK hP hD hS (0) (gx_l (SW_ob cy (ax 0) ad u37)) rfl 0 (by decide) wd6 rfl rfl (Nat.le_of_ble_eq_true rfl) (gx_setl (by rw [WD_len]; omega) (SW_ob_set cy (ax 0) ad u37 0 (by decide) _)) dX5_pass_190 ?_
      intro u39 eu39 H locs hP hD hS
      replace hf := hf.trans (ltt_r eu39)
      refine lv_iload_n hx hb dX5_pass_193 rfl (lv_at hl 2 rfl) ?_
      exact g_endi hx hb hr hlocks rfl hf hP hD hS (Nat.le_of_ble_eq_true rfl) (Nat.le_of_ble_eq_true rfl) dX5_pass_194
    · replace hf := hf.trans (if_pos c38)
      refine lv_aload_n hx hb dX5_pass_179 rfl (lv_at hl 0 rfl) ?_
      refine g_callv (q0 := 0) (wf := (PW cy ax bs ba ad)) (σ := (u37, q31.2)) (wfc := (SW cy (ax 0) ad)) (σc := u37) hx hb hml hown hts hK hP hD hS hA hl.1 (OW cy ax bs ba (q31.2)) (List.Perm.refl _) (fun u => (u, q31.2)) (fun _ => List.Perm.refl _) [] (c_X5_decree l D cy (ax 0) ad u37 (by rw [eu37]; exact ok_X5_cart _ (hI.mv hz))) (cwV 0 hts gX5_pass_X5_decree rfl rfl rfl (by decide +kernel) ⟨Nat.le_of_ble_eq_true rfl, Nat.le_of_ble_eq_true rfl⟩) (gx_l (SW_ob cy (ax 0) ad u37)) rfl rfl rfl rfl (Nat.le_of_ble_eq_true rfl) dX5_pass_180 ⟨Nat.le_of_ble_eq_true rfl, Nat.le_of_ble_eq_true rfl⟩ rfl rfl ?_
      intro u40 eu40 H locs hP hD hS
      replace hf := hf.trans (ltt_r eu40)
      refine lv_aload_n hx hb dX5_pass_183 rfl (lv_at hl 0 rfl) ?_
      refine lv_dup hx hb dX5_pass_184 rfl ?_
      refine va_get (D := D) (ci := 5) (v := .int (u40 0 0)) (C := RX5) (T := TX5) (N := 22) hx hb hts hin5 hown hK hP (0) (gx_l (SW_ob cy (ax 0) ad u40)) rfl 0 (by decide) wd6 (fun _ h9 => h9) rfl dX5_pass_185 ?_
      refine lv_iconst (v := nI 1) hx hb dX5_pass_188 (by decide) ?_
      refine lv_iadd hx hb dX5_pass_189 ?_
      refine g_put (σ1 := (up u40 0 0 ((u40 0 0) + (nI 1)), q31.2)) (fs := stF (ax 0) ad (u40 0)) (C := RX5) (T := TX5) (N := 22) hx hb hts hin5 tyX5_ok nmX5 hown hK hP hD hS (0) (gx_l (SW_ob cy (ax 0) ad u40)) rfl 0 (by decide) wd6 rfl rfl (Nat.le_of_ble_eq_true rfl) (gx_setl (by rw [WD_len]; omega) (SW_ob_set cy (ax 0) ad u40 0 (by decide) _)) dX5_pass_190 ?_
      intro u41 eu41 H locs hP hD hS
      replace hf := hf.trans (ltt_r eu41)
      refine lv_iload_n hx hb dX5_pass_193 rfl (lv_at hl 2 rfl) ?_
      exact g_endi hx hb hr hlocks rfl hf hP hD hS (Nat.le_of_ble_eq_true rfl) (Nat.le_of_ble_eq_true rfl) dX5_pass_194
