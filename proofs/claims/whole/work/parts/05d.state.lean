def lp_X5_cart_6 (σ : Sg)  : Nat → Nat → Int32 → Int32 → Int32 × Int32
  | 0, k, most, few => (most, few)
  | n + 1, k, most, few => ltt (s_X5_there σ (nI k)) (fun r3 => ltt (s_X5_there σ most) (fun r4 => if r3 ≤ r4 then ltt (s_X5_there σ (nI k)) (fun r6 => ltt (s_X5_there σ few) (fun r7 => if r7 ≤ r6 then lp_X5_cart_6 σ n (k + 1) most few else lp_X5_cart_6 σ n (k + 1) most (nI k))) else ltt (s_X5_there σ (nI k)) (fun r9 => ltt (s_X5_there σ few) (fun r10 => if r10 ≤ r9 then lp_X5_cart_6 σ n (k + 1) (nI k) few else lp_X5_cart_6 σ n (k + 1) (nI k) (nI k)))))
def s_X5_cart (σ : Sg) : Sg := ltt (lp_X5_cart_6 σ (tn (σ 0 1) - 1) 1 (nI 0) (nI 0)) (fun q12 => if (nI (tn (σ 0 1))) = 0 then σ else ltt (s_X5_there σ q12.1) (fun r14 => ltt (s_X5_there σ q12.2) (fun r15 => if (nI 2) ≤ (r14 - r15) then ltt (s_X5_first σ q12.1) (fun r17 => ltt (up σ 5 (tn r17) q12.2) (fun u20 => ltt (up u20 0 20 ((u20 0 20) + (nI 1))) (fun u21 => u21))) else σ)))
theorem OkN_up0 {σ u : Sg} {k : Nat} {v : Int32} (e : u = up σ 0 k v) (hk : k ≠ 1 ∧ k ≠ 5 ∧ k ≠ 12) (h : OkN σ) : OkN u := by
  have h1 : u 0 1 = σ 0 1 := by rw [e]; exact up_ne σ v (fun q => hk.1 q.2.symm)
  have h5 : u 0 5 = σ 0 5 := by rw [e]; exact up_ne σ v (fun q => hk.2.1 q.2.symm)
  have h12 : u 0 12 = σ 0 12 := by rw [e]; exact up_ne σ v (fun q => hk.2.2 q.2.symm)
  unfold OkN
  rw [h1, h5, h12]
  exact h
theorem ok_X5_cart (σ : Sg) (h : OkN σ) : OkN (s_X5_cart σ) := by
  unfold s_X5_cart
  simp only [ltt]
  repeat' split
  all_goals first | exact h | exact OkN_up0 rfl (by decide) (h.mv (up_z _ _ _ _ (by decide)))
abbrev rm_X5_cart : Room := { frames := 1, cells := 0, slots := 0, locals := 23 }
set_option maxHeartbeats 4000000 in
set_option maxRecDepth 100000 in
theorem c_X5_cart (l : Launch) (D : va_G) (cy : Nat → ClassId) (x0 : Nat) (ad : Nat → Nat) (σ : Sg) (hI : OkN σ) : gMv l yX5_cart wsX5_cart rm_X5_cart D (Ty cy) (SW cy x0 ad) [.ref (ad 0)] σ (s_X5_cart σ) 0 0 := by
  refine gstartv cX5_cart 4 RX5 (by decide) rfl rfl (Nat.le_of_ble_eq_true rfl) ?_
  intro p e s m below meth c A ls hx hb hml hown hts hr hlocks hK hP hD hA hS hl
  have hl : lv_has ls 4 [(0, .ref (ad 0))] := hl
  have hf : s_X5_cart σ = s_X5_cart σ := rfl
  have hz : σ 0 = σ 0 := rfl
  have hin5 : ∀ w ∈ wsX50, w ∈ wsX5_cart := by decide +kernel
  have wd0 := hts (.fieldLink RX5 74 "UmbrellaLandModel$State" "shelters" "I") (by decide +kernel)
  have wd1 := hts (.fieldLink RX5 28 "UmbrellaLandModel$State" "at" "[I") (by decide +kernel)
  have wd2 := hts (.fieldLink RX5 83 "UmbrellaLandModel$State" "carried" "I") (by decide +kernel)
  have n1 := hI.n1
  have loop6 : ∀  (n k : Nat) (most : Int32) (few : Int32) (H : Heap) (locs : List Loc) (ls : Array Slot), n = tn (σ 0 1) - k ∧ k ≤ tn (σ 0 1) + 1 → va_P D vwCl ((SW cy x0 ad) σ) H → va_D A ((SW cy x0 ad) σ) → va_S A s.heap H locs → lv_has ls 4 [(0, .ref (ad 0)), (1, .int (most)), (2, .int (few)), (3, .int (nI k))] → (∀ u : Int32 × Int32, u = lp_X5_cart_6 σ n k most few → ∀ (H : Heap) (locs : List Loc) (ls : Array Slot), va_P D vwCl ((SW cy x0 ad) σ) H → va_D A ((SW cy x0 ad) σ) → va_S A s.heap H locs → lv_has ls 4 [(0, .ref (ad 0)), (1, .int (u.1)), (2, .int (u.2))] → W p l e rm_X5_cart s m [.ref (ad 0)].toArray below meth c H locs 0 0 (MQ below (va_Qv (fun u => u = s_X5_cart σ) (gPost D (SW cy x0 ad) A) A) [.ref (ad 0)].toArray s 0 0 A) (F0 m 50 ls [])) → W p l e rm_X5_cart s m [.ref (ad 0)].toArray below meth c H locs 0 0 (MQ below (va_Qv (fun u => u = s_X5_cart σ) (gPost D (SW cy x0 ad) A) A) [.ref (ad 0)].toArray s 0 0 A) (F0 m 6 ls []) := by
    intro n
    induction n with
    | zero =>
      intro k most few H locs ls hN hP hD hS hl K
      have hf : lp_X5_cart_6 σ 0 k most few = lp_X5_cart_6 σ 0 k most few := rfl
      refine lv_iload_n hx hb dX5_cart_6 rfl (lv_at hl 3 rfl) ?_
      refine lv_aload_n hx hb dX5_cart_7 rfl (lv_at hl 0 rfl) ?_
      refine va_get (D := D) (ci := 5) (v := .int (σ 0 1)) (C := RX5) (T := TX5) (N := 22) hx hb hts hin5 hown hK hP (0) (SW_ob cy x0 ad σ) rfl 1 (by decide) wd0 (fun _ h9 => h9) rfl dX5_cart_8 ?_
      refine g_top ((congrFun hz 1).trans hI.c1) ?_
      refine lv_icmp_ge (tgt := 50) hx hb dX5_cart_11 (by decide) (fun c1 => ?_) (fun c1 => absurd (nI_le (by omega) (by omega)) c1)
      exact K (most, few) hf.symm _ _ _ hP hD hS (lv_sub hl [0, 1, 2] rfl)
    | succ n ih =>
      intro k most few H locs ls hN hP hD hS hl K
      have hf : lp_X5_cart_6 σ (n + 1) k most few = lp_X5_cart_6 σ (n + 1) k most few := rfl
      refine lv_iload_n hx hb dX5_cart_6 rfl (lv_at hl 3 rfl) ?_
      refine lv_aload_n hx hb dX5_cart_7 rfl (lv_at hl 0 rfl) ?_
      refine va_get (D := D) (ci := 5) (v := .int (σ 0 1)) (C := RX5) (T := TX5) (N := 22) hx hb hts hin5 hown hK hP (0) (SW_ob cy x0 ad σ) rfl 1 (by decide) wd0 (fun _ h9 => h9) rfl dX5_cart_8 ?_
      refine g_top ((congrFun hz 1).trans hI.c1) ?_
      refine lv_icmp_ge (tgt := 50) hx hb dX5_cart_11 (by decide) (fun c2 => absurd c2 (nI_ge (by omega) (by omega))) (fun c2 => ?_)
      refine lv_aload_n hx hb dX5_cart_14 rfl (lv_at hl 0 rfl) ?_
      refine lv_iload_n hx hb dX5_cart_15 rfl (lv_at hl 3 rfl) ?_
      refine g_callr (q0 := 0) (wf := (SW cy x0 ad)) (σ := σ) (wfc := (SW cy x0 ad)) (σc := σ) hx hb hml hown hts hK hP hD hS hA hl.1 [] pm_0 [.int (nI k)] (c_X5_there l D cy x0 ad σ (nI k) (hI.mv hz)) (cwV 1 hts gX5_cart_X5_there rfl rfl rfl (by decide +kernel) ⟨Nat.le_of_ble_eq_true rfl, Nat.le_of_ble_eq_true rfl⟩) (SW_ob cy x0 ad σ) rfl rfl rfl rfl (Nat.le_of_ble_eq_true rfl) dX5_cart_16 ⟨Nat.le_of_ble_eq_true rfl, Nat.le_of_ble_eq_true rfl⟩ rfl rfl ?_
      intro r3 er3 H locs hP hD hS
      replace hf := hf.trans (ltt_r er3)
      refine lv_aload_n hx hb dX5_cart_19 rfl (lv_at hl 0 rfl) ?_
      refine lv_iload_n hx hb dX5_cart_20 rfl (lv_at hl 1 rfl) ?_
      refine g_callr (q0 := 0) (wf := (SW cy x0 ad)) (σ := σ) (wfc := (SW cy x0 ad)) (σc := σ) hx hb hml hown hts hK hP hD hS hA hl.1 [] pm_0 [.int (most)] (c_X5_there l D cy x0 ad σ most (hI.mv hz)) (cwV 1 hts gX5_cart_X5_there rfl rfl rfl (by decide +kernel) ⟨Nat.le_of_ble_eq_true rfl, Nat.le_of_ble_eq_true rfl⟩) (SW_ob cy x0 ad σ) rfl rfl rfl rfl (Nat.le_of_ble_eq_true rfl) dX5_cart_21 ⟨Nat.le_of_ble_eq_true rfl, Nat.le_of_ble_eq_true rfl⟩ rfl rfl ?_
      intro r4 er4 H locs hP hD hS
      replace hf := hf.trans (ltt_r er4)
      refine lv_icmp_le (tgt := 29) hx hb dX5_cart_24 (by decide) (fun c5 => ?_) (fun c5 => ?_)
      · replace hf := hf.trans (if_pos c5)
        refine lv_aload_n hx hb dX5_cart_29 rfl (lv_at hl 0 rfl) ?_
        refine lv_iload_n hx hb dX5_cart_30 rfl (lv_at hl 3 rfl) ?_
        refine g_callr (q0 := 0) (wf := (SW cy x0 ad)) (σ := σ) (wfc := (SW cy x0 ad)) (σc := σ) hx hb hml hown hts hK hP hD hS hA hl.1 [] pm_0 [.int (nI k)] (c_X5_there l D cy x0 ad σ (nI k) (hI.mv hz)) (cwV 1 hts gX5_cart_X5_there rfl rfl rfl (by decide +kernel) ⟨Nat.le_of_ble_eq_true rfl, Nat.le_of_ble_eq_true rfl⟩) (SW_ob cy x0 ad σ) rfl rfl rfl rfl (Nat.le_of_ble_eq_true rfl) dX5_cart_31 ⟨Nat.le_of_ble_eq_true rfl, Nat.le_of_ble_eq_true rfl⟩ rfl rfl ?_
        intro r6 er6 H locs hP hD hS
        replace hf := hf.trans (ltt_r er6)
        refine lv_aload_n hx hb dX5_cart_34 rfl (lv_at hl 0 rfl) ?_
        refine lv_iload_n hx hb dX5_cart_35 rfl (lv_at hl 2 rfl) ?_
        refine g_callr (q0 := 0) (wf := (SW cy x0 ad)) (σ := σ) (wfc := (SW cy x0 ad)) (σc := σ) hx hb hml hown hts hK hP hD hS hA hl.1 [] pm_0 [.int (few)] (c_X5_there l D cy x0 ad σ few (hI.mv hz)) (cwV 1 hts gX5_cart_X5_there rfl rfl rfl (by decide +kernel) ⟨Nat.le_of_ble_eq_true rfl, Nat.le_of_ble_eq_true rfl⟩) (SW_ob cy x0 ad σ) rfl rfl rfl rfl (Nat.le_of_ble_eq_true rfl) dX5_cart_36 ⟨Nat.le_of_ble_eq_true rfl, Nat.le_of_ble_eq_true rfl⟩ rfl rfl ?_
        intro r7 er7 H locs hP hD hS
        replace hf := hf.trans (ltt_r er7)
        refine lv_icmp_ge (tgt := 44) hx hb dX5_cart_39 (by decide) (fun c8 => ?_) (fun c8 => ?_)
        · replace hf := hf.trans (if_pos c8)
          refine lv_iinc (v := nI (k + 1)) (lv' := [(3, .int (nI (k + 1))), (0, .ref (ad 0)), (1, .int (most)), (2, .int (few))]) hx hb dX5_cart_44 hl (k := 3) rfl (nI_1 _) (by decide) rfl (fun ls hl => ?_)
          refine lv_goto (tgt := 6) hx hb dX5_cart_47 (by decide) ?_
          exact ih (k + 1) most few _ _ _ (by omega)  hP hD hS (lv_sub hl [1, 2, 3, 0] rfl) (fun u eu => K u (eu.trans hf.symm))
        · replace hf := hf.trans (if_neg c8)
          refine lv_iload_n hx hb dX5_cart_42 rfl (lv_at hl 3 rfl) ?_
          refine lv_istore_n (lv' := [(2, .int (nI k)), (0, .ref (ad 0)), (1, .int (most)), (3, .int (nI k))]) hx hb dX5_cart_43 rfl hl (by decide) rfl (fun ls hl => ?_)
          refine lv_iinc (v := nI (k + 1)) (lv' := [(3, .int (nI (k + 1))), (2, .int (nI k)), (0, .ref (ad 0)), (1, .int (most))]) hx hb dX5_cart_44 hl (k := 3) rfl (nI_1 _) (by decide) rfl (fun ls hl => ?_)
          refine lv_goto (tgt := 6) hx hb dX5_cart_47 (by decide) ?_
          exact ih (k + 1) most (nI k) _ _ _ (by omega)  hP hD hS (lv_sub hl [2, 3, 1, 0] rfl) (fun u eu => K u (eu.trans hf.symm))
      · replace hf := hf.trans (if_neg c5)
        refine lv_iload_n hx hb dX5_cart_27 rfl (lv_at hl 3 rfl) ?_
        refine lv_istore_n (lv' := [(1, .int (nI k)), (0, .ref (ad 0)), (2, .int (few)), (3, .int (nI k))]) hx hb dX5_cart_28 rfl hl (by decide) rfl (fun ls hl => ?_)
        refine lv_aload_n hx hb dX5_cart_29 rfl (lv_at hl 1 rfl) ?_
        refine lv_iload_n hx hb dX5_cart_30 rfl (lv_at hl 3 rfl) ?_
        refine g_callr (q0 := 0) (wf := (SW cy x0 ad)) (σ := σ) (wfc := (SW cy x0 ad)) (σc := σ) hx hb hml hown hts hK hP hD hS hA hl.1 [] pm_0 [.int (nI k)] (c_X5_there l D cy x0 ad σ (nI k) (hI.mv hz)) (cwV 1 hts gX5_cart_X5_there rfl rfl rfl (by decide +kernel) ⟨Nat.le_of_ble_eq_true rfl, Nat.le_of_ble_eq_true rfl⟩) (SW_ob cy x0 ad σ) rfl rfl rfl rfl (Nat.le_of_ble_eq_true rfl) dX5_cart_31 ⟨Nat.le_of_ble_eq_true rfl, Nat.le_of_ble_eq_true rfl⟩ rfl rfl ?_
        intro r9 er9 H locs hP hD hS
        replace hf := hf.trans (ltt_r er9)
        refine lv_aload_n hx hb dX5_cart_34 rfl (lv_at hl 1 rfl) ?_
        refine lv_iload_n hx hb dX5_cart_35 rfl (lv_at hl 2 rfl) ?_
        refine g_callr (q0 := 0) (wf := (SW cy x0 ad)) (σ := σ) (wfc := (SW cy x0 ad)) (σc := σ) hx hb hml hown hts hK hP hD hS hA hl.1 [] pm_0 [.int (few)] (c_X5_there l D cy x0 ad σ few (hI.mv hz)) (cwV 1 hts gX5_cart_X5_there rfl rfl rfl (by decide +kernel) ⟨Nat.le_of_ble_eq_true rfl, Nat.le_of_ble_eq_true rfl⟩) (SW_ob cy x0 ad σ) rfl rfl rfl rfl (Nat.le_of_ble_eq_true rfl) dX5_cart_36 ⟨Nat.le_of_ble_eq_true rfl, Nat.le_of_ble_eq_true rfl⟩ rfl rfl ?_
        intro r10 er10 H locs hP hD hS
        replace hf := hf.trans (ltt_r er10)
        refine lv_icmp_ge (tgt := 44) hx hb dX5_cart_39 (by decide) (fun c11 => ?_) (fun c11 => ?_)
        · replace hf := hf.trans (if_pos c11)
          refine lv_iinc (v := nI (k + 1)) (lv' := [(3, .int (nI (k + 1))), (1, .int (nI k)), (0, .ref (ad 0)), (2, .int (few))]) hx hb dX5_cart_44 hl (k := 3) rfl (nI_1 _) (by decide) rfl (fun ls hl => ?_)
          refine lv_goto (tgt := 6) hx hb dX5_cart_47 (by decide) ?_
          exact ih (k + 1) (nI k) few _ _ _ (by omega)  hP hD hS (lv_sub hl [2, 1, 3, 0] rfl) (fun u eu => K u (eu.trans hf.symm))
        · replace hf := hf.trans (if_neg c11)
          refine lv_iload_n hx hb dX5_cart_42 rfl (lv_at hl 3 rfl) ?_
          refine lv_istore_n (lv' := [(2, .int (nI k)), (1, .int (nI k)), (0, .ref (ad 0)), (3, .int (nI k))]) hx hb dX5_cart_43 rfl hl (by decide) rfl (fun ls hl => ?_)
          refine lv_iinc (v := nI (k + 1)) (lv' := [(3, .int (nI (k + 1))), (2, .int (nI k)), (1, .int (nI k)), (0, .ref (ad 0))]) hx hb dX5_cart_44 hl (k := 3) rfl (nI_1 _) (by decide) rfl (fun ls hl => ?_)
          refine lv_goto (tgt := 6) hx hb dX5_cart_47 (by decide) ?_
          exact ih (k + 1) (nI k) (nI k) _ _ _ (by omega)  hP hD hS (lv_sub hl [3, 2, 1, 0] rfl) (fun u eu => K u (eu.trans hf.symm))
  refine lv_iconst (v := nI 0) hx hb dX5_cart_0 (by decide) ?_
  refine lv_istore_n (lv' := [(1, .int (nI 0)), (0, .ref (ad 0))]) hx hb dX5_cart_1 rfl hl (by decide) rfl (fun ls hl => ?_)
  refine lv_iconst (v := nI 0) hx hb dX5_cart_2 (by decide) ?_
  refine lv_istore_n (lv' := [(2, .int (nI 0)), (1, .int (nI 0)), (0, .ref (ad 0))]) hx hb dX5_cart_3 rfl hl (by decide) rfl (fun ls hl => ?_)
  refine lv_iconst (v := nI 1) hx hb dX5_cart_4 (by decide) ?_
  refine lv_istore_n (lv' := [(3, .int (nI 1)), (2, .int (nI 0)), (1, .int (nI 0)), (0, .ref (ad 0))]) hx hb dX5_cart_5 rfl hl (by decide) rfl (fun ls hl => ?_)
  refine loop6  (tn (σ 0 1) - 1) 1 (nI 0) (nI 0) _ _ _ (by omega)  hP hD hS (lv_sub hl [3, 2, 1, 0] rfl) ?_
  intro q12 eq12 H locs ls hP hD hS hl
  replace hf := hf.trans (ltt_r eq12)
  refine lv_aload_n hx hb dX5_cart_50 rfl (lv_at hl 0 rfl) ?_
  refine va_get (D := D) (ci := 5) (v := .int (σ 0 1)) (C := RX5) (T := TX5) (N := 22) hx hb hts hin5 hown hK hP (0) (SW_ob cy x0 ad σ) rfl 1 (by decide) wd0 (fun _ h9 => h9) rfl dX5_cart_51 ?_
  refine g_top ((congrFun hz 1).trans hI.c1) ?_
  refine lv_if_eq (tgt := 72) hx hb dX5_cart_54 (by decide) (fun c13 => ?_) (fun c13 => ?_)
  · replace hf := hf.trans (if_pos c13)
    exact g_endv hx hb hr hlocks hf hP hD hS (Nat.le_of_ble_eq_true rfl) (Nat.le_of_ble_eq_true rfl) dX5_cart_72
  · replace hf := hf.trans (if_neg c13)
    refine lv_aload_n hx hb dX5_cart_57 rfl (lv_at hl 0 rfl) ?_
    refine lv_iload_n hx hb dX5_cart_58 rfl (lv_at hl 1 rfl) ?_
    refine g_callr (q0 := 0) (wf := (SW cy x0 ad)) (σ := σ) (wfc := (SW cy x0 ad)) (σc := σ) hx hb hml hown hts hK hP hD hS hA hl.1 [] pm_0 [.int (q12.1)] (c_X5_there l D cy x0 ad σ q12.1 (hI.mv hz)) (cwV 1 hts gX5_cart_X5_there rfl rfl rfl (by decide +kernel) ⟨Nat.le_of_ble_eq_true rfl, Nat.le_of_ble_eq_true rfl⟩) (SW_ob cy x0 ad σ) rfl rfl rfl rfl (Nat.le_of_ble_eq_true rfl) dX5_cart_59 ⟨Nat.le_of_ble_eq_true rfl, Nat.le_of_ble_eq_true rfl⟩ rfl rfl ?_
    intro r14 er14 H locs hP hD hS
    replace hf := hf.trans (ltt_r er14)
    refine lv_aload_n hx hb dX5_cart_62 rfl (lv_at hl 0 rfl) ?_
    refine lv_iload_n hx hb dX5_cart_63 rfl (lv_at hl 2 rfl) ?_
    refine g_callr (q0 := 0) (wf := (SW cy x0 ad)) (σ := σ) (wfc := (SW cy x0 ad)) (σc := σ) hx hb hml hown hts hK hP hD hS hA hl.1 [] pm_0 [.int (q12.2)] (c_X5_there l D cy x0 ad σ q12.2 (hI.mv hz)) (cwV 1 hts gX5_cart_X5_there rfl rfl rfl (by decide +kernel) ⟨Nat.le_of_ble_eq_true rfl, Nat.le_of_ble_eq_true rfl⟩) (SW_ob cy x0 ad σ) rfl rfl rfl rfl (Nat.le_of_ble_eq_true rfl) dX5_cart_64 ⟨Nat.le_of_ble_eq_true rfl, Nat.le_of_ble_eq_true rfl⟩ rfl rfl ?_
    intro r15 er15 H locs hP hD hS
    replace hf := hf.trans (ltt_r er15)
    refine lv_isub hx hb dX5_cart_67 ?_
    refine lv_iconst (v := nI 2) hx hb dX5_cart_68 (by decide) ?_
    refine lv_icmp_ge (tgt := 73) hx hb dX5_cart_69 (by decide) (fun c16 => ?_) (fun c16 => ?_)
    · replace hf := hf.trans (if_pos c16)
      refine lv_aload_n hx hb dX5_cart_73 rfl (lv_at hl 0 rfl) ?_
      refine va_get (D := D) (ci := 5) (v := .ref (ad 5)) (C := RX5) (T := TX5) (N := 22) hx hb hts hin5 hown hK hP (0) (SW_ob cy x0 ad σ) rfl 7 (by decide) wd1 (fun _ h9 => h9) rfl dX5_cart_74 ?_
      refine lv_aload_n hx hb dX5_cart_77 rfl (lv_at hl 0 rfl) ?_
      refine lv_iload_n hx hb dX5_cart_78 rfl (lv_at hl 1 rfl) ?_
      refine g_callr (q0 := 0) (wf := (SW cy x0 ad)) (σ := σ) (wfc := (SW cy x0 ad)) (σc := σ) hx hb hml hown hts hK hP hD hS hA hl.1 [] pm_0 [.int (q12.1)] (c_X5_first l D cy x0 ad σ q12.1 (hI.mv hz)) (cwV 1 hts gX5_cart_X5_first rfl rfl rfl (by decide +kernel) ⟨Nat.le_of_ble_eq_true rfl, Nat.le_of_ble_eq_true rfl⟩) (SW_ob cy x0 ad σ) rfl rfl rfl rfl (Nat.le_of_ble_eq_true rfl) dX5_cart_79 ⟨Nat.le_of_ble_eq_true rfl, Nat.le_of_ble_eq_true rfl⟩ rfl rfl ?_
      intro r17 er17 H locs hP hD hS
      replace hf := hf.trans (ltt_r er17)
      have h18 : vp_in r17 40 := (by rw [er17]; exact first_of_there hI (er14 ▸ er15 ▸ c16))
      have h18b : tn r17 < 40 := tn_in h18
      refine g_top (tn_eq h18 (by decide)) ?_
      refine lv_iload_n hx hb dX5_cart_82 rfl (lv_at hl 2 rfl) ?_
      have h19 : tn r17 < 40 := by omega
      refine g_iast (σ1 := up σ 5 (tn r17) q12.2) hx hb hK hP hD hS (5) 0 (tn r17) (SW_5 cy x0 ad σ) rfl (nI_clamp (by omega)) (vp_in_nI h19 (by decide)) (SW_5_set cy x0 ad σ (tn r17) _) dX5_cart_83 ?_
      intro u20 eu20 H locs hP hD hS
      replace hf := hf.trans (ltt_r eu20)
      have hz : u20 0 = σ 0 := by rw [eu20]; exact keep_up rfl (by decide) hz
      refine lv_aload_n hx hb dX5_cart_84 rfl (lv_at hl 0 rfl) ?_
      refine lv_dup hx hb dX5_cart_85 rfl ?_
      refine va_get (D := D) (ci := 5) (v := .int (u20 0 20)) (C := RX5) (T := TX5) (N := 22) hx hb hts hin5 hown hK hP (0) (SW_ob cy x0 ad u20) rfl 20 (by decide) wd2 (fun _ h9 => h9) rfl dX5_cart_86 ?_
      refine lv_iconst (v := nI 1) hx hb dX5_cart_89 (by decide) ?_
      refine lv_iadd hx hb dX5_cart_90 ?_
      refine g_put (σ1 := up u20 0 20 ((u20 0 20) + (nI 1))) (fs := stF x0 ad (u20 0)) (C := RX5) (T := TX5) (N := 22) hx hb hts hin5 tyX5_ok nmX5 hown hK hP hD hS (0) (SW_ob cy x0 ad u20) rfl 20 (by decide) wd2 rfl rfl (Nat.le_of_ble_eq_true rfl) (SW_ob_set cy x0 ad u20 20 (by decide) _) dX5_cart_91 ?_
      intro u21 eu21 H locs hP hD hS
      replace hf := hf.trans (ltt_r eu21)
      exact g_endv hx hb hr hlocks hf hP hD hS (Nat.le_of_ble_eq_true rfl) (Nat.le_of_ble_eq_true rfl) dX5_cart_94
    · replace hf := hf.trans (if_neg c16)
      exact g_endv hx hb hr hlocks hf hP hD hS (Nat.le_of_ble_eq_true rfl) (Nat.le_of_ble_eq_true rfl) dX5_cart_72
def s_X5_leave (σ : Sg × Sg) (ci : Nat) (now : Nat) : Int32 × (Sg × Sg) := if 0 < (σ.2 1 now) then ltt (s_X5_wouldGet σ.1 ci (tn (σ.1 11 ci))) (fun r4 => if r4 = 0 then ltt ((up σ.1 16 ((4 * ci) + 3) ((σ.1 16 ((4 * ci) + 3)) + (nI 1)), σ.2)) (fun u8 => ltt ((up u8.1 3 ((5 * (tn (σ.1 11 ci))) + 2) ((u8.1 3 ((5 * (tn (σ.1 11 ci))) + 2)) + (nI 1)), u8.2)) (fun u11 => ltt ((up u11.1 3 ((5 * (tn (σ.1 11 ci))) + 4) ((u11.1 3 ((5 * (tn (σ.1 11 ci))) + 4)) + (nI 1)), u11.2)) (fun u14 => if (nI (tn (σ.1 11 ci))) = (u14.1 10 (5 * ci)) then ltt ((up u14.1 12 ci (u14.1 10 ((5 * ci) + 1)), u14.2)) (fun u29 => ltt ((up u29.1 13 ci (m_max (nI 1) ((m_abs ((u29.1 1 (tn (σ.1 11 ci))) - (u29.1 1 (tn (u29.1 12 ci))))) / (nI 10))), u29.2)) (fun u34 => ltt ((up u34.1 11 ci (-1 : Int32), u34.2)) (fun u36 => (nI 0, u36)))) else ltt ((up u14.1 12 ci (u14.1 10 (5 * ci)), u14.2)) (fun u19 => ltt ((up u19.1 13 ci (m_max (nI 1) ((m_abs ((u19.1 1 (tn (σ.1 11 ci))) - (u19.1 1 (tn (u19.1 12 ci))))) / (nI 10))), u19.2)) (fun u24 => ltt ((up u24.1 11 ci (-1 : Int32), u24.2)) (fun u26 => (nI 0, u26))))))) else ltt (s_X5_first σ.1 (nI (tn (σ.1 11 ci)))) (fun r37 => ltt ((up σ.1 4 (tn r37) (nI 1), σ.2)) (fun u40 => ltt ((up u40.1 5 (tn r37) (nI ci), u40.2)) (fun u42 => ltt ((up u42.1 9 (tn r37) (nI (tn (σ.1 11 ci))), u42.2)) (fun u44 => ltt ((up u44.1 8 (tn r37) ((u44.1 8 (tn r37)) + (nI 1)), u44.2)) (fun u47 => ltt ((up u47.1 14 ci (nI (tn r37)), u47.2)) (fun u49 => ltt ((up u49.1 16 ((4 * ci) + 1) ((u49.1 16 ((4 * ci) + 1)) + (nI 1)), u49.2)) (fun u52 => ltt ((up u52.1 3 (5 * (tn (σ.1 11 ci))) ((u52.1 3 (5 * (tn (σ.1 11 ci)))) + (nI 1)), u52.2)) (fun u55 => if (nI (tn (σ.1 11 ci))) = (u55.1 10 (5 * ci)) then ltt ((up u55.1 12 ci (u55.1 10 ((5 * ci) + 1)), u55.2)) (fun u70 => ltt ((up u70.1 13 ci (m_max (nI 1) ((m_abs ((u70.1 1 (tn (σ.1 11 ci))) - (u70.1 1 (tn (u70.1 12 ci))))) / (nI 10))), u70.2)) (fun u75 => ltt ((up u75.1 11 ci (-1 : Int32), u75.2)) (fun u77 => (nI 1, u77)))) else ltt ((up u55.1 12 ci (u55.1 10 (5 * ci)), u55.2)) (fun u60 => ltt ((up u60.1 13 ci (m_max (nI 1) ((m_abs ((u60.1 1 (tn (σ.1 11 ci))) - (u60.1 1 (tn (u60.1 12 ci))))) / (nI 10))), u60.2)) (fun u65 => ltt ((up u65.1 11 ci (-1 : Int32), u65.2)) (fun u67 => (nI 1, u67))))))))))))) else if (σ.2 1 ((now + 1) % 24)) ≤ 0 then if (nI (tn (σ.1 11 ci))) = (σ.1 10 (5 * ci)) then ltt ((up σ.1 12 ci (σ.1 10 ((5 * ci) + 1)), σ.2)) (fun u94 => ltt ((up u94.1 13 ci (m_max (nI 1) ((m_abs ((u94.1 1 (tn (σ.1 11 ci))) - (u94.1 1 (tn (u94.1 12 ci))))) / (nI 10))), u94.2)) (fun u99 => ltt ((up u99.1 11 ci (-1 : Int32), u99.2)) (fun u101 => (nI 0, u101)))) else ltt ((up σ.1 12 ci (σ.1 10 (5 * ci)), σ.2)) (fun u84 => ltt ((up u84.1 13 ci (m_max (nI 1) ((m_abs ((u84.1 1 (tn (σ.1 11 ci))) - (u84.1 1 (tn (u84.1 12 ci))))) / (nI 10))), u84.2)) (fun u89 => ltt ((up u89.1 11 ci (-1 : Int32), u89.2)) (fun u91 => (nI 0, u91)))) else ltt (s_X5_wouldGet σ.1 ci (tn (σ.1 11 ci))) (fun r102 => if r102 = 0 then ltt ((up σ.1 16 ((4 * ci) + 3) ((σ.1 16 ((4 * ci) + 3)) + (nI 1)), σ.2)) (fun u106 => ltt ((up u106.1 3 ((5 * (tn (σ.1 11 ci))) + 2) ((u106.1 3 ((5 * (tn (σ.1 11 ci))) + 2)) + (nI 1)), u106.2)) (fun u109 => ltt ((up u109.1 3 ((5 * (tn (σ.1 11 ci))) + 4) ((u109.1 3 ((5 * (tn (σ.1 11 ci))) + 4)) + (nI 1)), u109.2)) (fun u112 => if (nI (tn (σ.1 11 ci))) = (u112.1 10 (5 * ci)) then ltt ((up u112.1 12 ci (u112.1 10 ((5 * ci) + 1)), u112.2)) (fun u127 => ltt ((up u127.1 13 ci (m_max (nI 1) ((m_abs ((u127.1 1 (tn (σ.1 11 ci))) - (u127.1 1 (tn (u127.1 12 ci))))) / (nI 10))), u127.2)) (fun u132 => ltt ((up u132.1 11 ci (-1 : Int32), u132.2)) (fun u134 => (nI 0, u134)))) else ltt ((up u112.1 12 ci (u112.1 10 (5 * ci)), u112.2)) (fun u117 => ltt ((up u117.1 13 ci (m_max (nI 1) ((m_abs ((u117.1 1 (tn (σ.1 11 ci))) - (u117.1 1 (tn (u117.1 12 ci))))) / (nI 10))), u117.2)) (fun u122 => ltt ((up u122.1 11 ci (-1 : Int32), u122.2)) (fun u124 => (nI 0, u124))))))) else ltt (s_X5_first σ.1 (nI (tn (σ.1 11 ci)))) (fun r135 => ltt ((up σ.1 4 (tn r135) (nI 1), σ.2)) (fun u138 => ltt ((up u138.1 5 (tn r135) (nI ci), u138.2)) (fun u140 => ltt ((up u140.1 9 (tn r135) (nI (tn (σ.1 11 ci))), u140.2)) (fun u142 => ltt ((up u142.1 8 (tn r135) ((u142.1 8 (tn r135)) + (nI 1)), u142.2)) (fun u145 => ltt ((up u145.1 14 ci (nI (tn r135)), u145.2)) (fun u147 => ltt ((up u147.1 16 ((4 * ci) + 1) ((u147.1 16 ((4 * ci) + 1)) + (nI 1)), u147.2)) (fun u150 => ltt ((up u150.1 3 (5 * (tn (σ.1 11 ci))) ((u150.1 3 (5 * (tn (σ.1 11 ci)))) + (nI 1)), u150.2)) (fun u153 => if (nI (tn (σ.1 11 ci))) = (u153.1 10 (5 * ci)) then ltt ((up u153.1 12 ci (u153.1 10 ((5 * ci) + 1)), u153.2)) (fun u168 => ltt ((up u168.1 13 ci (m_max (nI 1) ((m_abs ((u168.1 1 (tn (σ.1 11 ci))) - (u168.1 1 (tn (u168.1 12 ci))))) / (nI 10))), u168.2)) (fun u173 => ltt ((up u173.1 11 ci (-1 : Int32), u173.2)) (fun u175 => (nI 1, u175)))) else ltt ((up u153.1 12 ci (u153.1 10 (5 * ci)), u153.2)) (fun u158 => ltt ((up u158.1 13 ci (m_max (nI 1) ((m_abs ((u158.1 1 (tn (σ.1 11 ci))) - (u158.1 1 (tn (u158.1 12 ci))))) / (nI 10))), u158.2)) (fun u163 => ltt ((up u163.1 11 ci (-1 : Int32), u163.2)) (fun u165 => (nI 1, u165)))))))))))))
theorem z_X5_leave (σ : Sg × Sg) (ci now : Nat) : (s_X5_leave σ ci now).2.1 0 = σ.1 0 := by
  unfold s_X5_leave
  simp only [ltt]
  repeat' split
  all_goals simp [up_z]
theorem o_X5_leave (σ : Sg × Sg) (ci now : Nat) : (s_X5_leave σ ci now).2.2 = σ.2 := by
  unfold s_X5_leave
  simp only [ltt]
  repeat' split
  all_goals rfl
abbrev rm_X5_leave : Room := { frames := 2, cells := 0, slots := 0, locals := 45 }
set_option maxHeartbeats 4000000 in
set_option maxRecDepth 100000 in
theorem c_X5_leave (l : Launch) (D : va_G) (cy : Nat → ClassId) (ax : Nat → Nat) (bs ba : Nat) (ad : Nat → Nat) (σ : Sg × Sg) (ci : Nat) (now : Nat) (hc : ci < 10) (hn : now < 24) (hI : OkN σ.1) (hsh : vp_in (σ.1 11 ci) 8) (hho : vp_in (σ.1 10 (5 * ci)) 8) (hwo : vp_in (σ.1 10 (5 * ci + 1)) 8) : gMiN l yX5_leave wsX5_leave rm_X5_leave D (Ty cy) (PW cy ax bs ba ad) [.ref (ad 0), .int (nI ci), .int (nI now)] σ (s_X5_leave σ ci now) 0 0 := by
  refine gstartiN cX5_leave 6 RX5 (by decide) rfl rfl (Nat.le_of_ble_eq_true rfl) ?_
  intro p e s m below meth c A ls hx hb hml hown hts hr hlocks hK hP hD hA hS hl hnw
  have hl : lv_has ls 6 [(0, .ref (ad 0)), (1, .int (nI ci)), (2, .int (nI now))] := hl
  have hf : s_X5_leave σ ci now = s_X5_leave σ ci now := rfl
  have k10_0 : σ.1 10 = σ.1 10 := rfl
  have hin5 : ∀ w ∈ wsX50, w ∈ wsX5_leave := by decide +kernel
  have hin6 : ∀ w ∈ wsX60, w ∈ wsX5_leave := by decide +kernel
  have wd0 := hts (.fieldLink RX5 46 "UmbrellaLandModel$State" "is" "[I") (by decide +kernel)
  have wd1 := hts (.fieldLink RX5 3 "UmbrellaLandModel$State" "this$0" "LUmbrellaLandModel;") (by decide +kernel)
  have wd2 := hts (.fieldLink RX5 61 "UmbrellaLandModel$State" "own" "[I") (by decide +kernel)
  have wd3 := hts (.fieldLink RX5 22 "UmbrellaLandModel$State" "told" "[I") (by decide +kernel)
  have wd4 := hts (.fieldLink RX5 49 "UmbrellaLandModel$State" "to" "[I") (by decide +kernel)
  have wd5 := hts (.fieldLink RX5 43 "UmbrellaLandModel$State" "citizen" "[I") (by decide +kernel)
  have wd6 := hts (.fieldLink RX5 52 "UmbrellaLandModel$State" "left" "[I") (by decide +kernel)
  have wd7 := hts (.fieldLink RX5 15 "UmbrellaLandModel$State" "place" "[I") (by decide +kernel)
  have wd8 := hts (.methodLink RX5 119 Lib.Math.abs.name) (by decide +kernel)
  have wd9 := hts (.static Lib.Math.abs.name) (by decide +kernel)
  have wd10 := hts (.initialized "java/lang/Math") (by decide +kernel)
  have wd11 := hts (.code Lib.Math.abs.name Lib.Math.abs.code 1 (some .int)) (by decide +kernel)
  have wd12 := hts (.methodLink RX5 124 Lib.Math.max.name) (by decide +kernel)
  have wd13 := hts (.static Lib.Math.max.name) (by decide +kernel)
  have wd14 := hts (.code Lib.Math.max.name Lib.Math.max.code 2 (some .int)) (by decide +kernel)
  have wd15 := hts (.fieldLink RX5 25 "UmbrellaLandModel$State" "kind" "[I") (by decide +kernel)
  have wd16 := hts (.fieldLink RX5 28 "UmbrellaLandModel$State" "at" "[I") (by decide +kernel)
  have wd17 := hts (.fieldLink RX5 40 "UmbrellaLandModel$State" "from" "[I") (by decide +kernel)
  have wd18 := hts (.fieldLink RX5 37 "UmbrellaLandModel$State" "taken" "[I") (by decide +kernel)
  have wd19 := hts (.fieldLink RX5 55 "UmbrellaLandModel$State" "holds" "[I") (by decide +kernel)
  have hshb : tn (σ.1 11 ci) < 8 := tn_in hsh
  refine lv_aload_n hx hb dX5_leave_0 rfl (lv_at hl 0 rfl) ?_
  refine va_get (D := D) (ci := 5) (v := .ref (ad 11)) (C := RX5) (T := TX5) (N := 22) hx hb hts hin5 hown hK hP (0) (gx_l (SW_ob cy (ax 0) ad σ.1)) rfl 14 (by decide) wd0 (fun _ h9 => h9) rfl dX5_leave_1 ?_
  refine lv_iload_n hx hb dX5_leave_4 rfl (lv_at hl 1 rfl) ?_
  have h1 : ci < 10 := by omega
  refine g_iald hx hb hK hP (11) 0 ci (gx_l (SW_11 cy (ax 0) ad σ.1)) rfl (nI_clamp (by omega)) (vp_in_nI h1 (by decide)) dX5_leave_5 ?_
  refine g_top (y := nI (tn (σ.1 11 ci))) (tn_eq hsh (by decide)) ?_
  refine lv_istore_n (lv' := [(3, .int (nI (tn (σ.1 11 ci)))), (0, .ref (ad 0)), (1, .int (nI ci)), (2, .int (nI now))]) hx hb dX5_leave_6 rfl hl (by decide) rfl (fun ls hl => ?_)
  refine lv_iconst (v := nI 0) hx hb dX5_leave_7 (by decide) ?_
  refine lv_istore (lv' := [(4, .int (nI 0)), (3, .int (nI (tn (σ.1 11 ci)))), (0, .ref (ad 0)), (1, .int (nI ci)), (2, .int (nI now))]) hx hb dX5_leave_8 hl (by decide) rfl (fun ls hl => ?_)
  refine lv_aload_n hx hb dX5_leave_10 rfl (lv_at hl 2 rfl) ?_
  refine va_get (D := D) (ci := 5) (v := .ref (ax 0)) (C := RX5) (T := TX5) (N := 22) hx hb hts hin5 hown hK hP (0) (gx_l (SW_ob cy (ax 0) ad σ.1)) rfl 21 (by decide) wd1 (fun _ h9 => h9) rfl dX5_leave_11 ?_
  refine va_getN (D := D) (ci := 6) (v := .ref (ax 1)) (C := RX6) (T := TX6) (N := 4) hx hb hts hin6 hown hK hP (17 + (0)) (gx_r (WD_len _ _ _ _) (OW_ob cy ax bs ba σ.2)) rfl 1 (by decide) (nl_rain hnw) (fun _ h9 => h9) rfl dX5_leave_14 ?_
  refine lv_iload_n hx hb dX5_leave_17 rfl (lv_at hl 4 rfl) ?_
  have h2 : now < 24 := by omega
  refine g_iald hx hb hK hP (17 + (1)) 0 now (gx_r (WD_len _ _ _ _) (OW_rn cy ax bs ba σ.2)) rfl (nI_clamp (by omega)) (vp_in_nI h2 (by decide)) dX5_leave_18 ?_
  refine lv_if_gt (tgt := 39) hx hb dX5_leave_19 (by decide) (fun c3 => ?_) (fun c3 => ?_)
  · replace hf := hf.trans (if_pos c3)
    refine lv_aload_n hx hb dX5_leave_39 rfl (lv_at hl 2 rfl) ?_
    refine lv_iload_n hx hb dX5_leave_40 rfl (lv_at hl 3 rfl) ?_
    refine lv_iload_n hx hb dX5_leave_41 rfl (lv_at hl 1 rfl) ?_
    refine g_callr (q0 := 0) (wf := (PW cy ax bs ba ad)) (σ := σ) (wfc := (SW cy (ax 0) ad)) (σc := σ.1) hx hb hml hown hts hK hP hD hS hA hl.1 (OW cy ax bs ba (σ.2)) (List.Perm.refl _) [.int (nI ci), .int (nI (tn (σ.1 11 ci)))] (c_X5_wouldGet l D cy (ax 0) ad σ.1 ci (tn (σ.1 11 ci)) (by omega) (by omega) hI) (cwV 2 hts gX5_leave_X5_wouldGet rfl rfl rfl (by decide +kernel) ⟨Nat.le_of_ble_eq_true rfl, Nat.le_of_ble_eq_true rfl⟩) (gx_l (SW_ob cy (ax 0) ad σ.1)) rfl rfl rfl rfl (Nat.le_of_ble_eq_true rfl) dX5_leave_42 ⟨Nat.le_of_ble_eq_true rfl, Nat.le_of_ble_eq_true rfl⟩ rfl rfl ?_
    intro r4 er4 H locs hP hD hS
    replace hf := hf.trans (ltt_r er4)
    refine lv_if_eq (tgt := 130) hx hb dX5_leave_45 (by decide) (fun c5 => ?_) (fun c5 => ?_)
    · replace hf := hf.trans (if_pos c5)
      refine lv_aload_n hx hb dX5_leave_130 rfl (lv_at hl 2 rfl) ?_
      refine va_get (D := D) (ci := 5) (v := .ref (ad 16)) (C := RX5) (T := TX5) (N := 22) hx hb hts hin5 hown hK hP (0) (gx_l (SW_ob cy (ax 0) ad σ.1)) rfl 19 (by decide) wd2 (fun _ h9 => h9) rfl dX5_leave_131 ?_
      refine lv_iconst (v := nI 4) hx hb dX5_leave_134 (by decide) ?_
      refine lv_iload_n hx hb dX5_leave_135 rfl (lv_at hl 3 rfl) ?_
      refine lv_imul hx hb dX5_leave_136 ?_
      refine g_top (pk_mul _ _) ?_
      refine lv_iconst (v := nI 3) hx hb dX5_leave_137 (by decide) ?_
      refine lv_iadd hx hb dX5_leave_138 ?_
      refine g_top (nI_add _ _) ?_
      refine lv_dup2_11 hx hb dX5_leave_139 rfl rfl ?_
      have h6 : (4 * ci) + 3 < 40 := by omega
      refine g_iald hx hb hK hP (16) 0 ((4 * ci) + 3) (gx_l (SW_16 cy (ax 0) ad σ.1)) rfl (nI_clamp (by omega)) (vp_in_nI h6 (by decide)) dX5_leave_140 ?_
      refine lv_iconst (v := nI 1) hx hb dX5_leave_141 (by decide) ?_
      refine lv_iadd hx hb dX5_leave_142 ?_
      have h7 : (4 * ci) + 3 < 40 := by omega
      refine g_iast (σ1 := (up σ.1 16 ((4 * ci) + 3) ((σ.1 16 ((4 * ci) + 3)) + (nI 1)), σ.2)) hx hb hK hP hD hS (16) 0 ((4 * ci) + 3) (gx_l (SW_16 cy (ax 0) ad σ.1)) rfl (nI_clamp (by omega)) (vp_in_nI h7 (by decide)) (gx_setl (by rw [WD_len]; omega) (SW_16_set cy (ax 0) ad σ.1 ((4 * ci) + 3) _)) dX5_leave_143 ?_
      intro u8 eu8 H locs hP hD hS
      replace hf := hf.trans (ltt_r eu8)
      have k10_u8 : u8.1 10 = σ.1 10 := by rw [eu8]; exact keep_up rfl (by decide) k10_0
      refine lv_aload_n hx hb dX5_leave_144 rfl (lv_at hl 2 rfl) ?_
      refine va_get (D := D) (ci := 5) (v := .ref (ad 3)) (C := RX5) (T := TX5) (N := 22) hx hb hts hin5 hown hK hP (0) (gx_l (SW_ob cy (ax 0) ad u8.1)) rfl 4 (by decide) wd3 (fun _ h9 => h9) rfl dX5_leave_145 ?_
      refine lv_iconst (v := nI 5) hx hb dX5_leave_148 (by decide) ?_
      refine lv_iload_n hx hb dX5_leave_149 rfl (lv_at hl 1 rfl) ?_
      refine lv_imul hx hb dX5_leave_150 ?_
      refine g_top (pk_mul _ _) ?_
      refine lv_iconst (v := nI 2) hx hb dX5_leave_151 (by decide) ?_
      refine lv_iadd hx hb dX5_leave_152 ?_
      refine g_top (nI_add _ _) ?_
      refine lv_dup2_11 hx hb dX5_leave_153 rfl rfl ?_
      have h9 : (5 * (tn (σ.1 11 ci))) + 2 < 40 := by omega
      refine g_iald hx hb hK hP (3) 0 ((5 * (tn (σ.1 11 ci))) + 2) (gx_l (SW_3 cy (ax 0) ad u8.1)) rfl (nI_clamp (by omega)) (vp_in_nI h9 (by decide)) dX5_leave_154 ?_
      refine lv_iconst (v := nI 1) hx hb dX5_leave_155 (by decide) ?_
      refine lv_iadd hx hb dX5_leave_156 ?_
      have h10 : (5 * (tn (σ.1 11 ci))) + 2 < 40 := by omega
      refine g_iast (σ1 := (up u8.1 3 ((5 * (tn (σ.1 11 ci))) + 2) ((u8.1 3 ((5 * (tn (σ.1 11 ci))) + 2)) + (nI 1)), u8.2)) hx hb hK hP hD hS (3) 0 ((5 * (tn (σ.1 11 ci))) + 2) (gx_l (SW_3 cy (ax 0) ad u8.1)) rfl (nI_clamp (by omega)) (vp_in_nI h10 (by decide)) (gx_setl (by rw [WD_len]; omega) (SW_3_set cy (ax 0) ad u8.1 ((5 * (tn (σ.1 11 ci))) + 2) _)) dX5_leave_157 ?_
      intro u11 eu11 H locs hP hD hS
      replace hf := hf.trans (ltt_r eu11)
      have k10_u11 : u11.1 10 = σ.1 10 := by rw [eu11]; exact keep_up rfl (by decide) k10_u8
      refine lv_aload_n hx hb dX5_leave_158 rfl (lv_at hl 2 rfl) ?_
      refine va_get (D := D) (ci := 5) (v := .ref (ad 3)) (C := RX5) (T := TX5) (N := 22) hx hb hts hin5 hown hK hP (0) (gx_l (SW_ob cy (ax 0) ad u11.1)) rfl 4 (by decide) wd3 (fun _ h9 => h9) rfl dX5_leave_159 ?_
      refine lv_iconst (v := nI 5) hx hb dX5_leave_162 (by decide) ?_
      refine lv_iload_n hx hb dX5_leave_163 rfl (lv_at hl 1 rfl) ?_
      refine lv_imul hx hb dX5_leave_164 ?_
      refine g_top (pk_mul _ _) ?_
      refine lv_iconst (v := nI 4) hx hb dX5_leave_165 (by decide) ?_
      refine lv_iadd hx hb dX5_leave_166 ?_
      refine g_top (nI_add _ _) ?_
      refine lv_dup2_11 hx hb dX5_leave_167 rfl rfl ?_
      have h12 : (5 * (tn (σ.1 11 ci))) + 4 < 40 := by omega
      refine g_iald hx hb hK hP (3) 0 ((5 * (tn (σ.1 11 ci))) + 4) (gx_l (SW_3 cy (ax 0) ad u11.1)) rfl (nI_clamp (by omega)) (vp_in_nI h12 (by decide)) dX5_leave_168 ?_
      refine lv_iconst (v := nI 1) hx hb dX5_leave_169 (by decide) ?_
      refine lv_iadd hx hb dX5_leave_170 ?_
      have h13 : (5 * (tn (σ.1 11 ci))) + 4 < 40 := by omega
      refine g_iast (σ1 := (up u11.1 3 ((5 * (tn (σ.1 11 ci))) + 4) ((u11.1 3 ((5 * (tn (σ.1 11 ci))) + 4)) + (nI 1)), u11.2)) hx hb hK hP hD hS (3) 0 ((5 * (tn (σ.1 11 ci))) + 4) (gx_l (SW_3 cy (ax 0) ad u11.1)) rfl (nI_clamp (by omega)) (vp_in_nI h13 (by decide)) (gx_setl (by rw [WD_len]; omega) (SW_3_set cy (ax 0) ad u11.1 ((5 * (tn (σ.1 11 ci))) + 4) _)) dX5_leave_171 ?_
      intro u14 eu14 H locs hP hD hS
      replace hf := hf.trans (ltt_r eu14)
      have k10_u14 : u14.1 10 = σ.1 10 := by rw [eu14]; exact keep_up rfl (by decide) k10_u11
      refine lv_aload_n hx hb dX5_leave_172 rfl (lv_at hl 2 rfl) ?_
      refine va_get (D := D) (ci := 5) (v := .ref (ad 12)) (C := RX5) (T := TX5) (N := 22) hx hb hts hin5 hown hK hP (0) (gx_l (SW_ob cy (ax 0) ad u14.1)) rfl 15 (by decide) wd4 (fun _ h9 => h9) rfl dX5_leave_173 ?_
      refine lv_iload_n hx hb dX5_leave_176 rfl (lv_at hl 3 rfl) ?_
      refine lv_iload_n hx hb dX5_leave_177 rfl (lv_at hl 1 rfl) ?_
      refine lv_aload_n hx hb dX5_leave_178 rfl (lv_at hl 2 rfl) ?_
      refine va_get (D := D) (ci := 5) (v := .ref (ad 10)) (C := RX5) (T := TX5) (N := 22) hx hb hts hin5 hown hK hP (0) (gx_l (SW_ob cy (ax 0) ad u14.1)) rfl 13 (by decide) wd5 (fun _ h9 => h9) rfl dX5_leave_179 ?_
      refine lv_iconst (v := nI 5) hx hb dX5_leave_182 (by decide) ?_
      refine lv_iload_n hx hb dX5_leave_183 rfl (lv_at hl 3 rfl) ?_
      refine lv_imul hx hb dX5_leave_184 ?_
      refine g_top (pk_mul _ _) ?_
      have h15 : 5 * ci < 50 := by omega
      refine g_iald hx hb hK hP (10) 0 (5 * ci) (gx_l (SW_10 cy (ax 0) ad u14.1)) rfl (nI_clamp (by omega)) (vp_in_nI h15 (by decide)) dX5_leave_185 ?_
      refine lv_icmp_ne (tgt := 202) hx hb dX5_leave_186 (by decide) (fun c16 => ?_) (fun c16 => ?_)
      · replace hf := hf.trans (if_neg c16)
        refine lv_aload_n hx hb dX5_leave_202 rfl (lv_at hl 2 rfl) ?_
        refine va_get (D := D) (ci := 5) (v := .ref (ad 10)) (C := RX5) (T := TX5) (N := 22) hx hb hts hin5 hown hK hP (0) (gx_l (SW_ob cy (ax 0) ad u14.1)) rfl 13 (by decide) wd5 (fun _ h9 => h9) rfl dX5_leave_203 ?_
        refine lv_iconst (v := nI 5) hx hb dX5_leave_206 (by decide) ?_
        refine lv_iload_n hx hb dX5_leave_207 rfl (lv_at hl 3 rfl) ?_
        refine lv_imul hx hb dX5_leave_208 ?_
        refine g_top (pk_mul _ _) ?_
        have h17 : 5 * ci < 50 := by omega
        refine g_iald hx hb hK hP (10) 0 (5 * ci) (gx_l (SW_10 cy (ax 0) ad u14.1)) rfl (nI_clamp (by omega)) (vp_in_nI h17 (by decide)) dX5_leave_209 ?_
        have h18 : ci < 10 := by omega
        refine g_iast (σ1 := (up u14.1 12 ci (u14.1 10 (5 * ci)), u14.2)) hx hb hK hP hD hS (12) 0 ci (gx_l (SW_12 cy (ax 0) ad u14.1)) rfl (nI_clamp (by omega)) (vp_in_nI h18 (by decide)) (gx_setl (by rw [WD_len]; omega) (SW_12_set cy (ax 0) ad u14.1 ci _)) dX5_leave_210 ?_
        intro u19 eu19 H locs hP hD hS
        replace hf := hf.trans (ltt_r eu19)
        have k10_u19 : u19.1 10 = σ.1 10 := by rw [eu19]; exact keep_up rfl (by decide) k10_u14
        refine lv_aload_n hx hb dX5_leave_211 rfl (lv_at hl 2 rfl) ?_
        refine va_get (D := D) (ci := 5) (v := .ref (ad 13)) (C := RX5) (T := TX5) (N := 22) hx hb hts hin5 hown hK hP (0) (gx_l (SW_ob cy (ax 0) ad u19.1)) rfl 16 (by decide) wd6 (fun _ h9 => h9) rfl dX5_leave_212 ?_
        refine lv_iload_n hx hb dX5_leave_215 rfl (lv_at hl 3 rfl) ?_
        refine lv_iconst (v := nI 1) hx hb dX5_leave_216 (by decide) ?_
        refine lv_aload_n hx hb dX5_leave_217 rfl (lv_at hl 2 rfl) ?_
        refine va_get (D := D) (ci := 5) (v := .ref (ad 1)) (C := RX5) (T := TX5) (N := 22) hx hb hts hin5 hown hK hP (0) (gx_l (SW_ob cy (ax 0) ad u19.1)) rfl 2 (by decide) wd7 (fun _ h9 => h9) rfl dX5_leave_218 ?_
        refine lv_iload_n hx hb dX5_leave_221 rfl (lv_at hl 1 rfl) ?_
        have h20 : tn (σ.1 11 ci) < 8 := by omega
        refine g_iald hx hb hK hP (1) 0 (tn (σ.1 11 ci)) (gx_l (SW_1 cy (ax 0) ad u19.1)) rfl (nI_clamp (by omega)) (vp_in_nI h20 (by decide)) dX5_leave_222 ?_
        refine lv_aload_n hx hb dX5_leave_223 rfl (lv_at hl 2 rfl) ?_
        refine va_get (D := D) (ci := 5) (v := .ref (ad 1)) (C := RX5) (T := TX5) (N := 22) hx hb hts hin5 hown hK hP (0) (gx_l (SW_ob cy (ax 0) ad u19.1)) rfl 2 (by decide) wd7 (fun _ h9 => h9) rfl dX5_leave_224 ?_
        refine lv_aload_n hx hb dX5_leave_227 rfl (lv_at hl 2 rfl) ?_
        refine va_get (D := D) (ci := 5) (v := .ref (ad 12)) (C := RX5) (T := TX5) (N := 22) hx hb hts hin5 hown hK hP (0) (gx_l (SW_ob cy (ax 0) ad u19.1)) rfl 15 (by decide) wd4 (fun _ h9 => h9) rfl dX5_leave_228 ?_
        refine lv_iload_n hx hb dX5_leave_231 rfl (lv_at hl 3 rfl) ?_
        have h21 : ci < 10 := by omega
        refine g_iald hx hb hK hP (12) 0 ci (gx_l (SW_12 cy (ax 0) ad u19.1)) rfl (nI_clamp (by omega)) (vp_in_nI h21 (by decide)) dX5_leave_232 ?_
        have h22 : vp_in (u19.1 12 ci) 8 := (by rw [eu19]; show vp_in (up _ 12 ci _ 12 ci) 8; rw [up_s, k10_u14]; first | exact hwo | exact hho)
        have h22b : tn (u19.1 12 ci) < 8 := tn_in h22
        refine g_iald hx hb hK hP (1) 0 (tn (u19.1 12 ci)) (gx_l (SW_1 cy (ax 0) ad u19.1)) rfl rfl h22 dX5_leave_233 ?_
        refine lv_isub hx hb dX5_leave_234 ?_
        refine va_mabs hx hb (hml.trans hl.1.symm) hown wd8 wd9 wd10 wd11 (Nat.le_of_ble_eq_true rfl) (Nat.le_of_ble_eq_true rfl) (Nat.le_of_ble_eq_true rfl) (Nat.le_of_ble_eq_true rfl) dX5_leave_235 ?_
        refine lv_bipush (v := nI 10) hx hb dX5_leave_238 (by decide) ?_
        refine lv_idiv hx hb dX5_leave_240 (by decide) ?_
        refine va_mmax hx hb (hml.trans hl.1.symm) hown wd12 wd13 wd10 wd14 (Nat.le_of_ble_eq_true rfl) (Nat.le_of_ble_eq_true rfl) (Nat.le_of_ble_eq_true rfl) (Nat.le_of_ble_eq_true rfl) dX5_leave_241 ?_
        have h23 : ci < 10 := by omega
        refine g_iast (σ1 := (up u19.1 13 ci (m_max (nI 1) ((m_abs ((u19.1 1 (tn (σ.1 11 ci))) - (u19.1 1 (tn (u19.1 12 ci))))) / (nI 10))), u19.2)) hx hb hK hP hD hS (13) 0 ci (gx_l (SW_13 cy (ax 0) ad u19.1)) rfl (nI_clamp (by omega)) (vp_in_nI h23 (by decide)) (gx_setl (by rw [WD_len]; omega) (SW_13_set cy (ax 0) ad u19.1 ci _)) dX5_leave_244 ?_
        intro u24 eu24 H locs hP hD hS
        replace hf := hf.trans (ltt_r eu24)
        have k10_u24 : u24.1 10 = σ.1 10 := by rw [eu24]; exact keep_up rfl (by decide) k10_u19
        refine lv_aload_n hx hb dX5_leave_245 rfl (lv_at hl 2 rfl) ?_
        refine va_get (D := D) (ci := 5) (v := .ref (ad 11)) (C := RX5) (T := TX5) (N := 22) hx hb hts hin5 hown hK hP (0) (gx_l (SW_ob cy (ax 0) ad u24.1)) rfl 14 (by decide) wd0 (fun _ h9 => h9) rfl dX5_leave_246 ?_
        refine lv_iload_n hx hb dX5_leave_249 rfl (lv_at hl 3 rfl) ?_
        refine lv_iconst (v := (-1 : Int32)) hx hb dX5_leave_250 (by decide) ?_
        have h25 : ci < 10 := by omega
        refine g_iast (σ1 := (up u24.1 11 ci (-1 : Int32), u24.2)) hx hb hK hP hD hS (11) 0 ci (gx_l (SW_11 cy (ax 0) ad u24.1)) rfl (nI_clamp (by omega)) (vp_in_nI h25 (by decide)) (gx_setl (by rw [WD_len]; omega) (SW_11_set cy (ax 0) ad u24.1 ci _)) dX5_leave_251 ?_
        intro u26 eu26 H locs hP hD hS
        replace hf := hf.trans (ltt_r eu26)
        have k10_u26 : u26.1 10 = σ.1 10 := by rw [eu26]; exact keep_up rfl (by decide) k10_u24
        refine lv_iload hx hb dX5_leave_252 (lv_at hl 0 rfl) ?_
        exact g_endi hx hb hr hlocks rfl hf hP hD hS (Nat.le_of_ble_eq_true rfl) (Nat.le_of_ble_eq_true rfl) dX5_leave_254
      · replace hf := hf.trans (if_pos c16)
        refine lv_aload_n hx hb dX5_leave_189 rfl (lv_at hl 2 rfl) ?_
        refine va_get (D := D) (ci := 5) (v := .ref (ad 10)) (C := RX5) (T := TX5) (N := 22) hx hb hts hin5 hown hK hP (0) (gx_l (SW_ob cy (ax 0) ad u14.1)) rfl 13 (by decide) wd5 (fun _ h9 => h9) rfl dX5_leave_190 ?_
        refine lv_iconst (v := nI 5) hx hb dX5_leave_193 (by decide) ?_
        refine lv_iload_n hx hb dX5_leave_194 rfl (lv_at hl 3 rfl) ?_
        refine lv_imul hx hb dX5_leave_195 ?_
        refine g_top (pk_mul _ _) ?_
        refine lv_iconst (v := nI 1) hx hb dX5_leave_196 (by decide) ?_
        refine lv_iadd hx hb dX5_leave_197 ?_
        refine g_top (nI_add _ _) ?_
        have h27 : (5 * ci) + 1 < 50 := by omega
        refine g_iald hx hb hK hP (10) 0 ((5 * ci) + 1) (gx_l (SW_10 cy (ax 0) ad u14.1)) rfl (nI_clamp (by omega)) (vp_in_nI h27 (by decide)) dX5_leave_198 ?_
        refine lv_goto (tgt := 210) hx hb dX5_leave_199 (by decide) ?_
        have h28 : ci < 10 := by omega
        refine g_iast (σ1 := (up u14.1 12 ci (u14.1 10 ((5 * ci) + 1)), u14.2)) hx hb hK hP hD hS (12) 0 ci (gx_l (SW_12 cy (ax 0) ad u14.1)) rfl (nI_clamp (by omega)) (vp_in_nI h28 (by decide)) (gx_setl (by rw [WD_len]; omega) (SW_12_set cy (ax 0) ad u14.1 ci _)) dX5_leave_210 ?_
        intro u29 eu29 H locs hP hD hS
        replace hf := hf.trans (ltt_r eu29)
        have k10_u29 : u29.1 10 = σ.1 10 := by rw [eu29]; exact keep_up rfl (by decide) k10_u14
        refine lv_aload_n hx hb dX5_leave_211 rfl (lv_at hl 2 rfl) ?_
        refine va_get (D := D) (ci := 5) (v := .ref (ad 13)) (C := RX5) (T := TX5) (N := 22) hx hb hts hin5 hown hK hP (0) (gx_l (SW_ob cy (ax 0) ad u29.1)) rfl 16 (by decide) wd6 (fun _ h9 => h9) rfl dX5_leave_212 ?_
        refine lv_iload_n hx hb dX5_leave_215 rfl (lv_at hl 3 rfl) ?_
        refine lv_iconst (v := nI 1) hx hb dX5_leave_216 (by decide) ?_
        refine lv_aload_n hx hb dX5_leave_217 rfl (lv_at hl 2 rfl) ?_
        refine va_get (D := D) (ci := 5) (v := .ref (ad 1)) (C := RX5) (T := TX5) (N := 22) hx hb hts hin5 hown hK hP (0) (gx_l (SW_ob cy (ax 0) ad u29.1)) rfl 2 (by decide) wd7 (fun _ h9 => h9) rfl dX5_leave_218 ?_
        refine lv_iload_n hx hb dX5_leave_221 rfl (lv_at hl 1 rfl) ?_
        have h30 : tn (σ.1 11 ci) < 8 := by omega
        refine g_iald hx hb hK hP (1) 0 (tn (σ.1 11 ci)) (gx_l (SW_1 cy (ax 0) ad u29.1)) rfl (nI_clamp (by omega)) (vp_in_nI h30 (by decide)) dX5_leave_222 ?_
        refine lv_aload_n hx hb dX5_leave_223 rfl (lv_at hl 2 rfl) ?_
        refine va_get (D := D) (ci := 5) (v := .ref (ad 1)) (C := RX5) (T := TX5) (N := 22) hx hb hts hin5 hown hK hP (0) (gx_l (SW_ob cy (ax 0) ad u29.1)) rfl 2 (by decide) wd7 (fun _ h9 => h9) rfl dX5_leave_224 ?_
        refine lv_aload_n hx hb dX5_leave_227 rfl (lv_at hl 2 rfl) ?_
        refine va_get (D := D) (ci := 5) (v := .ref (ad 12)) (C := RX5) (T := TX5) (N := 22) hx hb hts hin5 hown hK hP (0) (gx_l (SW_ob cy (ax 0) ad u29.1)) rfl 15 (by decide) wd4 (fun _ h9 => h9) rfl dX5_leave_228 ?_
        refine lv_iload_n hx hb dX5_leave_231 rfl (lv_at hl 3 rfl) ?_
        have h31 : ci < 10 := by omega
        refine g_iald hx hb hK hP (12) 0 ci (gx_l (SW_12 cy (ax 0) ad u29.1)) rfl (nI_clamp (by omega)) (vp_in_nI h31 (by decide)) dX5_leave_232 ?_
        have h32 : vp_in (u29.1 12 ci) 8 := (by rw [eu29]; show vp_in (up _ 12 ci _ 12 ci) 8; rw [up_s, k10_u14]; first | exact hwo | exact hho)
        have h32b : tn (u29.1 12 ci) < 8 := tn_in h32
        refine g_iald hx hb hK hP (1) 0 (tn (u29.1 12 ci)) (gx_l (SW_1 cy (ax 0) ad u29.1)) rfl rfl h32 dX5_leave_233 ?_
        refine lv_isub hx hb dX5_leave_234 ?_
        refine va_mabs hx hb (hml.trans hl.1.symm) hown wd8 wd9 wd10 wd11 (Nat.le_of_ble_eq_true rfl) (Nat.le_of_ble_eq_true rfl) (Nat.le_of_ble_eq_true rfl) (Nat.le_of_ble_eq_true rfl) dX5_leave_235 ?_
        refine lv_bipush (v := nI 10) hx hb dX5_leave_238 (by decide) ?_
        refine lv_idiv hx hb dX5_leave_240 (by decide) ?_
        refine va_mmax hx hb (hml.trans hl.1.symm) hown wd12 wd13 wd10 wd14 (Nat.le_of_ble_eq_true rfl) (Nat.le_of_ble_eq_true rfl) (Nat.le_of_ble_eq_true rfl) (Nat.le_of_ble_eq_true rfl) dX5_leave_241 ?_
        have h33 : ci < 10 := by omega
        refine g_iast (σ1 := (up u29.1 13 ci (m_max (nI 1) ((m_abs ((u29.1 1 (tn (σ.1 11 ci))) - (u29.1 1 (tn (u29.1 12 ci))))) / (nI 10))), u29.2)) hx hb hK hP hD hS (13) 0 ci (gx_l (SW_13 cy (ax 0) ad u29.1)) rfl (nI_clamp (by omega)) (vp_in_nI h33 (by decide)) (gx_setl (by rw [WD_len]; omega) (SW_13_set cy (ax 0) ad u29.1 ci _)) dX5_leave_244 ?_
        intro u34 eu34 H locs hP hD hS
        replace hf := hf.trans (ltt_r eu34)
        have k10_u34 : u34.1 10 = σ.1 10 := by rw [eu34]; exact keep_up rfl (by decide) k10_u29
        refine lv_aload_n hx hb dX5_leave_245 rfl (lv_at hl 2 rfl) ?_
        refine va_get (D := D) (ci := 5) (v := .ref (ad 11)) (C := RX5) (T := TX5) (N := 22) hx hb hts hin5 hown hK hP (0) (gx_l (SW_ob cy (ax 0) ad u34.1)) rfl 14 (by decide) wd0 (fun _ h9 => h9) rfl dX5_leave_246 ?_
        refine lv_iload_n hx hb dX5_leave_249 rfl (lv_at hl 3 rfl) ?_
        refine lv_iconst (v := (-1 : Int32)) hx hb dX5_leave_250 (by decide) ?_
        have h35 : ci < 10 := by omega
        refine g_iast (σ1 := (up u34.1 11 ci (-1 : Int32), u34.2)) hx hb hK hP hD hS (11) 0 ci (gx_l (SW_11 cy (ax 0) ad u34.1)) rfl (nI_clamp (by omega)) (vp_in_nI h35 (by decide)) (gx_setl (by rw [WD_len]; omega) (SW_11_set cy (ax 0) ad u34.1 ci _)) dX5_leave_251 ?_
        intro u36 eu36 H locs hP hD hS
        replace hf := hf.trans (ltt_r eu36)
        have k10_u36 : u36.1 10 = σ.1 10 := by rw [eu36]; exact keep_up rfl (by decide) k10_u34
        refine lv_iload hx hb dX5_leave_252 (lv_at hl 0 rfl) ?_
        exact g_endi hx hb hr hlocks rfl hf hP hD hS (Nat.le_of_ble_eq_true rfl) (Nat.le_of_ble_eq_true rfl) dX5_leave_254
    · replace hf := hf.trans (if_neg c5)
      refine lv_aload_n hx hb dX5_leave_48 rfl (lv_at hl 2 rfl) ?_
      refine lv_iload_n hx hb dX5_leave_49 rfl (lv_at hl 1 rfl) ?_
      refine g_callr (q0 := 0) (wf := (PW cy ax bs ba ad)) (σ := σ) (wfc := (SW cy (ax 0) ad)) (σc := σ.1) hx hb hml hown hts hK hP hD hS hA hl.1 (OW cy ax bs ba (σ.2)) (List.Perm.refl _) [.int (nI (tn (σ.1 11 ci)))] (c_X5_first l D cy (ax 0) ad σ.1 (nI (tn (σ.1 11 ci))) hI) (cwV 1 hts gX5_leave_X5_first rfl rfl rfl (by decide +kernel) ⟨Nat.le_of_ble_eq_true rfl, Nat.le_of_ble_eq_true rfl⟩) (gx_l (SW_ob cy (ax 0) ad σ.1)) rfl rfl rfl rfl (Nat.le_of_ble_eq_true rfl) dX5_leave_50 ⟨Nat.le_of_ble_eq_true rfl, Nat.le_of_ble_eq_true rfl⟩ rfl rfl ?_
      intro r37 er37 H locs hP hD hS
      replace hf := hf.trans (ltt_r er37)
      have h38 : vp_in r37 40 := (by rw [er37]; exact would_in hI (fun h9 => c5 (er4.trans h9)))
      have h38b : tn r37 < 40 := tn_in h38
      refine g_top (tn_eq h38 (by decide)) ?_
      refine lv_istore (lv' := [(5, .int (nI (tn r37))), (4, .int (nI 0)), (3, .int (nI (tn (σ.1 11 ci)))), (0, .ref (ad 0)), (1, .int (nI ci)), (2, .int (nI now))]) hx hb dX5_leave_53 hl (by decide) rfl (fun ls hl => ?_)
      refine lv_aload_n hx hb dX5_leave_55 rfl (lv_at hl 3 rfl) ?_
      refine va_get (D := D) (ci := 5) (v := .ref (ad 4)) (C := RX5) (T := TX5) (N := 22) hx hb hts hin5 hown hK hP (0) (gx_l (SW_ob cy (ax 0) ad σ.1)) rfl 6 (by decide) wd15 (fun _ h9 => h9) rfl dX5_leave_56 ?_
      refine lv_iload hx hb dX5_leave_59 (lv_at hl 0 rfl) ?_
      refine lv_iconst (v := nI 1) hx hb dX5_leave_61 (by decide) ?_
      have h39 : tn r37 < 40 := by omega
      refine g_iast (σ1 := (up σ.1 4 (tn r37) (nI 1), σ.2)) hx hb hK hP hD hS (4) 0 (tn r37) (gx_l (SW_4 cy (ax 0) ad σ.1)) rfl (nI_clamp (by omega)) (vp_in_nI h39 (by decide)) (gx_setl (by rw [WD_len]; omega) (SW_4_set cy (ax 0) ad σ.1 (tn r37) _)) dX5_leave_62 ?_
      intro u40 eu40 H locs hP hD hS
      replace hf := hf.trans (ltt_r eu40)
      have k10_u40 : u40.1 10 = σ.1 10 := by rw [eu40]; exact keep_up rfl (by decide) k10_0
      refine lv_aload_n hx hb dX5_leave_63 rfl (lv_at hl 3 rfl) ?_
      refine va_get (D := D) (ci := 5) (v := .ref (ad 5)) (C := RX5) (T := TX5) (N := 22) hx hb hts hin5 hown hK hP (0) (gx_l (SW_ob cy (ax 0) ad u40.1)) rfl 7 (by decide) wd16 (fun _ h9 => h9) rfl dX5_leave_64 ?_
      refine lv_iload hx hb dX5_leave_67 (lv_at hl 0 rfl) ?_
      refine lv_iload_n hx hb dX5_leave_69 rfl (lv_at hl 4 rfl) ?_
      have h41 : tn r37 < 40 := by omega
      refine g_iast (σ1 := (up u40.1 5 (tn r37) (nI ci), u40.2)) hx hb hK hP hD hS (5) 0 (tn r37) (gx_l (SW_5 cy (ax 0) ad u40.1)) rfl (nI_clamp (by omega)) (vp_in_nI h41 (by decide)) (gx_setl (by rw [WD_len]; omega) (SW_5_set cy (ax 0) ad u40.1 (tn r37) _)) dX5_leave_70 ?_
      intro u42 eu42 H locs hP hD hS
      replace hf := hf.trans (ltt_r eu42)
      have k10_u42 : u42.1 10 = σ.1 10 := by rw [eu42]; exact keep_up rfl (by decide) k10_u40
      refine lv_aload_n hx hb dX5_leave_71 rfl (lv_at hl 3 rfl) ?_
      refine va_get (D := D) (ci := 5) (v := .ref (ad 9)) (C := RX5) (T := TX5) (N := 22) hx hb hts hin5 hown hK hP (0) (gx_l (SW_ob cy (ax 0) ad u42.1)) rfl 11 (by decide) wd17 (fun _ h9 => h9) rfl dX5_leave_72 ?_
      refine lv_iload hx hb dX5_leave_75 (lv_at hl 0 rfl) ?_
      refine lv_iload_n hx hb dX5_leave_77 rfl (lv_at hl 2 rfl) ?_
      have h43 : tn r37 < 40 := by omega
      refine g_iast (σ1 := (up u42.1 9 (tn r37) (nI (tn (σ.1 11 ci))), u42.2)) hx hb hK hP hD hS (9) 0 (tn r37) (gx_l (SW_9 cy (ax 0) ad u42.1)) rfl (nI_clamp (by omega)) (vp_in_nI h43 (by decide)) (gx_setl (by rw [WD_len]; omega) (SW_9_set cy (ax 0) ad u42.1 (tn r37) _)) dX5_leave_78 ?_
      intro u44 eu44 H locs hP hD hS
      replace hf := hf.trans (ltt_r eu44)
      have k10_u44 : u44.1 10 = σ.1 10 := by rw [eu44]; exact keep_up rfl (by decide) k10_u42
      refine lv_aload_n hx hb dX5_leave_79 rfl (lv_at hl 3 rfl) ?_
      refine va_get (D := D) (ci := 5) (v := .ref (ad 8)) (C := RX5) (T := TX5) (N := 22) hx hb hts hin5 hown hK hP (0) (gx_l (SW_ob cy (ax 0) ad u44.1)) rfl 10 (by decide) wd18 (fun _ h9 => h9) rfl dX5_leave_80 ?_
      refine lv_iload hx hb dX5_leave_83 (lv_at hl 0 rfl) ?_
      refine lv_dup2_11 hx hb dX5_leave_85 rfl rfl ?_
      have h45 : tn r37 < 40 := by omega
      refine g_iald hx hb hK hP (8) 0 (tn r37) (gx_l (SW_8 cy (ax 0) ad u44.1)) rfl (nI_clamp (by omega)) (vp_in_nI h45 (by decide)) dX5_leave_86 ?_
      refine lv_iconst (v := nI 1) hx hb dX5_leave_87 (by decide) ?_
      refine lv_iadd hx hb dX5_leave_88 ?_
      have h46 : tn r37 < 40 := by omega
      refine g_iast (σ1 := (up u44.1 8 (tn r37) ((u44.1 8 (tn r37)) + (nI 1)), u44.2)) hx hb hK hP hD hS (8) 0 (tn r37) (gx_l (SW_8 cy (ax 0) ad u44.1)) rfl (nI_clamp (by omega)) (vp_in_nI h46 (by decide)) (gx_setl (by rw [WD_len]; omega) (SW_8_set cy (ax 0) ad u44.1 (tn r37) _)) dX5_leave_89 ?_
      intro u47 eu47 H locs hP hD hS
      replace hf := hf.trans (ltt_r eu47)
      have k10_u47 : u47.1 10 = σ.1 10 := by rw [eu47]; exact keep_up rfl (by decide) k10_u44
      refine lv_aload_n hx hb dX5_leave_90 rfl (lv_at hl 3 rfl) ?_
      refine va_get (D := D) (ci := 5) (v := .ref (ad 14)) (C := RX5) (T := TX5) (N := 22) hx hb hts hin5 hown hK hP (0) (gx_l (SW_ob cy (ax 0) ad u47.1)) rfl 17 (by decide) wd19 (fun _ h9 => h9) rfl dX5_leave_91 ?_
      refine lv_iload_n hx hb dX5_leave_94 rfl (lv_at hl 4 rfl) ?_
      refine lv_iload hx hb dX5_leave_95 (lv_at hl 0 rfl) ?_
      have h48 : ci < 10 := by omega
      refine g_iast (σ1 := (up u47.1 14 ci (nI (tn r37)), u47.2)) hx hb hK hP hD hS (14) 0 ci (gx_l (SW_14 cy (ax 0) ad u47.1)) rfl (nI_clamp (by omega)) (vp_in_nI h48 (by decide)) (gx_setl (by rw [WD_len]; omega) (SW_14_set cy (ax 0) ad u47.1 ci _)) dX5_leave_97 ?_
      intro u49 eu49 H locs hP hD hS
      replace hf := hf.trans (ltt_r eu49)
      have k10_u49 : u49.1 10 = σ.1 10 := by rw [eu49]; exact keep_up rfl (by decide) k10_u47
      refine lv_aload_n hx hb dX5_leave_98 rfl (lv_at hl 3 rfl) ?_
      refine va_get (D := D) (ci := 5) (v := .ref (ad 16)) (C := RX5) (T := TX5) (N := 22) hx hb hts hin5 hown hK hP (0) (gx_l (SW_ob cy (ax 0) ad u49.1)) rfl 19 (by decide) wd2 (fun _ h9 => h9) rfl dX5_leave_99 ?_
      refine lv_iconst (v := nI 4) hx hb dX5_leave_102 (by decide) ?_
      refine lv_iload_n hx hb dX5_leave_103 rfl (lv_at hl 4 rfl) ?_
      refine lv_imul hx hb dX5_leave_104 ?_
      refine g_top (pk_mul _ _) ?_
      refine lv_iconst (v := nI 1) hx hb dX5_leave_105 (by decide) ?_
      refine lv_iadd hx hb dX5_leave_106 ?_
      refine g_top (nI_add _ _) ?_
      refine lv_dup2_11 hx hb dX5_leave_107 rfl rfl ?_
      have h50 : (4 * ci) + 1 < 40 := by omega
      refine g_iald hx hb hK hP (16) 0 ((4 * ci) + 1) (gx_l (SW_16 cy (ax 0) ad u49.1)) rfl (nI_clamp (by omega)) (vp_in_nI h50 (by decide)) dX5_leave_108 ?_
      refine lv_iconst (v := nI 1) hx hb dX5_leave_109 (by decide) ?_
      refine lv_iadd hx hb dX5_leave_110 ?_
      have h51 : (4 * ci) + 1 < 40 := by omega
      refine g_iast (σ1 := (up u49.1 16 ((4 * ci) + 1) ((u49.1 16 ((4 * ci) + 1)) + (nI 1)), u49.2)) hx hb hK hP hD hS (16) 0 ((4 * ci) + 1) (gx_l (SW_16 cy (ax 0) ad u49.1)) rfl (nI_clamp (by omega)) (vp_in_nI h51 (by decide)) (gx_setl (by rw [WD_len]; omega) (SW_16_set cy (ax 0) ad u49.1 ((4 * ci) + 1) _)) dX5_leave_111 ?_
      intro u52 eu52 H locs hP hD hS
      replace hf := hf.trans (ltt_r eu52)
      have k10_u52 : u52.1 10 = σ.1 10 := by rw [eu52]; exact keep_up rfl (by decide) k10_u49
      refine lv_aload_n hx hb dX5_leave_112 rfl (lv_at hl 3 rfl) ?_
      refine va_get (D := D) (ci := 5) (v := .ref (ad 3)) (C := RX5) (T := TX5) (N := 22) hx hb hts hin5 hown hK hP (0) (gx_l (SW_ob cy (ax 0) ad u52.1)) rfl 4 (by decide) wd3 (fun _ h9 => h9) rfl dX5_leave_113 ?_
      refine lv_iconst (v := nI 5) hx hb dX5_leave_116 (by decide) ?_
      refine lv_iload_n hx hb dX5_leave_117 rfl (lv_at hl 2 rfl) ?_
      refine lv_imul hx hb dX5_leave_118 ?_
      refine g_top (pk_mul _ _) ?_
      refine lv_dup2_11 hx hb dX5_leave_119 rfl rfl ?_
      have h53 : 5 * (tn (σ.1 11 ci)) < 40 := by omega
      refine g_iald hx hb hK hP (3) 0 (5 * (tn (σ.1 11 ci))) (gx_l (SW_3 cy (ax 0) ad u52.1)) rfl (nI_clamp (by omega)) (vp_in_nI h53 (by decide)) dX5_leave_120 ?_
      refine lv_iconst (v := nI 1) hx hb dX5_leave_121 (by decide) ?_
      refine lv_iadd hx hb dX5_leave_122 ?_
      have h54 : 5 * (tn (σ.1 11 ci)) < 40 := by omega
      refine g_iast (σ1 := (up u52.1 3 (5 * (tn (σ.1 11 ci))) ((u52.1 3 (5 * (tn (σ.1 11 ci)))) + (nI 1)), u52.2)) hx hb hK hP hD hS (3) 0 (5 * (tn (σ.1 11 ci))) (gx_l (SW_3 cy (ax 0) ad u52.1)) rfl (nI_clamp (by omega)) (vp_in_nI h54 (by decide)) (gx_setl (by rw [WD_len]; omega) (SW_3_set cy (ax 0) ad u52.1 (5 * (tn (σ.1 11 ci))) _)) dX5_leave_123 ?_
      intro u55 eu55 H locs hP hD hS
      replace hf := hf.trans (ltt_r eu55)
      have k10_u55 : u55.1 10 = σ.1 10 := by rw [eu55]; exact keep_up rfl (by decide) k10_u52
      refine lv_iconst (v := nI 1) hx hb dX5_leave_124 (by decide) ?_
      refine lv_istore (lv' := [(4, .int (nI 1)), (5, .int (nI (tn r37))), (3, .int (nI (tn (σ.1 11 ci)))), (0, .ref (ad 0)), (1, .int (nI ci)), (2, .int (nI now))]) hx hb dX5_leave_125 hl (by decide) rfl (fun ls hl => ?_)
      refine lv_goto (tgt := 172) hx hb dX5_leave_127 (by decide) ?_
      refine lv_aload_n hx hb dX5_leave_172 rfl (lv_at hl 3 rfl) ?_
      refine va_get (D := D) (ci := 5) (v := .ref (ad 12)) (C := RX5) (T := TX5) (N := 22) hx hb hts hin5 hown hK hP (0) (gx_l (SW_ob cy (ax 0) ad u55.1)) rfl 15 (by decide) wd4 (fun _ h9 => h9) rfl dX5_leave_173 ?_
      refine lv_iload_n hx hb dX5_leave_176 rfl (lv_at hl 4 rfl) ?_
      refine lv_iload_n hx hb dX5_leave_177 rfl (lv_at hl 2 rfl) ?_
      refine lv_aload_n hx hb dX5_leave_178 rfl (lv_at hl 3 rfl) ?_
      refine va_get (D := D) (ci := 5) (v := .ref (ad 10)) (C := RX5) (T := TX5) (N := 22) hx hb hts hin5 hown hK hP (0) (gx_l (SW_ob cy (ax 0) ad u55.1)) rfl 13 (by decide) wd5 (fun _ h9 => h9) rfl dX5_leave_179 ?_
      refine lv_iconst (v := nI 5) hx hb dX5_leave_182 (by decide) ?_
      refine lv_iload_n hx hb dX5_leave_183 rfl (lv_at hl 4 rfl) ?_
      refine lv_imul hx hb dX5_leave_184 ?_
      refine g_top (pk_mul _ _) ?_
      have h56 : 5 * ci < 50 := by omega
      refine g_iald hx hb hK hP (10) 0 (5 * ci) (gx_l (SW_10 cy (ax 0) ad u55.1)) rfl (nI_clamp (by omega)) (vp_in_nI h56 (by decide)) dX5_leave_185 ?_
      refine lv_icmp_ne (tgt := 202) hx hb dX5_leave_186 (by decide) (fun c57 => ?_) (fun c57 => ?_)
      · replace hf := hf.trans (if_neg c57)
        refine lv_aload_n hx hb dX5_leave_202 rfl (lv_at hl 3 rfl) ?_
        refine va_get (D := D) (ci := 5) (v := .ref (ad 10)) (C := RX5) (T := TX5) (N := 22) hx hb hts hin5 hown hK hP (0) (gx_l (SW_ob cy (ax 0) ad u55.1)) rfl 13 (by decide) wd5 (fun _ h9 => h9) rfl dX5_leave_203 ?_
        refine lv_iconst (v := nI 5) hx hb dX5_leave_206 (by decide) ?_
        refine lv_iload_n hx hb dX5_leave_207 rfl (lv_at hl 4 rfl) ?_
        refine lv_imul hx hb dX5_leave_208 ?_
        refine g_top (pk_mul _ _) ?_
        have h58 : 5 * ci < 50 := by omega
        refine g_iald hx hb hK hP (10) 0 (5 * ci) (gx_l (SW_10 cy (ax 0) ad u55.1)) rfl (nI_clamp (by omega)) (vp_in_nI h58 (by decide)) dX5_leave_209 ?_
        have h59 : ci < 10 := by omega
        refine g_iast (σ1 := (up u55.1 12 ci (u55.1 10 (5 * ci)), u55.2)) hx hb hK hP hD hS (12) 0 ci (gx_l (SW_12 cy (ax 0) ad u55.1)) rfl (nI_clamp (by omega)) (vp_in_nI h59 (by decide)) (gx_setl (by rw [WD_len]; omega) (SW_12_set cy (ax 0) ad u55.1 ci _)) dX5_leave_210 ?_
        intro u60 eu60 H locs hP hD hS
        replace hf := hf.trans (ltt_r eu60)
        have k10_u60 : u60.1 10 = σ.1 10 := by rw [eu60]; exact keep_up rfl (by decide) k10_u55
        refine lv_aload_n hx hb dX5_leave_211 rfl (lv_at hl 3 rfl) ?_
        refine va_get (D := D) (ci := 5) (v := .ref (ad 13)) (C := RX5) (T := TX5) (N := 22) hx hb hts hin5 hown hK hP (0) (gx_l (SW_ob cy (ax 0) ad u60.1)) rfl 16 (by decide) wd6 (fun _ h9 => h9) rfl dX5_leave_212 ?_
        refine lv_iload_n hx hb dX5_leave_215 rfl (lv_at hl 4 rfl) ?_
        refine lv_iconst (v := nI 1) hx hb dX5_leave_216 (by decide) ?_
        refine lv_aload_n hx hb dX5_leave_217 rfl (lv_at hl 3 rfl) ?_
        refine va_get (D := D) (ci := 5) (v := .ref (ad 1)) (C := RX5) (T := TX5) (N := 22) hx hb hts hin5 hown hK hP (0) (gx_l (SW_ob cy (ax 0) ad u60.1)) rfl 2 (by decide) wd7 (fun _ h9 => h9) rfl dX5_leave_218 ?_
        refine lv_iload_n hx hb dX5_leave_221 rfl (lv_at hl 2 rfl) ?_
        have h61 : tn (σ.1 11 ci) < 8 := by omega
        refine g_iald hx hb hK hP (1) 0 (tn (σ.1 11 ci)) (gx_l (SW_1 cy (ax 0) ad u60.1)) rfl (nI_clamp (by omega)) (vp_in_nI h61 (by decide)) dX5_leave_222 ?_
        refine lv_aload_n hx hb dX5_leave_223 rfl (lv_at hl 3 rfl) ?_
        refine va_get (D := D) (ci := 5) (v := .ref (ad 1)) (C := RX5) (T := TX5) (N := 22) hx hb hts hin5 hown hK hP (0) (gx_l (SW_ob cy (ax 0) ad u60.1)) rfl 2 (by decide) wd7 (fun _ h9 => h9) rfl dX5_leave_224 ?_
        refine lv_aload_n hx hb dX5_leave_227 rfl (lv_at hl 3 rfl) ?_
        refine va_get (D := D) (ci := 5) (v := .ref (ad 12)) (C := RX5) (T := TX5) (N := 22) hx hb hts hin5 hown hK hP (0) (gx_l (SW_ob cy (ax 0) ad u60.1)) rfl 15 (by decide) wd4 (fun _ h9 => h9) rfl dX5_leave_228 ?_
        refine lv_iload_n hx hb dX5_leave_231 rfl (lv_at hl 4 rfl) ?_
        have h62 : ci < 10 := by omega
        refine g_iald hx hb hK hP (12) 0 ci (gx_l (SW_12 cy (ax 0) ad u60.1)) rfl (nI_clamp (by omega)) (vp_in_nI h62 (by decide)) dX5_leave_232 ?_
        have h63 : vp_in (u60.1 12 ci) 8 := (by rw [eu60]; show vp_in (up _ 12 ci _ 12 ci) 8; rw [up_s, k10_u55]; first | exact hwo | exact hho)
        have h63b : tn (u60.1 12 ci) < 8 := tn_in h63
        refine g_iald hx hb hK hP (1) 0 (tn (u60.1 12 ci)) (gx_l (SW_1 cy (ax 0) ad u60.1)) rfl rfl h63 dX5_leave_233 ?_
        refine lv_isub hx hb dX5_leave_234 ?_
        refine va_mabs hx hb (hml.trans hl.1.symm) hown wd8 wd9 wd10 wd11 (Nat.le_of_ble_eq_true rfl) (Nat.le_of_ble_eq_true rfl) (Nat.le_of_ble_eq_true rfl) (Nat.le_of_ble_eq_true rfl) dX5_leave_235 ?_
        refine lv_bipush (v := nI 10) hx hb dX5_leave_238 (by decide) ?_
        refine lv_idiv hx hb dX5_leave_240 (by decide) ?_
        refine va_mmax hx hb (hml.trans hl.1.symm) hown wd12 wd13 wd10 wd14 (Nat.le_of_ble_eq_true rfl) (Nat.le_of_ble_eq_true rfl) (Nat.le_of_ble_eq_true rfl) (Nat.le_of_ble_eq_true rfl) dX5_leave_241 ?_
        have h64 : ci < 10 := by omega
        refine g_iast (σ1 := (up u60.1 13 ci (m_max (nI 1) ((m_abs ((u60.1 1 (tn (σ.1 11 ci))) - (u60.1 1 (tn (u60.1 12 ci))))) / (nI 10))), u60.2)) hx hb hK hP hD hS (13) 0 ci (gx_l (SW_13 cy (ax 0) ad u60.1)) rfl (nI_clamp (by omega)) (vp_in_nI h64 (by decide)) (gx_setl (by rw [WD_len]; omega) (SW_13_set cy (ax 0) ad u60.1 ci _)) dX5_leave_244 ?_
        intro u65 eu65 H locs hP hD hS
        replace hf := hf.trans (ltt_r eu65)
        have k10_u65 : u65.1 10 = σ.1 10 := by rw [eu65]; exact keep_up rfl (by decide) k10_u60
        refine lv_aload_n hx hb dX5_leave_245 rfl (lv_at hl 3 rfl) ?_
        refine va_get (D := D) (ci := 5) (v := .ref (ad 11)) (C := RX5) (T := TX5) (N := 22) hx hb hts hin5 hown hK hP (0) (gx_l (SW_ob cy (ax 0) ad u65.1)) rfl 14 (by decide) wd0 (fun _ h9 => h9) rfl dX5_leave_246 ?_
        refine lv_iload_n hx hb dX5_leave_249 rfl (lv_at hl 4 rfl) ?_
        refine lv_iconst (v := (-1 : Int32)) hx hb dX5_leave_250 (by decide) ?_
        have h66 : ci < 10 := by omega
        refine g_iast (σ1 := (up u65.1 11 ci (-1 : Int32), u65.2)) hx hb hK hP hD hS (11) 0 ci (gx_l (SW_11 cy (ax 0) ad u65.1)) rfl (nI_clamp (by omega)) (vp_in_nI h66 (by decide)) (gx_setl (by rw [WD_len]; omega) (SW_11_set cy (ax 0) ad u65.1 ci _)) dX5_leave_251 ?_
        intro u67 eu67 H locs hP hD hS
        replace hf := hf.trans (ltt_r eu67)
        have k10_u67 : u67.1 10 = σ.1 10 := by rw [eu67]; exact keep_up rfl (by decide) k10_u65
        refine lv_iload hx hb dX5_leave_252 (lv_at hl 0 rfl) ?_
        exact g_endi hx hb hr hlocks rfl hf hP hD hS (Nat.le_of_ble_eq_true rfl) (Nat.le_of_ble_eq_true rfl) dX5_leave_254
      · replace hf := hf.trans (if_pos c57)
        refine lv_aload_n hx hb dX5_leave_189 rfl (lv_at hl 3 rfl) ?_
        refine va_get (D := D) (ci := 5) (v := .ref (ad 10)) (C := RX5) (T := TX5) (N := 22) hx hb hts hin5 hown hK hP (0) (gx_l (SW_ob cy (ax 0) ad u55.1)) rfl 13 (by decide) wd5 (fun _ h9 => h9) rfl dX5_leave_190 ?_
        refine lv_iconst (v := nI 5) hx hb dX5_leave_193 (by decide) ?_
        refine lv_iload_n hx hb dX5_leave_194 rfl (lv_at hl 4 rfl) ?_
        refine lv_imul hx hb dX5_leave_195 ?_
        refine g_top (pk_mul _ _) ?_
        refine lv_iconst (v := nI 1) hx hb dX5_leave_196 (by decide) ?_
        refine lv_iadd hx hb dX5_leave_197 ?_
        refine g_top (nI_add _ _) ?_
        have h68 : (5 * ci) + 1 < 50 := by omega
        refine g_iald hx hb hK hP (10) 0 ((5 * ci) + 1) (gx_l (SW_10 cy (ax 0) ad u55.1)) rfl (nI_clamp (by omega)) (vp_in_nI h68 (by decide)) dX5_leave_198 ?_
        refine lv_goto (tgt := 210) hx hb dX5_leave_199 (by decide) ?_
        have h69 : ci < 10 := by omega
        refine g_iast (σ1 := (up u55.1 12 ci (u55.1 10 ((5 * ci) + 1)), u55.2)) hx hb hK hP hD hS (12) 0 ci (gx_l (SW_12 cy (ax 0) ad u55.1)) rfl (nI_clamp (by omega)) (vp_in_nI h69 (by decide)) (gx_setl (by rw [WD_len]; omega) (SW_12_set cy (ax 0) ad u55.1 ci _)) dX5_leave_210 ?_
        intro u70 eu70 H locs hP hD hS
        replace hf := hf.trans (ltt_r eu70)
        have k10_u70 : u70.1 10 = σ.1 10 := by rw [eu70]; exact keep_up rfl (by decide) k10_u55
        refine lv_aload_n hx hb dX5_leave_211 rfl (lv_at hl 3 rfl) ?_
        refine va_get (D := D) (ci := 5) (v := .ref (ad 13)) (C := RX5) (T := TX5) (N := 22) hx hb hts hin5 hown hK hP (0) (gx_l (SW_ob cy (ax 0) ad u70.1)) rfl 16 (by decide) wd6 (fun _ h9 => h9) rfl dX5_leave_212 ?_
        refine lv_iload_n hx hb dX5_leave_215 rfl (lv_at hl 4 rfl) ?_
        refine lv_iconst (v := nI 1) hx hb dX5_leave_216 (by decide) ?_
        refine lv_aload_n hx hb dX5_leave_217 rfl (lv_at hl 3 rfl) ?_
        refine va_get (D := D) (ci := 5) (v := .ref (ad 1)) (C := RX5) (T := TX5) (N := 22) hx hb hts hin5 hown hK hP (0) (gx_l (SW_ob cy (ax 0) ad u70.1)) rfl 2 (by decide) wd7 (fun _ h9 => h9) rfl dX5_leave_218 ?_
        refine lv_iload_n hx hb dX5_leave_221 rfl (lv_at hl 2 rfl) ?_
        have h71 : tn (σ.1 11 ci) < 8 := by omega
        refine g_iald hx hb hK hP (1) 0 (tn (σ.1 11 ci)) (gx_l (SW_1 cy (ax 0) ad u70.1)) rfl (nI_clamp (by omega)) (vp_in_nI h71 (by decide)) dX5_leave_222 ?_
        refine lv_aload_n hx hb dX5_leave_223 rfl (lv_at hl 3 rfl) ?_
        refine va_get (D := D) (ci := 5) (v := .ref (ad 1)) (C := RX5) (T := TX5) (N := 22) hx hb hts hin5 hown hK hP (0) (gx_l (SW_ob cy (ax 0) ad u70.1)) rfl 2 (by decide) wd7 (fun _ h9 => h9) rfl dX5_leave_224 ?_
        refine lv_aload_n hx hb dX5_leave_227 rfl (lv_at hl 3 rfl) ?_
        refine va_get (D := D) (ci := 5) (v := .ref (ad 12)) (C := RX5) (T := TX5) (N := 22) hx hb hts hin5 hown hK hP (0) (gx_l (SW_ob cy (ax 0) ad u70.1)) rfl 15 (by decide) wd4 (fun _ h9 => h9) rfl dX5_leave_228 ?_
        refine lv_iload_n hx hb dX5_leave_231 rfl (lv_at hl 4 rfl) ?_
        have h72 : ci < 10 := by omega
        refine g_iald hx hb hK hP (12) 0 ci (gx_l (SW_12 cy (ax 0) ad u70.1)) rfl (nI_clamp (by omega)) (vp_in_nI h72 (by decide)) dX5_leave_232 ?_
        have h73 : vp_in (u70.1 12 ci) 8 := (by rw [eu70]; show vp_in (up _ 12 ci _ 12 ci) 8; rw [up_s, k10_u55]; first | exact hwo | exact hho)
        have h73b : tn (u70.1 12 ci) < 8 := tn_in h73
        refine g_iald hx hb hK hP (1) 0 (tn (u70.1 12 ci)) (gx_l (SW_1 cy (ax 0) ad u70.1)) rfl rfl h73 dX5_leave_233 ?_
        refine lv_isub hx hb dX5_leave_234 ?_
        refine va_mabs hx hb (hml.trans hl.1.symm) hown wd8 wd9 wd10 wd11 (Nat.le_of_ble_eq_true rfl) (Nat.le_of_ble_eq_true rfl) (Nat.le_of_ble_eq_true rfl) (Nat.le_of_ble_eq_true rfl) dX5_leave_235 ?_
        refine lv_bipush (v := nI 10) hx hb dX5_leave_238 (by decide) ?_
        refine lv_idiv hx hb dX5_leave_240 (by decide) ?_
        refine va_mmax hx hb (hml.trans hl.1.symm) hown wd12 wd13 wd10 wd14 (Nat.le_of_ble_eq_true rfl) (Nat.le_of_ble_eq_true rfl) (Nat.le_of_ble_eq_true rfl) (Nat.le_of_ble_eq_true rfl) dX5_leave_241 ?_
        have h74 : ci < 10 := by omega
        refine g_iast (σ1 := (up u70.1 13 ci (m_max (nI 1) ((m_abs ((u70.1 1 (tn (σ.1 11 ci))) - (u70.1 1 (tn (u70.1 12 ci))))) / (nI 10))), u70.2)) hx hb hK hP hD hS (13) 0 ci (gx_l (SW_13 cy (ax 0) ad u70.1)) rfl (nI_clamp (by omega)) (vp_in_nI h74 (by decide)) (gx_setl (by rw [WD_len]; omega) (SW_13_set cy (ax 0) ad u70.1 ci _)) dX5_leave_244 ?_
        intro u75 eu75 H locs hP hD hS
        replace hf := hf.trans (ltt_r eu75)
        have k10_u75 : u75.1 10 = σ.1 10 := by rw [eu75]; exact keep_up rfl (by decide) k10_u70
        refine lv_aload_n hx hb dX5_leave_245 rfl (lv_at hl 3 rfl) ?_
        refine va_get (D := D) (ci := 5) (v := .ref (ad 11)) (C := RX5) (T := TX5) (N := 22) hx hb hts hin5 hown hK hP (0) (gx_l (SW_ob cy (ax 0) ad u75.1)) rfl 14 (by decide) wd0 (fun _ h9 => h9) rfl dX5_leave_246 ?_
        refine lv_iload_n hx hb dX5_leave_249 rfl (lv_at hl 4 rfl) ?_
        refine lv_iconst (v := (-1 : Int32)) hx hb dX5_leave_250 (by decide) ?_
        have h76 : ci < 10 := by omega
        refine g_iast (σ1 := (up u75.1 11 ci (-1 : Int32), u75.2)) hx hb hK hP hD hS (11) 0 ci (gx_l (SW_11 cy (ax 0) ad u75.1)) rfl (nI_clamp (by omega)) (vp_in_nI h76 (by decide)) (gx_setl (by rw [WD_len]; omega) (SW_11_set cy (ax 0) ad u75.1 ci _)) dX5_leave_251 ?_
        intro u77 eu77 H locs hP hD hS
        replace hf := hf.trans (ltt_r eu77)
        have k10_u77 : u77.1 10 = σ.1 10 := by rw [eu77]; exact keep_up rfl (by decide) k10_u75
        refine lv_iload hx hb dX5_leave_252 (lv_at hl 0 rfl) ?_
        exact g_endi hx hb hr hlocks rfl hf hP hD hS (Nat.le_of_ble_eq_true rfl) (Nat.le_of_ble_eq_true rfl) dX5_leave_254
  · replace hf := hf.trans (if_neg c3)
    refine lv_aload_n hx hb dX5_leave_22 rfl (lv_at hl 2 rfl) ?_
    refine va_get (D := D) (ci := 5) (v := .ref (ax 0)) (C := RX5) (T := TX5) (N := 22) hx hb hts hin5 hown hK hP (0) (gx_l (SW_ob cy (ax 0) ad σ.1)) rfl 21 (by decide) wd1 (fun _ h9 => h9) rfl dX5_leave_23 ?_
    refine va_getN (D := D) (ci := 6) (v := .ref (ax 1)) (C := RX6) (T := TX6) (N := 4) hx hb hts hin6 hown hK hP (17 + (0)) (gx_r (WD_len _ _ _ _) (OW_ob cy ax bs ba σ.2)) rfl 1 (by decide) (nl_rain hnw) (fun _ h9 => h9) rfl dX5_leave_26 ?_
    refine lv_iload_n hx hb dX5_leave_29 rfl (lv_at hl 4 rfl) ?_
    refine lv_iconst (v := nI 1) hx hb dX5_leave_30 (by decide) ?_
    refine lv_iadd hx hb dX5_leave_31 ?_
    refine g_top (nI_add _ _) ?_
    refine lv_bipush (v := nI 24) hx hb dX5_leave_32 (by decide) ?_
    refine lv_irem hx hb dX5_leave_34 (by decide) ?_
    refine g_top (nI_rem (now + 1) 24 (by omega) (by decide) (by decide)) ?_
    have h78 : (now + 1) % 24 < 24 := by omega
    refine g_iald hx hb hK hP (17 + (1)) 0 ((now + 1) % 24) (gx_r (WD_len _ _ _ _) (OW_rn cy ax bs ba σ.2)) rfl (nI_clamp (by omega)) (vp_in_nI h78 (by decide)) dX5_leave_35 ?_
    refine lv_if_le (tgt := 172) hx hb dX5_leave_36 (by decide) (fun c79 => ?_) (fun c79 => ?_)
    · replace hf := hf.trans (if_pos c79)
      refine lv_aload_n hx hb dX5_leave_172 rfl (lv_at hl 2 rfl) ?_
      refine va_get (D := D) (ci := 5) (v := .ref (ad 12)) (C := RX5) (T := TX5) (N := 22) hx hb hts hin5 hown hK hP (0) (gx_l (SW_ob cy (ax 0) ad σ.1)) rfl 15 (by decide) wd4 (fun _ h9 => h9) rfl dX5_leave_173 ?_
      refine lv_iload_n hx hb dX5_leave_176 rfl (lv_at hl 3 rfl) ?_
      refine lv_iload_n hx hb dX5_leave_177 rfl (lv_at hl 1 rfl) ?_
      refine lv_aload_n hx hb dX5_leave_178 rfl (lv_at hl 2 rfl) ?_
      refine va_get (D := D) (ci := 5) (v := .ref (ad 10)) (C := RX5) (T := TX5) (N := 22) hx hb hts hin5 hown hK hP (0) (gx_l (SW_ob cy (ax 0) ad σ.1)) rfl 13 (by decide) wd5 (fun _ h9 => h9) rfl dX5_leave_179 ?_
      refine lv_iconst (v := nI 5) hx hb dX5_leave_182 (by decide) ?_
      refine lv_iload_n hx hb dX5_leave_183 rfl (lv_at hl 3 rfl) ?_
      refine lv_imul hx hb dX5_leave_184 ?_
      refine g_top (pk_mul _ _) ?_
      have h80 : 5 * ci < 50 := by omega
      refine g_iald hx hb hK hP (10) 0 (5 * ci) (gx_l (SW_10 cy (ax 0) ad σ.1)) rfl (nI_clamp (by omega)) (vp_in_nI h80 (by decide)) dX5_leave_185 ?_
      refine lv_icmp_ne (tgt := 202) hx hb dX5_leave_186 (by decide) (fun c81 => ?_) (fun c81 => ?_)
      · replace hf := hf.trans (if_neg c81)
        refine lv_aload_n hx hb dX5_leave_202 rfl (lv_at hl 2 rfl) ?_
        refine va_get (D := D) (ci := 5) (v := .ref (ad 10)) (C := RX5) (T := TX5) (N := 22) hx hb hts hin5 hown hK hP (0) (gx_l (SW_ob cy (ax 0) ad σ.1)) rfl 13 (by decide) wd5 (fun _ h9 => h9) rfl dX5_leave_203 ?_
        refine lv_iconst (v := nI 5) hx hb dX5_leave_206 (by decide) ?_
        refine lv_iload_n hx hb dX5_leave_207 rfl (lv_at hl 3 rfl) ?_
        refine lv_imul hx hb dX5_leave_208 ?_
        refine g_top (pk_mul _ _) ?_
        have h82 : 5 * ci < 50 := by omega
        refine g_iald hx hb hK hP (10) 0 (5 * ci) (gx_l (SW_10 cy (ax 0) ad σ.1)) rfl (nI_clamp (by omega)) (vp_in_nI h82 (by decide)) dX5_leave_209 ?_
        have h83 : ci < 10 := by omega
        refine g_iast (σ1 := (up σ.1 12 ci (σ.1 10 (5 * ci)), σ.2)) hx hb hK hP hD hS (12) 0 ci (gx_l (SW_12 cy (ax 0) ad σ.1)) rfl (nI_clamp (by omega)) (vp_in_nI h83 (by decide)) (gx_setl (by rw [WD_len]; omega) (SW_12_set cy (ax 0) ad σ.1 ci _)) dX5_leave_210 ?_
        intro u84 eu84 H locs hP hD hS
        replace hf := hf.trans (ltt_r eu84)
        have k10_u84 : u84.1 10 = σ.1 10 := by rw [eu84]; exact keep_up rfl (by decide) k10_0
        refine lv_aload_n hx hb dX5_leave_211 rfl (lv_at hl 2 rfl) ?_
        refine va_get (D := D) (ci := 5) (v := .ref (ad 13)) (C := RX5) (T := TX5) (N := 22) hx hb hts hin5 hown hK hP (0) (gx_l (SW_ob cy (ax 0) ad u84.1)) rfl 16 (by decide) wd6 (fun _ h9 => h9) rfl dX5_leave_212 ?_
        refine lv_iload_n hx hb dX5_leave_215 rfl (lv_at hl 3 rfl) ?_
        refine lv_iconst (v := nI 1) hx hb dX5_leave_216 (by decide) ?_
        refine lv_aload_n hx hb dX5_leave_217 rfl (lv_at hl 2 rfl) ?_
        refine va_get (D := D) (ci := 5) (v := .ref (ad 1)) (C := RX5) (T := TX5) (N := 22) hx hb hts hin5 hown hK hP (0) (gx_l (SW_ob cy (ax 0) ad u84.1)) rfl 2 (by decide) wd7 (fun _ h9 => h9) rfl dX5_leave_218 ?_
        refine lv_iload_n hx hb dX5_leave_221 rfl (lv_at hl 1 rfl) ?_
        have h85 : tn (σ.1 11 ci) < 8 := by omega
        refine g_iald hx hb hK hP (1) 0 (tn (σ.1 11 ci)) (gx_l (SW_1 cy (ax 0) ad u84.1)) rfl (nI_clamp (by omega)) (vp_in_nI h85 (by decide)) dX5_leave_222 ?_
        refine lv_aload_n hx hb dX5_leave_223 rfl (lv_at hl 2 rfl) ?_
        refine va_get (D := D) (ci := 5) (v := .ref (ad 1)) (C := RX5) (T := TX5) (N := 22) hx hb hts hin5 hown hK hP (0) (gx_l (SW_ob cy (ax 0) ad u84.1)) rfl 2 (by decide) wd7 (fun _ h9 => h9) rfl dX5_leave_224 ?_
        refine lv_aload_n hx hb dX5_leave_227 rfl (lv_at hl 2 rfl) ?_
        refine va_get (D := D) (ci := 5) (v := .ref (ad 12)) (C := RX5) (T := TX5) (N := 22) hx hb hts hin5 hown hK hP (0) (gx_l (SW_ob cy (ax 0) ad u84.1)) rfl 15 (by decide) wd4 (fun _ h9 => h9) rfl dX5_leave_228 ?_
        refine lv_iload_n hx hb dX5_leave_231 rfl (lv_at hl 3 rfl) ?_
        have h86 : ci < 10 := by omega
        refine g_iald hx hb hK hP (12) 0 ci (gx_l (SW_12 cy (ax 0) ad u84.1)) rfl (nI_clamp (by omega)) (vp_in_nI h86 (by decide)) dX5_leave_232 ?_
        have h87 : vp_in (u84.1 12 ci) 8 := (by rw [eu84]; show vp_in (up _ 12 ci _ 12 ci) 8; rw [up_s, k10_0]; first | exact hwo | exact hho)
        have h87b : tn (u84.1 12 ci) < 8 := tn_in h87
        refine g_iald hx hb hK hP (1) 0 (tn (u84.1 12 ci)) (gx_l (SW_1 cy (ax 0) ad u84.1)) rfl rfl h87 dX5_leave_233 ?_
        refine lv_isub hx hb dX5_leave_234 ?_
        refine va_mabs hx hb (hml.trans hl.1.symm) hown wd8 wd9 wd10 wd11 (Nat.le_of_ble_eq_true rfl) (Nat.le_of_ble_eq_true rfl) (Nat.le_of_ble_eq_true rfl) (Nat.le_of_ble_eq_true rfl) dX5_leave_235 ?_
        refine lv_bipush (v := nI 10) hx hb dX5_leave_238 (by decide) ?_
        refine lv_idiv hx hb dX5_leave_240 (by decide) ?_
        refine va_mmax hx hb (hml.trans hl.1.symm) hown wd12 wd13 wd10 wd14 (Nat.le_of_ble_eq_true rfl) (Nat.le_of_ble_eq_true rfl) (Nat.le_of_ble_eq_true rfl) (Nat.le_of_ble_eq_true rfl) dX5_leave_241 ?_
        have h88 : ci < 10 := by omega
        refine g_iast (σ1 := (up u84.1 13 ci (m_max (nI 1) ((m_abs ((u84.1 1 (tn (σ.1 11 ci))) - (u84.1 1 (tn (u84.1 12 ci))))) / (nI 10))), u84.2)) hx hb hK hP hD hS (13) 0 ci (gx_l (SW_13 cy (ax 0) ad u84.1)) rfl (nI_clamp (by omega)) (vp_in_nI h88 (by decide)) (gx_setl (by rw [WD_len]; omega) (SW_13_set cy (ax 0) ad u84.1 ci _)) dX5_leave_244 ?_
        intro u89 eu89 H locs hP hD hS
        replace hf := hf.trans (ltt_r eu89)
        have k10_u89 : u89.1 10 = σ.1 10 := by rw [eu89]; exact keep_up rfl (by decide) k10_u84
        refine lv_aload_n hx hb dX5_leave_245 rfl (lv_at hl 2 rfl) ?_
        refine va_get (D := D) (ci := 5) (v := .ref (ad 11)) (C := RX5) (T := TX5) (N := 22) hx hb hts hin5 hown hK hP (0) (gx_l (SW_ob cy (ax 0) ad u89.1)) rfl 14 (by decide) wd0 (fun _ h9 => h9) rfl dX5_leave_246 ?_
        refine lv_iload_n hx hb dX5_leave_249 rfl (lv_at hl 3 rfl) ?_
        refine lv_iconst (v := (-1 : Int32)) hx hb dX5_leave_250 (by decide) ?_
        have h90 : ci < 10 := by omega
        refine g_iast (σ1 := (up u89.1 11 ci (-1 : Int32), u89.2)) hx hb hK hP hD hS (11) 0 ci (gx_l (SW_11 cy (ax 0) ad u89.1)) rfl (nI_clamp (by omega)) (vp_in_nI h90 (by decide)) (gx_setl (by rw [WD_len]; omega) (SW_11_set cy (ax 0) ad u89.1 ci _)) dX5_leave_251 ?_
        intro u91 eu91 H locs hP hD hS
        replace hf := hf.trans (ltt_r eu91)
        have k10_u91 : u91.1 10 = σ.1 10 := by rw [eu91]; exact keep_up rfl (by decide) k10_u89
        refine lv_iload hx hb dX5_leave_252 (lv_at hl 0 rfl) ?_
        exact g_endi hx hb hr hlocks rfl hf hP hD hS (Nat.le_of_ble_eq_true rfl) (Nat.le_of_ble_eq_true rfl) dX5_leave_254
      · replace hf := hf.trans (if_pos c81)
        refine lv_aload_n hx hb dX5_leave_189 rfl (lv_at hl 2 rfl) ?_
        refine va_get (D := D) (ci := 5) (v := .ref (ad 10)) (C := RX5) (T := TX5) (N := 22) hx hb hts hin5 hown hK hP (0) (gx_l (SW_ob cy (ax 0) ad σ.1)) rfl 13 (by decide) wd5 (fun _ h9 => h9) rfl dX5_leave_190 ?_
        refine lv_iconst (v := nI 5) hx hb dX5_leave_193 (by decide) ?_
        refine lv_iload_n hx hb dX5_leave_194 rfl (lv_at hl 3 rfl) ?_
        refine lv_imul hx hb dX5_leave_195 ?_
        refine g_top (pk_mul _ _) ?_
        refine lv_iconst (v := nI 1) hx hb dX5_leave_196 (by decide) ?_
        refine lv_iadd hx hb dX5_leave_197 ?_
        refine g_top (nI_add _ _) ?_
        have h92 : (5 * ci) + 1 < 50 := by omega
        refine g_iald hx hb hK hP (10) 0 ((5 * ci) + 1) (gx_l (SW_10 cy (ax 0) ad σ.1)) rfl (nI_clamp (by omega)) (vp_in_nI h92 (by decide)) dX5_leave_198 ?_
        refine lv_goto (tgt := 210) hx hb dX5_leave_199 (by decide) ?_
        have h93 : ci < 10 := by omega
        refine g_iast (σ1 := (up σ.1 12 ci (σ.1 10 ((5 * ci) + 1)), σ.2)) hx hb hK hP hD hS (12) 0 ci (gx_l (SW_12 cy (ax 0) ad σ.1)) rfl (nI_clamp (by omega)) (vp_in_nI h93 (by decide)) (gx_setl (by rw [WD_len]; omega) (SW_12_set cy (ax 0) ad σ.1 ci _)) dX5_leave_210 ?_
        intro u94 eu94 H locs hP hD hS
        replace hf := hf.trans (ltt_r eu94)
        have k10_u94 : u94.1 10 = σ.1 10 := by rw [eu94]; exact keep_up rfl (by decide) k10_0
        refine lv_aload_n hx hb dX5_leave_211 rfl (lv_at hl 2 rfl) ?_
        refine va_get (D := D) (ci := 5) (v := .ref (ad 13)) (C := RX5) (T := TX5) (N := 22) hx hb hts hin5 hown hK hP (0) (gx_l (SW_ob cy (ax 0) ad u94.1)) rfl 16 (by decide) wd6 (fun _ h9 => h9) rfl dX5_leave_212 ?_
        refine lv_iload_n hx hb dX5_leave_215 rfl (lv_at hl 3 rfl) ?_
        refine lv_iconst (v := nI 1) hx hb dX5_leave_216 (by decide) ?_
        refine lv_aload_n hx hb dX5_leave_217 rfl (lv_at hl 2 rfl) ?_
        refine va_get (D := D) (ci := 5) (v := .ref (ad 1)) (C := RX5) (T := TX5) (N := 22) hx hb hts hin5 hown hK hP (0) (gx_l (SW_ob cy (ax 0) ad u94.1)) rfl 2 (by decide) wd7 (fun _ h9 => h9) rfl dX5_leave_218 ?_
        refine lv_iload_n hx hb dX5_leave_221 rfl (lv_at hl 1 rfl) ?_
        have h95 : tn (σ.1 11 ci) < 8 := by omega
        refine g_iald hx hb hK hP (1) 0 (tn (σ.1 11 ci)) (gx_l (SW_1 cy (ax 0) ad u94.1)) rfl (nI_clamp (by omega)) (vp_in_nI h95 (by decide)) dX5_leave_222 ?_
        refine lv_aload_n hx hb dX5_leave_223 rfl (lv_at hl 2 rfl) ?_
        refine va_get (D := D) (ci := 5) (v := .ref (ad 1)) (C := RX5) (T := TX5) (N := 22) hx hb hts hin5 hown hK hP (0) (gx_l (SW_ob cy (ax 0) ad u94.1)) rfl 2 (by decide) wd7 (fun _ h9 => h9) rfl dX5_leave_224 ?_
        refine lv_aload_n hx hb dX5_leave_227 rfl (lv_at hl 2 rfl) ?_
        refine va_get (D := D) (ci := 5) (v := .ref (ad 12)) (C := RX5) (T := TX5) (N := 22) hx hb hts hin5 hown hK hP (0) (gx_l (SW_ob cy (ax 0) ad u94.1)) rfl 15 (by decide) wd4 (fun _ h9 => h9) rfl dX5_leave_228 ?_
        refine lv_iload_n hx hb dX5_leave_231 rfl (lv_at hl 3 rfl) ?_
        have h96 : ci < 10 := by omega
        refine g_iald hx hb hK hP (12) 0 ci (gx_l (SW_12 cy (ax 0) ad u94.1)) rfl (nI_clamp (by omega)) (vp_in_nI h96 (by decide)) dX5_leave_232 ?_
        have h97 : vp_in (u94.1 12 ci) 8 := (by rw [eu94]; show vp_in (up _ 12 ci _ 12 ci) 8; rw [up_s, k10_0]; first | exact hwo | exact hho)
        have h97b : tn (u94.1 12 ci) < 8 := tn_in h97
        refine g_iald hx hb hK hP (1) 0 (tn (u94.1 12 ci)) (gx_l (SW_1 cy (ax 0) ad u94.1)) rfl rfl h97 dX5_leave_233 ?_
        refine lv_isub hx hb dX5_leave_234 ?_
        refine va_mabs hx hb (hml.trans hl.1.symm) hown wd8 wd9 wd10 wd11 (Nat.le_of_ble_eq_true rfl) (Nat.le_of_ble_eq_true rfl) (Nat.le_of_ble_eq_true rfl) (Nat.le_of_ble_eq_true rfl) dX5_leave_235 ?_
        refine lv_bipush (v := nI 10) hx hb dX5_leave_238 (by decide) ?_
        refine lv_idiv hx hb dX5_leave_240 (by decide) ?_
        refine va_mmax hx hb (hml.trans hl.1.symm) hown wd12 wd13 wd10 wd14 (Nat.le_of_ble_eq_true rfl) (Nat.le_of_ble_eq_true rfl) (Nat.le_of_ble_eq_true rfl) (Nat.le_of_ble_eq_true rfl) dX5_leave_241 ?_
        have h98 : ci < 10 := by omega
        refine g_iast (σ1 := (up u94.1 13 ci (m_max (nI 1) ((m_abs ((u94.1 1 (tn (σ.1 11 ci))) - (u94.1 1 (tn (u94.1 12 ci))))) / (nI 10))), u94.2)) hx hb hK hP hD hS (13) 0 ci (gx_l (SW_13 cy (ax 0) ad u94.1)) rfl (nI_clamp (by omega)) (vp_in_nI h98 (by decide)) (gx_setl (by rw [WD_len]; omega) (SW_13_set cy (ax 0) ad u94.1 ci _)) dX5_leave_244 ?_
        intro u99 eu99 H locs hP hD hS
        replace hf := hf.trans (ltt_r eu99)
        have k10_u99 : u99.1 10 = σ.1 10 := by rw [eu99]; exact keep_up rfl (by decide) k10_u94
        refine lv_aload_n hx hb dX5_leave_245 rfl (lv_at hl 2 rfl) ?_
        refine va_get (D := D) (ci := 5) (v := .ref (ad 11)) (C := RX5) (T := TX5) (N := 22) hx hb hts hin5 hown hK hP (0) (gx_l (SW_ob cy (ax 0) ad u99.1)) rfl 14 (by decide) wd0 (fun _ h9 => h9) rfl dX5_leave_246 ?_
        refine lv_iload_n hx hb dX5_leave_249 rfl (lv_at hl 3 rfl) ?_
        refine lv_iconst (v := (-1 : Int32)) hx hb dX5_leave_250 (by decide) ?_
        have h100 : ci < 10 := by omega
        refine g_iast (σ1 := (up u99.1 11 ci (-1 : Int32), u99.2)) hx hb hK hP hD hS (11) 0 ci (gx_l (SW_11 cy (ax 0) ad u99.1)) rfl (nI_clamp (by omega)) (vp_in_nI h100 (by decide)) (gx_setl (by rw [WD_len]; omega) (SW_11_set cy (ax 0) ad u99.1 ci _)) dX5_leave_251 ?_
        intro u101 eu101 H locs hP hD hS
        replace hf := hf.trans (ltt_r eu101)
        have k10_u101 : u101.1 10 = σ.1 10 := by rw [eu101]; exact keep_up rfl (by decide) k10_u99
        refine lv_iload hx hb dX5_leave_252 (lv_at hl 0 rfl) ?_
        exact g_endi hx hb hr hlocks rfl hf hP hD hS (Nat.le_of_ble_eq_true rfl) (Nat.le_of_ble_eq_true rfl) dX5_leave_254
    · replace hf := hf.trans (if_neg c79)
      refine lv_aload_n hx hb dX5_leave_39 rfl (lv_at hl 2 rfl) ?_
      refine lv_iload_n hx hb dX5_leave_40 rfl (lv_at hl 3 rfl) ?_
      refine lv_iload_n hx hb dX5_leave_41 rfl (lv_at hl 1 rfl) ?_
      refine g_callr (q0 := 0) (wf := (PW cy ax bs ba ad)) (σ := σ) (wfc := (SW cy (ax 0) ad)) (σc := σ.1) hx hb hml hown hts hK hP hD hS hA hl.1 (OW cy ax bs ba (σ.2)) (List.Perm.refl _) [.int (nI ci), .int (nI (tn (σ.1 11 ci)))] (c_X5_wouldGet l D cy (ax 0) ad σ.1 ci (tn (σ.1 11 ci)) (by omega) (by omega) hI) (cwV 2 hts gX5_leave_X5_wouldGet rfl rfl rfl (by decide +kernel) ⟨Nat.le_of_ble_eq_true rfl, Nat.le_of_ble_eq_true rfl⟩) (gx_l (SW_ob cy (ax 0) ad σ.1)) rfl rfl rfl rfl (Nat.le_of_ble_eq_true rfl) dX5_leave_42 ⟨Nat.le_of_ble_eq_true rfl, Nat.le_of_ble_eq_true rfl⟩ rfl rfl ?_
      intro r102 er102 H locs hP hD hS
      replace hf := hf.trans (ltt_r er102)
      refine lv_if_eq (tgt := 130) hx hb dX5_leave_45 (by decide) (fun c103 => ?_) (fun c103 => ?_)
      · replace hf := hf.trans (if_pos c103)
        refine lv_aload_n hx hb dX5_leave_130 rfl (lv_at hl 2 rfl) ?_
        refine va_get (D := D) (ci := 5) (v := .ref (ad 16)) (C := RX5) (T := TX5) (N := 22) hx hb hts hin5 hown hK hP (0) (gx_l (SW_ob cy (ax 0) ad σ.1)) rfl 19 (by decide) wd2 (fun _ h9 => h9) rfl dX5_leave_131 ?_
        refine lv_iconst (v := nI 4) hx hb dX5_leave_134 (by decide) ?_
        refine lv_iload_n hx hb dX5_leave_135 rfl (lv_at hl 3 rfl) ?_
        refine lv_imul hx hb dX5_leave_136 ?_
        refine g_top (pk_mul _ _) ?_
        refine lv_iconst (v := nI 3) hx hb dX5_leave_137 (by decide) ?_
        refine lv_iadd hx hb dX5_leave_138 ?_
        refine g_top (nI_add _ _) ?_
        refine lv_dup2_11 hx hb dX5_leave_139 rfl rfl ?_
        have h104 : (4 * ci) + 3 < 40 := by omega
        refine g_iald hx hb hK hP (16) 0 ((4 * ci) + 3) (gx_l (SW_16 cy (ax 0) ad σ.1)) rfl (nI_clamp (by omega)) (vp_in_nI h104 (by decide)) dX5_leave_140 ?_
        refine lv_iconst (v := nI 1) hx hb dX5_leave_141 (by decide) ?_
        refine lv_iadd hx hb dX5_leave_142 ?_
        have h105 : (4 * ci) + 3 < 40 := by omega
        refine g_iast (σ1 := (up σ.1 16 ((4 * ci) + 3) ((σ.1 16 ((4 * ci) + 3)) + (nI 1)), σ.2)) hx hb hK hP hD hS (16) 0 ((4 * ci) + 3) (gx_l (SW_16 cy (ax 0) ad σ.1)) rfl (nI_clamp (by omega)) (vp_in_nI h105 (by decide)) (gx_setl (by rw [WD_len]; omega) (SW_16_set cy (ax 0) ad σ.1 ((4 * ci) + 3) _)) dX5_leave_143 ?_
        intro u106 eu106 H locs hP hD hS
        replace hf := hf.trans (ltt_r eu106)
        have k10_u106 : u106.1 10 = σ.1 10 := by rw [eu106]; exact keep_up rfl (by decide) k10_0
        refine lv_aload_n hx hb dX5_leave_144 rfl (lv_at hl 2 rfl) ?_
        refine va_get (D := D) (ci := 5) (v := .ref (ad 3)) (C := RX5) (T := TX5) (N := 22) hx hb hts hin5 hown hK hP (0) (gx_l (SW_ob cy (ax 0) ad u106.1)) rfl 4 (by decide) wd3 (fun _ h9 => h9) rfl dX5_leave_145 ?_
        refine lv_iconst (v := nI 5) hx hb dX5_leave_148 (by decide) ?_
        refine lv_iload_n hx hb dX5_leave_149 rfl (lv_at hl 1 rfl) ?_
        refine lv_imul hx hb dX5_leave_150 ?_
        refine g_top (pk_mul _ _) ?_
        refine lv_iconst (v := nI 2) hx hb dX5_leave_151 (by decide) ?_
        refine lv_iadd hx hb dX5_leave_152 ?_
        refine g_top (nI_add _ _) ?_
        refine lv_dup2_11 hx hb dX5_leave_153 rfl rfl ?_
        have h107 : (5 * (tn (σ.1 11 ci))) + 2 < 40 := by omega
        refine g_iald hx hb hK hP (3) 0 ((5 * (tn (σ.1 11 ci))) + 2) (gx_l (SW_3 cy (ax 0) ad u106.1)) rfl (nI_clamp (by omega)) (vp_in_nI h107 (by decide)) dX5_leave_154 ?_
        refine lv_iconst (v := nI 1) hx hb dX5_leave_155 (by decide) ?_
        refine lv_iadd hx hb dX5_leave_156 ?_
        have h108 : (5 * (tn (σ.1 11 ci))) + 2 < 40 := by omega
        refine g_iast (σ1 := (up u106.1 3 ((5 * (tn (σ.1 11 ci))) + 2) ((u106.1 3 ((5 * (tn (σ.1 11 ci))) + 2)) + (nI 1)), u106.2)) hx hb hK hP hD hS (3) 0 ((5 * (tn (σ.1 11 ci))) + 2) (gx_l (SW_3 cy (ax 0) ad u106.1)) rfl (nI_clamp (by omega)) (vp_in_nI h108 (by decide)) (gx_setl (by rw [WD_len]; omega) (SW_3_set cy (ax 0) ad u106.1 ((5 * (tn (σ.1 11 ci))) + 2) _)) dX5_leave_157 ?_
        intro u109 eu109 H locs hP hD hS
        replace hf := hf.trans (ltt_r eu109)
        have k10_u109 : u109.1 10 = σ.1 10 := by rw [eu109]; exact keep_up rfl (by decide) k10_u106
        refine lv_aload_n hx hb dX5_leave_158 rfl (lv_at hl 2 rfl) ?_
        refine va_get (D := D) (ci := 5) (v := .ref (ad 3)) (C := RX5) (T := TX5) (N := 22) hx hb hts hin5 hown hK hP (0) (gx_l (SW_ob cy (ax 0) ad u109.1)) rfl 4 (by decide) wd3 (fun _ h9 => h9) rfl dX5_leave_159 ?_
        refine lv_iconst (v := nI 5) hx hb dX5_leave_162 (by decide) ?_
        refine lv_iload_n hx hb dX5_leave_163 rfl (lv_at hl 1 rfl) ?_
        refine lv_imul hx hb dX5_leave_164 ?_
        refine g_top (pk_mul _ _) ?_
        refine lv_iconst (v := nI 4) hx hb dX5_leave_165 (by decide) ?_
        refine lv_iadd hx hb dX5_leave_166 ?_
        refine g_top (nI_add _ _) ?_
        refine lv_dup2_11 hx hb dX5_leave_167 rfl rfl ?_
        have h110 : (5 * (tn (σ.1 11 ci))) + 4 < 40 := by omega
        refine g_iald hx hb hK hP (3) 0 ((5 * (tn (σ.1 11 ci))) + 4) (gx_l (SW_3 cy (ax 0) ad u109.1)) rfl (nI_clamp (by omega)) (vp_in_nI h110 (by decide)) dX5_leave_168 ?_
        refine lv_iconst (v := nI 1) hx hb dX5_leave_169 (by decide) ?_
        refine lv_iadd hx hb dX5_leave_170 ?_
        have h111 : (5 * (tn (σ.1 11 ci))) + 4 < 40 := by omega
        refine g_iast (σ1 := (up u109.1 3 ((5 * (tn (σ.1 11 ci))) + 4) ((u109.1 3 ((5 * (tn (σ.1 11 ci))) + 4)) + (nI 1)), u109.2)) hx hb hK hP hD hS (3) 0 ((5 * (tn (σ.1 11 ci))) + 4) (gx_l (SW_3 cy (ax 0) ad u109.1)) rfl (nI_clamp (by omega)) (vp_in_nI h111 (by decide)) (gx_setl (by rw [WD_len]; omega) (SW_3_set cy (ax 0) ad u109.1 ((5 * (tn (σ.1 11 ci))) + 4) _)) dX5_leave_171 ?_
        intro u112 eu112 H locs hP hD hS
        replace hf := hf.trans (ltt_r eu112)
        have k10_u112 : u112.1 10 = σ.1 10 := by rw [eu112]; exact keep_up rfl (by decide) k10_u109
        refine lv_aload_n hx hb dX5_leave_172 rfl (lv_at hl 2 rfl) ?_
        refine va_get (D := D) (ci := 5) (v := .ref (ad 12)) (C := RX5) (T := TX5) (N := 22) hx hb hts hin5 hown hK hP (0) (gx_l (SW_ob cy (ax 0) ad u112.1)) rfl 15 (by decide) wd4 (fun _ h9 => h9) rfl dX5_leave_173 ?_
        refine lv_iload_n hx hb dX5_leave_176 rfl (lv_at hl 3 rfl) ?_
        refine lv_iload_n hx hb dX5_leave_177 rfl (lv_at hl 1 rfl) ?_
        refine lv_aload_n hx hb dX5_leave_178 rfl (lv_at hl 2 rfl) ?_
        refine va_get (D := D) (ci := 5) (v := .ref (ad 10)) (C := RX5) (T := TX5) (N := 22) hx hb hts hin5 hown hK hP (0) (gx_l (SW_ob cy (ax 0) ad u112.1)) rfl 13 (by decide) wd5 (fun _ h9 => h9) rfl dX5_leave_179 ?_
        refine lv_iconst (v := nI 5) hx hb dX5_leave_182 (by decide) ?_
        refine lv_iload_n hx hb dX5_leave_183 rfl (lv_at hl 3 rfl) ?_
        refine lv_imul hx hb dX5_leave_184 ?_
        refine g_top (pk_mul _ _) ?_
        have h113 : 5 * ci < 50 := by omega
        refine g_iald hx hb hK hP (10) 0 (5 * ci) (gx_l (SW_10 cy (ax 0) ad u112.1)) rfl (nI_clamp (by omega)) (vp_in_nI h113 (by decide)) dX5_leave_185 ?_
        refine lv_icmp_ne (tgt := 202) hx hb dX5_leave_186 (by decide) (fun c114 => ?_) (fun c114 => ?_)
        · replace hf := hf.trans (if_neg c114)
          refine lv_aload_n hx hb dX5_leave_202 rfl (lv_at hl 2 rfl) ?_
          refine va_get (D := D) (ci := 5) (v := .ref (ad 10)) (C := RX5) (T := TX5) (N := 22) hx hb hts hin5 hown hK hP (0) (gx_l (SW_ob cy (ax 0) ad u112.1)) rfl 13 (by decide) wd5 (fun _ h9 => h9) rfl dX5_leave_203 ?_
          refine lv_iconst (v := nI 5) hx hb dX5_leave_206 (by decide) ?_
          refine lv_iload_n hx hb dX5_leave_207 rfl (lv_at hl 3 rfl) ?_
          refine lv_imul hx hb dX5_leave_208 ?_
          refine g_top (pk_mul _ _) ?_
          have h115 : 5 * ci < 50 := by omega
          refine g_iald hx hb hK hP (10) 0 (5 * ci) (gx_l (SW_10 cy (ax 0) ad u112.1)) rfl (nI_clamp (by omega)) (vp_in_nI h115 (by decide)) dX5_leave_209 ?_
          have h116 : ci < 10 := by omega
          refine g_iast (σ1 := (up u112.1 12 ci (u112.1 10 (5 * ci)), u112.2)) hx hb hK hP hD hS (12) 0 ci (gx_l (SW_12 cy (ax 0) ad u112.1)) rfl (nI_clamp (by omega)) (vp_in_nI h116 (by decide)) (gx_setl (by rw [WD_len]; omega) (SW_12_set cy (ax 0) ad u112.1 ci _)) dX5_leave_210 ?_
          intro u117 eu117 H locs hP hD hS
          replace hf := hf.trans (ltt_r eu117)
          have k10_u117 : u117.1 10 = σ.1 10 := by rw [eu117]; exact keep_up rfl (by decide) k10_u112
          refine lv_aload_n hx hb dX5_leave_211 rfl (lv_at hl 2 rfl) ?_
          refine va_get (D := D) (ci := 5) (v := .ref (ad 13)) (C := RX5) (T := TX5) (N := 22) hx hb hts hin5 hown hK hP (0) (gx_l (SW_ob cy (ax 0) ad u117.1)) rfl 16 (by decide) wd6 (fun _ h9 => h9) rfl dX5_leave_212 ?_
          refine lv_iload_n hx hb dX5_leave_215 rfl (lv_at hl 3 rfl) ?_
          refine lv_iconst (v := nI 1) hx hb dX5_leave_216 (by decide) ?_
          refine lv_aload_n hx hb dX5_leave_217 rfl (lv_at hl 2 rfl) ?_
          refine va_get (D := D) (ci := 5) (v := .ref (ad 1)) (C := RX5) (T := TX5) (N := 22) hx hb hts hin5 hown hK hP (0) (gx_l (SW_ob cy (ax 0) ad u117.1)) rfl 2 (by decide) wd7 (fun _ h9 => h9) rfl dX5_leave_218 ?_
          refine lv_iload_n hx hb dX5_leave_221 rfl (lv_at hl 1 rfl) ?_
          have h118 : tn (σ.1 11 ci) < 8 := by omega
          refine g_iald hx hb hK hP (1) 0 (tn (σ.1 11 ci)) (gx_l (SW_1 cy (ax 0) ad u117.1)) rfl (nI_clamp (by omega)) (vp_in_nI h118 (by decide)) dX5_leave_222 ?_
          refine lv_aload_n hx hb dX5_leave_223 rfl (lv_at hl 2 rfl) ?_
          refine va_get (D := D) (ci := 5) (v := .ref (ad 1)) (C := RX5) (T := TX5) (N := 22) hx hb hts hin5 hown hK hP (0) (gx_l (SW_ob cy (ax 0) ad u117.1)) rfl 2 (by decide) wd7 (fun _ h9 => h9) rfl dX5_leave_224 ?_
          refine lv_aload_n hx hb dX5_leave_227 rfl (lv_at hl 2 rfl) ?_
          refine va_get (D := D) (ci := 5) (v := .ref (ad 12)) (C := RX5) (T := TX5) (N := 22) hx hb hts hin5 hown hK hP (0) (gx_l (SW_ob cy (ax 0) ad u117.1)) rfl 15 (by decide) wd4 (fun _ h9 => h9) rfl dX5_leave_228 ?_
          refine lv_iload_n hx hb dX5_leave_231 rfl (lv_at hl 3 rfl) ?_
          have h119 : ci < 10 := by omega
          refine g_iald hx hb hK hP (12) 0 ci (gx_l (SW_12 cy (ax 0) ad u117.1)) rfl (nI_clamp (by omega)) (vp_in_nI h119 (by decide)) dX5_leave_232 ?_
          have h120 : vp_in (u117.1 12 ci) 8 := (by rw [eu117]; show vp_in (up _ 12 ci _ 12 ci) 8; rw [up_s, k10_u112]; first | exact hwo | exact hho)
          have h120b : tn (u117.1 12 ci) < 8 := tn_in h120
          refine g_iald hx hb hK hP (1) 0 (tn (u117.1 12 ci)) (gx_l (SW_1 cy (ax 0) ad u117.1)) rfl rfl h120 dX5_leave_233 ?_
          refine lv_isub hx hb dX5_leave_234 ?_
          refine va_mabs hx hb (hml.trans hl.1.symm) hown wd8 wd9 wd10 wd11 (Nat.le_of_ble_eq_true rfl) (Nat.le_of_ble_eq_true rfl) (Nat.le_of_ble_eq_true rfl) (Nat.le_of_ble_eq_true rfl) dX5_leave_235 ?_
          refine lv_bipush (v := nI 10) hx hb dX5_leave_238 (by decide) ?_
          refine lv_idiv hx hb dX5_leave_240 (by decide) ?_
          refine va_mmax hx hb (hml.trans hl.1.symm) hown wd12 wd13 wd10 wd14 (Nat.le_of_ble_eq_true rfl) (Nat.le_of_ble_eq_true rfl) (Nat.le_of_ble_eq_true rfl) (Nat.le_of_ble_eq_true rfl) dX5_leave_241 ?_
          have h121 : ci < 10 := by omega
          refine g_iast (σ1 := (up u117.1 13 ci (m_max (nI 1) ((m_abs ((u117.1 1 (tn (σ.1 11 ci))) - (u117.1 1 (tn (u117.1 12 ci))))) / (nI 10))), u117.2)) hx hb hK hP hD hS (13) 0 ci (gx_l (SW_13 cy (ax 0) ad u117.1)) rfl (nI_clamp (by omega)) (vp_in_nI h121 (by decide)) (gx_setl (by rw [WD_len]; omega) (SW_13_set cy (ax 0) ad u117.1 ci _)) dX5_leave_244 ?_
          intro u122 eu122 H locs hP hD hS
          replace hf := hf.trans (ltt_r eu122)
          have k10_u122 : u122.1 10 = σ.1 10 := by rw [eu122]; exact keep_up rfl (by decide) k10_u117
          refine lv_aload_n hx hb dX5_leave_245 rfl (lv_at hl 2 rfl) ?_
          refine va_get (D := D) (ci := 5) (v := .ref (ad 11)) (C := RX5) (T := TX5) (N := 22) hx hb hts hin5 hown hK hP (0) (gx_l (SW_ob cy (ax 0) ad u122.1)) rfl 14 (by decide) wd0 (fun _ h9 => h9) rfl dX5_leave_246 ?_
          refine lv_iload_n hx hb dX5_leave_249 rfl (lv_at hl 3 rfl) ?_
          refine lv_iconst (v := (-1 : Int32)) hx hb dX5_leave_250 (by decide) ?_
          have h123 : ci < 10 := by omega
          refine g_iast (σ1 := (up u122.1 11 ci (-1 : Int32), u122.2)) hx hb hK hP hD hS (11) 0 ci (gx_l (SW_11 cy (ax 0) ad u122.1)) rfl (nI_clamp (by omega)) (vp_in_nI h123 (by decide)) (gx_setl (by rw [WD_len]; omega) (SW_11_set cy (ax 0) ad u122.1 ci _)) dX5_leave_251 ?_
          intro u124 eu124 H locs hP hD hS
          replace hf := hf.trans (ltt_r eu124)
          have k10_u124 : u124.1 10 = σ.1 10 := by rw [eu124]; exact keep_up rfl (by decide) k10_u122
          refine lv_iload hx hb dX5_leave_252 (lv_at hl 0 rfl) ?_
          exact g_endi hx hb hr hlocks rfl hf hP hD hS (Nat.le_of_ble_eq_true rfl) (Nat.le_of_ble_eq_true rfl) dX5_leave_254
        · replace hf := hf.trans (if_pos c114)
          refine lv_aload_n hx hb dX5_leave_189 rfl (lv_at hl 2 rfl) ?_
          refine va_get (D := D) (ci := 5) (v := .ref (ad 10)) (C := RX5) (T := TX5) (N := 22) hx hb hts hin5 hown hK hP (0) (gx_l (SW_ob cy (ax 0) ad u112.1)) rfl 13 (by decide) wd5 (fun _ h9 => h9) rfl dX5_leave_190 ?_
          refine lv_iconst (v := nI 5) hx hb dX5_leave_193 (by decide) ?_
          refine lv_iload_n hx hb dX5_leave_194 rfl (lv_at hl 3 rfl) ?_
          refine lv_imul hx hb dX5_leave_195 ?_
          refine g_top (pk_mul _ _) ?_
          refine lv_iconst (v := nI 1) hx hb dX5_leave_196 (by decide) ?_
          refine lv_iadd hx hb dX5_leave_197 ?_
          refine g_top (nI_add _ _) ?_
          have h125 : (5 * ci) + 1 < 50 := by omega
          refine g_iald hx hb hK hP (10) 0 ((5 * ci) + 1) (gx_l (SW_10 cy (ax 0) ad u112.1)) rfl (nI_clamp (by omega)) (vp_in_nI h125 (by decide)) dX5_leave_198 ?_
          refine lv_goto (tgt := 210) hx hb dX5_leave_199 (by decide) ?_
          have h126 : ci < 10 := by omega
          refine g_iast (σ1 := (up u112.1 12 ci (u112.1 10 ((5 * ci) + 1)), u112.2)) hx hb hK hP hD hS (12) 0 ci (gx_l (SW_12 cy (ax 0) ad u112.1)) rfl (nI_clamp (by omega)) (vp_in_nI h126 (by decide)) (gx_setl (by rw [WD_len]; omega) (SW_12_set cy (ax 0) ad u112.1 ci _)) dX5_leave_210 ?_
          intro u127 eu127 H locs hP hD hS
          replace hf := hf.trans (ltt_r eu127)
          have k10_u127 : u127.1 10 = σ.1 10 := by rw [eu127]; exact keep_up rfl (by decide) k10_u112
          refine lv_aload_n hx hb dX5_leave_211 rfl (lv_at hl 2 rfl) ?_
          refine va_get (D := D) (ci := 5) (v := .ref (ad 13)) (C := RX5) (T := TX5) (N := 22) hx hb hts hin5 hown hK hP (0) (gx_l (SW_ob cy (ax 0) ad u127.1)) rfl 16 (by decide) wd6 (fun _ h9 => h9) rfl dX5_leave_212 ?_
          refine lv_iload_n hx hb dX5_leave_215 rfl (lv_at hl 3 rfl) ?_
          refine lv_iconst (v := nI 1) hx hb dX5_leave_216 (by decide) ?_
          refine lv_aload_n hx hb dX5_leave_217 rfl (lv_at hl 2 rfl) ?_
          refine va_get (D := D) (ci := 5) (v := .ref (ad 1)) (C := RX5) (T := TX5) (N := 22) hx hb hts hin5 hown hK hP (0) (gx_l (SW_ob cy (ax 0) ad u127.1)) rfl 2 (by decide) wd7 (fun _ h9 => h9) rfl dX5_leave_218 ?_
          refine lv_iload_n hx hb dX5_leave_221 rfl (lv_at hl 1 rfl) ?_
          have h128 : tn (σ.1 11 ci) < 8 := by omega
          refine g_iald hx hb hK hP (1) 0 (tn (σ.1 11 ci)) (gx_l (SW_1 cy (ax 0) ad u127.1)) rfl (nI_clamp (by omega)) (vp_in_nI h128 (by decide)) dX5_leave_222 ?_
          refine lv_aload_n hx hb dX5_leave_223 rfl (lv_at hl 2 rfl) ?_
          refine va_get (D := D) (ci := 5) (v := .ref (ad 1)) (C := RX5) (T := TX5) (N := 22) hx hb hts hin5 hown hK hP (0) (gx_l (SW_ob cy (ax 0) ad u127.1)) rfl 2 (by decide) wd7 (fun _ h9 => h9) rfl dX5_leave_224 ?_
          refine lv_aload_n hx hb dX5_leave_227 rfl (lv_at hl 2 rfl) ?_
          refine va_get (D := D) (ci := 5) (v := .ref (ad 12)) (C := RX5) (T := TX5) (N := 22) hx hb hts hin5 hown hK hP (0) (gx_l (SW_ob cy (ax 0) ad u127.1)) rfl 15 (by decide) wd4 (fun _ h9 => h9) rfl dX5_leave_228 ?_
          refine lv_iload_n hx hb dX5_leave_231 rfl (lv_at hl 3 rfl) ?_
          have h129 : ci < 10 := by omega
          refine g_iald hx hb hK hP (12) 0 ci (gx_l (SW_12 cy (ax 0) ad u127.1)) rfl (nI_clamp (by omega)) (vp_in_nI h129 (by decide)) dX5_leave_232 ?_
          have h130 : vp_in (u127.1 12 ci) 8 := (by rw [eu127]; show vp_in (up _ 12 ci _ 12 ci) 8; rw [up_s, k10_u112]; first | exact hwo | exact hho)
          have h130b : tn (u127.1 12 ci) < 8 := tn_in h130
          refine g_iald hx hb hK hP (1) 0 (tn (u127.1 12 ci)) (gx_l (SW_1 cy (ax 0) ad u127.1)) rfl rfl h130 dX5_leave_233 ?_
          refine lv_isub hx hb dX5_leave_234 ?_
          refine va_mabs hx hb (hml.trans hl.1.symm) hown wd8 wd9 wd10 wd11 (Nat.le_of_ble_eq_true rfl) (Nat.le_of_ble_eq_true rfl) (Nat.le_of_ble_eq_true rfl) (Nat.le_of_ble_eq_true rfl) dX5_leave_235 ?_
          refine lv_bipush (v := nI 10) hx hb dX5_leave_238 (by decide) ?_
          refine lv_idiv hx hb dX5_leave_240 (by decide) ?_
          refine va_mmax hx hb (hml.trans hl.1.symm) hown wd12 wd13 wd10 wd14 (Nat.le_of_ble_eq_true rfl) (Nat.le_of_ble_eq_true rfl) (Nat.le_of_ble_eq_true rfl) (Nat.le_of_ble_eq_true rfl) dX5_leave_241 ?_
          have h131 : ci < 10 := by omega
          refine g_iast (σ1 := (up u127.1 13 ci (m_max (nI 1) ((m_abs ((u127.1 1 (tn (σ.1 11 ci))) - (u127.1 1 (tn (u127.1 12 ci))))) / (nI 10))), u127.2)) hx hb hK hP hD hS (13) 0 ci (gx_l (SW_13 cy (ax 0) ad u127.1)) rfl (nI_clamp (by omega)) (vp_in_nI h131 (by decide)) (gx_setl (by rw [WD_len]; omega) (SW_13_set cy (ax 0) ad u127.1 ci _)) dX5_leave_244 ?_
          intro u132 eu132 H locs hP hD hS
          replace hf := hf.trans (ltt_r eu132)
          have k10_u132 : u132.1 10 = σ.1 10 := by rw [eu132]; exact keep_up rfl (by decide) k10_u127
          refine lv_aload_n hx hb dX5_leave_245 rfl (lv_at hl 2 rfl) ?_
          refine va_get (D := D) (ci := 5) (v := .ref (ad 11)) (C := RX5) (T := TX5) (N := 22) hx hb hts hin5 hown hK hP (0) (gx_l (SW_ob cy (ax 0) ad u132.1)) rfl 14 (by decide) wd0 (fun _ h9 => h9) rfl dX5_leave_246 ?_
          refine lv_iload_n hx hb dX5_leave_249 rfl (lv_at hl 3 rfl) ?_
          refine lv_iconst (v := (-1 : Int32)) hx hb dX5_leave_250 (by decide) ?_
          have h133 : ci < 10 := by omega
          refine g_iast (σ1 := (up u132.1 11 ci (-1 : Int32), u132.2)) hx hb hK hP hD hS (11) 0 ci (gx_l (SW_11 cy (ax 0) ad u132.1)) rfl (nI_clamp (by omega)) (vp_in_nI h133 (by decide)) (gx_setl (by rw [WD_len]; omega) (SW_11_set cy (ax 0) ad u132.1 ci _)) dX5_leave_251 ?_
          intro u134 eu134 H locs hP hD hS
          replace hf := hf.trans (ltt_r eu134)
          have k10_u134 : u134.1 10 = σ.1 10 := by rw [eu134]; exact keep_up rfl (by decide) k10_u132
          refine lv_iload hx hb dX5_leave_252 (lv_at hl 0 rfl) ?_
          exact g_endi hx hb hr hlocks rfl hf hP hD hS (Nat.le_of_ble_eq_true rfl) (Nat.le_of_ble_eq_true rfl) dX5_leave_254
      · replace hf := hf.trans (if_neg c103)
        refine lv_aload_n hx hb dX5_leave_48 rfl (lv_at hl 2 rfl) ?_
        refine lv_iload_n hx hb dX5_leave_49 rfl (lv_at hl 1 rfl) ?_
        refine g_callr (q0 := 0) (wf := (PW cy ax bs ba ad)) (σ := σ) (wfc := (SW cy (ax 0) ad)) (σc := σ.1) hx hb hml hown hts hK hP hD hS hA hl.1 (OW cy ax bs ba (σ.2)) (List.Perm.refl _) [.int (nI (tn (σ.1 11 ci)))] (c_X5_first l D cy (ax 0) ad σ.1 (nI (tn (σ.1 11 ci))) hI) (cwV 1 hts gX5_leave_X5_first rfl rfl rfl (by decide +kernel) ⟨Nat.le_of_ble_eq_true rfl, Nat.le_of_ble_eq_true rfl⟩) (gx_l (SW_ob cy (ax 0) ad σ.1)) rfl rfl rfl rfl (Nat.le_of_ble_eq_true rfl) dX5_leave_50 ⟨Nat.le_of_ble_eq_true rfl, Nat.le_of_ble_eq_true rfl⟩ rfl rfl ?_
        intro r135 er135 H locs hP hD hS
        replace hf := hf.trans (ltt_r er135)
        have h136 : vp_in r135 40 := (by rw [er135]; exact would_in hI (fun h9 => c103 (er102.trans h9)))
        have h136b : tn r135 < 40 := tn_in h136
        refine g_top (tn_eq h136 (by decide)) ?_
        refine lv_istore (lv' := [(5, .int (nI (tn r135))), (4, .int (nI 0)), (3, .int (nI (tn (σ.1 11 ci)))), (0, .ref (ad 0)), (1, .int (nI ci)), (2, .int (nI now))]) hx hb dX5_leave_53 hl (by decide) rfl (fun ls hl => ?_)
        refine lv_aload_n hx hb dX5_leave_55 rfl (lv_at hl 3 rfl) ?_
        refine va_get (D := D) (ci := 5) (v := .ref (ad 4)) (C := RX5) (T := TX5) (N := 22) hx hb hts hin5 hown hK hP (0) (gx_l (SW_ob cy (ax 0) ad σ.1)) rfl 6 (by decide) wd15 (fun _ h9 => h9) rfl dX5_leave_56 ?_
        refine lv_iload hx hb dX5_leave_59 (lv_at hl 0 rfl) ?_
        refine lv_iconst (v := nI 1) hx hb dX5_leave_61 (by decide) ?_
        have h137 : tn r135 < 40 := by omega
        refine g_iast (σ1 := (up σ.1 4 (tn r135) (nI 1), σ.2)) hx hb hK hP hD hS (4) 0 (tn r135) (gx_l (SW_4 cy (ax 0) ad σ.1)) rfl (nI_clamp (by omega)) (vp_in_nI h137 (by decide)) (gx_setl (by rw [WD_len]; omega) (SW_4_set cy (ax 0) ad σ.1 (tn r135) _)) dX5_leave_62 ?_
        intro u138 eu138 H locs hP hD hS
        replace hf := hf.trans (ltt_r eu138)
        have k10_u138 : u138.1 10 = σ.1 10 := by rw [eu138]; exact keep_up rfl (by decide) k10_0
        refine lv_aload_n hx hb dX5_leave_63 rfl (lv_at hl 3 rfl) ?_
        refine va_get (D := D) (ci := 5) (v := .ref (ad 5)) (C := RX5) (T := TX5) (N := 22) hx hb hts hin5 hown hK hP (0) (gx_l (SW_ob cy (ax 0) ad u138.1)) rfl 7 (by decide) wd16 (fun _ h9 => h9) rfl dX5_leave_64 ?_
        refine lv_iload hx hb dX5_leave_67 (lv_at hl 0 rfl) ?_
        refine lv_iload_n hx hb dX5_leave_69 rfl (lv_at hl 4 rfl) ?_
        have h139 : tn r135 < 40 := by omega
        refine g_iast (σ1 := (up u138.1 5 (tn r135) (nI ci), u138.2)) hx hb hK hP hD hS (5) 0 (tn r135) (gx_l (SW_5 cy (ax 0) ad u138.1)) rfl (nI_clamp (by omega)) (vp_in_nI h139 (by decide)) (gx_setl (by rw [WD_len]; omega) (SW_5_set cy (ax 0) ad u138.1 (tn r135) _)) dX5_leave_70 ?_
        intro u140 eu140 H locs hP hD hS
        replace hf := hf.trans (ltt_r eu140)
        have k10_u140 : u140.1 10 = σ.1 10 := by rw [eu140]; exact keep_up rfl (by decide) k10_u138
        refine lv_aload_n hx hb dX5_leave_71 rfl (lv_at hl 3 rfl) ?_
        refine va_get (D := D) (ci := 5) (v := .ref (ad 9)) (C := RX5) (T := TX5) (N := 22) hx hb hts hin5 hown hK hP (0) (gx_l (SW_ob cy (ax 0) ad u140.1)) rfl 11 (by decide) wd17 (fun _ h9 => h9) rfl dX5_leave_72 ?_
        refine lv_iload hx hb dX5_leave_75 (lv_at hl 0 rfl) ?_
        refine lv_iload_n hx hb dX5_leave_77 rfl (lv_at hl 2 rfl) ?_
        have h141 : tn r135 < 40 := by omega
        refine g_iast (σ1 := (up u140.1 9 (tn r135) (nI (tn (σ.1 11 ci))), u140.2)) hx hb hK hP hD hS (9) 0 (tn r135) (gx_l (SW_9 cy (ax 0) ad u140.1)) rfl (nI_clamp (by omega)) (vp_in_nI h141 (by decide)) (gx_setl (by rw [WD_len]; omega) (SW_9_set cy (ax 0) ad u140.1 (tn r135) _)) dX5_leave_78 ?_
        intro u142 eu142 H locs hP hD hS
        replace hf := hf.trans (ltt_r eu142)
        have k10_u142 : u142.1 10 = σ.1 10 := by rw [eu142]; exact keep_up rfl (by decide) k10_u140
        refine lv_aload_n hx hb dX5_leave_79 rfl (lv_at hl 3 rfl) ?_
        refine va_get (D := D) (ci := 5) (v := .ref (ad 8)) (C := RX5) (T := TX5) (N := 22) hx hb hts hin5 hown hK hP (0) (gx_l (SW_ob cy (ax 0) ad u142.1)) rfl 10 (by decide) wd18 (fun _ h9 => h9) rfl dX5_leave_80 ?_
        refine lv_iload hx hb dX5_leave_83 (lv_at hl 0 rfl) ?_
        refine lv_dup2_11 hx hb dX5_leave_85 rfl rfl ?_
        have h143 : tn r135 < 40 := by omega
        refine g_iald hx hb hK hP (8) 0 (tn r135) (gx_l (SW_8 cy (ax 0) ad u142.1)) rfl (nI_clamp (by omega)) (vp_in_nI h143 (by decide)) dX5_leave_86 ?_
        refine lv_iconst (v := nI 1) hx hb dX5_leave_87 (by decide) ?_
        refine lv_iadd hx hb dX5_leave_88 ?_
        have h144 : tn r135 < 40 := by omega
        refine g_iast (σ1 := (up u142.1 8 (tn r135) ((u142.1 8 (tn r135)) + (nI 1)), u142.2)) hx hb hK hP hD hS (8) 0 (tn r135) (gx_l (SW_8 cy (ax 0) ad u142.1)) rfl (nI_clamp (by omega)) (vp_in_nI h144 (by decide)) (gx_setl (by rw [WD_len]; omega) (SW_8_set cy (ax 0) ad u142.1 (tn r135) _)) dX5_leave_89 ?_
        intro u145 eu145 H locs hP hD hS
        replace hf := hf.trans (ltt_r eu145)
        have k10_u145 : u145.1 10 = σ.1 10 := by rw [eu145]; exact keep_up rfl (by decide) k10_u142
        refine lv_aload_n hx hb dX5_leave_90 rfl (lv_at hl 3 rfl) ?_
        refine va_get (D := D) (ci := 5) (v := .ref (ad 14)) (C := RX5) (T := TX5) (N := 22) hx hb hts hin5 hown hK hP (0) (gx_l (SW_ob cy (ax 0) ad u145.1)) rfl 17 (by decide) wd19 (fun _ h9 => h9) rfl dX5_leave_91 ?_
        refine lv_iload_n hx hb dX5_leave_94 rfl (lv_at hl 4 rfl) ?_
        refine lv_iload hx hb dX5_leave_95 (lv_at hl 0 rfl) ?_
        have h146 : ci < 10 := by omega
        refine g_iast (σ1 := (up u145.1 14 ci (nI (tn r135)), u145.2)) hx hb hK hP hD hS (14) 0 ci (gx_l (SW_14 cy (ax 0) ad u145.1)) rfl (nI_clamp (by omega)) (vp_in_nI h146 (by decide)) (gx_setl (by rw [WD_len]; omega) (SW_14_set cy (ax 0) ad u145.1 ci _)) dX5_leave_97 ?_
        intro u147 eu147 H locs hP hD hS
        replace hf := hf.trans (ltt_r eu147)
        have k10_u147 : u147.1 10 = σ.1 10 := by rw [eu147]; exact keep_up rfl (by decide) k10_u145
        refine lv_aload_n hx hb dX5_leave_98 rfl (lv_at hl 3 rfl) ?_
        refine va_get (D := D) (ci := 5) (v := .ref (ad 16)) (C := RX5) (T := TX5) (N := 22) hx hb hts hin5 hown hK hP (0) (gx_l (SW_ob cy (ax 0) ad u147.1)) rfl 19 (by decide) wd2 (fun _ h9 => h9) rfl dX5_leave_99 ?_
        refine lv_iconst (v := nI 4) hx hb dX5_leave_102 (by decide) ?_
        refine lv_iload_n hx hb dX5_leave_103 rfl (lv_at hl 4 rfl) ?_
        refine lv_imul hx hb dX5_leave_104 ?_
        refine g_top (pk_mul _ _) ?_
        refine lv_iconst (v := nI 1) hx hb dX5_leave_105 (by decide) ?_
        refine lv_iadd hx hb dX5_leave_106 ?_
        refine g_top (nI_add _ _) ?_
        refine lv_dup2_11 hx hb dX5_leave_107 rfl rfl ?_
        have h148 : (4 * ci) + 1 < 40 := by omega
        refine g_iald hx hb hK hP (16) 0 ((4 * ci) + 1) (gx_l (SW_16 cy (ax 0) ad u147.1)) rfl (nI_clamp (by omega)) (vp_in_nI h148 (by decide)) dX5_leave_108 ?_
        refine lv_iconst (v := nI 1) hx hb dX5_leave_109 (by decide) ?_
        refine lv_iadd hx hb dX5_leave_110 ?_
        have h149 : (4 * ci) + 1 < 40 := by omega
        refine g_iast (σ1 := (up u147.1 16 ((4 * ci) + 1) ((u147.1 16 ((4 * ci) + 1)) + (nI 1)), u147.2)) hx hb hK hP hD hS (16) 0 ((4 * ci) + 1) (gx_l (SW_16 cy (ax 0) ad u147.1)) rfl (nI_clamp (by omega)) (vp_in_nI h149 (by decide)) (gx_setl (by rw [WD_len]; omega) (SW_16_set cy (ax 0) ad u147.1 ((4 * ci) + 1) _)) dX5_leave_111 ?_
        intro u150 eu150 H locs hP hD hS
        replace hf := hf.trans (ltt_r eu150)
        have k10_u150 : u150.1 10 = σ.1 10 := by rw [eu150]; exact keep_up rfl (by decide) k10_u147
        refine lv_aload_n hx hb dX5_leave_112 rfl (lv_at hl 3 rfl) ?_
        refine va_get (D := D) (ci := 5) (v := .ref (ad 3)) (C := RX5) (T := TX5) (N := 22) hx hb hts hin5 hown hK hP (0) (gx_l (SW_ob cy (ax 0) ad u150.1)) rfl 4 (by decide) wd3 (fun _ h9 => h9) rfl dX5_leave_113 ?_
        refine lv_iconst (v := nI 5) hx hb dX5_leave_116 (by decide) ?_
        refine lv_iload_n hx hb dX5_leave_117 rfl (lv_at hl 2 rfl) ?_
        refine lv_imul hx hb dX5_leave_118 ?_
        refine g_top (pk_mul _ _) ?_
        refine lv_dup2_11 hx hb dX5_leave_119 rfl rfl ?_
        have h151 : 5 * (tn (σ.1 11 ci)) < 40 := by omega
        refine g_iald hx hb hK hP (3) 0 (5 * (tn (σ.1 11 ci))) (gx_l (SW_3 cy (ax 0) ad u150.1)) rfl (nI_clamp (by omega)) (vp_in_nI h151 (by decide)) dX5_leave_120 ?_
        refine lv_iconst (v := nI 1) hx hb dX5_leave_121 (by decide) ?_
        refine lv_iadd hx hb dX5_leave_122 ?_
        have h152 : 5 * (tn (σ.1 11 ci)) < 40 := by omega
        refine g_iast (σ1 := (up u150.1 3 (5 * (tn (σ.1 11 ci))) ((u150.1 3 (5 * (tn (σ.1 11 ci)))) + (nI 1)), u150.2)) hx hb hK hP hD hS (3) 0 (5 * (tn (σ.1 11 ci))) (gx_l (SW_3 cy (ax 0) ad u150.1)) rfl (nI_clamp (by omega)) (vp_in_nI h152 (by decide)) (gx_setl (by rw [WD_len]; omega) (SW_3_set cy (ax 0) ad u150.1 (5 * (tn (σ.1 11 ci))) _)) dX5_leave_123 ?_
        intro u153 eu153 H locs hP hD hS
        replace hf := hf.trans (ltt_r eu153)
        have k10_u153 : u153.1 10 = σ.1 10 := by rw [eu153]; exact keep_up rfl (by decide) k10_u150
        refine lv_iconst (v := nI 1) hx hb dX5_leave_124 (by decide) ?_
        refine lv_istore (lv' := [(4, .int (nI 1)), (5, .int (nI (tn r135))), (3, .int (nI (tn (σ.1 11 ci)))), (0, .ref (ad 0)), (1, .int (nI ci)), (2, .int (nI now))]) hx hb dX5_leave_125 hl (by decide) rfl (fun ls hl => ?_)
        refine lv_goto (tgt := 172) hx hb dX5_leave_127 (by decide) ?_
        refine lv_aload_n hx hb dX5_leave_172 rfl (lv_at hl 3 rfl) ?_
        refine va_get (D := D) (ci := 5) (v := .ref (ad 12)) (C := RX5) (T := TX5) (N := 22) hx hb hts hin5 hown hK hP (0) (gx_l (SW_ob cy (ax 0) ad u153.1)) rfl 15 (by decide) wd4 (fun _ h9 => h9) rfl dX5_leave_173 ?_
        refine lv_iload_n hx hb dX5_leave_176 rfl (lv_at hl 4 rfl) ?_
        refine lv_iload_n hx hb dX5_leave_177 rfl (lv_at hl 2 rfl) ?_
        refine lv_aload_n hx hb dX5_leave_178 rfl (lv_at hl 3 rfl) ?_
        refine va_get (D := D) (ci := 5) (v := .ref (ad 10)) (C := RX5) (T := TX5) (N := 22) hx hb hts hin5 hown hK hP (0) (gx_l (SW_ob cy (ax 0) ad u153.1)) rfl 13 (by decide) wd5 (fun _ h9 => h9) rfl dX5_leave_179 ?_
        refine lv_iconst (v := nI 5) hx hb dX5_leave_182 (by decide) ?_
        refine lv_iload_n hx hb dX5_leave_183 rfl (lv_at hl 4 rfl) ?_
        refine lv_imul hx hb dX5_leave_184 ?_
        refine g_top (pk_mul _ _) ?_
        have h154 : 5 * ci < 50 := by omega
        refine g_iald hx hb hK hP (10) 0 (5 * ci) (gx_l (SW_10 cy (ax 0) ad u153.1)) rfl (nI_clamp (by omega)) (vp_in_nI h154 (by decide)) dX5_leave_185 ?_
        refine lv_icmp_ne (tgt := 202) hx hb dX5_leave_186 (by decide) (fun c155 => ?_) (fun c155 => ?_)
        · replace hf := hf.trans (if_neg c155)
          refine lv_aload_n hx hb dX5_leave_202 rfl (lv_at hl 3 rfl) ?_
          refine va_get (D := D) (ci := 5) (v := .ref (ad 10)) (C := RX5) (T := TX5) (N := 22) hx hb hts hin5 hown hK hP (0) (gx_l (SW_ob cy (ax 0) ad u153.1)) rfl 13 (by decide) wd5 (fun _ h9 => h9) rfl dX5_leave_203 ?_
          refine lv_iconst (v := nI 5) hx hb dX5_leave_206 (by decide) ?_
          refine lv_iload_n hx hb dX5_leave_207 rfl (lv_at hl 4 rfl) ?_
          refine lv_imul hx hb dX5_leave_208 ?_
          refine g_top (pk_mul _ _) ?_
          have h156 : 5 * ci < 50 := by omega
          refine g_iald hx hb hK hP (10) 0 (5 * ci) (gx_l (SW_10 cy (ax 0) ad u153.1)) rfl (nI_clamp (by omega)) (vp_in_nI h156 (by decide)) dX5_leave_209 ?_
          have h157 : ci < 10 := by omega
          refine g_iast (σ1 := (up u153.1 12 ci (u153.1 10 (5 * ci)), u153.2)) hx hb hK hP hD hS (12) 0 ci (gx_l (SW_12 cy (ax 0) ad u153.1)) rfl (nI_clamp (by omega)) (vp_in_nI h157 (by decide)) (gx_setl (by rw [WD_len]; omega) (SW_12_set cy (ax 0) ad u153.1 ci _)) dX5_leave_210 ?_
          intro u158 eu158 H locs hP hD hS
          replace hf := hf.trans (ltt_r eu158)
          have k10_u158 : u158.1 10 = σ.1 10 := by rw [eu158]; exact keep_up rfl (by decide) k10_u153
          refine lv_aload_n hx hb dX5_leave_211 rfl (lv_at hl 3 rfl) ?_
          refine va_get (D := D) (ci := 5) (v := .ref (ad 13)) (C := RX5) (T := TX5) (N := 22) hx hb hts hin5 hown hK hP (0) (gx_l (SW_ob cy (ax 0) ad u158.1)) rfl 16 (by decide) wd6 (fun _ h9 => h9) rfl dX5_leave_212 ?_
          refine lv_iload_n hx hb dX5_leave_215 rfl (lv_at hl 4 rfl) ?_
          refine lv_iconst (v := nI 1) hx hb dX5_leave_216 (by decide) ?_
          refine lv_aload_n hx hb dX5_leave_217 rfl (lv_at hl 3 rfl) ?_
          refine va_get (D := D) (ci := 5) (v := .ref (ad 1)) (C := RX5) (T := TX5) (N := 22) hx hb hts hin5 hown hK hP (0) (gx_l (SW_ob cy (ax 0) ad u158.1)) rfl 2 (by decide) wd7 (fun _ h9 => h9) rfl dX5_leave_218 ?_
          refine lv_iload_n hx hb dX5_leave_221 rfl (lv_at hl 2 rfl) ?_
          have h159 : tn (σ.1 11 ci) < 8 := by omega
          refine g_iald hx hb hK hP (1) 0 (tn (σ.1 11 ci)) (gx_l (SW_1 cy (ax 0) ad u158.1)) rfl (nI_clamp (by omega)) (vp_in_nI h159 (by decide)) dX5_leave_222 ?_
          refine lv_aload_n hx hb dX5_leave_223 rfl (lv_at hl 3 rfl) ?_
          refine va_get (D := D) (ci := 5) (v := .ref (ad 1)) (C := RX5) (T := TX5) (N := 22) hx hb hts hin5 hown hK hP (0) (gx_l (SW_ob cy (ax 0) ad u158.1)) rfl 2 (by decide) wd7 (fun _ h9 => h9) rfl dX5_leave_224 ?_
          refine lv_aload_n hx hb dX5_leave_227 rfl (lv_at hl 3 rfl) ?_
          refine va_get (D := D) (ci := 5) (v := .ref (ad 12)) (C := RX5) (T := TX5) (N := 22) hx hb hts hin5 hown hK hP (0) (gx_l (SW_ob cy (ax 0) ad u158.1)) rfl 15 (by decide) wd4 (fun _ h9 => h9) rfl dX5_leave_228 ?_
          refine lv_iload_n hx hb dX5_leave_231 rfl (lv_at hl 4 rfl) ?_
          have h160 : ci < 10 := by omega
          refine g_iald hx hb hK hP (12) 0 ci (gx_l (SW_12 cy (ax 0) ad u158.1)) rfl (nI_clamp (by omega)) (vp_in_nI h160 (by decide)) dX5_leave_232 ?_
          have h161 : vp_in (u158.1 12 ci) 8 := (by rw [eu158]; show vp_in (up _ 12 ci _ 12 ci) 8; rw [up_s, k10_u153]; first | exact hwo | exact hho)
          have h161b : tn (u158.1 12 ci) < 8 := tn_in h161
          refine g_iald hx hb hK hP (1) 0 (tn (u158.1 12 ci)) (gx_l (SW_1 cy (ax 0) ad u158.1)) rfl rfl h161 dX5_leave_233 ?_
          refine lv_isub hx hb dX5_leave_234 ?_
          refine va_mabs hx hb (hml.trans hl.1.symm) hown wd8 wd9 wd10 wd11 (Nat.le_of_ble_eq_true rfl) (Nat.le_of_ble_eq_true rfl) (Nat.le_of_ble_eq_true rfl) (Nat.le_of_ble_eq_true rfl) dX5_leave_235 ?_
          refine lv_bipush (v := nI 10) hx hb dX5_leave_238 (by decide) ?_
          refine lv_idiv hx hb dX5_leave_240 (by decide) ?_
          refine va_mmax hx hb (hml.trans hl.1.symm) hown wd12 wd13 wd10 wd14 (Nat.le_of_ble_eq_true rfl) (Nat.le_of_ble_eq_true rfl) (Nat.le_of_ble_eq_true rfl) (Nat.le_of_ble_eq_true rfl) dX5_leave_241 ?_
          have h162 : ci < 10 := by omega
          refine g_iast (σ1 := (up u158.1 13 ci (m_max (nI 1) ((m_abs ((u158.1 1 (tn (σ.1 11 ci))) - (u158.1 1 (tn (u158.1 12 ci))))) / (nI 10))), u158.2)) hx hb hK hP hD hS (13) 0 ci (gx_l (SW_13 cy (ax 0) ad u158.1)) rfl (nI_clamp (by omega)) (vp_in_nI h162 (by decide)) (gx_setl (by rw [WD_len]; omega) (SW_13_set cy (ax 0) ad u158.1 ci _)) dX5_leave_244 ?_
          intro u163 eu163 H locs hP hD hS
          replace hf := hf.trans (ltt_r eu163)
          have k10_u163 : u163.1 10 = σ.1 10 := by rw [eu163]; exact keep_up rfl (by decide) k10_u158
          refine lv_aload_n hx hb dX5_leave_245 rfl (lv_at hl 3 rfl) ?_
          refine va_get (D := D) (ci := 5) (v := .ref (ad 11)) (C := RX5) (T := TX5) (N := 22) hx hb hts hin5 hown hK hP (0) (gx_l (SW_ob cy (ax 0) ad u163.1)) rfl 14 (by decide) wd0 (fun _ h9 => h9) rfl dX5_leave_246 ?_
          refine lv_iload_n hx hb dX5_leave_249 rfl (lv_at hl 4 rfl) ?_
          refine lv_iconst (v := (-1 : Int32)) hx hb dX5_leave_250 (by decide) ?_
          have h164 : ci < 10 := by omega
          refine g_iast (σ1 := (up u163.1 11 ci (-1 : Int32), u163.2)) hx hb hK hP hD hS (11) 0 ci (gx_l (SW_11 cy (ax 0) ad u163.1)) rfl (nI_clamp (by omega)) (vp_in_nI h164 (by decide)) (gx_setl (by rw [WD_len]; omega) (SW_11_set cy (ax 0) ad u163.1 ci _)) dX5_leave_251 ?_
          intro u165 eu165 H locs hP hD hS
          replace hf := hf.trans (ltt_r eu165)
          have k10_u165 : u165.1 10 = σ.1 10 := by rw [eu165]; exact keep_up rfl (by decide) k10_u163
          refine lv_iload hx hb dX5_leave_252 (lv_at hl 0 rfl) ?_
          exact g_endi hx hb hr hlocks rfl hf hP hD hS (Nat.le_of_ble_eq_true rfl) (Nat.le_of_ble_eq_true rfl) dX5_leave_254
        · replace hf := hf.trans (if_pos c155)
          refine lv_aload_n hx hb dX5_leave_189 rfl (lv_at hl 3 rfl) ?_
          refine va_get (D := D) (ci := 5) (v := .ref (ad 10)) (C := RX5) (T := TX5) (N := 22) hx hb hts hin5 hown hK hP (0) (gx_l (SW_ob cy (ax 0) ad u153.1)) rfl 13 (by decide) wd5 (fun _ h9 => h9) rfl dX5_leave_190 ?_
          refine lv_iconst (v := nI 5) hx hb dX5_leave_193 (by decide) ?_
          refine lv_iload_n hx hb dX5_leave_194 rfl (lv_at hl 4 rfl) ?_
          refine lv_imul hx hb dX5_leave_195 ?_
          refine g_top (pk_mul _ _) ?_
          refine lv_iconst (v := nI 1) hx hb dX5_leave_196 (by decide) ?_
          refine lv_iadd hx hb dX5_leave_197 ?_
          refine g_top (nI_add _ _) ?_
          have h166 : (5 * ci) + 1 < 50 := by omega
          refine g_iald hx hb hK hP (10) 0 ((5 * ci) + 1) (gx_l (SW_10 cy (ax 0) ad u153.1)) rfl (nI_clamp (by omega)) (vp_in_nI h166 (by decide)) dX5_leave_198 ?_
          refine lv_goto (tgt := 210) hx hb dX5_leave_199 (by decide) ?_
          have h167 : ci < 10 := by omega
          refine g_iast (σ1 := (up u153.1 12 ci (u153.1 10 ((5 * ci) + 1)), u153.2)) hx hb hK hP hD hS (12) 0 ci (gx_l (SW_12 cy (ax 0) ad u153.1)) rfl (nI_clamp (by omega)) (vp_in_nI h167 (by decide)) (gx_setl (by rw [WD_len]; omega) (SW_12_set cy (ax 0) ad u153.1 ci _)) dX5_leave_210 ?_
          intro u168 eu168 H locs hP hD hS
          replace hf := hf.trans (ltt_r eu168)
          have k10_u168 : u168.1 10 = σ.1 10 := by rw [eu168]; exact keep_up rfl (by decide) k10_u153
          refine lv_aload_n hx hb dX5_leave_211 rfl (lv_at hl 3 rfl) ?_
          refine va_get (D := D) (ci := 5) (v := .ref (ad 13)) (C := RX5) (T := TX5) (N := 22) hx hb hts hin5 hown hK hP (0) (gx_l (SW_ob cy (ax 0) ad u168.1)) rfl 16 (by decide) wd6 (fun _ h9 => h9) rfl dX5_leave_212 ?_
          refine lv_iload_n hx hb dX5_leave_215 rfl (lv_at hl 4 rfl) ?_
          refine lv_iconst (v := nI 1) hx hb dX5_leave_216 (by decide) ?_
          refine lv_aload_n hx hb dX5_leave_217 rfl (lv_at hl 3 rfl) ?_
          refine va_get (D := D) (ci := 5) (v := .ref (ad 1)) (C := RX5) (T := TX5) (N := 22) hx hb hts hin5 hown hK hP (0) (gx_l (SW_ob cy (ax 0) ad u168.1)) rfl 2 (by decide) wd7 (fun _ h9 => h9) rfl dX5_leave_218 ?_
          refine lv_iload_n hx hb dX5_leave_221 rfl (lv_at hl 2 rfl) ?_
          have h169 : tn (σ.1 11 ci) < 8 := by omega
          refine g_iald hx hb hK hP (1) 0 (tn (σ.1 11 ci)) (gx_l (SW_1 cy (ax 0) ad u168.1)) rfl (nI_clamp (by omega)) (vp_in_nI h169 (by decide)) dX5_leave_222 ?_
          refine lv_aload_n hx hb dX5_leave_223 rfl (lv_at hl 3 rfl) ?_
          refine va_get (D := D) (ci := 5) (v := .ref (ad 1)) (C := RX5) (T := TX5) (N := 22) hx hb hts hin5 hown hK hP (0) (gx_l (SW_ob cy (ax 0) ad u168.1)) rfl 2 (by decide) wd7 (fun _ h9 => h9) rfl dX5_leave_224 ?_
          refine lv_aload_n hx hb dX5_leave_227 rfl (lv_at hl 3 rfl) ?_
          refine va_get (D := D) (ci := 5) (v := .ref (ad 12)) (C := RX5) (T := TX5) (N := 22) hx hb hts hin5 hown hK hP (0) (gx_l (SW_ob cy (ax 0) ad u168.1)) rfl 15 (by decide) wd4 (fun _ h9 => h9) rfl dX5_leave_228 ?_
          refine lv_iload_n hx hb dX5_leave_231 rfl (lv_at hl 4 rfl) ?_
          have h170 : ci < 10 := by omega
          refine g_iald hx hb hK hP (12) 0 ci (gx_l (SW_12 cy (ax 0) ad u168.1)) rfl (nI_clamp (by omega)) (vp_in_nI h170 (by decide)) dX5_leave_232 ?_
          have h171 : vp_in (u168.1 12 ci) 8 := (by rw [eu168]; show vp_in (up _ 12 ci _ 12 ci) 8; rw [up_s, k10_u153]; first | exact hwo | exact hho)
          have h171b : tn (u168.1 12 ci) < 8 := tn_in h171
          refine g_iald hx hb hK hP (1) 0 (tn (u168.1 12 ci)) (gx_l (SW_1 cy (ax 0) ad u168.1)) rfl rfl h171 dX5_leave_233 ?_
          refine lv_isub hx hb dX5_leave_234 ?_
          refine va_mabs hx hb (hml.trans hl.1.symm) hown wd8 wd9 wd10 wd11 (Nat.le_of_ble_eq_true rfl) (Nat.le_of_ble_eq_true rfl) (Nat.le_of_ble_eq_true rfl) (Nat.le_of_ble_eq_true rfl) dX5_leave_235 ?_
          refine lv_bipush (v := nI 10) hx hb dX5_leave_238 (by decide) ?_
          refine lv_idiv hx hb dX5_leave_240 (by decide) ?_
          refine va_mmax hx hb (hml.trans hl.1.symm) hown wd12 wd13 wd10 wd14 (Nat.le_of_ble_eq_true rfl) (Nat.le_of_ble_eq_true rfl) (Nat.le_of_ble_eq_true rfl) (Nat.le_of_ble_eq_true rfl) dX5_leave_241 ?_
          have h172 : ci < 10 := by omega
          refine g_iast (σ1 := (up u168.1 13 ci (m_max (nI 1) ((m_abs ((u168.1 1 (tn (σ.1 11 ci))) - (u168.1 1 (tn (u168.1 12 ci))))) / (nI 10))), u168.2)) hx hb hK hP hD hS (13) 0 ci (gx_l (SW_13 cy (ax 0) ad u168.1)) rfl (nI_clamp (by omega)) (vp_in_nI h172 (by decide)) (gx_setl (by rw [WD_len]; omega) (SW_13_set cy (ax 0) ad u168.1 ci _)) dX5_leave_244 ?_
          intro u173 eu173 H locs hP hD hS
          replace hf := hf.trans (ltt_r eu173)
          have k10_u173 : u173.1 10 = σ.1 10 := by rw [eu173]; exact keep_up rfl (by decide) k10_u168
          refine lv_aload_n hx hb dX5_leave_245 rfl (lv_at hl 3 rfl) ?_
          refine va_get (D := D) (ci := 5) (v := .ref (ad 11)) (C := RX5) (T := TX5) (N := 22) hx hb hts hin5 hown hK hP (0) (gx_l (SW_ob cy (ax 0) ad u173.1)) rfl 14 (by decide) wd0 (fun _ h9 => h9) rfl dX5_leave_246 ?_
          refine lv_iload_n hx hb dX5_leave_249 rfl (lv_at hl 4 rfl) ?_
          refine lv_iconst (v := (-1 : Int32)) hx hb dX5_leave_250 (by decide) ?_
          have h174 : ci < 10 := by omega
          refine g_iast (σ1 := (up u173.1 11 ci (-1 : Int32), u173.2)) hx hb hK hP hD hS (11) 0 ci (gx_l (SW_11 cy (ax 0) ad u173.1)) rfl (nI_clamp (by omega)) (vp_in_nI h174 (by decide)) (gx_setl (by rw [WD_len]; omega) (SW_11_set cy (ax 0) ad u173.1 ci _)) dX5_leave_251 ?_
          intro u175 eu175 H locs hP hD hS
          replace hf := hf.trans (ltt_r eu175)
          have k10_u175 : u175.1 10 = σ.1 10 := by rw [eu175]; exact keep_up rfl (by decide) k10_u173
          refine lv_iload hx hb dX5_leave_252 (lv_at hl 0 rfl) ?_
          exact g_endi hx hb hr hlocks rfl hf hP hD hS (Nat.le_of_ble_eq_true rfl) (Nat.le_of_ble_eq_true rfl) dX5_leave_254
