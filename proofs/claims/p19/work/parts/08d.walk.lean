section SW
variable {B nS nU nC : Nat} {σ : Sg}
/-- an umbrella in a hand gets older -/
theorem inv_wear {u : Nat} (w : Int32) (hI : Inv B nS nU nC σ) (hu : u < nU) (hw : 0 ≤ w.toInt ∧ w.toInt ≤ 29) : Inv B nS nU nC (up σ (13 + u) 2 w) := by
  have hI0 := hI
  obtain ⟨⟨n0, n1, n8, n40, n10, nB⟩, hr, hs, hU, hC, hh⟩ := hI
  have a := fun p (hp : p ≠ 13 + u) => up_row_ne σ 2 w hp
  have b := fun k (hk : k ≠ 2) => up_neK σ (13 + u) w (13 + u) hk
  refine inv_mod (u := u) (c := 99) hI0 (Nat.le_refl B) nB ?_ ?_ ?_ ?_ (fun x hx hn => ?_) (fun x hx hn => ?_) (fun _ => ?_) (fun q => by omega) (fun _ x hx hn => ?_) (fun q => by omega) (fun _ q => by omega) (fun i hi => ?_)
  · rw [a 0 (by omega)]
  · rw [a 0 (by omega)]
  · rw [a 0 (by omega)]
  · rw [a 1 (by omega)]
  · rw [a _ (by omega)]
  · rw [a _ (by omega)]
  · have h := hU u hu
    unfold UI at h ⊢
    rw [b 0 (by decide), b 1 (by decide), b 3 (by decide), b 5 (by decide), up_s]
    omega
  · have h := hh u hu x hx
    unfold HH at h ⊢
    rw [a (53 + x) (by omega), b 0 (by decide), b 1 (by decide)]
    exact h
  · have e : fH (up σ (13 + u) 2 w) i u = fH σ i u := by unfold fH; rw [b 0 (by decide), b 5 (by decide)]
    rw [if_pos hu, e, a (5 + i) (by omega)]
    exact ⟨(hs i hi).1, by omega⟩
/-- an umbrella leaves a hand -/
theorem inv_drop {u c : Nat} {σ' : Sg} (hI : Inv B nS nU nC σ) (hu : u < nU) (hc : c < nC) (h9 : (σ (53 + c) 9).toInt = (u : Int)) (e : ∀ p, p ≠ 13 + u → p ≠ 53 + c → (p < 5 ∨ 13 ≤ p) → σ' p = σ p)
    (k9 : (σ' (53 + c) 9).toInt = -1) (k0 : ¬ (σ' (13 + u) 0).toInt = 1) (hU' : UI nS nC (σ' (13 + u))) (hC' : CI nS nU B (σ' (53 + c)))
    (hS : ∀ i, i < nS → SI B (σ' (5 + i)) ∧ (σ' (5 + i) 3).toInt + (σ (5 + i) 2).toInt ≤ (σ (5 + i) 3).toInt + fH σ i u + (σ' (5 + i) 2).toInt) : Inv B nS nU nC σ' := by
  have hI0 := hI
  obtain ⟨⟨n0, n1, n8, n40, n10, nB⟩, hr, hs, hU, hC, hh⟩ := hI
  have r0 := e 0 (by omega) (by omega) (by omega)
  refine inv_mod (u := u) (c := c) hI0 (Nat.le_refl B) nB (congrFun r0 5) (congrFun r0 6) (congrFun r0 7) (e 1 (by omega) (by omega) (by omega)) (fun x hx hn => e _ (by omega) (by omega) (by omega)) (fun x hx hn => e _ (by omega) (by omega) (by omega)) (fun _ => hU') (fun _ => hC') (fun _ x hx hn => ?_) (fun _ x hx hn => ?_) (fun _ _ => ?_) (fun i hi => ?_)
  · have h := hh u hu x hx
    have h2 := hh u hu c hc
    unfold HH at h h2 ⊢
    rw [e (53 + x) (by omega) (by omega) (by omega)]
    omega
  · have h := hh x hx c hc
    unfold HH at h ⊢
    rw [e (13 + x) (by omega) (by omega) (by omega)]
    omega
  · unfold HH
    omega
  · obtain ⟨a, b⟩ := hS i hi
    rw [if_pos hu, fH_0 (σ := σ') k0]
    exact ⟨a, by omega⟩
theorem hand_u {c : Nat} (hI : Inv B nS nU nC σ) (hc : c < nC) {u : Nat} (hu : u < nU) (h9 : σ (53 + c) 9 = nI u) : (σ (53 + c) 9).toInt = (u : Int) ∧ (σ (13 + u) 0).toInt = 1 ∧ (σ (13 + u) 1).toInt = (c : Int) ∧ (σ (53 + c) 6).toInt = -1 := by
  have n40 := hI.1.2.2.2.1
  have e : (σ (53 + c) 9).toInt = (u : Int) := by rw [h9, ti_n (by omega)]
  have h := hI.2.2.2.2.2 u hu c hc
  have hC := hI.2.2.2.2.1 c hc
  unfold HH at h
  unfold CI at hC
  have h2 := h.mpr e
  exact ⟨e, h2.1, h2.2, by omega⟩
theorem inv_rain {c : Nat} {x : Int32} (hI : Inv B nS nU nC σ) (hB : B + 9 ≤ 100000000) (hc : c < nC) (hx : 0 ≤ x.toInt ∧ x.toInt ≤ 9) : Inv (B + 9) nS nU nC (s_X1_meetRain σ c x) ∧ ∀ d, d < nC → (σ (53 + d) 11).toInt ≤ (s_X1_meetRain σ c x (53 + d) 11).toInt := by
  have hI0 := hI
  obtain ⟨⟨n0, n1, n8, n40, n10, nB⟩, hr, hs, hU, hC, hh⟩ := hI
  have hCc := hC c hc
  by_cases h1 : s_X1_isUmbrella σ (σ (53 + c) 9) = 0
  · have e : s_X1_meetRain σ c x = up σ (53 + c) 11 (σ (53 + c) 11 + x) := if_pos h1
    unfold CI at hCc
    have ew : (σ (53 + c) 11 + x).toInt = (σ (53 + c) 11).toInt + x.toInt := ti_add (by omega)
    rw [e]
    refine ⟨inv_ci (c := c) hI0 (by omega) hB (fun p hp => up_row_ne σ 11 _ hp) (up_neK σ _ _ _ (by decide)) (fun _ => ?_), fun d hd => ?_⟩
    · unfold CI
      simp (disch := omega) only [up_neK, up_s]
      rw [ew]
      omega
    · by_cases q : d = c
      · subst q; rw [up_s, ew]; omega
      · rw [up_row_ne σ 11 _ (by omega)]; exact Int.le_refl _
  · obtain ⟨u, hu, h9⟩ := (isUm_n hI0).mp h1
    obtain ⟨i9, i0, i1, i6⟩ := hand_u hI0 hc hu h9
    have hUu := hU u hu
    unfold UI at hUu
    have et : tn (σ (53 + c) 9) = u := by rw [h9, tn_nI (by omega)]
    have ew : (σ (13 + u) 2 + x).toInt = (σ (13 + u) 2).toInt + x.toInt := ti_add (by omega)
    by_cases h2 : (up σ (13 + tn (σ (53 + c) 9)) 2 (σ (13 + tn (σ (53 + c) 9)) 2 + x)) (13 + tn (σ (53 + c) 9)) 2 < nI 30
    · have e : s_X1_meetRain σ c x = up σ (13 + tn (σ (53 + c) 9)) 2 (σ (13 + tn (σ (53 + c) 9)) 2 + x) := (if_neg h1).trans (if_pos h2)
      rw [et] at e h2
      rw [up_s, tl, ew, k_30] at h2
      rw [e]
      refine ⟨inv_mono (inv_wear _ hI0 hu (by rw [ew]; omega)) (by omega) hB, fun d hd => ?_⟩
      rw [up_row_ne σ 2 _ (by omega)]; exact Int.le_refl _
    · have e : s_X1_meetRain σ c x = up (s_X3_stayAway (up σ (13 + tn (σ (53 + c) 9)) 2 (σ (13 + tn (σ (53 + c) 9)) 2 + x)) (tn (σ (53 + c) 9)) (nI 3) (nI 12)) (53 + c) 9 (-1 : Int32) := (if_neg h1).trans (if_neg h2)
      rw [et] at e
      have row : ∀ p, p ≠ 13 + u → p ≠ 53 + c → s_X1_meetRain σ c x p = σ p := by
        intro p p1 p2
        rw [e]
        unfold s_X3_stayAway
        simp only [ltt]
        simp (disch := omega) only [up_row_ne]
      have a : s_X1_meetRain σ c x (13 + u) 0 = nI 3 ∧ s_X1_meetRain σ c x (13 + u) 1 = (-1 : Int32) ∧ s_X1_meetRain σ c x (13 + u) 2 = σ (13 + u) 2 + x ∧ s_X1_meetRain σ c x (13 + u) 3 = nI 12 := by
        rw [e]
        unfold s_X3_stayAway
        simp only [ltt]
        refine ⟨?_, ?_, ?_, ?_⟩ <;> simp (disch := omega) only [up_s, up_neK, up_row_ne]
      have b9 : s_X1_meetRain σ c x (53 + c) 9 = (-1 : Int32) := by rw [e]; exact up_s _ _ _ _
      have b : ∀ k, k ≠ 9 → s_X1_meetRain σ c x (53 + c) k = σ (53 + c) k := by
        intro k hk
        rw [e]
        unfold s_X3_stayAway
        simp only [ltt]
        simp (disch := omega) only [up_neK, up_row_ne]
      obtain ⟨a0, a1, a2, a3⟩ := a
      refine ⟨inv_mono (inv_drop hI0 hu hc i9 (fun p p1 p2 _ => row p p1 p2) (by rw [b9, ti_m1]) (by rw [a0, k_3]; omega) ?_ ?_ (fun i hi => ?_)) (by omega) hB, fun d hd => ?_⟩
      · unfold UI
        rw [a0, a1, a2, a3, k_3, ti_m1, k_12, ew]
        omega
      · unfold CI at hCc ⊢
        rw [b9, b 0 (by decide), b 1 (by decide), b 6 (by decide), b 7 (by decide), b 10 (by decide), b 11 (by decide), b 12 (by decide), b 13 (by decide), ti_m1]
        omega
      · have hn := (fH_nn σ i u).1
        rw [row (5 + i) (by omega) (by omega)]
        exact ⟨(hs i hi).1, by omega⟩
      · by_cases q : d = c
        · subst q; rw [b 11 (by decide)]; exact Int.le_refl _
        · rw [row _ (by omega) (by omega)]; exact Int.le_refl _
def arS (σ : Sg) (c : Nat) : Sg := up (up σ (53 + c) 6 (σ (53 + c) 7)) (53 + c) 9 (-1 : Int32)
theorem inv_arr {c : Nat} (hI : Inv B nS nU nC σ) (hc : c < nC) : Inv B nS nU nC (s_X1_arrive σ c) ∧ ∀ d, d < nC → s_X1_arrive σ c (53 + d) 11 = σ (53 + d) 11 := by
  have hI0 := hI
  obtain ⟨⟨n0, n1, n8, n40, n10, nB⟩, hr, hs, hU, hC, hh⟩ := hI
  have hCc := hC c hc
  have u9 : up σ (53 + c) 6 (σ (53 + c) 7) (53 + c) 9 = σ (53 + c) 9 := up_neK _ _ _ _ (by decide)
  have eis : s_X1_isUmbrella (up σ (53 + c) 6 (σ (53 + c) 7)) (up σ (53 + c) 6 (σ (53 + c) 7) (53 + c) 9) = s_X1_isUmbrella σ (σ (53 + c) 9) := by
    rw [u9]
    unfold s_X1_isUmbrella
    rw [up_row_ne σ 6 _ (by omega)]
  by_cases h1 : s_X1_isUmbrella (up σ (53 + c) 6 (σ (53 + c) 7)) (up σ (53 + c) 6 (σ (53 + c) 7) (53 + c) 9) = 0
  · have e : s_X1_arrive σ c = up σ (53 + c) 6 (σ (53 + c) 7) := if_pos h1
    rw [eis] at h1
    have hm : (σ (53 + c) 9).toInt = -1 := by
      unfold CI at hCc
      by_cases q : (σ (53 + c) 9).toInt = -1
      · exact q
      · obtain ⟨j, hj, hj2, -⟩ := of_rng (x := σ (53 + c) 9) (n := nU) (by omega) (by omega)
        exact absurd h1 ((isUm_n hI0).mpr ⟨j, hj, hj2⟩)
    rw [e]
    refine ⟨inv_ci (c := c) hI0 (Nat.le_refl B) nB (fun p hp => up_row_ne σ 6 _ hp) u9 (fun _ => ?_), fun d hd => ?_⟩
    · unfold CI at hCc ⊢
      simp (disch := omega) only [up_neK, up_s]
      omega
    · by_cases q : d = c
      · subst q; exact up_neK _ _ _ _ (by decide)
      · rw [up_row_ne σ 6 _ (by omega)]
  · have h1' := h1
    rw [eis] at h1'
    obtain ⟨u, hu, h9⟩ := (isUm_n hI0).mp h1'
    obtain ⟨i9, i0, i1, i6⟩ := hand_u hI0 hc hu h9
    have hUu := hU u hu
    unfold UI at hUu
    have et : tn (up σ (53 + c) 6 (σ (53 + c) 7) (53 + c) 9) = u := by rw [u9, h9, tn_nI (by omega)]
    have arow : ∀ p, p ≠ 53 + c → arS σ c p = σ p := fun p hp => by unfold arS; simp (disch := omega) only [up_row_ne]
    have ar6 : arS σ c (53 + c) 6 = σ (53 + c) 7 := by unfold arS; simp (disch := omega) only [up_s, up_neK]
    have ar9 : arS σ c (53 + c) 9 = (-1 : Int32) := up_s _ _ _ _
    have ark : ∀ k, k ≠ 6 → k ≠ 9 → arS σ c (53 + c) k = σ (53 + c) k := fun k k1 k2 => by unfold arS; simp (disch := omega) only [up_neK]
    by_cases h2 : s_X0_forgetsThisOne (arS σ c) c = 0
    · have e : s_X1_arrive σ c = s_X0_noteBroughtBack (s_X3_standIn (arS σ c) (tn (up σ (53 + c) 6 (σ (53 + c) 7) (53 + c) 9)) (arS σ c (53 + c) 6)) c := (if_neg h1).trans (if_pos h2)
      rw [et, ar6] at e
      have row : ∀ p, p ≠ 13 + u → p ≠ 53 + c → s_X1_arrive σ c p = σ p := by
        intro p p1 p2
        rw [e]
        unfold s_X0_noteBroughtBack s_X3_standIn
        simp only [ltt]
        simp (disch := omega) only [up_row_ne, arow]
      have a : s_X1_arrive σ c (13 + u) 0 = nI 0 ∧ s_X1_arrive σ c (13 + u) 1 = σ (53 + c) 7 ∧ s_X1_arrive σ c (13 + u) 2 = σ (13 + u) 2 ∧ s_X1_arrive σ c (13 + u) 3 = nI 0 := by
        rw [e]
        unfold s_X0_noteBroughtBack s_X3_standIn
        simp only [ltt]
        refine ⟨?_, ?_, ?_, ?_⟩ <;> simp (disch := omega) only [up_s, up_neK, up_row_ne, arow]
      have b10 : s_X1_arrive σ c (53 + c) 10 = m_min (nI 10) (σ (53 + c) 10 + nI 1) := by
        rw [e]
        unfold s_X0_noteBroughtBack s_X3_standIn
        simp only [ltt]
        simp (disch := omega) only [up_s, up_neK, up_row_ne, ark]
      have b : ∀ k, k ≠ 10 → s_X1_arrive σ c (53 + c) k = arS σ c (53 + c) k := by
        intro k hk
        rw [e]
        unfold s_X0_noteBroughtBack s_X3_standIn
        simp only [ltt]
        simp (disch := omega) only [up_neK, up_row_ne]
      obtain ⟨a0, a1, a2, a3⟩ := a
      refine ⟨inv_drop hI0 hu hc i9 (fun p p1 p2 _ => row p p1 p2) (by rw [b 9 (by decide), ar9, ti_m1]) (by rw [a0, k_0]; omega) ?_ ?_ (fun i hi => ?_), fun d hd => ?_⟩
      · unfold CI at hCc
        unfold UI
        rw [a0, a1, a2, a3, k_0]
        omega
      · unfold CI at hCc ⊢
        have hp := mmin_b (y := σ (53 + c) 10 + nI 1) (by rw [ti_inc (by omega)]; omega)
        rw [b10, b 0 (by decide), b 1 (by decide), b 6 (by decide), b 7 (by decide), b 9 (by decide), b 11 (by decide), b 12 (by decide), b 13 (by decide), ar6, ar9, ark 0 (by decide) (by decide), ark 1 (by decide) (by decide), ark 7 (by decide) (by decide), ark 11 (by decide) (by decide), ark 12 (by decide) (by decide), ark 13 (by decide) (by decide), ti_m1]
        omega
      · have hn := (fH_nn σ i u).1
        rw [row (5 + i) (by omega) (by omega)]
        exact ⟨(hs i hi).1, by omega⟩
      · by_cases q : d = c
        · subst q; rw [b 11 (by decide), ark 11 (by decide) (by decide)]
        · rw [row _ (by omega) (by omega)]
    · have hfr : 0 ≤ (σ (13 + u) 5).toInt ∧ (σ (13 + u) 5).toInt < nS := by omega
      obtain ⟨f, hf, hf5, hf5i⟩ := of_rng hfr.1 hfr.2
      have e9 : ∀ X : Sg, X = s_X0_noteForgotten (s_X3_stayAway (arS σ c) u (nI 2) (nI 24)) c → X (13 + u) 5 = nI f ∧ X 0 5 = σ 0 5 := by
        rintro X rfl
        unfold s_X0_noteForgotten s_X3_stayAway
        simp only [ltt]
        refine ⟨?_, ?_⟩ <;> simp (disch := omega) only [up_neK, up_row_ne, arow]
        exact hf5
      have e : s_X1_arrive σ c = s_X2_noteForgotten (s_X0_noteForgotten (s_X3_stayAway (arS σ c) u (nI 2) (nI 24)) c) f := by
        obtain ⟨x5, x0⟩ := e9 _ rfl
        have h3 : ¬ s_X1_isShelter (s_X0_noteForgotten (s_X3_stayAway (arS σ c) u (nI 2) (nI 24)) c) (nI f) = 0 := by
          have q := (isSh_n hI0).mpr ⟨f, hf, rfl⟩
          unfold s_X1_isShelter at q ⊢
          rw [x0]
          exact q
        have e0 : s_X1_arrive σ c = (fun U => if s_X1_isShelter (s_X0_noteForgotten (s_X3_stayAway (arS σ c) U (nI 2) (nI 24)) c) (s_X0_noteForgotten (s_X3_stayAway (arS σ c) U (nI 2) (nI 24)) c (13 + U) 5) = 0 then s_X0_noteForgotten (s_X3_stayAway (arS σ c) U (nI 2) (nI 24)) c else s_X2_noteForgotten (s_X0_noteForgotten (s_X3_stayAway (arS σ c) U (nI 2) (nI 24)) c) (tn (s_X0_noteForgotten (s_X3_stayAway (arS σ c) U (nI 2) (nI 24)) c (13 + U) 5))) (tn (up σ (53 + c) 6 (σ (53 + c) 7) (53 + c) 9)) := (if_neg h1).trans (if_neg h2)
        rw [et] at e0
        dsimp only at e0
        rw [x5, if_neg h3, tn_nI (by omega)] at e0
        exact e0
      have row : ∀ p, p ≠ 13 + u → p ≠ 53 + c → p ≠ 5 + f → s_X1_arrive σ c p = σ p := by
        intro p p1 p2 p3
        rw [e]
        unfold s_X2_noteForgotten s_X0_noteForgotten s_X3_stayAway
        simp only [ltt]
        simp (disch := omega) only [up_row_ne, arow]
      have a : s_X1_arrive σ c (13 + u) 0 = nI 2 ∧ s_X1_arrive σ c (13 + u) 1 = (-1 : Int32) ∧ s_X1_arrive σ c (13 + u) 2 = σ (13 + u) 2 ∧ s_X1_arrive σ c (13 + u) 3 = nI 24 ∧ s_X1_arrive σ c (13 + u) 5 = σ (13 + u) 5 := by
        rw [e]
        unfold s_X2_noteForgotten s_X0_noteForgotten s_X3_stayAway
        simp only [ltt]
        refine ⟨?_, ?_, ?_, ?_, ?_⟩ <;> simp (disch := omega) only [up_s, up_neK, up_row_ne, arow]
      have b10 : s_X1_arrive σ c (53 + c) 10 = m_max (nI 0) (σ (53 + c) 10 - nI 2) ∧ s_X1_arrive σ c (53 + c) 13 = σ (53 + c) 13 + nI 1 := by
        rw [e]
        unfold s_X2_noteForgotten s_X0_noteForgotten s_X3_stayAway
        simp only [ltt]
        refine ⟨?_, ?_⟩ <;> simp (disch := omega) only [up_s, up_neK, up_row_ne, ark]
      have b : ∀ k, k ≠ 10 → k ≠ 13 → s_X1_arrive σ c (53 + c) k = arS σ c (53 + c) k := by
        intro k hk hk2
        rw [e]
        unfold s_X2_noteForgotten s_X0_noteForgotten s_X3_stayAway
        simp only [ltt]
        simp (disch := omega) only [up_neK, up_row_ne]
      have s3 : s_X1_arrive σ c (5 + f) 3 = σ (5 + f) 3 + nI 1 ∧ ∀ k, k ≠ 3 → k ≠ 5 → s_X1_arrive σ c (5 + f) k = σ (5 + f) k := by
        rw [e]
        unfold s_X2_noteForgotten s_X0_noteForgotten s_X3_stayAway
        simp only [ltt]
        refine ⟨?_, fun k k1 k2 => ?_⟩ <;> simp (disch := omega) only [up_s, up_neK, up_row_ne, arow]
      obtain ⟨a0, a1, a2, a3, a5⟩ := a
      refine ⟨inv_drop hI0 hu hc i9 (fun p p1 p2 p3 => row p p1 p2 (by omega)) (by rw [b 9 (by decide) (by decide), ar9, ti_m1]) (by rw [a0, k_2]; omega) ?_ ?_ (fun i hi => ?_), fun d hd => ?_⟩
      · unfold UI
        rw [a0, a1, a2, a3, a5, k_2, k_24, ti_m1]
        omega
      · unfold CI at hCc ⊢
        have hp := mmax_b (y := σ (53 + c) 10 - nI 2) (by rw [ti_sub (by rw [k_2]; omega), k_2]; omega)
        have e13 : (σ (53 + c) 13 + nI 1).toInt = (σ (53 + c) 13).toInt + 1 := ti_inc (by omega)
        rw [b10.1, b10.2, b 0 (by decide) (by decide), b 1 (by decide) (by decide), b 6 (by decide) (by decide), b 7 (by decide) (by decide), b 9 (by decide) (by decide), b 11 (by decide) (by decide), b 12 (by decide) (by decide), ar6, ar9, ark 0 (by decide) (by decide), ark 1 (by decide) (by decide), ark 7 (by decide) (by decide), ark 11 (by decide) (by decide), ark 12 (by decide) (by decide), ti_m1, e13]
        omega
      · have hsi := hs i hi
        have hcn := cn_nn (f := fH σ i) nU (fun x _ => (fH_nn σ i x).1)
        by_cases q : i = f
        · subst q
          have ef : fH σ i u = 1 := if_pos ⟨i0, hf5i⟩
          unfold SI at hsi ⊢
          have e3 : (σ (5 + i) 3 + nI 1).toInt = (σ (5 + i) 3).toInt + 1 := ti_inc (by omega)
          rw [ef, s3.1, s3.2 1 (by decide) (by decide), s3.2 2 (by decide) (by decide), e3]
          omega
        · have hn := (fH_nn σ i u).1
          rw [row (5 + i) (by omega) (by omega) (by omega)]
          exact ⟨hsi.1, by omega⟩
      · by_cases q : d = c
        · subst q; rw [b 11 (by decide) (by decide), ark 11 (by decide) (by decide)]
        · rw [row _ (by omega) (by omega) (by omega)]
end SW
theorem inv_walk {nS nU nC : Nat} (σ0 : Sg) (x : Int32) (hx : 0 ≤ x.toInt ∧ x.toInt ≤ 9) : ∀ (n k B : Nat) (τ : Sg), k + n ≤ nC → Inv B nS nU nC τ → B + 9 * n ≤ 100000000 →
    Inv (B + 9 * n) nS nU nC (lp_X1_letCitizensWalk_2 σ0 x n k τ) ∧ ∀ d, d < nC → (τ (53 + d) 11).toInt ≤ (lp_X1_letCitizensWalk_2 σ0 x n k τ (53 + d) 11).toInt := by
  intro n
  induction n with
  | zero => intro k B τ _ hI _; exact ⟨hI, fun _ _ => Int.le_refl _⟩
  | succ n ih =>
    intro k B τ hk hI hB
    have go : ∀ τ1 : Sg, Inv (B + 9) nS nU nC τ1 → (∀ d, d < nC → (τ (53 + d) 11).toInt ≤ (τ1 (53 + d) 11).toInt) → ∀ r, r = lp_X1_letCitizensWalk_2 σ0 x n (k + 1) τ1 → Inv (B + 9 * (n + 1)) nS nU nC r ∧ ∀ d, d < nC → (τ (53 + d) 11).toInt ≤ (r (53 + d) 11).toInt := by
      intro τ1 a1 a2 r hr
      obtain ⟨b1, b2⟩ := ih (k + 1) (B + 9) τ1 (by omega) a1 (by omega)
      rw [← hr] at b1 b2
      exact ⟨by rw [show B + 9 * (n + 1) = B + 9 + 9 * n by omega]; exact b1, fun d hd => Int.le_trans (a2 d hd) (b2 d hd)⟩
    by_cases c1 : τ (53 + k) 8 ≤ 0
    · exact go τ (inv_mono hI (by omega) (by omega)) (fun _ _ => Int.le_refl _) _ (if_pos c1)
    · obtain ⟨h1, h2⟩ := inv_rain hI (by omega) (show k < nC by omega) hx
      have h3 := inv_cirr (c := k) (s_X1_meetRain τ k x (53 + k) 8 - nI 1) (Or.inl rfl) h1
      have h4 : ∀ d, d < nC → (τ (53 + d) 11).toInt ≤ (up (s_X1_meetRain τ k x) (53 + k) 8 (s_X1_meetRain τ k x (53 + k) 8 - nI 1) (53 + d) 11).toInt := by
        intro d hd
        rw [up_neK _ _ _ _ (by decide)]
        exact h2 d hd
      by_cases c2 : up (s_X1_meetRain τ k x) (53 + k) 8 (s_X1_meetRain τ k x (53 + k) 8 - nI 1) (53 + k) 8 = 0
      · obtain ⟨h5, h6⟩ := inv_arr h3 (show k < nC by omega)
        exact go _ h5 (fun d hd => by rw [h6 d hd]; exact h4 d hd) _ ((if_neg c1).trans (if_pos c2))
      · exact go _ h3 h4 _ ((if_neg c1).trans (if_neg c2))
