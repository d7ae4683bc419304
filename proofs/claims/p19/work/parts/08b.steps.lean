/-! THE STEPS OF AN HOUR KEEP IT -/
theorem k_0 : (nI 0).toInt = 0 := ti_n (by decide)
theorem k_1 : (nI 1).toInt = 1 := ti_n (by decide)
theorem k_2 : (nI 2).toInt = 2 := ti_n (by decide)
theorem k_3 : (nI 3).toInt = 3 := ti_n (by decide)
theorem k_10 : (nI 10).toInt = 10 := ti_n (by decide)
theorem k_12 : (nI 12).toInt = 12 := ti_n (by decide)
theorem k_24 : (nI 24).toInt = 24 := ti_n (by decide)
theorem k_30 : (nI 30).toInt = 30 := ti_n (by decide)
theorem ti_inc {x : Int32} (h : -1000000000 ≤ x.toInt ∧ x.toInt ≤ 1000000000) : (x + nI 1).toInt = x.toInt + 1 := by
  rw [ti_add (by rw [k_1]; omega), k_1]
theorem mmin_b {y : Int32} (h : 0 ≤ y.toInt) : 0 ≤ (m_min (nI 10) y).toInt ∧ (m_min (nI 10) y).toInt ≤ 10 := by
  unfold m_min
  by_cases q : y < nI 10
  · rw [if_pos q]; have q2 := tl.mp q; rw [k_10] at q2; omega
  · rw [if_neg q, k_10]; omega
theorem mmax_b {y : Int32} (h : y.toInt ≤ 10) : 0 ≤ (m_max (nI 0) y).toInt ∧ (m_max (nI 0) y).toInt ≤ 10 := by
  unfold m_max
  by_cases q : nI 0 < y
  · rw [if_pos q]; have q2 := tl.mp q; rw [k_0] at q2; omega
  · rw [if_neg q, k_0]; omega
theorem wait_row (σ : Sg) (u p : Nat) (hp : p ≠ 13 + u) : s_X3_waitAnHour σ u p = σ p := by
  unfold s_X3_waitAnHour s_X3_standIn
  simp only [ltt]
  repeat' split
  all_goals first | rfl | (repeat rw [up_row_ne _ _ _ hp])
section ST
variable {B nS nU nC : Nat} {σ : Sg}
theorem inv_wait {u : Nat} (hI : Inv B nS nU nC σ) (hu : u < nU) : Inv B nS nU nC (s_X3_waitAnHour σ u) := by
  have hI0 := hI
  obtain ⟨⟨n0, n1, n8, n40, n10, nB⟩, hr, hs, hU, hc, hh⟩ := hI
  have hUu := hU u hu
  by_cases h3 : σ (13 + u) 3 = 0
  · have e : s_X3_waitAnHour σ u = σ := if_pos h3
    rw [e]; exact hI0
  · have h3' : ¬ (σ (13 + u) 3).toInt = 0 := fun q => h3 (te_0.mpr q)
    unfold UI at hUu
    have ew : (σ (13 + u) 3 - nI 1).toInt = (σ (13 + u) 3).toInt - 1 := by rw [ti_sub (by rw [k_1]; omega), k_1]
    have hrow := wait_row σ u
    by_cases hz : σ (13 + u) 3 - nI 1 ≤ 0
    · have hz' := tle.mp hz
      rw [ew, ti_0] at hz'
      by_cases h03 : σ (13 + u) 0 = nI 3
      · have ec : s_X3_waitAnHour σ u = up (up (up (up (up σ (13 + u) 3 (σ (13 + u) 3 - nI 1)) (13 + u) 2 (nI 0)) (13 + u) 0 (nI 0)) (13 + u) 1 (nI 0)) (13 + u) 3 (nI 0) := by
          simp [s_X3_waitAnHour, s_X3_standIn, ltt, up, h3, hz, h03]
        have a0 : s_X3_waitAnHour σ u (13 + u) 0 = nI 0 := by rw [ec]; simp (disch := omega) only [up_s, up_neK]
        have a1 : s_X3_waitAnHour σ u (13 + u) 1 = nI 0 := by rw [ec]; simp (disch := omega) only [up_s, up_neK]
        have a2 : s_X3_waitAnHour σ u (13 + u) 2 = nI 0 := by rw [ec]; simp (disch := omega) only [up_s, up_neK]
        have a3 : s_X3_waitAnHour σ u (13 + u) 3 = nI 0 := by rw [ec]; simp (disch := omega) only [up_s, up_neK]
        refine inv_um hI0 hu (fun p hp _ => hrow p hp) (congrFun (hrow 0 (by omega)) 5) (congrFun (hrow 0 (by omega)) 6) (congrFun (hrow 0 (by omega)) 7) (by omega) (by rw [a0, k_0]; omega) ?_
        unfold UI
        rw [a0, a1, a2, a3, k_0]
        omega
      · have h03' : ¬ (σ (13 + u) 0).toInt = 3 := fun q => h03 ((te_n 3 (by decide)).mpr q)
        have ec : s_X3_waitAnHour σ u = up (up (up (up σ (13 + u) 3 (σ (13 + u) 3 - nI 1)) (13 + u) 0 (nI 0)) (13 + u) 1 (σ (13 + u) 5)) (13 + u) 3 (nI 0) := by
          simp [s_X3_waitAnHour, s_X3_standIn, ltt, up, h3, hz, h03]
        have a0 : s_X3_waitAnHour σ u (13 + u) 0 = nI 0 := by rw [ec]; simp (disch := omega) only [up_s, up_neK]
        have a1 : s_X3_waitAnHour σ u (13 + u) 1 = σ (13 + u) 5 := by rw [ec]; simp (disch := omega) only [up_s, up_neK]
        have a2 : s_X3_waitAnHour σ u (13 + u) 2 = σ (13 + u) 2 := by rw [ec]; simp (disch := omega) only [up_s, up_neK]
        have a3 : s_X3_waitAnHour σ u (13 + u) 3 = nI 0 := by rw [ec]; simp (disch := omega) only [up_s, up_neK]
        refine inv_um hI0 hu (fun p hp _ => hrow p hp) (congrFun (hrow 0 (by omega)) 5) (congrFun (hrow 0 (by omega)) 6) (congrFun (hrow 0 (by omega)) 7) (by omega) (by rw [a0, k_0]; omega) ?_
        unfold UI
        rw [a0, a1, a2, a3, k_0]
        omega
    · have hz' : ¬ (σ (13 + u) 3).toInt - 1 ≤ 0 := fun q => hz (tle.mpr (by rw [ew, ti_0]; exact q))
      have ec : s_X3_waitAnHour σ u = up σ (13 + u) 3 (σ (13 + u) 3 - nI 1) := by
        simp [s_X3_waitAnHour, ltt, up, h3, hz]
      have a0 : s_X3_waitAnHour σ u (13 + u) 0 = σ (13 + u) 0 := by rw [ec]; simp (disch := omega) only [up_neK]
      have a1 : s_X3_waitAnHour σ u (13 + u) 1 = σ (13 + u) 1 := by rw [ec]; simp (disch := omega) only [up_neK]
      have a2 : s_X3_waitAnHour σ u (13 + u) 2 = σ (13 + u) 2 := by rw [ec]; simp (disch := omega) only [up_neK]
      have a3 : s_X3_waitAnHour σ u (13 + u) 3 = σ (13 + u) 3 - nI 1 := by rw [ec]; simp (disch := omega) only [up_s]
      have a5 : s_X3_waitAnHour σ u (13 + u) 5 = σ (13 + u) 5 := by rw [ec]; simp (disch := omega) only [up_neK]
      refine inv_um hI0 hu (fun p hp _ => hrow p hp) (congrFun (hrow 0 (by omega)) 5) (congrFun (hrow 0 (by omega)) 6) (congrFun (hrow 0 (by omega)) 7) (by omega) (by rw [a0]; omega) ?_
      unfold UI
      rw [a0, a1, a2, a3, a5, ew]
      omega
theorem end_row (i p : Nat) (hp : p ≠ 5 + i) : s_X2_endDay σ i p = σ p := by
  unfold s_X2_endDay
  simp only [ltt]
  repeat' split
  all_goals (repeat rw [up_row_ne _ _ _ hp])
theorem end_at (i k : Nat) (h1 : k ≠ 1) (h5 : k ≠ 5) (h6 : k ≠ 6) : s_X2_endDay σ i (5 + i) k = σ (5 + i) k := by
  unfold s_X2_endDay
  simp only [ltt]
  repeat' split
  all_goals simp (disch := omega) only [up_neK]
theorem end_dem (i : Nat) (h : 0 ≤ (σ (5 + i) 1).toInt ∧ (σ (5 + i) 1).toInt ≤ 10) : 0 ≤ (s_X2_endDay σ i (5 + i) 1).toInt ∧ (s_X2_endDay σ i (5 + i) 1).toInt ≤ 10 := by
  have hp := mmin_b (y := σ (5 + i) 1 + nI 1) (by rw [ti_inc (by omega)]; omega)
  have hm := mmax_b (y := σ (5 + i) 1 - nI 1) (by rw [ti_sub (by rw [k_1]; omega), k_1]; omega)
  unfold s_X2_endDay
  simp only [ltt]
  repeat' split
  all_goals simp (disch := omega) only [up_neK, up_s]
  all_goals first | exact h | exact hp | exact hm
theorem inv_end {i : Nat} (hI : Inv B nS nU nC σ) (hi : i < nS) : Inv B nS nU nC (s_X2_endDay σ i) := by
  have h8 := hI.1.2.2.1
  exact inv_sh hI (by omega) (end_row i) (end_at i 2 (by decide) (by decide) (by decide)) (end_at i 3 (by decide) (by decide) (by decide)) (fun _ => end_dem i (hI.2.2.1 i hi).1.1)
/-! citizens leave -/
theorem out_form (X : Sg) (c : Nat) : ∃ g lf : Int32, s_X0_setOut X c = up (up (up X (53 + c) 7 g) (53 + c) 6 (-1 : Int32)) (53 + c) 8 lf ∧ (g = X (53 + c) 0 ∨ g = X (53 + c) 1) := by
  by_cases e : X (53 + c) 6 = X (53 + c) 0
  · exact ⟨X (53 + c) 1, _, if_pos e, Or.inr rfl⟩
  · exact ⟨X (53 + c) 0, _, if_neg e, Or.inl rfl⟩
theorem out_row (X : Sg) (c p : Nat) (hp : p ≠ 53 + c) : s_X0_setOut X c p = X p := by
  obtain ⟨g, lf, e, -⟩ := out_form X c
  rw [e]
  simp (disch := omega) only [up_row_ne]
theorem out_at (X : Sg) (c k : Nat) (h6 : k ≠ 6) (h7 : k ≠ 7) (h8 : k ≠ 8) : s_X0_setOut X c (53 + c) k = X (53 + c) k := by
  obtain ⟨g, lf, e, -⟩ := out_form X c
  rw [e]
  simp (disch := omega) only [up_neK]
theorem inv_out {c : Nat} (hI : Inv B nS nU nC σ) (hc : c < nC) : Inv B nS nU nC (s_X0_setOut σ c) := by
  have hC := hI.2.2.2.2.1 c hc
  refine inv_ci hI (Nat.le_refl B) hI.1.2.2.2.2.2 (out_row σ c) (out_at σ c 9 (by decide) (by decide) (by decide)) (fun _ => ?_)
  obtain ⟨g, lf, e, hg⟩ := out_form σ c
  have a6 : s_X0_setOut σ c (53 + c) 6 = (-1 : Int32) := by rw [e]; simp (disch := omega) only [up_s, up_neK]
  have a7 : s_X0_setOut σ c (53 + c) 7 = g := by rw [e]; simp (disch := omega) only [up_s, up_neK]
  have a : ∀ k, k ≠ 6 → k ≠ 7 → k ≠ 8 → s_X0_setOut σ c (53 + c) k = σ (53 + c) k := out_at σ c
  unfold CI at hC ⊢
  rw [a6, a7, a 0 (by decide) (by decide) (by decide), a 1 (by decide) (by decide) (by decide), a 9 (by decide) (by decide) (by decide), a 10 (by decide) (by decide) (by decide), a 11 (by decide) (by decide) (by decide), a 12 (by decide) (by decide) (by decide), a 13 (by decide) (by decide) (by decide), ti_m1]
  rcases hg with rfl | rfl <;> omega
theorem stands_iff (σ : Sg) (u : Nat) (x : Int32) : ¬ s_X3_standsIn σ u x = 0 ↔ σ (13 + u) 0 = 0 ∧ σ (13 + u) 1 = x := by
  unfold s_X3_standsIn
  by_cases h : σ (13 + u) 0 = 0
  · rw [if_pos h]
    by_cases h1 : σ (13 + u) 1 = x
    · rw [if_pos h1]; exact ⟨fun _ => ⟨h, h1⟩, fun _ => by decide⟩
    · rw [if_neg h1]; exact ⟨fun q => absurd nI_0 q, fun q => absurd q.2 h1⟩
  · rw [if_neg h]; exact ⟨fun q => absurd nI_0 q, fun q => absurd q.1 h⟩
theorem lp_first (σ : Sg) (x : Int32) : ∀ (n k : Nat) (f lw : Int32), (lp_X1_firstUmbrellaIn_8 σ x n k f lw).1 = f ∨ ∃ u, u < k + n ∧ (lp_X1_firstUmbrellaIn_8 σ x n k f lw).1 = nI u ∧ σ (13 + u) 0 = 0 ∧ σ (13 + u) 1 = x := by
  intro n
  induction n with
  | zero => intro k f lw; exact Or.inl rfl
  | succ n ih =>
    intro k f lw
    have go : ∀ f2 lw2, (lp_X1_firstUmbrellaIn_8 σ x n (k + 1) f2 lw2).1 = f2 ∨ ∃ u, u < k + (n + 1) ∧ (lp_X1_firstUmbrellaIn_8 σ x n (k + 1) f2 lw2).1 = nI u ∧ σ (13 + u) 0 = 0 ∧ σ (13 + u) 1 = x := fun f2 lw2 => (ih (k + 1) f2 lw2).imp id (fun ⟨u, a, b⟩ => ⟨u, by omega, b⟩)
    by_cases h : s_X3_standsIn σ k x = 0
    · have e : lp_X1_firstUmbrellaIn_8 σ x (n + 1) k f lw = lp_X1_firstUmbrellaIn_8 σ x n (k + 1) f lw := if_pos h
      rw [e]; exact go f lw
    · by_cases h2 : lw ≤ σ (13 + k) 2
      · have e : lp_X1_firstUmbrellaIn_8 σ x (n + 1) k f lw = lp_X1_firstUmbrellaIn_8 σ x n (k + 1) f lw := (if_neg h).trans (if_pos h2)
        rw [e]; exact go f lw
      · have e : lp_X1_firstUmbrellaIn_8 σ x (n + 1) k f lw = lp_X1_firstUmbrellaIn_8 σ x n (k + 1) (nI k) (σ (13 + k) 2) := (if_neg h).trans (if_neg h2)
        rw [e]
        rcases go (nI k) (σ (13 + k) 2) with q | q
        · exact Or.inr ⟨k, by omega, q, (stands_iff σ k x).mp h⟩
        · exact Or.inr q
theorem first_form (hI : Inv B nS nU nC σ) (x : Int32) : s_X1_firstUmbrellaIn σ x = (-1 : Int32) ∨ ∃ u, u < nU ∧ s_X1_firstUmbrellaIn σ x = nI u ∧ σ (13 + u) 0 = 0 ∧ σ (13 + u) 1 = x := by
  have h := lp_first σ x (tn (σ 0 6)) 0 (-1) (nI 30)
  rw [(inv_tn hI).2.1, Nat.zero_add] at h
  have e : s_X1_firstUmbrellaIn σ x = (lp_X1_firstUmbrellaIn_8 σ x nU 0 (-1) (nI 30)).1 := by rw [← (inv_tn hI).2.1]; rfl
  rw [e]
  exact h
theorem isUm_m1 (σ : Sg) : s_X1_isUmbrella σ (-1) = 0 := (if_pos (by decide)).trans nI_0
theorem isUm_n (hI : Inv B nS nU nC σ) {x : Int32} : ¬ s_X1_isUmbrella σ x = 0 ↔ ∃ u, u < nU ∧ x = nI u := by
  obtain ⟨⟨⟨n5, n6, n7⟩, n1, n8, n40, n10, nB⟩, -⟩ := hI
  constructor
  · intro h
    by_cases h0 : x < 0
    · exact absurd ((if_pos h0).trans nI_0) h
    · by_cases h1 : σ 0 6 ≤ x
      · exact absurd ((if_neg h0).trans ((if_pos h1).trans nI_0)) h
      · have h0' : ¬ x.toInt < 0 := fun q => h0 (tl.mpr (by rw [ti_0]; exact q))
        have h1' : ¬ (nU : Int) ≤ x.toInt := fun q => h1 (tle.mpr (by rw [n6, ti_n (by omega)]; exact q))
        exact ⟨tn x, by have := ti_tn (x := x) (by omega); omega, (te_n _ (by have := ti_tn (x := x) (by omega); omega)).mpr (ti_tn (by omega))⟩
  · rintro ⟨u, hu, rfl⟩
    have e : s_X1_isUmbrella σ (nI u) = nI 1 := by
      unfold s_X1_isUmbrella
      rw [if_neg (nI_pos (by omega)), n6, if_neg (nI_ge hu (by omega))]
    rw [e]; decide
theorem isSh_n (hI : Inv B nS nU nC σ) {x : Int32} : ¬ s_X1_isShelter σ x = 0 ↔ ∃ u, u < nS ∧ x = nI u := by
  obtain ⟨⟨⟨n5, n6, n7⟩, n1, n8, n40, n10, nB⟩, -⟩ := hI
  constructor
  · intro h
    by_cases h0 : x < 0
    · exact absurd ((if_pos h0).trans nI_0) h
    · by_cases h1 : σ 0 5 ≤ x
      · exact absurd ((if_neg h0).trans ((if_pos h1).trans nI_0)) h
      · have h0' : ¬ x.toInt < 0 := fun q => h0 (tl.mpr (by rw [ti_0]; exact q))
        have h1' : ¬ (nS : Int) ≤ x.toInt := fun q => h1 (tle.mpr (by rw [n5, ti_n (by omega)]; exact q))
        exact ⟨tn x, by have := ti_tn (x := x) (by omega); omega, (te_n _ (by have := ti_tn (x := x) (by omega); omega)).mpr (ti_tn (by omega))⟩
  · rintro ⟨u, hu, rfl⟩
    have e : s_X1_isShelter σ (nI u) = nI 1 := by
      unfold s_X1_isShelter
      rw [if_neg (nI_pos (by omega)), n5, if_neg (nI_ge hu (by omega))]
    rw [e]; decide
theorem of_rng {x : Int32} {n : Nat} (h0 : 0 ≤ x.toInt) (h1 : x.toInt < n) : ∃ j, j < n ∧ x = nI j ∧ x.toInt = (j : Int) := by
  have e := ti_tn h0
  have hb := Int32.toInt_lt x
  exact ⟨tn x, by omega, (te_n _ (by omega)).mpr e, e⟩
end ST
