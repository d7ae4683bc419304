/-! pure: what the checks say -/
theorem within_0 {x : Int32} {b : Nat} (h : ¬ s_X4_isWithin x (nI 0) (nI b) = 0) (hb : b + 1 < 2 ^ 31) : vp_in x (b + 1) := by
  unfold s_X4_isWithin at h
  by_cases h0 : x < nI 0
  · rw [if_pos h0] at h; exact absurd nI_0 h
  · rw [if_neg h0] at h
    by_cases h1 : nI b < x
    · rw [if_pos h1] at h; exact absurd nI_0 h
    · rw [vp_in_iff]
      rw [Int32.lt_iff_toInt_lt] at h0 h1
      rw [nI_toInt (by omega)] at h1
      rw [nI_toInt (by omega)] at h0
      omega
theorem within_1 {x : Int32} {b : Nat} (h : ¬ s_X4_isWithin x (nI 1) (nI b) = 0) (hb : b + 1 < 2 ^ 31) : vp_in x (b + 1) := by
  unfold s_X4_isWithin at h
  by_cases h0 : x < nI 1
  · rw [if_pos h0] at h; exact absurd nI_0 h
  · rw [if_neg h0] at h
    by_cases h1 : nI b < x
    · rw [if_pos h1] at h; exact absurd nI_0 h
    · rw [vp_in_iff]
      rw [Int32.lt_iff_toInt_lt] at h0 h1
      rw [nI_toInt (by omega)] at h1
      rw [nI_toInt (by omega)] at h0
      omega
theorem xc_sh {σ : Sg × Sg} {x : Int32} (h : s_X4_checkShelter σ x = .inr ()) : ¬ s_X1_isShelter σ.1 x = 0 := by
  intro h0
  unfold s_X4_checkShelter at h
  simp only [ltt] at h
  rw [if_pos h0] at h
  cases h
theorem xc_um {σ : Sg × Sg} {x : Int32} (h : s_X4_checkUmbrella σ x = .inr ()) : ¬ s_X1_isUmbrella σ.1 x = 0 := by
  intro h0
  unfold s_X4_checkUmbrella at h
  simp only [ltt] at h
  rw [if_pos h0] at h
  cases h
theorem xc_ci {σ : Sg × Sg} {x : Int32} (h : s_X4_checkCitizen σ x = .inr ()) : ¬ s_X1_isCitizen σ.1 x = 0 := by
  intro h0
  unfold s_X4_checkCitizen at h
  simp only [ltt] at h
  rw [if_pos h0] at h
  cases h
theorem xc_hr {x : Int32} (h : s_X4_checkHourOfDay x = .inr ()) : vp_in x 24 := by
  refine within_0 (b := 23) (fun h0 => ?_) (by decide)
  have e : s_X4_checkHourOfDay x = if s_X4_isWithin x (nI 0) (nI 23) = 0 then .inl "java/lang/IndexOutOfBoundsException" else .inr () := rfl
  rw [e, if_pos h0] at h
  cases h
theorem xc_hours {x : Int32} {b : Nat} (h : s_X4_checkHours x (nI b) = .inr ()) (hb : b + 1 < 2 ^ 31) : vp_in x (b + 1) := by
  refine within_1 (fun h0 => ?_) hb
  unfold s_X4_checkHours at h
  simp only [ltt] at h
  rw [if_pos h0] at h
  cases h
theorem ok_lp_X1_letGoBy_4 : ∀ (n k : Nat) (a : Int32) (τ : Sg), OkR τ → OkR (lp_X1_letGoBy_4 n k a τ).2 := by
  intro n
  induction n with
  | zero => intro k a τ h; exact h
  | succ n ih =>
    intro k a τ h
    have hW : ∀ (x : Nat) (z : Int32), OkR (s_X1_letCitizensWalk (s_X1_letCitizensLeave (s_X1_letUmbrellasWait τ) x).2 z) := fun x z => ok_X1_letCitizensWalk _ _ (ok_X1_letCitizensLeave _ _ (ok_X1_letUmbrellasWait _ h))
    unfold lp_X1_letGoBy_4
    simp only [ltt]
    repeat' split
    all_goals
      with_reducible apply ih
      refine OkR_up0 rfl (by decide) ?_
      repeat (first | with_reducible exact hW _ _ | with_reducible apply ok_X1_endDay | with_reducible apply ok_X1_driveCart)
theorem ok_X1_letGoBy (σ : Sg) (nh : Nat) (h : OkR σ) : OkR (s_X1_letGoBy σ nh).2 := ok_lp_X1_letGoBy_4 nh 0 (nI 0) σ h
