/-! pure: what the model's reads say -/
theorem lpf_in (σ : Sg) (x : Int32) : ∀ (n k : Nat) (b : Int32), k + n ≤ 40 → (b = (-1 : Int32) ∨ vp_in b 40) → (lp_X5_first_4 σ x n k b = (-1 : Int32) ∨ vp_in (lp_X5_first_4 σ x n k b) 40) := by
  intro n
  induction n with
  | zero => intro k b hk h; exact h
  | succ n ih =>
    intro k b hk h
    have hk2 : vp_in (nI k) 40 := vp_in_nI (by omega) (by decide)
    unfold lp_X5_first_4
    repeat' split
    all_goals first | exact ih (k + 1) _ (by omega) h | exact ih (k + 1) _ (by omega) (Or.inr hk2)
theorem first_or {σ : Sg} {x : Int32} (hI : OkN σ) : s_X5_first σ x = (-1 : Int32) ∨ vp_in (s_X5_first σ x) 40 :=
  lpf_in σ x (tn (σ 0 5)) 0 (-1) (by have := hI.n5; omega) (Or.inl rfl)
theorem would_in {σ : Sg} {c sh : Nat} (hI : OkN σ) (h : ¬ s_X5_wouldGet σ c sh = 0) : vp_in (s_X5_first σ (nI sh)) 40 := by
  refine (first_or hI).resolve_left fun h1 => h ?_
  unfold s_X5_wouldGet
  simp only [ltt]
  split
  all_goals first | rfl | (rw [if_pos h1]; rfl)
theorem lpf_ne (σ : Sg) (x : Int32) : ∀ (n k : Nat) (b : Int32), k + n ≤ 40 → ¬ b = (-1 : Int32) → ¬ lp_X5_first_4 σ x n k b = (-1 : Int32) := by
  intro n
  induction n with
  | zero => intro k b hk h; exact h
  | succ n ih =>
    intro k b hk h
    have hk2 : ¬ nI k = (-1 : Int32) := by
      intro e
      have e2 := congrArg Int32.toInt e
      rw [nI_toInt (by omega)] at e2
      have e3 : (-1 : Int32).toInt = -1 := by decide
      omega
    unfold lp_X5_first_4
    repeat' split
    all_goals first | exact ih (k + 1) _ (by omega) h | exact ih (k + 1) _ (by omega) hk2
/-- what is counted is a number of at most so many; none is counted where none is first -/
theorem lpt_nI (σ : Sg) (x : Int32) : ∀ (n k j : Nat), ∃ i : Nat, lp_X5_there_4 σ x n k (nI j) = nI (j + i) ∧ i ≤ n := by
  intro n
  induction n with
  | zero => intro k j; exact ⟨0, rfl, Nat.le_refl 0⟩
  | succ n ih =>
    intro k j
    unfold lp_X5_there_4
    repeat' split
    all_goals
      rw [nI_add]
      first
        | (obtain ⟨i, e, hi⟩ := ih (k + 1) (j + 1); exact ⟨1 + i, by rw [e]; congr 1; omega, by omega⟩)
        | (obtain ⟨i, e, hi⟩ := ih (k + 1) (j + 0); exact ⟨i, by rw [e]; congr 1, by omega⟩)
theorem lpt_0 (σ : Sg) (x : Int32) : ∀ (n k : Nat) (b c : Int32), k + n ≤ 40 → lp_X5_first_4 σ x n k b = (-1 : Int32) → lp_X5_there_4 σ x n k c = c := by
  intro n
  induction n with
  | zero => intro k b c hk h; rfl
  | succ n ih =>
    intro k b c hk h
    have hk2 : ¬ nI k = (-1 : Int32) := by
      intro e
      have e2 := congrArg Int32.toInt e
      rw [nI_toInt (by omega)] at e2
      have e3 : (-1 : Int32).toInt = -1 := by decide
      omega
    have hc0 : c + nI 0 = c := by rw [nI_0]; exact Int32.add_zero c
    unfold lp_X5_first_4 at h
    unfold lp_X5_there_4
    by_cases h1 : σ 4 k = 0
    · rw [if_pos h1] at h ⊢
      by_cases h2 : σ 5 k = x
      · rw [if_pos h2] at h
        by_cases h3 : b = (-1 : Int32)
        · rw [if_pos h3] at h
          exact absurd h (lpf_ne σ x n (k + 1) _ (by omega) hk2)
        · rw [if_neg h3] at h
          split at h
          · exact absurd h (lpf_ne σ x n (k + 1) _ (by omega) h3)
          · exact absurd h (lpf_ne σ x n (k + 1) _ (by omega) hk2)
      · rw [if_neg h2] at h ⊢
        rw [hc0]
        exact ih (k + 1) b c (by omega) h
    · rw [if_neg h1] at h ⊢
      rw [hc0]
      exact ih (k + 1) b c (by omega) h
theorem there_nI {σ : Sg} (hI : OkN σ) (x : Int32) : ∃ i : Nat, s_X5_there σ x = nI i ∧ i ≤ 40 := by
  obtain ⟨i, e, hi⟩ := lpt_nI σ x (tn (σ 0 5)) 0 0
  have := hI.n5
  exact ⟨i, by show lp_X5_there_4 σ x (tn (σ 0 5)) 0 (nI 0) = nI i; rw [e, Nat.zero_add], by omega⟩
theorem there_0 {σ : Sg} (hI : OkN σ) {x : Int32} (h : s_X5_first σ x = (-1 : Int32)) : s_X5_there σ x = nI 0 :=
  lpt_0 σ x (tn (σ 0 5)) 0 (-1) (nI 0) (by have := hI.n5; omega) h
theorem first_of_there {σ : Sg} (hI : OkN σ) {a b : Int32} (h : nI 2 ≤ s_X5_there σ a - s_X5_there σ b) : vp_in (s_X5_first σ a) 40 := by
  refine (first_or hI).resolve_left fun h1 => absurd h ?_
  obtain ⟨i, e, hi⟩ := there_nI hI b
  rw [there_0 hI h1, e, Int32.le_iff_toInt_le, Int32.toInt_sub, nI_toInt (by omega), nI_toInt (by omega), nI_toInt (by omega), Int.bmod_eq_of_le_mul_two (by omega) (by omega)]
  omega
theorem z_X5_comeBack (σ : Sg) (u : Nat) : (s_X5_comeBack σ u) 0 = σ 0 := by
  unfold s_X5_comeBack
  simp only [ltt]
  repeat' split
  all_goals simp [up_z]
theorem z_X5_lay (σ : Sg) (c u : Nat) : (s_X5_lay σ c u) 0 = σ 0 := by
  unfold s_X5_lay
  simp only [ltt]
  repeat' split
  all_goals simp [up_z]
theorem z_X5_walk (σ : Sg) (c : Nat) (x : Int32) : (s_X5_walk σ c x) 0 = σ 0 := by
  unfold s_X5_walk
  simp only [ltt]
  repeat' split
  all_goals simp [up_z, z_X5_lay]
