/-! pure: the model's checks, what stays -/
theorem vp_mono {x : Int32} {a b : Nat} (h : vp_in x a) (hab : a ≤ b) : vp_in x b := by
  rw [vp_in_iff] at h ⊢
  omega
theorem isIn_n {x c : Int32} {N : Nat} (hc : c = nI N) (hN : N < 2 ^ 31) (h : ¬ s_X6_isIn x (nI 0) (c - nI 1) = 0) : vp_in x N := by
  unfold s_X6_isIn at h
  have e0 : (nI 0).toInt = 0 := nI_toInt (by decide)
  have e1 : (c - nI 1).toInt = (N : Int) - 1 := by
    rw [hc, Int32.toInt_sub, nI_toInt hN, nI_toInt (by decide), Int.bmod_eq_of_le_mul_two (by omega) (by omega)]
    rfl
  by_cases h0 : x < nI 0
  · rw [if_pos h0] at h; exact absurd nI_0 h
  · rw [if_neg h0] at h
    by_cases h1 : c - nI 1 < x
    · rw [if_pos h1] at h; exact absurd nI_0 h
    · rw [vp_in_iff]
      rw [Int32.lt_iff_toInt_lt, e0] at h0
      rw [Int32.lt_iff_toInt_lt, e1] at h1
      omega
theorem isIn_0 {x : Int32} {b : Nat} (h : ¬ s_X6_isIn x (nI 0) (nI b) = 0) (hb : b + 1 < 2 ^ 31) : vp_in x (b + 1) := by
  unfold s_X6_isIn at h
  by_cases h0 : x < nI 0
  · rw [if_pos h0] at h; exact absurd nI_0 h
  · rw [if_neg h0] at h
    by_cases h1 : nI b < x
    · rw [if_pos h1] at h; exact absurd nI_0 h
    · rw [vp_in_iff]
      rw [Int32.lt_iff_toInt_lt] at h0 h1
      rw [nI_toInt (by omega)] at h1
      rw [nI_toInt (by omega)] at h0
      omega
theorem isIn_1 {x : Int32} {b : Nat} (h : ¬ s_X6_isIn x (nI 1) (nI b) = 0) (hb : b + 1 < 2 ^ 31) : vp_in x (b + 1) := by
  unfold s_X6_isIn at h
  by_cases h0 : x < nI 1
  · rw [if_pos h0] at h; exact absurd nI_0 h
  · rw [if_neg h0] at h
    by_cases h1 : nI b < x
    · rw [if_pos h1] at h; exact absurd nI_0 h
    · rw [vp_in_iff]
      rw [Int32.lt_iff_toInt_lt] at h0 h1
      rw [nI_toInt (by omega)] at h1
      rw [nI_toInt (by omega)] at h0
      omega
theorem in6_shN {σ : Sg × Sg × Sg} {x : Int32} (hI : OkN σ.2.1) (h : ¬ s_X6_isShelter σ x = 0) : vp_in x (tn (σ.2.1 0 1)) := isIn_n hI.c1 (by have := hI.n1; omega) h
theorem in6_sh {σ : Sg × Sg × Sg} {x : Int32} (hI : OkN σ.2.1) (h : ¬ s_X6_isShelter σ x = 0) : vp_in x 8 := vp_mono (in6_shN hI h) hI.n1
theorem in6_ci {σ : Sg × Sg × Sg} {x : Int32} (hI : OkN σ.2.1) (h : ¬ s_X6_isCitizen σ x = 0) : vp_in x 10 := vp_mono (isIn_n hI.c12 (by have := hI.n12; omega) h) hI.n12
theorem o_lp10 (σ : Sg × Sg) : ∀ (n k : Nat) (τ : Sg × Sg), (lp_X5_pass_10 σ n k τ).2 = τ.2 := by
  intro n
  induction n with
  | zero => intro k τ; rfl
  | succ n ih =>
    intro k τ
    unfold lp_X5_pass_10
    simp only [ltt]
    split <;> rw [ih]
theorem o_lp42 (σ : Sg × Sg) : ∀ (n k : Nat) (a : Int32) (τ : Sg × Sg), (lp_X5_pass_42 σ n k a τ).2.2 = τ.2 := by
  intro n
  induction n with
  | zero => intro k a τ; rfl
  | succ n ih =>
    intro k a τ
    unfold lp_X5_pass_42
    simp only [ltt]
    repeat' split
    all_goals rw [ih]
    all_goals first | rfl | rw [o_X5_leave]
theorem o_lp124 (σ : Sg × Sg) (x : Int32) : ∀ (n k : Nat) (τ : Sg × Sg), (lp_X5_pass_124 σ x n k τ).2 = τ.2 := by
  intro n
  induction n with
  | zero => intro k τ; rfl
  | succ n ih =>
    intro k τ
    unfold lp_X5_pass_124
    simp only [ltt]
    repeat' split
    all_goals rw [ih]
theorem o_X5_pass (σ : Sg × Sg) : (s_X5_pass σ).2.2 = σ.2 := by
  unfold s_X5_pass
  simp only [ltt]
  repeat' split
  all_goals simp only [o_lp124, o_lp42, o_lp10]
theorem o_lp_X6_pass (σ : Sg × Sg) (nh : Nat) : ∀ (n k : Nat) (a : Int32) (τ : Sg × Sg), (lp_X6_pass_4 σ nh n k a τ).2.2 = τ.2 := by
  intro n
  induction n with
  | zero => intro k a τ; rfl
  | succ n ih =>
    intro k a τ
    unfold lp_X6_pass_4
    simp only [ltt]
    rw [ih, o_X5_pass]
theorem o_X6_pass (σ : Sg × Sg) (nh : Nat) : (s_X6_pass σ nh).2.2 = σ.2 := o_lp_X6_pass σ nh nh 0 _ σ
theorem iv_lp_X6_pass {IV : Nat → Sg × Sg → Prop} (hQ : QInv IV) (σ : Sg × Sg) (nh : Nat) : ∀ (n k h : Nat) (a : Int32) (τ : Sg × Sg), h + n < 100000 → IV h τ → IV (h + n) (lp_X6_pass_4 σ nh n k a τ).2 := by
  intro n
  induction n with
  | zero => intro k h a τ hh hi; exact hi
  | succ n ih =>
    intro k h a τ hh hi
    unfold lp_X6_pass_4
    simp only [ltt]
    have h1 := ih (k + 1) (h + 1) (a + (s_X5_pass τ).1) (s_X5_pass τ).2 (by omega) (hQ.2.2.1 _ _ hi (by omega))
    rw [show h + (n + 1) = h + 1 + n by omega]
    exact h1
theorem iv_X6_pass {IV : Nat → Sg × Sg → Prop} (hQ : QInv IV) {σ : Sg × Sg} {h nh : Nat} (hh : h + nh < 100000) (hi : IV h σ) : IV (h + nh) (s_X6_pass σ nh).2 := iv_lp_X6_pass hQ σ nh nh 0 h _ σ hh hi
theorem become_0 (σ : Sg × Sg) (k : Nat) (hk : k = 0 ∨ k = 1 ∨ k = 5 ∨ k = 12 ∨ k = 20) : (s_X5_become σ).2 0 k = σ.1 0 k := by
  unfold s_X5_become
  simp only [ltt, s_X5_copy, upr, up]
  rcases hk with rfl | rfl | rfl | rfl | rfl <;> simp
theorem keep_upr {σ u : Sg} {b : Nat → Int32} {p q : Nat} {g : Nat → Int32} (e : u = upr σ p g) (h : q ≠ p) (hk : σ q = b) : u q = b := by rw [e, upr_ne σ g h]; exact hk
