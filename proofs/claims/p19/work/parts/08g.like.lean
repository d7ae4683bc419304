/-! the state ahead becomes like the state now; an umbrella more -/
theorem in_mono {x : Int32} {n m : Nat} (h : vp_in x n) (hm : n ≤ m) : vp_in x m := by
  rw [vp_in_iff] at h ⊢
  omega
theorem be2_ne (τ : Sg × Sg) (k p : Nat) (h : p ≠ 5 + k) : (s_X2_becomeLike τ k).2 p = τ.2 p := by
  unfold s_X2_becomeLike
  simp only [ltt]
  simp (disch := omega) only [up_row_ne]
theorem be2_at (τ : Sg × Sg) (k x : Nat) (h : x < 7) : (s_X2_becomeLike τ k).2 (5 + k) x = τ.1 (5 + k) x := by
  unfold s_X2_becomeLike
  simp only [ltt]
  have hx : x = 0 ∨ x = 1 ∨ x = 2 ∨ x = 3 ∨ x = 4 ∨ x = 5 ∨ x = 6 := by omega
  rcases hx with rfl | rfl | rfl | rfl | rfl | rfl | rfl <;> simp (disch := decide) only [up_s, up_neK]
theorem be2_1 (τ : Sg × Sg) (k : Nat) : (s_X2_becomeLike τ k).1 = τ.1 := rfl
theorem be3_ne (τ : Sg × Sg) (k p : Nat) (h : p ≠ 13 + k) : (s_X3_becomeLike τ k).2 p = τ.2 p := by
  unfold s_X3_becomeLike
  simp only [ltt]
  simp (disch := omega) only [up_row_ne]
theorem be3_at (τ : Sg × Sg) (k x : Nat) (h : x < 6) : (s_X3_becomeLike τ k).2 (13 + k) x = τ.1 (13 + k) x := by
  unfold s_X3_becomeLike
  simp only [ltt]
  have hx : x = 0 ∨ x = 1 ∨ x = 2 ∨ x = 3 ∨ x = 4 ∨ x = 5 := by omega
  rcases hx with rfl | rfl | rfl | rfl | rfl | rfl <;> simp (disch := decide) only [up_s, up_neK]
theorem be3_1 (τ : Sg × Sg) (k : Nat) : (s_X3_becomeLike τ k).1 = τ.1 := rfl
theorem be0_ne (τ : Sg × Sg) (k p : Nat) (h : p ≠ 53 + k) : (s_X0_becomeLike τ k).2 p = τ.2 p := by
  unfold s_X0_becomeLike
  simp only [ltt]
  simp (disch := omega) only [up_row_ne]
theorem be0_at (τ : Sg × Sg) (k x : Nat) (h : x < 15) : (s_X0_becomeLike τ k).2 (53 + k) x = τ.1 (53 + k) x := by
  unfold s_X0_becomeLike
  simp only [ltt]
  have hx : x = 0 ∨ x = 1 ∨ x = 2 ∨ x = 3 ∨ x = 4 ∨ x = 5 ∨ x = 6 ∨ x = 7 ∨ x = 8 ∨ x = 9 ∨ x = 10 ∨ x = 11 ∨ x = 12 ∨ x = 13 ∨ x = 14 := by omega
  rcases hx with rfl | rfl | rfl | rfl | rfl | rfl | rfl | rfl | rfl | rfl | rfl | rfl | rfl | rfl | rfl <;> simp (disch := decide) only [up_s, up_neK]
theorem be0_1 (τ : Sg × Sg) (k : Nat) : (s_X0_becomeLike τ k).1 = τ.1 := rfl
theorem bl57_ne (s : Sg × Sg) : ∀ (n k : Nat) (τ : Sg × Sg) (p : Nat), (p < 5 + k ∨ 5 + k + n ≤ p) → (lp_X1_becomeLike_57 s n k τ).2 p = τ.2 p := by
  intro n
  induction n with
  | zero => intro k τ p _; rfl
  | succ n ih =>
    intro k τ p hp
    have e : lp_X1_becomeLike_57 s (n + 1) k τ = lp_X1_becomeLike_57 s n (k + 1) (s_X2_becomeLike τ k) := rfl
    rw [e, ih (k + 1) _ p (by omega), be2_ne τ k p (by omega)]
theorem bl57_at (s : Sg × Sg) : ∀ (n k : Nat) (τ : Sg × Sg) (i x : Nat), k ≤ i → i < k + n → x < 7 → (lp_X1_becomeLike_57 s n k τ).2 (5 + i) x = τ.1 (5 + i) x := by
  intro n
  induction n with
  | zero => intro k τ i x h1 h2 _; omega
  | succ n ih =>
    intro k τ i x h1 h2 hx
    have e : lp_X1_becomeLike_57 s (n + 1) k τ = lp_X1_becomeLike_57 s n (k + 1) (s_X2_becomeLike τ k) := rfl
    rw [e]
    by_cases q : i = k
    · subst q
      rw [bl57_ne s n (i + 1) _ (5 + i) (by omega), be2_at τ i x hx]
    · rw [ih (k + 1) _ i x (by omega) (by omega) hx, be2_1]
theorem bl88_ne (s : Sg × Sg) : ∀ (n k : Nat) (τ : Sg × Sg) (p : Nat), (p < 13 + k ∨ 13 + k + n ≤ p) → (lp_X1_becomeLike_88 s n k τ).2 p = τ.2 p := by
  intro n
  induction n with
  | zero => intro k τ p _; rfl
  | succ n ih =>
    intro k τ p hp
    have e : lp_X1_becomeLike_88 s (n + 1) k τ = lp_X1_becomeLike_88 s n (k + 1) (s_X3_becomeLike τ k) := rfl
    rw [e, ih (k + 1) _ p (by omega), be3_ne τ k p (by omega)]
theorem bl88_at (s : Sg × Sg) : ∀ (n k : Nat) (τ : Sg × Sg) (i x : Nat), k ≤ i → i < k + n → x < 6 → (lp_X1_becomeLike_88 s n k τ).2 (13 + i) x = τ.1 (13 + i) x := by
  intro n
  induction n with
  | zero => intro k τ i x h1 h2 _; omega
  | succ n ih =>
    intro k τ i x h1 h2 hx
    have e : lp_X1_becomeLike_88 s (n + 1) k τ = lp_X1_becomeLike_88 s n (k + 1) (s_X3_becomeLike τ k) := rfl
    rw [e]
    by_cases q : i = k
    · subst q
      rw [bl88_ne s n (i + 1) _ (13 + i) (by omega), be3_at τ i x hx]
    · rw [ih (k + 1) _ i x (by omega) (by omega) hx, be3_1]
theorem bl119_ne (s : Sg × Sg) : ∀ (n k : Nat) (τ : Sg × Sg) (p : Nat), (p < 53 + k ∨ 53 + k + n ≤ p) → (lp_X1_becomeLike_119 s n k τ).2 p = τ.2 p := by
  intro n
  induction n with
  | zero => intro k τ p _; rfl
  | succ n ih =>
    intro k τ p hp
    have e : lp_X1_becomeLike_119 s (n + 1) k τ = lp_X1_becomeLike_119 s n (k + 1) (s_X0_becomeLike τ k) := rfl
    rw [e, ih (k + 1) _ p (by omega), be0_ne τ k p (by omega)]
theorem bl119_at (s : Sg × Sg) : ∀ (n k : Nat) (τ : Sg × Sg) (i x : Nat), k ≤ i → i < k + n → x < 15 → (lp_X1_becomeLike_119 s n k τ).2 (53 + i) x = τ.1 (53 + i) x := by
  intro n
  induction n with
  | zero => intro k τ i x h1 h2 _; omega
  | succ n ih =>
    intro k τ i x h1 h2 hx
    have e : lp_X1_becomeLike_119 s (n + 1) k τ = lp_X1_becomeLike_119 s n (k + 1) (s_X0_becomeLike τ k) := rfl
    rw [e]
    by_cases q : i = k
    · subst q
      rw [bl119_ne s n (i + 1) _ (53 + i) (by omega), be0_at τ i x hx]
    · rw [ih (k + 1) _ i x (by omega) (by omega) hx, be0_1]
theorem bl57_1 (s : Sg × Sg) (n k : Nat) (τ : Sg × Sg) : (lp_X1_becomeLike_57 s n k τ).1 = τ.1 := (zl_X1_becomeLike_57 s n k τ).1
theorem bl88_1 (s : Sg × Sg) (n k : Nat) (τ : Sg × Sg) : (lp_X1_becomeLike_88 s n k τ).1 = τ.1 := (zl_X1_becomeLike_88 s n k τ).1
def blB (σ σa : Sg) : Sg := up (up (up (up (up (upr σa 1 (va_cpy (σ 1) (σa 1) 0 0 24)) 0 4 (σ 0 4)) 0 5 (σ 0 5)) 0 6 (σ 0 6)) 0 7 (σ 0 7)) 0 8 (σ 0 8)
theorem bl_eq (σ σa : Sg) : s_X1_becomeLike (σ, σa) = lp_X1_becomeLike_119 (σ, σa) (tn (σ 0 7)) 0 (lp_X1_becomeLike_88 (σ, σa) (tn (σ 0 6)) 0 (lp_X1_becomeLike_57 (σ, σa) (tn (σ 0 5)) 0 (σ, blB σ σa))) := rfl
theorem bl_0 (σ σa : Sg) (hn : tn (σ 0 5) ≤ 8 ∧ tn (σ 0 6) ≤ 40) (p : Nat) (hp : p < 5) : (s_X1_becomeLike (σ, σa)).2 p = blB σ σa p := by
  rw [bl_eq, bl119_ne _ _ _ _ p (by omega), bl88_ne _ _ _ _ p (by omega), bl57_ne _ _ _ _ p (by omega)]
theorem bl_2 (σ σa : Sg) (hn : tn (σ 0 5) ≤ 8 ∧ tn (σ 0 6) ≤ 40) (i x : Nat) (hi : i < tn (σ 0 5)) (hx : x < 7) : (s_X1_becomeLike (σ, σa)).2 (5 + i) x = σ (5 + i) x := by
  rw [bl_eq, bl119_ne _ _ _ _ (5 + i) (by omega), bl88_ne _ _ _ _ (5 + i) (by omega), bl57_at _ _ _ _ i x (by omega) (by omega) hx]
theorem bl_3 (σ σa : Sg) (hn : tn (σ 0 5) ≤ 8 ∧ tn (σ 0 6) ≤ 40) (i x : Nat) (hi : i < tn (σ 0 6)) (hx : x < 6) : (s_X1_becomeLike (σ, σa)).2 (13 + i) x = σ (13 + i) x := by
  rw [bl_eq, bl119_ne _ _ _ _ (13 + i) (by omega), bl88_at _ _ _ _ i x (by omega) (by omega) hx, bl57_1]
theorem bl_0c (σ σa : Sg) (i x : Nat) (hi : i < tn (σ 0 7)) (hx : x < 15) : (s_X1_becomeLike (σ, σa)).2 (53 + i) x = σ (53 + i) x := by
  rw [bl_eq, bl119_at _ _ _ _ i x (by omega) (by omega) hx, bl88_1, bl57_1]
