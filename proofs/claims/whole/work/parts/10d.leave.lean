/-! citizens leave: all of them -/
section SLM
variable {mS mC h nS nU nC : Nat} {σ μ ρ : Sg}
theorem CWay.at {c : Nat} (w : CWay σ μ c) (hst : ¬ μ 11 c = (-1 : Int32)) : σ (53 + c) 8 = 0 ∧ (μ 11 c = μ 10 (5 * c) ∨ μ 11 c = μ 10 (5 * c + 1)) := by
  rcases w with ⟨q, -⟩ | q
  · exact absurd q hst
  · exact q
/-- where one is, that isn't on the way -/
theorem stays_in {c : Nat} (hR : Rel mS mC h nS nU nC σ μ ρ) (hc : c < nC) (hst : ¬ μ 11 c = (-1 : Int32)) : vp_in (μ 11 c) nS := by
  obtain ⟨⟨-, ⟨g1, g2, -⟩, -⟩, -, w, -⟩ := hR.ci hc
  rcases (w.at hst).2 with q | q
  · rw [q]; exact g1
  · rw [q]; exact g2
theorem wouldGet_eq (μ : Sg) (c sh : Nat) : s_X5_wouldGet μ c sh = if μ 15 c < μ 2 sh then nI 0 else if s_X5_first μ (nI sh) = (-1 : Int32) then nI 0 else nI 1 := rfl
theorem sim_want {c : Nat} (hR : Rel mS mC h nS nU nC σ μ ρ) (hc : c < nC) (hst : ¬ μ 11 c = (-1 : Int32)) : ((s_X1_takeUmbrella σ c).1 = (mWant μ ρ c).1 ∧ ((s_X1_takeUmbrella σ c).1 = nI 0 ∨ (s_X1_takeUmbrella σ c).1 = nI 1)) ∧ Rel mS mC h nS nU nC (s_X0_setOut (s_X1_takeUmbrella σ c).2 c) (mWant μ ρ c).2.1 ρ ∧ (mWant μ ρ c).2.2 = ρ := by
  have hin := stays_in hR hc hst
  have hnS := hR.1.2.1.2.2
  have hnU := hR.1.2.2.1.2.2
  obtain ⟨sh, hsh, e11⟩ := vp_in_of hin (by omega)
  have hts : tn (nI sh) = sh := tn_nI (by omega)
  obtain ⟨⟨⟨f0, f1, f2, f3, f4⟩, -, -⟩, ⟨⟨b6, b9, b10, b11, b12, b13, b14⟩, bt⟩, w, d9⟩ := hR.ci hc
  obtain ⟨a0, a1, a2, a3, a4, a5, a6, a7⟩ := hR.sh hsh
  have es : s_X1_isShelter σ (σ (53 + c) 6) = nI 1 := by rw [b6, e11]; exact isSh_in hR hsh
  have ef : s_X1_firstUmbrellaIn σ (σ (53 + c) 6) = s_X5_first μ (nI sh) := by rw [b6, e11]; exact rd_first hR _
  have n10 : ¬ nI 1 = 0 := by decide
  have et : tn (σ (53 + c) 6) = sh := by rw [b6, e11, hts]
  have hmr : ∀ R : Sg, mWant μ R c = if s_X5_wouldGet μ c sh = 0 then (nI 0, (mOut (mRef μ c sh) c sh, R)) else (nI 1, (mOut (mTak μ c sh (tn (s_X5_first μ (nI sh)))) c sh, R)) := by
    intro R
    unfold mWant
    rw [e11, hts]
  have e11r : mRef μ c sh 11 c = nI sh := by
    unfold mRef
    simp only [ltt]
    simp (disch := omega) only [up_row_ne]
    exact e11
  have e11t : ∀ u, mTak μ c sh u 11 c = nI sh := by
    intro u
    unfold mTak
    simp only [ltt]
    simp (disch := omega) only [up_row_ne]
    exact e11
  rw [hmr ρ]
  unfold s_X1_takeUmbrella
  simp only [ltt]
  rw [es, if_neg n10, ef, et]
  rw [b10, a1, wouldGet_eq]
  by_cases h1 : μ 15 c < μ 2 sh
  · rw [if_pos h1, if_pos h1, if_pos nI_0]
    exact ⟨⟨rfl, Or.inl rfl⟩, sim_out (sim_ref hR hc hsh) hc e11r hsh, rfl⟩
  · rw [if_neg h1, if_neg h1]
    by_cases h2 : s_X5_first μ (nI sh) = (-1 : Int32)
    · rw [if_pos h2, if_pos nI_0, h2, isUm_no, if_pos nI_0]
      exact ⟨⟨rfl, Or.inl rfl⟩, sim_out (sim_ref hR hc hsh) hc e11r hsh, rfl⟩
    · obtain ⟨s4, s5, su⟩ := first_stands hR h2
      have hfn : s_X5_first μ (nI sh) = nI (tn (s_X5_first μ (nI sh))) := by
        have hok := first_or (σ := μ) (x := nI sh) hR.okN
        exact tn_eq (hok.resolve_left h2) (by decide)
      rw [if_neg h2, if_neg n10]
      generalize tn (s_X5_first μ (nI sh)) = u at hfn s4 s5 su ⊢
      rw [hfn, isUm_in hR su, if_neg n10]
      have hn1 := sim_tak hR hc hsh su s4 s5
      exact ⟨⟨rfl, Or.inr rfl⟩, sim_out hn1 hc (e11t u) hsh, rfl⟩
theorem leavesAt_way {c : Nat} (hR : Rel mS mC h nS nU nC σ μ ρ) (hc : c < nC) (x : Int32) (hst : μ 11 c = (-1 : Int32)) : s_X0_leavesAt σ c x = nI 0 := by
  obtain ⟨⟨⟨f0, f1, -⟩, ⟨g1, g2, -⟩, -⟩, ⟨⟨b6, -⟩, -⟩, -, -⟩ := hR.ci hc
  unfold s_X0_leavesAt
  rw [b6, hst, f0, f1, if_neg (fun q => in_ne g1 q.symm), if_neg (fun q => in_ne g2 q.symm)]
theorem leavesAt_home {c : Nat} (hR : Rel mS mC h nS nU nC σ μ ρ) (hc : c < nC) (x : Int32) (e : μ 11 c = μ 10 (5 * c)) : s_X0_leavesAt σ c x = if x = μ 10 (5 * c + 2) then nI 1 else nI 0 := by
  obtain ⟨⟨⟨f0, f1, f2, f3, -⟩, ⟨g1, g2, g3, -⟩, -⟩, ⟨⟨b6, -⟩, -⟩, -, -⟩ := hR.ci hc
  unfold s_X0_leavesAt
  rw [b6, e, f0, f1, f2, f3, if_pos rfl]
  by_cases q : μ 10 (5 * c + 2) = x
  · rw [if_pos q, if_pos q.symm]
  · rw [if_neg q, if_neg g3, if_neg (fun r => q r.symm)]
theorem leavesAt_work {c : Nat} (hR : Rel mS mC h nS nU nC σ μ ρ) (hc : c < nC) (x : Int32) (e : ¬ μ 11 c = μ 10 (5 * c)) (hst : ¬ μ 11 c = (-1 : Int32)) : s_X0_leavesAt σ c x = if x = μ 10 (5 * c + 3) then nI 1 else nI 0 := by
  obtain ⟨⟨⟨f0, f1, f2, f3, -⟩, ⟨g1, g2, g3, -⟩, -⟩, ⟨⟨b6, -⟩, -⟩, w, -⟩ := hR.ci hc
  have e2 := (w.at hst).2.resolve_left e
  unfold s_X0_leavesAt
  rw [b6, f0, f1, f3, if_neg e, if_pos e2]
  by_cases q : μ 10 (5 * c + 3) = x
  · rw [if_pos q, if_pos q.symm]
  · rw [if_neg q, if_neg (fun r => q r.symm)]
/-- whether one wants an umbrella -/
def wanted (ρ : Sg) (now : Nat) : Prop := 0 < ρ 1 now ∨ (¬ 0 < ρ 1 now ∧ ¬ ρ 1 ((now + 1) % 24) ≤ 0)
/-- one who leaves: the class's step is the model's -/
theorem sim_leave {c now : Nat} {wt : Int32} (hR : Rel mS mC h nS nU nC σ μ ρ) (hc : c < nC) (hst : ¬ μ 11 c = (-1 : Int32)) (hwt : (wanted ρ now ∧ wt = nI 1) ∨ (¬ 0 < ρ 1 now ∧ ρ 1 ((now + 1) % 24) ≤ 0 ∧ wt = nI 0)) :
    (wt = 0 → (s_X5_leave (μ, ρ) c now).1 = nI 0 ∧ Rel mS mC h nS nU nC (s_X0_setOut σ c) (s_X5_leave (μ, ρ) c now).2.1 ρ) ∧ (¬ wt = 0 → ((s_X1_takeUmbrella σ c).1 = (s_X5_leave (μ, ρ) c now).1 ∧ ((s_X1_takeUmbrella σ c).1 = nI 0 ∨ (s_X1_takeUmbrella σ c).1 = nI 1)) ∧ Rel mS mC h nS nU nC (s_X0_setOut (s_X1_takeUmbrella σ c).2 c) (s_X5_leave (μ, ρ) c now).2.1 ρ) := by
  rcases hwt with ⟨hw, rfl⟩ | ⟨h1, h2, rfl⟩
  · have e : s_X5_leave (μ, ρ) c now = mWant μ ρ c := by
      rcases hw with hw | ⟨hw1, hw2⟩
      · exact leave_w1 μ ρ c now hw
      · exact leave_w2 μ ρ c now hw1 hw2
    rw [e]
    have hs := sim_want hR hc hst
    exact ⟨fun q => absurd q (by decide), fun _ => ⟨hs.1, hs.2.1⟩⟩
  · rw [leave_w0 μ ρ c now h1 h2]
    refine ⟨fun _ => ⟨rfl, ?_⟩, fun q => absurd nI_0 q⟩
    have hin := stays_in hR hc hst
    have hnS := hR.1.2.1.2.2
    exact sim_out hR hc (tn_eq hin (by omega)) (tn_in hin)
theorem sim_lp_leave {now : Nat} {wt : Int32} (hwt : (wanted ρ now ∧ wt = nI 1) ∨ (¬ 0 < ρ 1 now ∧ ρ 1 ((now + 1) % 24) ≤ 0 ∧ wt = nI 0)) (s0 : Sg) (m0 : Sg × Sg) (hm : tn (m0.1 0 0) % 24 = now) :
    ∀ (n k : Nat) (a : Int32) (σ μ : Sg), k + n = nC → Rel mS mC h nS nU nC σ μ ρ → (lp_X1_letCitizensLeave_36 s0 now wt n k a σ).1 = (lp_X5_pass_42 m0 n k a (μ, ρ)).1 ∧ Rel mS mC h nS nU nC (lp_X1_letCitizensLeave_36 s0 now wt n k a σ).2 (lp_X5_pass_42 m0 n k a (μ, ρ)).2.1 ρ ∧ (lp_X5_pass_42 m0 n k a (μ, ρ)).2.2 = ρ := by
  intro n
  induction n with
  | zero => intro k a σ μ _ hR; exact ⟨rfl, hR, rfl⟩
  | succ n ih =>
    intro k a σ μ hk hR
    have hkc : k < nC := by omega
    have go : ∀ (p : Int32), ¬ μ 11 k = (-1 : Int32) → s_X0_leavesAt σ k (nI now) = (if nI now = p then nI 1 else nI 0) → 
        (lp_X1_letCitizensLeave_36 s0 now wt (n + 1) k a σ).1 = (if nI now = p then lp_X5_pass_42 m0 n (k + 1) (a + (s_X5_leave (μ, ρ) k now).1) (s_X5_leave (μ, ρ) k now).2 else lp_X5_pass_42 m0 n (k + 1) a (μ, ρ)).1 ∧ Rel mS mC h nS nU nC (lp_X1_letCitizensLeave_36 s0 now wt (n + 1) k a σ).2 (if nI now = p then lp_X5_pass_42 m0 n (k + 1) (a + (s_X5_leave (μ, ρ) k now).1) (s_X5_leave (μ, ρ) k now).2 else lp_X5_pass_42 m0 n (k + 1) a (μ, ρ)).2.1 ρ ∧ (if nI now = p then lp_X5_pass_42 m0 n (k + 1) (a + (s_X5_leave (μ, ρ) k now).1) (s_X5_leave (μ, ρ) k now).2 else lp_X5_pass_42 m0 n (k + 1) a (μ, ρ)).2.2 = ρ := by
      intro p hst hlv
      unfold lp_X1_letCitizensLeave_36
      simp only [ltt]
      rw [hlv]
      by_cases hp : nI now = p
      · rw [if_pos hp, if_neg (show ¬ nI 1 = 0 by decide), if_pos hp]
        have hs := sim_leave hR hkc hst hwt
        have ho : (s_X5_leave (μ, ρ) k now).2 = ((s_X5_leave (μ, ρ) k now).2.1, ρ) := Prod.ext rfl (o_X5_leave (μ, ρ) k now)
        rw [ho]
        by_cases hz : wt = 0
        · obtain ⟨h1, h2⟩ := hs.1 hz
          rw [if_pos hz, h1, add_n0]
          exact ih (k + 1) _ _ _ (by omega) h2
        · obtain ⟨⟨h1, h3⟩, h2⟩ := hs.2 hz
          rw [if_neg hz, ← h1]
          rcases h3 with h3 | h3
          · rw [h3, if_pos nI_0, add_n0]
            exact ih (k + 1) _ _ _ (by omega) h2
          · rw [h3, if_neg (show ¬ nI 1 = 0 by decide)]
            exact ih (k + 1) _ _ _ (by omega) h2
      · rw [if_neg hp, if_pos nI_0, if_neg hp]
        exact ih (k + 1) _ _ _ (by omega) hR
    by_cases hst : μ 11 k = (-1 : Int32)
    · have e1 : lp_X1_letCitizensLeave_36 s0 now wt (n + 1) k a σ = lp_X1_letCitizensLeave_36 s0 now wt n (k + 1) a σ := by
        show ltt _ _ = _
        simp only [ltt]
        rw [leavesAt_way hR hkc _ hst, if_pos nI_0]
      have e2 : lp_X5_pass_42 m0 (n + 1) k a (μ, ρ) = lp_X5_pass_42 m0 n (k + 1) a (μ, ρ) := by
        show (if μ 11 k = μ 10 (5 * k) then if μ 11 k = (-1 : Int32) then _ else _ else if μ 11 k = (-1 : Int32) then _ else _) = _
        rw [if_pos hst, if_pos hst]
        split <;> rfl
      rw [e1, e2]
      exact ih (k + 1) _ _ _ (by omega) hR
    · by_cases he : μ 11 k = μ 10 (5 * k)
      · have e2 : lp_X5_pass_42 m0 (n + 1) k a (μ, ρ) = if nI now = μ 10 (5 * k + 2) then lp_X5_pass_42 m0 n (k + 1) (a + (s_X5_leave (μ, ρ) k now).1) (s_X5_leave (μ, ρ) k now).2 else lp_X5_pass_42 m0 n (k + 1) a (μ, ρ) := by
          show (if μ 11 k = μ 10 (5 * k) then if μ 11 k = (-1 : Int32) then _ else if nI (tn (m0.1 0 0) % 24) = _ then ltt (s_X5_leave (μ, ρ) k (tn (m0.1 0 0) % 24)) _ else _ else _) = _
          rw [if_pos he, if_neg hst, hm]
          rfl
        rw [e2]
        exact go _ hst (leavesAt_home hR hkc _ he)
      · have e2 : lp_X5_pass_42 m0 (n + 1) k a (μ, ρ) = if nI now = μ 10 (5 * k + 3) then lp_X5_pass_42 m0 n (k + 1) (a + (s_X5_leave (μ, ρ) k now).1) (s_X5_leave (μ, ρ) k now).2 else lp_X5_pass_42 m0 n (k + 1) a (μ, ρ) := by
          show (if μ 11 k = μ 10 (5 * k) then _ else if μ 11 k = (-1 : Int32) then _ else if nI (tn (m0.1 0 0) % 24) = _ then ltt (s_X5_leave (μ, ρ) k (tn (m0.1 0 0) % 24)) _ else _) = _
          rw [if_neg he, if_neg hst, hm]
          rfl
        rw [e2]
        exact go _ hst (leavesAt_work hR hkc _ he hst)
theorem sim_lp_wait (s0 : Sg) (m0 : Sg × Sg) : ∀ (n k : Nat) (σ μ : Sg), k + n = nU → Rel mS mC h nS nU nC σ μ ρ → Rel mS mC h nS nU nC (lp_X1_letUmbrellasWait_2 s0 n k σ) (lp_X5_pass_10 m0 n k (μ, ρ)).1 ρ ∧ (lp_X5_pass_10 m0 n k (μ, ρ)).2 = ρ := by
  intro n
  induction n with
  | zero => intro k σ μ _ hR; exact ⟨hR, rfl⟩
  | succ n ih =>
    intro k σ μ hk hR
    by_cases hw : μ 7 k ≤ 0
    · have e2 : lp_X5_pass_10 m0 (n + 1) k (μ, ρ) = lp_X5_pass_10 m0 n (k + 1) (μ, ρ) := if_pos hw
      have e1 : lp_X1_letUmbrellasWait_2 s0 (n + 1) k σ = lp_X1_letUmbrellasWait_2 s0 n (k + 1) (s_X3_waitAnHour σ k) := rfl
      rw [e1, e2, wait_0 (hR.2.2.1 k (by omega)) hw]
      exact ih (k + 1) _ _ (by omega) hR
    · have e2 : lp_X5_pass_10 m0 (n + 1) k (μ, ρ) = lp_X5_pass_10 m0 n (k + 1) (s_X5_comeBack μ k, ρ) := if_neg hw
      have e1 : lp_X1_letUmbrellasWait_2 s0 (n + 1) k σ = lp_X1_letUmbrellasWait_2 s0 n (k + 1) (s_X3_waitAnHour σ k) := rfl
      rw [e1, e2]
      exact ih (k + 1) _ _ (by omega) (sim_wait hR (by omega) hw)
end SLM
