/-! build, bring, addCitizen -/
theorem uinv_mono {kd pl we wa fr : Int32} {n m : Nat} (h : UInv kd pl we wa fr n) (hm : n ≤ m) : UInv kd pl we wa fr m := by
  rcases h with ⟨a, b, c⟩ | ⟨a, b, c, d⟩ | ⟨a, b, c, d, e, f⟩ | ⟨a, b, c, d, e⟩
  · exact Or.inl ⟨a, in_mono b hm, c⟩
  · exact Or.inr (Or.inl ⟨a, b, c, in_mono d hm⟩)
  · exact Or.inr (Or.inr (Or.inl ⟨a, b, c, d, e, in_mono f hm⟩))
  · exact Or.inr (Or.inr (Or.inr ⟨a, b, c, d, in_mono e hm⟩))
theorem bd_0 (s : MS) (x y : Int32) : ∀ (n k : Nat) (fr : Int32) (τ : MS), fr = 0 → (lp_X6_build_52 s x y n k fr τ).1 = 0 ∧ (lp_X6_build_52 s x y n k fr τ).2 = τ := by
  intro n
  induction n with
  | zero => intro k fr τ hf; exact ⟨hf, rfl⟩
  | succ n ih =>
    intro k fr τ hf
    have e : lp_X6_build_52 s x y (n + 1) k fr τ = lp_X6_build_52 s x y n (k + 1) (nI 0) τ := if_pos hf
    rw [e]
    exact ih (k + 1) _ τ nI_0
theorem bd_1 {σ : Sg} (s : MS) (x y : Int32) (τ : MS) : ∀ (n k : Nat), (∀ i, k ≤ i → i < k + n → σ (5 + i) 0 = τ.2.1 1 i) → (lp_X1_isBuiltOn_2 σ x n k = 0 → lp_X6_build_52 s x y n k (nI 1) τ = (nI 1, τ)) ∧ (¬ lp_X1_isBuiltOn_2 σ x n k = 0 → (lp_X6_build_52 s x y n k (nI 1) τ).1 = 0 ∧ (lp_X6_build_52 s x y n k (nI 1) τ).2 = τ) := by
  intro n
  induction n with
  | zero => intro k _; exact ⟨fun _ => rfl, fun h => absurd nI_0 h⟩
  | succ n ih =>
    intro k hk
    have hk0 := hk k (Nat.le_refl _) (by omega)
    by_cases c : τ.2.1 1 k = x
    · have e1 : lp_X1_isBuiltOn_2 σ x (n + 1) k = nI 1 := if_pos (hk0.trans c)
      have e2 : lp_X6_build_52 s x y (n + 1) k (nI 1) τ = lp_X6_build_52 s x y n (k + 1) (nI 0) τ := (if_neg (show ¬ nI 1 = 0 by decide)).trans (if_pos c)
      rw [e1, e2]
      exact ⟨fun h => absurd h (by decide), fun _ => bd_0 s x y n (k + 1) _ τ nI_0⟩
    · have e1 : lp_X1_isBuiltOn_2 σ x (n + 1) k = lp_X1_isBuiltOn_2 σ x n (k + 1) := if_neg (fun q => c (hk0.symm.trans q))
      have e2 : lp_X6_build_52 s x y (n + 1) k (nI 1) τ = lp_X6_build_52 s x y n (k + 1) (nI 1) τ := (if_neg (show ¬ nI 1 = 0 by decide)).trans (if_neg c)
      rw [e1, e2]
      exact ih (k + 1) (fun i h1 h2 => hk i (by omega) (by omega))
theorem sim_build {mC h nS nU nC : Nat} {σ μ ρ : Sg} {x y : Int32} (hR : Rel 8 mC h nS nU nC σ μ ρ) (hn : nS < 8) (hx : vp_in x 100) : Rel 8 mC h (nS + 1) nU nC (up (up (up σ (5 + nS) 0 x) (5 + nS) 1 y) 0 5 (nI (nS + 1))) (up (up (up μ 1 nS x) 2 nS y) 0 1 (nI (nS + 1))) ρ := by
  have hm := hR.1.2.2.2.2.2
  obtain ⟨h0, hS, hU, hC, hr⟩ := hR
  have hnU := h0.2.2.1.2.2
  have hnS := h0.2.1.2.2
  have hnC := h0.2.2.2.1.2.2
  obtain ⟨⟨r1, r2⟩, ⟨r3, r4, r5⟩, ⟨r6, r7, r8⟩, ⟨r9, r10, r11⟩, r12, rm⟩ := h0
  refine ⟨⟨⟨?_, ?_⟩, ⟨?_, ?_, by omega⟩, ⟨?_, ?_, hnU⟩, ⟨?_, ?_, hnC⟩, ?_, by omega, rm.2⟩, fun i hi => ?_, fun v hv => ?_, fun d hd => ?_, fun j hj => ?_⟩
  · simp (disch := omega) only [up_row_ne, up_neK, r1]
  · simp (disch := omega) only [up_row_ne, up_neK, r2]
  · simp (disch := omega) only [up_s]
  · simp (disch := omega) only [up_s]
  · simp (disch := omega) only [up_row_ne, up_neK, r6]
  · simp (disch := omega) only [up_row_ne, up_neK, r7]
  · simp (disch := omega) only [up_row_ne, up_neK, r9]
  · simp (disch := omega) only [up_row_ne, up_neK, r10]
  · simp (disch := omega) only [up_row_ne, up_neK, r12]
  · obtain ⟨a0, a1, a2, a3, a4, a5, a6, a7⟩ := hS i hi
    by_cases e : i = nS
    · subst e
      refine ⟨?_, ?_, ?_, ?_, ?_, ?_, ?_, ?_⟩ <;> simp (disch := omega) only [up_s, up_row_ne, up_neK, a2, a3, a4, a5, a6]
      exact hx
    · refine ⟨?_, ?_, ?_, ?_, ?_, ?_, ?_, ?_⟩ <;> simp (disch := omega) only [up_s, up_row_ne, up_neK, a0, a1, a2, a3, a4, a5, a6]
      exact a7
  · obtain ⟨⟨e0, e1, e2, e3, e4, e5⟩, hi⟩ := hU v hv
    refine ⟨⟨?_, ?_, ?_, ?_, ?_, ?_⟩, ?_⟩ <;> simp (disch := omega) only [up_row_ne, e0, e1, e2, e3, e4, e5]
    exact uinv_mono hi (by omega)
  · obtain ⟨a, b, w', d9', z⟩ := hC d hd
    refine ⟨fun hdc => ?_, b.cg ?_ ?_ ?_ ?_ (fun j _ => ?_), w'.cg ?_ ?_ ?_ ?_ ?_, fun hdc => (d9' hdc).cg ?_ (fun v hv1 hv2 h4' h5' => ?_) hnU, fun hdz => (by simp (disch := omega) only [up_row_ne, up_neK]; exact z hdz)⟩
    · obtain ⟨⟨f0, f1, f2, f3, f4⟩, ⟨g1, g2, g3, g4, g5⟩, f5⟩ := a hdc
      have q1 : tn (μ 10 (5 * d)) < nS := tn_in g1
      have q2 : tn (μ 10 (5 * d + 1)) < nS := tn_in g2
      refine ⟨⟨?_, ?_, ?_, ?_, ?_⟩, ⟨?_, ?_, ?_, ?_, ?_⟩, ?_⟩ <;> simp (disch := omega) only [up_row_ne, up_neK, f0, f1, f2, f3, f4, f5]
      · exact in_mono g1 (by omega)
      · exact in_mono g2 (by omega)
      · exact g3
      · exact g4
      · exact g5
    all_goals (try simp (disch := omega) only [up_row_ne])
    exact ⟨h4', h5'⟩
  · simp (disch := omega) only [up_row_ne]
    exact hr j hj
theorem St_build_ : St_build LI := by
  intro h σ μ hL hh6 x y
  obtain ⟨h0, nS, nU, nC, hh, hR⟩ := hL
  have ht := hR.tn
  have n5 := hR.1.2.1.1
  have hnS := hR.1.2.1.2.2
  by_cases c1 : s_X6_isIn x (nI 0) (nI 99) = 0
  · exact mt_n (E := "java/lang/IllegalArgumentException") (k := nI 1) hh hR (if_pos c1) (if_pos c1) (by decide) (by decide) (by decide)
  · by_cases c2 : s_X6_isIn y (nI 0) (nI 10) = 0
    · exact mt_n (E := "java/lang/IllegalArgumentException") (k := nI 1) hh hR ((if_neg c1).trans (if_pos c2)) ((if_neg c1).trans (if_pos c2)) (by decide) (by decide) (by decide)
    · by_cases c3 : nI 8 ≤ nI nS
      · have k3 : nI 8 ≤ σ.1 0 5 := by rw [n5]; exact c3
        have m3 : nI 8 ≤ nI (tn (μ.2.1 0 1)) := by rw [ht.2.1]; exact c3
        have hb := bd_0 μ x y (tn (μ.2.1 0 1)) 0 (nI 0) (up μ.1 0 0 (nI 0), μ.2) nI_0
        have eg : s_X6_build μ x y = (nI 0, (up (lp_X6_build_52 μ x y (tn (μ.2.1 0 1)) 0 (nI 0) (up μ.1 0 0 (nI 0), μ.2)).2.1 0 0 (nI 2), (lp_X6_build_52 μ x y (tn (μ.2.1 0 1)) 0 (nI 0) (up μ.1 0 0 (nI 0), μ.2)).2.2)) := (if_neg c1).trans ((if_neg c2).trans ((if_pos m3).trans (if_pos hb.1)))
        rw [hb.2] at eg
        exact mt_n (E := "java/lang/IllegalStateException") (k := nI 2) hh hR ((if_neg c1).trans ((if_neg c2).trans (if_pos k3))) eg (by decide) (by decide) (by decide)
      · have k3 : ¬ nI 8 ≤ σ.1 0 5 := by rw [n5]; exact c3
        have m3 : ¬ nI 8 ≤ nI (tn (μ.2.1 0 1)) := by rw [ht.2.1]; exact c3
        have hlt : nS < 8 := by rw [nI_leI (by omega) (by omega)] at c3; omega
        obtain ⟨b0, b1⟩ := bd_1 (σ := σ.1) μ x y (up μ.1 0 0 (nI 0), μ.2) nS 0 (fun i _ hi => (hR.sh (by omega)).1)
        have eb : s_X1_isBuiltOn σ.1 x = lp_X1_isBuiltOn_2 σ.1 x nS 0 := by
          unfold s_X1_isBuiltOn
          rw [ht.1]
        by_cases c4 : lp_X1_isBuiltOn_2 σ.1 x nS 0 = 0
        · have k4 : s_X1_isBuiltOn σ.1 x = 0 := eb.trans c4
          have hb := b0 c4
          rw [← ht.2.1] at hb
          have eg : s_X6_build μ x y = _ := (if_neg c1).trans ((if_neg c2).trans ((if_neg m3).trans (if_neg (show ¬ (lp_X6_build_52 μ x y (tn (μ.2.1 0 1)) 0 (nI 1) (up μ.1 0 0 (nI 0), μ.2)).1 = 0 by rw [hb]; exact (show ¬ nI 1 = 0 by decide)))))
          simp only [ltt] at eg
          rw [hb] at eg
          have ef : s_X4_build σ x y = .inr ((s_X1_addShelter σ.1 x y).1, ((s_X1_addShelter σ.1 x y).2, σ.2)) := (if_neg c1).trans ((if_neg c2).trans ((if_neg k3).trans (if_pos k4)))
          have ea : s_X1_addShelter σ.1 x y = (nI (nS + 1) - nI 1, up (up (up σ.1 (5 + nS) 0 x) (5 + nS) 1 y) 0 5 (nI (nS + 1))) := by
            unfold s_X1_addShelter
            rw [ht.1, if_pos (by rw [nI_ltI (by omega) (by omega)]; exact hlt)]
            unfold s_X2_open
            simp only [ltt, up_s]
          rw [ea] at ef
          rw [ht.2.1] at eg
          obtain ⟨i, -, hi, rfl⟩ := isIn_in (by decide) (by decide) c1
          refine mt_i ef eg ?_ (up_s μ.1 0 0 (nI 0)) ?_
          · exact ⟨h0, nS + 1, nU, nC, by omega, sim_build (rel_rho hR (nI 0)) hlt (vp_in_nI (by omega) (by decide))⟩
          · simp only [up_s]
        · have k4 : ¬ s_X1_isBuiltOn σ.1 x = 0 := by rw [eb]; exact c4
          have hb := b1 c4
          rw [← ht.2.1] at hb
          have eg : s_X6_build μ x y = (nI 0, (up (lp_X6_build_52 μ x y (tn (μ.2.1 0 1)) 0 (nI 1) (up μ.1 0 0 (nI 0), μ.2)).2.1 0 0 (nI 2), (lp_X6_build_52 μ x y (tn (μ.2.1 0 1)) 0 (nI 1) (up μ.1 0 0 (nI 0), μ.2)).2.2)) := (if_neg c1).trans ((if_neg c2).trans ((if_neg m3).trans (if_pos hb.1)))
          rw [hb.2] at eg
          exact mt_n (E := "java/lang/IllegalStateException") (k := nI 2) hh hR ((if_neg c1).trans ((if_neg c2).trans ((if_neg k3).trans (if_neg k4)))) eg (by decide) (by decide) (by decide)
