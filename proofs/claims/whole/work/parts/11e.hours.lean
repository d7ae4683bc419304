/-! hours: pass, foresee, advise -/
theorem St_pass_ : St_pass LI := by
  intro h σ μ hL hh6 x
  obtain ⟨h0, nS, nU, nC, hh, hR⟩ := hL
  by_cases c1 : s_X6_isIn x (nI 1) (nI 100) = 0
  · exact mt_n (E := "java/lang/IllegalArgumentException") (k := nI 1) hh hR (xb_l (if_pos c1)) (if_pos c1) (by decide) (by decide) (by decide)
  · obtain ⟨j, j1, j9, rfl⟩ := isIn_in (by decide) (by decide) c1
    have hj : tn (nI j) = j := tn_nI (by omega)
    have ef : s_X4_pass σ (nI j) = .inr ((s_X1_letGoBy σ.1 (tn (nI j))).1, ((s_X1_letGoBy σ.1 (tn (nI j))).2, σ.2)) := xb_r (x := ()) (if_neg c1)
    have eg : s_X6_pass_ μ (nI j) = ((s_X6_pass (μ.2.1, up μ.1 0 0 (nI 0)) (tn (nI j))).1, ((s_X6_pass (μ.2.1, up μ.1 0 0 (nI 0)) (tn (nI j))).2.2, ((s_X6_pass (μ.2.1, up μ.1 0 0 (nI 0)) (tn (nI j))).2.1, μ.2.2))) := if_neg c1
    rw [hj] at ef eg
    have eo : (s_X6_pass (μ.2.1, up μ.1 0 0 (nI 0)) j).2.2 = up μ.1 0 0 (nI 0) := o_X6_pass _ _
    rw [eo] at eg
    obtain ⟨g1, g2⟩ := sim_letGo (nh := j) (rel_rho hR (nI 0)) (by omega)
    exact mt_i ef eg ⟨h0 + j, nS, nU, nC, by omega, g2⟩ (up_s μ.1 0 0 (nI 0)) g1
theorem St_foresee_ : St_foresee LI := by
  intro h σ μ hL hh6 x y
  obtain ⟨h0, nS, nU, nC, hh, hR⟩ := hL
  by_cases c1 : s_X6_isIn x (nI 1) (nI 100) = 0
  · exact mt_n (E := "java/lang/IllegalArgumentException") (k := nI 1) hh hR (xb_l (if_pos c1)) (if_pos c1) (by decide) (by decide) (by decide)
  · by_cases c2 : s_X6_isIn y (nI 0) (nI 4) = 0
    · exact mt_n (E := "java/lang/IndexOutOfBoundsException") (k := nI 2) hh hR ((xb_r (x := ()) (if_neg c1)).trans (xb_l (if_pos c2))) ((if_neg c1).trans (if_pos c2)) (by decide) (by decide) (by decide)
    · obtain ⟨j, j1, j9, rfl⟩ := isIn_in (by decide) (by decide) c1
      have hj : tn (nI j) = j := tn_nI (by omega)
      have f2 : s_X4_foresee σ (nI j) y = _ := (xb_r (x := ()) (if_neg c1)).trans (xb_r (x := ()) (if_neg c2))
      have m2 : s_X6_foresee μ (nI j) y = _ := (if_neg c1).trans (if_neg c2)
      have hc := rel_cp (rel_rho hR (nI 0)) σ.2 μ.2.2
      obtain ⟨g1, g2⟩ := sim_letGo (nh := j) hc (by omega)
      have eo : (s_X6_pass ((s_X5_become (μ.2.1, μ.2.2)).2, up μ.1 0 0 (nI 0)) j).2.2 = up μ.1 0 0 (nI 0) := o_X6_pass _ _
      have z1 : (s_X1_becomeLike (σ.1, σ.2)).1 = σ.1 := z1_X1_becomeLike _
      have z5 : (s_X5_become (μ.2.1, μ.2.2)).1 = μ.2.1 := z1_X5_become _
      have fin : ∀ {f g} {r r' : Int32}, f = .inr (r, ((s_X1_becomeLike (σ.1, σ.2)).1, (s_X1_letGoBy (s_X1_becomeLike (σ.1, σ.2)).2 (tn (nI j))).2)) → g = (r', ((s_X6_pass ((s_X5_become (μ.2.1, μ.2.2)).2, up μ.1 0 0 (nI 0)) (tn (nI j))).2.2, ((s_X5_become (μ.2.1, μ.2.2)).1, (s_X6_pass ((s_X5_become (μ.2.1, μ.2.2)).2, up μ.1 0 0 (nI 0)) (tn (nI j))).2.1))) → r = r' → Mt LI h cvI ["java/lang/IllegalArgumentException", "java/lang/IndexOutOfBoundsException"] f σ g := by
        intro f g r r' hf hg hr
        rw [hj, z1] at hf
        rw [hj, eo, z5] at hg
        exact mt_i hf hg ⟨h0, nS, nU, nC, by omega, rel_rho hR (nI 0)⟩ (up_s μ.1 0 0 (nI 0)) hr
      rw [← hj] at g2
      by_cases y0 : y = nI 0
      · exact fin (f2.trans (if_pos y0)) (m2.trans (if_pos (y0.trans nI_0))) (rd_wet g2)
      · have y0' : ¬ y = 0 := fun q => y0 (q.trans nI_0.symm)
        by_cases y1 : y = nI 1
        · exact fin (f2.trans ((if_neg y0).trans (if_pos y1))) (m2.trans ((if_neg y0').trans (if_pos y1))) (rd_of g2 _)
        · by_cases y2 : y = nI 2
          · exact fin (f2.trans ((if_neg y0).trans ((if_neg y1).trans (if_pos y2)))) (m2.trans ((if_neg y0').trans ((if_neg y1).trans (if_pos y2)))) (rd_of g2 _)
          · by_cases y3 : y = nI 3
            · exact fin (f2.trans ((if_neg y0).trans ((if_neg y1).trans ((if_neg y2).trans (if_pos y3))))) (m2.trans ((if_neg y0').trans ((if_neg y1).trans ((if_neg y2).trans (if_pos y3))))) (rd_of g2 _)
            · exact fin (f2.trans ((if_neg y0).trans ((if_neg y1).trans ((if_neg y2).trans (if_neg y3))))) (m2.trans ((if_neg y0').trans ((if_neg y1).trans ((if_neg y2).trans (if_neg y3))))) (rd_trust g2)
section AD
variable {nS nU nC h : Nat} {σ0 μ0 ρ0 : Sg}
theorem lp_adv (s : Sg × Sg) (m : MS) {j : Nat} (hj : j ≤ 100) (hR : Rel 8 10 h nS nU nC σ0 μ0 ρ0) (hh : h + 100 < 2 ^ 31) (hb : nU < 40) : ∀ (n k : Nat) (b lw : Int32) (a : Sg) (c : Sg), k + n = nS → (lp_X4_advise_40 s (nI j) n k b lw (σ0, a)).1 = (lp_X6_advise_73 m (nI j) n k b lw (ρ0, (μ0, c))).1 ∧ (lp_X4_advise_40 s (nI j) n k b lw (σ0, a)).2.2.1 = σ0 ∧ (lp_X6_advise_73 m (nI j) n k b lw (ρ0, (μ0, c))).2.2.1 = ρ0 ∧ (lp_X6_advise_73 m (nI j) n k b lw (ρ0, (μ0, c))).2.2.2.1 = μ0 := by
  intro n
  induction n with
  | zero => intro k b lw a c _; exact ⟨rfl, rfl, rfl, rfl⟩
  | succ n ih =>
    intro k b lw a c hk
    have hnS := hR.1.2.1.2.2
    have htj : tn (nI j) = j := tn_nI (by omega)
    have hkn : ¬ nI k = (-1 : Int32) := k_ne k (by omega)
    have hc := rel_cp hR a c
    have h1 := sim_bring hc hb (vp_in_nI (show k < nS by omega) (by omega))
    obtain ⟨g1, g2⟩ := sim_letGo (nh := j) h1 (by omega)
    have ew : s_X4_wetAfter (σ0, a) j (nI k) = (s_X1_wetOfAll (s_X1_letGoBy (s_X1_addUmbrella (s_X1_becomeLike (σ0, a)).2 (nI k)) j).2, ((s_X1_becomeLike (σ0, a)).1, (s_X1_letGoBy (s_X1_addUmbrella (s_X1_becomeLike (σ0, a)).2 (nI k)) j).2)) := if_neg hkn
    have z1 : (s_X1_becomeLike (σ0, a)).1 = σ0 := z1_X1_becomeLike _
    have z5 : (s_X5_become (μ0, c)).1 = μ0 := z1_X5_become _
    have eo : (s_X6_pass (s_X5_bring (s_X5_become (μ0, c)).2 (nI k), ρ0) j).2.2 = ρ0 := o_X6_pass _ _
    have er := rd_wet g2
    rw [z1] at ew
    generalize hA : (s_X1_letGoBy (s_X1_addUmbrella (s_X1_becomeLike (σ0, a)).2 (nI k)) j).2 = A at ew er
    have e1 : lp_X4_advise_40 s (nI j) (n + 1) k b lw (σ0, a) = if lw ≤ s_X1_wetOfAll A then lp_X4_advise_40 s (nI j) n (k + 1) b lw (σ0, A) else lp_X4_advise_40 s (nI j) n (k + 1) (nI k) (s_X1_wetOfAll A) (σ0, A) := by
      show (if lw ≤ (s_X4_wetAfter (σ0, a) (tn (nI j)) (nI k)).1 then lp_X4_advise_40 s (nI j) n (k + 1) b lw (s_X4_wetAfter (σ0, a) (tn (nI j)) (nI k)).2 else lp_X4_advise_40 s (nI j) n (k + 1) (nI k) (s_X4_wetAfter (σ0, a) (tn (nI j)) (nI k)).1 (s_X4_wetAfter (σ0, a) (tn (nI j)) (nI k)).2) = _
      rw [htj, ew]
    generalize hB : (s_X6_pass (s_X5_bring (s_X5_become (μ0, c)).2 (nI k), ρ0) j).2.1 = B at er
    have e2 : lp_X6_advise_73 m (nI j) (n + 1) k b lw (ρ0, (μ0, c)) = if s_X5_over B (nI 0) < lw then lp_X6_advise_73 m (nI j) n (k + 1) (nI k) (s_X5_over B (nI 0)) (ρ0, (μ0, B)) else lp_X6_advise_73 m (nI j) n (k + 1) b lw (ρ0, (μ0, B)) := by
      show (if s_X5_over (s_X6_pass (s_X5_bring (s_X5_become (μ0, c)).2 (nI k), ρ0) (tn (nI j))).2.1 (nI 0) < lw then lp_X6_advise_73 m (nI j) n (k + 1) (nI k) (s_X5_over (s_X6_pass (s_X5_bring (s_X5_become (μ0, c)).2 (nI k), ρ0) (tn (nI j))).2.1 (nI 0)) ((s_X6_pass (s_X5_bring (s_X5_become (μ0, c)).2 (nI k), ρ0) (tn (nI j))).2.2, ((s_X5_become (μ0, c)).1, (s_X6_pass (s_X5_bring (s_X5_become (μ0, c)).2 (nI k), ρ0) (tn (nI j))).2.1)) else lp_X6_advise_73 m (nI j) n (k + 1) b lw ((s_X6_pass (s_X5_bring (s_X5_become (μ0, c)).2 (nI k), ρ0) (tn (nI j))).2.2, ((s_X5_become (μ0, c)).1, (s_X6_pass (s_X5_bring (s_X5_become (μ0, c)).2 (nI k), ρ0) (tn (nI j))).2.1))) = _
      rw [htj, eo, z5, hB]
    rw [e1, e2, er]
    by_cases q : lw ≤ s_X5_over B (nI 0)
    · rw [if_pos q, if_neg (Int32.not_lt.mpr q)]
      exact ih (k + 1) b lw A B (by omega)
    · rw [if_neg q, if_pos (Int32.not_le.mp q)]
      exact ih (k + 1) (nI k) _ A B (by omega)
end AD
theorem St_advise_ : St_advise LI := by
  intro h σ μ hL hh6 x
  obtain ⟨h0, nS, nU, nC, hh, hR⟩ := hL
  have ht := hR.tn
  have hnU := hR.1.2.2.1.2.2
  by_cases c1 : s_X6_isIn x (nI 1) (nI 24) = 0
  · exact mt_n (E := "java/lang/IllegalArgumentException") (k := nI 1) hh hR (xb_l (if_pos c1)) (if_pos c1) (by decide) (by decide) (by decide)
  · by_cases c2 : nU = 40
    · have k2 : ¬ σ.1 0 6 < nI 40 := by rw [hR.1.2.2.1.1, c2]; decide
      have m2 : nI (tn (μ.2.1 0 5)) = nI 40 := by rw [ht.2.2.2.1, c2]
      exact mt_n (E := "java/lang/IllegalStateException") (k := nI 2) hh hR ((xb_r (x := ()) (if_neg c1)).trans (if_neg k2)) ((if_neg c1).trans (if_pos m2)) (by decide) (by decide) (by decide)
    · have hlt : nU < 40 := by omega
      have k2 : σ.1 0 6 < nI 40 := by rw [hR.1.2.2.1.1, nI_ltI (by omega) (by omega)]; exact hlt
      have m2 : ¬ nI (tn (μ.2.1 0 5)) = nI 40 := by rw [ht.2.2.2.1, nI_eq (by omega) (by omega)]; exact c2
      obtain ⟨j, j1, j9, rfl⟩ := isIn_in (by decide) (by decide) c1
      have htj : tn (nI j) = j := tn_nI (by omega)
      have hR2 := rel_rho hR (nI 0)
      have hc := rel_cp hR2 σ.2 μ.2.2
      obtain ⟨g1, g2⟩ := sim_letGo (nh := j) hc (by omega)
      have z1 : (s_X1_becomeLike (σ.1, σ.2)).1 = σ.1 := z1_X1_becomeLike _
      have z5 : (s_X5_become (μ.2.1, μ.2.2)).1 = μ.2.1 := z1_X5_become _
      have eo : (s_X6_pass ((s_X5_become (μ.2.1, μ.2.2)).2, up μ.1 0 0 (nI 0)) j).2.2 = up μ.1 0 0 (nI 0) := o_X6_pass _ _
      have er := rd_wet g2
      have ew : s_X4_wetAfter (σ.1, σ.2) j (-1 : Int32) = (s_X1_wetOfAll (s_X1_letGoBy (s_X1_becomeLike (σ.1, σ.2)).2 j).2, ((s_X1_becomeLike (σ.1, σ.2)).1, (s_X1_letGoBy (s_X1_becomeLike (σ.1, σ.2)).2 j).2)) := rfl
      rw [z1] at ew
      generalize hA : (s_X1_letGoBy (s_X1_becomeLike (σ.1, σ.2)).2 j).2 = A at ew er
      generalize hB : (s_X6_pass ((s_X5_become (μ.2.1, μ.2.2)).2, up μ.1 0 0 (nI 0)) j).2.1 = B at er
      have ef : s_X4_advise σ (nI j) = .inr ((lp_X4_advise_40 σ (nI j) nS 0 ((-1 : Int32)) (s_X1_wetOfAll A) (σ.1, A)).1, (lp_X4_advise_40 σ (nI j) nS 0 ((-1 : Int32)) (s_X1_wetOfAll A) (σ.1, A)).2.2) := by
        refine ((xb_r (x := ()) (if_neg c1)).trans (if_pos k2)).trans ?_
        show Sum.inr ((lp_X4_advise_40 σ (nI j) (tn (σ.1 0 5)) 0 ((-1 : Int32)) (s_X4_wetAfter (σ.1, σ.2) (tn (nI j)) (-1 : Int32)).1 (s_X4_wetAfter (σ.1, σ.2) (tn (nI j)) (-1 : Int32)).2).1, (lp_X4_advise_40 σ (nI j) (tn (σ.1 0 5)) 0 ((-1 : Int32)) (s_X4_wetAfter (σ.1, σ.2) (tn (nI j)) (-1 : Int32)).1 (s_X4_wetAfter (σ.1, σ.2) (tn (nI j)) (-1 : Int32)).2).2.2) = _
        rw [ht.1, htj, ew]
      have eg : s_X6_advise μ (nI j) = ((lp_X6_advise_73 μ (nI j) nS 0 ((-1 : Int32)) (s_X5_over B (nI 0)) (up μ.1 0 0 (nI 0), (μ.2.1, B))).1, (lp_X6_advise_73 μ (nI j) nS 0 ((-1 : Int32)) (s_X5_over B (nI 0)) (up μ.1 0 0 (nI 0), (μ.2.1, B))).2.2) := by
        refine ((if_neg c1).trans (if_neg m2)).trans ?_
        show ((lp_X6_advise_73 μ (nI j) (tn (μ.2.1 0 1)) 0 ((-1 : Int32)) (s_X5_over (s_X6_pass ((s_X5_become (μ.2.1, μ.2.2)).2, up μ.1 0 0 (nI 0)) (tn (nI j))).2.1 (nI 0)) ((s_X6_pass ((s_X5_become (μ.2.1, μ.2.2)).2, up μ.1 0 0 (nI 0)) (tn (nI j))).2.2, ((s_X5_become (μ.2.1, μ.2.2)).1, (s_X6_pass ((s_X5_become (μ.2.1, μ.2.2)).2, up μ.1 0 0 (nI 0)) (tn (nI j))).2.1))).1, (lp_X6_advise_73 μ (nI j) (tn (μ.2.1 0 1)) 0 ((-1 : Int32)) (s_X5_over (s_X6_pass ((s_X5_become (μ.2.1, μ.2.2)).2, up μ.1 0 0 (nI 0)) (tn (nI j))).2.1 (nI 0)) ((s_X6_pass ((s_X5_become (μ.2.1, μ.2.2)).2, up μ.1 0 0 (nI 0)) (tn (nI j))).2.2, ((s_X5_become (μ.2.1, μ.2.2)).1, (s_X6_pass ((s_X5_become (μ.2.1, μ.2.2)).2, up μ.1 0 0 (nI 0)) (tn (nI j))).2.1))).2.2) = _
        rw [ht.2.1, htj, eo, z5, hB]
      rw [er] at ef
      obtain ⟨l1, l2, l3, l4⟩ := lp_adv σ μ (j := j) (by omega) hR2 (by omega) hlt nS 0 (-1 : Int32) (s_X5_over B (nI 0)) A B (by omega)
      refine mt_i ef eg ⟨h0, nS, nU, nC, by omega, ?_⟩ ?_ l1
      · rw [l2, l3, l4]; exact hR2
      · rw [l3]; exact up_s μ.1 0 0 (nI 0)
