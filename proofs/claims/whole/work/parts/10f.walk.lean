/-! the end of a walk -/
section SA
variable {mS mC h nS nU nC : Nat} {σ μ ρ : Sg}
theorem isUm_z {σ : Sg} {n j : Nat} (h6 : σ 0 6 = nI n) (hn : n ≤ 40) (hj : j < n) : s_X1_isUmbrella σ (nI j) = nI 1 := by
  unfold s_X1_isUmbrella
  rw [if_neg (nI_pos (by omega)), h6, if_neg (nI_ge hj (by omega))]
theorem isSh_z {σ : Sg} {n j : Nat} (h5 : σ 0 5 = nI n) (hn : n ≤ 8) (hj : j < n) : s_X1_isShelter σ (nI j) = nI 1 := by
  unfold s_X1_isShelter
  rw [if_neg (nI_pos (by omega)), h5, if_neg (nI_ge hj (by omega))]
theorem tr_min {t : Int32} (h : vp_in t 11) : vp_in (m_min (nI 10) (t + nI 1)) 11 := by
  obtain ⟨j, hj, rfl⟩ := vp_in_of h (by decide)
  rw [nI_add]
  unfold m_min
  by_cases q : nI (j + 1) < nI 10
  · rw [if_pos q]
    rw [nI_ltI (by omega) (by decide)] at q
    exact vp_in_nI (by omega) (by decide)
  · rw [if_neg q]
    exact vp_in_nI (by decide) (by decide)
theorem tr_max {t : Int32} (h : vp_in t 11) : vp_in (m_max (nI 0) (t - nI 2)) 11 := by
  rw [vp_in_iff] at h
  have e2 : (nI 2).toInt = 2 := by decide
  have e0 : (nI 0).toInt = 0 := by decide
  have ed : (t - nI 2).toInt = t.toInt - 2 := by rw [Int32.toInt_sub, e2, Int.bmod_eq_of_le_mul_two (by omega) (by omega)]
  unfold m_max
  by_cases q : nI 0 < t - nI 2
  · rw [if_pos q, vp_in_iff, ed]
    rw [Int32.lt_iff_toInt_lt, ed, e0] at q
    omega
  · rw [if_neg q]
    exact vp_in_nI (by decide) (by decide)
theorem last_0 {x : Int32} (h0 : 0 < x) (h1 : x - nI 1 ≤ 0) : x - nI 1 = 0 := by
  have e0 : (0 : Int32).toInt = 0 := by decide
  have e1 : (nI 1).toInt = 1 := by decide
  have b2 := Int32.toInt_lt x
  rw [Int32.lt_iff_toInt_lt, e0] at h0
  have ed : (x - nI 1).toInt = x.toInt - 1 := by rw [Int32.toInt_sub, e1, Int.bmod_eq_of_le_mul_two (by omega) (by omega)]
  rw [Int32.le_iff_toInt_le, ed, e0] at h1
  apply Int32.toInt_inj.mp
  rw [ed, e0]
  omega
theorem sim_arr {c : Nat} (hR : Rel mS mC h nS nU nC σ μ ρ) (hc : c < nC) (hst : μ 11 c = (-1 : Int32)) (hl : μ 13 c - nI 1 ≤ 0) : Rel mS mC h nS nU nC (s_X1_arrive (up σ (53 + c) 8 (σ (53 + c) 8 - nI 1)) c) (mArr (mStep μ c) c) ρ := by
  have hC' : ∀ c, c < nC → CRel σ μ nS nU c := fun c hc => hR.ci hc
  have hS' : ∀ i, i < nS → SRel σ μ i := fun i hi => hR.sh hi
  have hm := hR.1.2.2.2.2.2
  obtain ⟨h0, hS, hU, hC, hr⟩ := hR
  have hnU := h0.2.2.1.2.2
  have hnS := h0.2.1.2.2
  have hnC := h0.2.2.2.1.2.2
  have h06 := h0.2.2.1.1
  have h05 := h0.2.1.1
  obtain ⟨⟨⟨f0, f1, f2, f3, f4⟩, ⟨q1, q2, q3, q4, q5⟩, -⟩, ⟨⟨b6, b9, b10, b11, b12, b13, b14⟩, bt⟩, w, d9⟩ := hC' c hc
  have w1 : 0 < μ 13 c ∧ σ (53 + c) 8 = μ 13 c ∧ σ (53 + c) 7 = μ 12 c ∧ (μ 12 c = μ 10 (5 * c) ∨ μ 12 c = μ 10 (5 * c + 1)) := by
    rcases w with ⟨-, w⟩ | ⟨-, w | w⟩
    · exact w
    · exact absurd (hst.symm.trans w).symm (in_ne q1)
    · exact absurd (hst.symm.trans w).symm (in_ne q2)
  obtain ⟨w0, w8, w7, wto⟩ := w1
  have hto : vp_in (μ 12 c) nS := by
    rcases wto with q | q
    · rw [q]; exact q1
    · rw [q]; exact q2
  have e8 : σ (53 + c) 8 - nI 1 = 0 := by rw [w8]; exact last_0 w0 hl
  rw [e8]
  unfold mArr mStep s_X1_arrive
  simp only [ltt]
  have ea7 : up σ (53 + c) 8 0 (53 + c) 7 = μ 12 c := by simp (disch := omega) only [up_neK, w7]
  have em12 : up μ 13 c (μ 13 c - nI 1) 12 c = μ 12 c := by simp (disch := omega) only [up_row_ne]
  have em14 : up μ 13 c (μ 13 c - nI 1) 14 c = μ 14 c := by simp (disch := omega) only [up_row_ne]
  rw [ea7, em12, em14]
  generalize hv : μ 13 c - nI 1 = v13
  generalize hto2 : μ 12 c = to at *
  have ea9 : up (up σ (53 + c) 8 0) (53 + c) 6 to (53 + c) 9 = μ 14 c := by simp (disch := omega) only [up_neK, b9]
  rw [ea9]
  rcases d9 with h1 | ⟨g1, g2, g3⟩
  · rw [h1, isUm_no, if_pos nI_0, if_pos rfl]
    refine ⟨?_, fun i hi => ?_, fun y hy => ?_, fun d hd => ?_, fun j hj => ?_⟩
    · unfold R0 at h0 ⊢
      simp (disch := omega) only [up_row_ne]
      exact h0
    · refine (hS i hi).cg ?_ ?_ ?_ ?_ <;> simp (disch := omega) only [up_row_ne]
    · refine (hU y hy).cg ?_ ?_ ?_ ?_ ?_ ?_ ?_ <;> simp (disch := omega) only [up_row_ne]
    · obtain ⟨a, b, w', d9', z⟩ := hC d hd
      refine ⟨fun hdc => (a hdc).cg (fun k hk => ?_) ?_ ?_, ?_, ?_, ?_, fun hdz => (by simp (disch := omega) only [up_row_ne, up_neK]; exact z hdz)⟩
      · simp (disch := omega) only [up_row_ne, up_neK]
      · simp (disch := omega) only [up_row_ne]
      · simp (disch := omega) only [up_row_ne]
      · by_cases e : d = c
        · subst e
          refine ⟨⟨?_, ?_, ?_, ?_, ?_, ?_, ?_⟩, ?_⟩ <;> simp (disch := omega) only [up_s, up_row_ne, up_neK, b6, b9, h1, b10, b11, b12, b13, b14]
          exact bt
        · refine b.cg2 (fun k _ _ _ => ?_) ?_ ?_ ?_ (fun j hj => ?_) <;> simp (disch := omega) only [up_row_ne, up_neK]
      · by_cases e : d = c
        · subst e
          refine Or.inr ⟨?_, ?_⟩ <;> simp (disch := omega) only [up_s, up_row_ne, up_neK]
          exact wto
        · refine w'.cg2 ?_ ?_ ?_ ?_ ?_ ?_ <;> simp (disch := omega) only [up_row_ne, up_neK]
      · intro hdc
        by_cases e : d = c
        · subst e
          refine Or.inl ?_
          simp (disch := omega) only [up_s]
        · refine (d9' hdc).cg ?_ (fun v hv1 hv2 h4' h5' => ?_) hnU
          · simp (disch := omega) only [up_row_ne, up_neK]
          · simp (disch := omega) only [up_row_ne, up_neK]
            exact ⟨h4', h5'⟩
    · simp (disch := omega) only [up_row_ne]
      exact hr j hj
  · obtain ⟨u, hu, e14⟩ := vp_in_of g1 (by omega)
    have htu : tn (nI u) = u := tn_nI (by omega)
    rw [e14, htu] at g2 g3
    have hne : ¬ nI u = (-1 : Int32) := k_ne u (by omega)
    obtain ⟨⟨e0, e1, e2, e3, e4, e5⟩, hi⟩ := hU u hu
    have hi2 : μ 7 u = nI 0 ∧ μ 6 u < nI 30 ∧ vp_in (μ 9 u) nS := by
      rcases hi with ⟨q, -⟩ | ⟨-, q1, q2, q3⟩ | ⟨q, -⟩ | ⟨q, -⟩
      · rw [q] at g2; exact absurd g2 (by decide)
      · exact ⟨q1, q2, q3⟩
      · rw [q] at g2; exact absurd g2 (by decide)
      · rw [q] at g2; exact absurd g2 (by decide)
    obtain ⟨fr, hfr, efr⟩ := vp_in_of hi2.2.2 (by omega)
    have htf : tn (nI fr) = fr := tn_nI (by omega)
    have n10 : ¬ nI 1 = 0 := by decide
    rw [e14, isUm_z (n := nU) (by simp (disch := omega) only [up_row_ne, h06]) hnU hu, if_neg n10, if_neg hne, htu]
    have hF : ¬ μ 10 (5 * c + 4) ≤ 0 := by
      intro q
      obtain ⟨j, hj, ej⟩ := vp_in_of q4 (by decide)
      rw [ej, ← nI_0, nI_leI (by omega) (by decide)] at q
      rw [ej, show j = 0 by omega] at q5
      exact q5 nI_0
    have hfg : s_X0_forgetsThisOne (up (up (up σ (53 + c) 8 0) (53 + c) 6 to) (53 + c) 9 (-1 : Int32)) c = if μ 16 (4 * c + 1) - μ 16 (4 * c + 1) / μ 10 (5 * c + 4) * μ 10 (5 * c + 4) = 0 then nI 1 else nI 0 := by
      unfold s_X0_forgetsThisOne
      simp (disch := omega) only [up_neK, f4, b12]
      rw [if_neg hF]
    rw [hfg]
    unfold s_X5_lay
    simp only [ltt]
    have em16 : up (up μ 13 c v13) 11 c to 16 (4 * c + 1) = μ 16 (4 * c + 1) := by simp (disch := omega) only [up_row_ne]
    have em10 : up (up μ 13 c v13) 11 c to 10 (5 * c + 4) = μ 10 (5 * c + 4) := by simp (disch := omega) only [up_row_ne]
    have em9 : up (up μ 13 c v13) 11 c to 9 u = nI fr := by simp (disch := omega) only [up_row_ne, efr]
    rw [em16, em10, em9, htf]
    by_cases hg : μ 16 (4 * c + 1) - μ 16 (4 * c + 1) / μ 10 (5 * c + 4) * μ 10 (5 * c + 4) = 0
    · rw [if_pos hg, if_pos hg, if_neg n10]
      have ec5 : (s_X0_noteForgotten (s_X3_stayAway (up (up (up σ (53 + c) 8 0) (53 + c) 6 to) (53 + c) 9 (-1 : Int32)) u (nI 2) (nI 24)) c) (13 + u) 5 = nI fr := by
        unfold s_X0_noteForgotten s_X3_stayAway
        simp only [ltt]
        simp (disch := omega) only [up_row_ne, up_neK, e5, efr]
      have ez5 : (s_X0_noteForgotten (s_X3_stayAway (up (up (up σ (53 + c) 8 0) (53 + c) 6 to) (53 + c) 9 (-1 : Int32)) u (nI 2) (nI 24)) c) 0 5 = nI nS := by
        unfold s_X0_noteForgotten s_X3_stayAway
        simp only [ltt]
        simp (disch := omega) only [up_row_ne, h05]
      rw [ec5, isSh_z (n := nS) ez5 hnS hfr, if_neg n10, htf]
      unfold s_X2_noteForgotten s_X0_noteForgotten s_X3_stayAway
      simp only [ltt]
      refine ⟨?_, fun i hi => ?_, fun y hy => ?_, fun d hd => ?_, fun j hj => ?_⟩
      · unfold R0 at h0 ⊢
        simp (disch := omega) only [up_row_ne]
        exact h0
      · obtain ⟨a0, a1, a2, a3, a4, a5, a6, a7⟩ := hS i hi
        by_cases e : i = fr
        · subst e
          refine ⟨?_, ?_, ?_, ?_, ?_, ?_, ?_, ?_⟩ <;> simp (disch := omega) only [up_s, up_row_ne, up_neK, a0, a1, a2, a3, a4, a5, a6]
          exact a7
        · refine ⟨?_, ?_, ?_, ?_, ?_, ?_, ?_, ?_⟩ <;> simp (disch := omega) only [up_s, up_row_ne, up_neK, a0, a1, a2, a3, a4, a5, a6]
          exact a7
      · by_cases e : y = u
        · subst e
          refine ⟨⟨?_, ?_, ?_, ?_, ?_, ?_⟩, Or.inr (Or.inr (Or.inl ⟨?_, ?_, ?_, ?_, ?_, ?_⟩))⟩ <;> simp (disch := omega) only [up_s, up_row_ne, up_neK, e0, e1, e2, e3, e4, e5]
          · exact vp_in_nI (by decide) (by decide)
          · decide
          · exact hi2.2.1
          · exact hi2.2.2
        · refine (hU y hy).cg ?_ ?_ ?_ ?_ ?_ ?_ ?_ <;> simp (disch := omega) only [up_row_ne, up_neK]
      · obtain ⟨a, b, w', d9', z⟩ := hC d hd
        refine ⟨fun hdc => (a hdc).cg (fun k hk => ?_) ?_ ?_, ?_, ?_, ?_, fun hdz => (by simp (disch := omega) only [up_row_ne, up_neK]; exact z hdz)⟩
        · simp (disch := omega) only [up_row_ne, up_neK]
        · simp (disch := omega) only [up_row_ne]
        · simp (disch := omega) only [up_row_ne]
        · by_cases e : d = c
          · subst e
            refine ⟨⟨?_, ?_, ?_, ?_, ?_, ?_, ?_⟩, ?_⟩ <;> simp (disch := omega) only [up_s, up_row_ne, up_neK, b6, b10, b11, b12, b13, b14]
            exact tr_max bt
          · refine b.cg2 (fun k _ _ _ => ?_) ?_ ?_ ?_ (fun j hj => ?_) <;> simp (disch := omega) only [up_row_ne, up_neK]
        · by_cases e : d = c
          · subst e
            refine Or.inr ⟨?_, ?_⟩ <;> simp (disch := omega) only [up_s, up_row_ne, up_neK]
            exact wto
          · refine w'.cg2 ?_ ?_ ?_ ?_ ?_ ?_ <;> simp (disch := omega) only [up_row_ne, up_neK]
        · intro hdc
          by_cases e : d = c
          · subst e
            refine Or.inl ?_
            simp (disch := omega) only [up_s]
          · refine (d9' hdc).cg ?_ (fun v hv1 hv2 h4' h5' => ?_) hnU
            · simp (disch := omega) only [up_row_ne, up_neK]
            · have hvu : v ≠ u := fun q => by
                rw [q, g3] at h5'
                rw [nI_eq (by omega) (by omega)] at h5'
                exact e h5'.symm
              simp (disch := omega) only [up_row_ne, up_neK]
              exact ⟨h4', h5'⟩
      · simp (disch := omega) only [up_row_ne]
        exact hr j hj
    · rw [if_neg hg, if_neg hg, if_pos nI_0]
      unfold s_X0_noteBroughtBack s_X3_standIn
      simp only [ltt]
      refine ⟨?_, fun i hi => ?_, fun y hy => ?_, fun d hd => ?_, fun j hj => ?_⟩
      · unfold R0 at h0 ⊢
        simp (disch := omega) only [up_row_ne]
        exact h0
      · refine (hS i hi).cg ?_ ?_ ?_ ?_ <;> simp (disch := omega) only [up_row_ne]
      · by_cases e : y = u
        · subst e
          refine ⟨⟨?_, ?_, ?_, ?_, ?_, ?_⟩, Or.inl ⟨?_, ?_, ?_, ?_⟩⟩ <;> simp (disch := omega) only [up_s, up_row_ne, up_neK, e0, e1, e2, e3, e4, e5]
          · exact hi2.1.symm
          · exact hto
          · exact hi2.1
          · exact hi2.2.1
        · refine (hU y hy).cg ?_ ?_ ?_ ?_ ?_ ?_ ?_ <;> simp (disch := omega) only [up_row_ne, up_neK]
      · obtain ⟨a, b, w', d9', z⟩ := hC d hd
        refine ⟨fun hdc => (a hdc).cg (fun k hk => ?_) ?_ ?_, ?_, ?_, ?_, fun hdz => (by simp (disch := omega) only [up_row_ne, up_neK]; exact z hdz)⟩
        · simp (disch := omega) only [up_row_ne, up_neK]
        · simp (disch := omega) only [up_row_ne]
        · simp (disch := omega) only [up_row_ne]
        · by_cases e : d = c
          · subst e
            refine ⟨⟨?_, ?_, ?_, ?_, ?_, ?_, ?_⟩, ?_⟩ <;> simp (disch := omega) only [up_s, up_row_ne, up_neK, b6, b10, b11, b12, b13, b14]
            exact tr_min bt
          · refine b.cg2 (fun k _ _ _ => ?_) ?_ ?_ ?_ (fun j hj => ?_) <;> simp (disch := omega) only [up_row_ne, up_neK]
        · by_cases e : d = c
          · subst e
            refine Or.inr ⟨?_, ?_⟩ <;> simp (disch := omega) only [up_s, up_row_ne, up_neK]
            exact wto
          · refine w'.cg2 ?_ ?_ ?_ ?_ ?_ ?_ <;> simp (disch := omega) only [up_row_ne, up_neK]
        · intro hdc
          by_cases e : d = c
          · subst e
            refine Or.inl ?_
            simp (disch := omega) only [up_s]
          · refine (d9' hdc).cg ?_ (fun v hv1 hv2 h4' h5' => ?_) hnU
            · simp (disch := omega) only [up_row_ne, up_neK]
            · have hvu : v ≠ u := fun q => by
                rw [q, g3] at h5'
                rw [nI_eq (by omega) (by omega)] at h5'
                exact e h5'.symm
              simp (disch := omega) only [up_row_ne, up_neK]
              exact ⟨h4', h5'⟩
      · simp (disch := omega) only [up_row_ne]
        exact hr j hj
end SA
