/-! citizens walk -/
def mRain (μ : Sg) (c : Nat) (x : Int32) : Sg := if μ 14 c = (-1 : Int32) then up μ 16 (4 * c) (μ 16 (4 * c) + x) else if x ≤ 0 then μ else if up μ 6 (tn (μ 14 c)) (μ 6 (tn (μ 14 c)) + x) 6 (tn (μ 14 c)) < nI 30 then up μ 6 (tn (μ 14 c)) (μ 6 (tn (μ 14 c)) + x) else up (up (up (up (up μ 6 (tn (μ 14 c)) (μ 6 (tn (μ 14 c)) + x)) 4 (tn (μ 14 c)) (nI 3)) 5 (tn (μ 14 c)) (-1 : Int32)) 7 (tn (μ 14 c)) (nI 12)) 14 c (-1 : Int32)
def mArr (μ : Sg) (c : Nat) : Sg := if μ 14 c = (-1 : Int32) then up (up μ 11 c (μ 12 c)) 14 c (-1 : Int32) else up (s_X5_lay (up μ 11 c (μ 12 c)) c (tn (μ 14 c))) 14 c (-1 : Int32)
def mStep (μ : Sg) (c : Nat) : Sg := up μ 13 c (μ 13 c - nI 1)
theorem up_comm (σ : Sg) {p q : Nat} (i j : Nat) (v w : Int32) (h : p ≠ q) : up (up σ p i v) q j w = up (up σ q j w) p i v := by
  funext a b
  unfold up
  by_cases ha : a = p
  · subst ha
    simp [h]
  · simp [ha]
theorem walk_eq (μ : Sg) (c : Nat) (x : Int32) : s_X5_walk μ c x = if mStep (mRain μ c x) c 13 c ≤ 0 then mArr (mStep (mRain μ c x) c) c else mStep (mRain μ c x) c := by
  unfold s_X5_walk
  simp only [ltt]
  by_cases h1 : μ 14 c = (-1 : Int32)
  · have er : mRain μ c x = up μ 16 (4 * c) (μ 16 (4 * c) + x) := if_pos h1
    have es : mStep (mRain μ c x) c = up (up μ 13 c (μ 13 c - nI 1)) 16 (4 * c) (μ 16 (4 * c) + x) := by
      rw [er]
      unfold mStep
      rw [up_row_ne μ _ _ (by decide : 13 ≠ 16), up_comm _ _ _ _ _ (by decide)]
    rw [if_pos h1, es]
    simp (disch := omega) only [up_row_ne]
    unfold mArr
    simp (disch := omega) only [up_row_ne]
  · rw [if_neg h1]
    by_cases h2 : x ≤ 0
    · have er : mRain μ c x = μ := by unfold mRain; rw [if_neg h1, if_pos h2]
      rw [if_pos h2, er]
      unfold mStep mArr
      simp (disch := omega) only [up_row_ne]
    · rw [if_neg h2]
      generalize hu : tn (μ 14 c) = u
      by_cases h3 : μ 6 u + x < nI 30
      · have er : mRain μ c x = up μ 6 u (μ 6 u + x) := by unfold mRain; rw [if_neg h1, if_neg h2, hu, if_pos (by rw [up_s]; exact h3)]
        have es : mStep (mRain μ c x) c = up (up μ 13 c (μ 13 c - nI 1)) 6 u (μ 6 u + x) := by
          rw [er]
          unfold mStep
          rw [up_row_ne μ _ _ (by decide : 13 ≠ 6), up_comm _ _ _ _ _ (by decide)]
        rw [es]
        simp (disch := omega) only [up_row_ne, up_s]
        rw [if_pos h3]
        unfold mArr
        simp (disch := omega) only [up_row_ne]
        rw [if_neg h1, if_neg h1, hu]
      · have er : mRain μ c x = up (up (up (up (up μ 6 u (μ 6 u + x)) 4 u (nI 3)) 5 u (-1 : Int32)) 7 u (nI 12)) 14 c (-1 : Int32) := by unfold mRain; rw [if_neg h1, if_neg h2, hu, if_neg (by rw [up_s]; exact h3)]
        have es : mStep (mRain μ c x) c = up (up (up (up (up (up μ 13 c (μ 13 c - nI 1)) 6 u (μ 6 u + x)) 4 u (nI 3)) 5 u (-1 : Int32)) 7 u (nI 12)) 14 c (-1 : Int32) := by
          rw [er]
          unfold mStep
          rw [show (up (up (up (up (up μ 6 u (μ 6 u + x)) 4 u (nI 3)) 5 u (-1 : Int32)) 7 u (nI 12)) 14 c (-1 : Int32)) 13 c = μ 13 c by simp (disch := omega) only [up_row_ne]]
          rw [up_comm _ c c _ _ (by decide : (14 : Nat) ≠ 13), up_comm _ u c _ _ (by decide : (7 : Nat) ≠ 13), up_comm _ u c _ _ (by decide : (5 : Nat) ≠ 13), up_comm _ u c _ _ (by decide : (4 : Nat) ≠ 13), up_comm _ u c _ _ (by decide : (6 : Nat) ≠ 13)]
        rw [es]
        simp (disch := omega) only [up_row_ne, up_s]
        rw [if_neg h3]
        unfold mArr
        simp (disch := omega) only [up_row_ne, up_s]
        rw [if_pos trivial]
section SW
variable {mS mC h nS nU nC : Nat} {σ μ ρ : Sg}
theorem lt30_add {w x : Int32} (hx : vp_in x 10) (h0 : x ≤ 0) : x = 0 := by
  obtain ⟨j, hj, rfl⟩ := vp_in_of hx (by decide)
  rw [← nI_0, nI_leI (by omega) (by decide)] at h0
  rw [show j = 0 by omega, nI_0]
/-- the rain: the state stays one -/
theorem sim_rain {c : Nat} {x : Int32} (hR : Rel mS mC h nS nU nC σ μ ρ) (hc : c < nC) (hx : vp_in x 10) : Rel mS mC h nS nU nC (s_X1_meetRain σ c x) (mRain μ c x) ρ := by
  have hR0 := hR
  have hC' : ∀ c, c < nC → CRel σ μ nS nU c := fun c hc => hR.ci hc
  have hS' : ∀ i, i < nS → SRel σ μ i := fun i hi => hR.sh hi
  have hm := hR.1.2.2.2.2.2
  obtain ⟨h0, hS, hU, hC, hr⟩ := hR
  have hnU := h0.2.2.1.2.2
  have hnS := h0.2.1.2.2
  have hnC := h0.2.2.2.1.2.2
  obtain ⟨-, ⟨⟨b6, b9, b10, b11, b12, b13, b14⟩, bt⟩, -, d9⟩ := hC' c hc
  unfold s_X1_meetRain
  simp only [ltt]
  rw [b9]
  rcases d9 with h1 | ⟨g1, g2, g3⟩
  · have er : mRain μ c x = up μ 16 (4 * c) (μ 16 (4 * c) + x) := if_pos h1
    rw [er, h1, isUm_no, if_pos nI_0, b11]
    refine ⟨?_, fun i hi => ?_, fun y hy => ?_, fun d hd => ?_, fun j hj => ?_⟩
    · unfold R0 at h0 ⊢
      simp (disch := omega) only [up_row_ne]
      exact h0
    · refine (hS i hi).cg ?_ ?_ ?_ ?_ <;> simp (disch := omega) only [up_row_ne]
    · refine (hU y hy).cg ?_ ?_ ?_ ?_ ?_ ?_ ?_ <;> simp (disch := omega) only [up_row_ne]
    · obtain ⟨a, b, w', d9', z⟩ := hC d hd
      refine ⟨fun hdc => (a hdc).cg (fun k hk => ?_) ?_ ?_, ?_, w'.cg2 ?_ ?_ ?_ ?_ ?_ ?_, fun hdc => (d9' hdc).cg ?_ (fun v hv1 hv2 h4' h5' => ?_) hnU, fun hdz => (by simp (disch := omega) only [up_row_ne, up_neK]; exact z hdz)⟩
      · simp (disch := omega) only [up_row_ne, up_neK]
      · simp (disch := omega) only [up_row_ne]
      · simp (disch := omega) only [up_row_ne]
      · by_cases e : d = c
        · subst e
          refine ⟨⟨?_, ?_, ?_, ?_, ?_, ?_, ?_⟩, ?_⟩ <;> simp (disch := omega) only [up_s, up_row_ne, up_neK, b6, b9, b10, b11, b12, b13, b14]
          exact bt
        · refine b.cg2 (fun k _ _ _ => ?_) ?_ ?_ ?_ (fun j hj => ?_) <;> simp (disch := omega) only [up_row_ne, up_neK]
      · simp (disch := omega) only [up_row_ne, up_neK]
      · simp (disch := omega) only [up_row_ne, up_neK]
      · simp (disch := omega) only [up_row_ne]
      · simp (disch := omega) only [up_row_ne]
      · simp (disch := omega) only [up_row_ne]
      · simp (disch := omega) only [up_row_ne]
      · simp (disch := omega) only [up_row_ne]
      · simp (disch := omega) only [up_row_ne]
        exact ⟨h4', h5'⟩
    · simp (disch := omega) only [up_row_ne]
      exact hr j hj
  · obtain ⟨u, hu, e14⟩ := vp_in_of g1 (by omega)
    have htu : tn (nI u) = u := tn_nI (by omega)
    rw [e14, htu] at g2 g3
    have hne : ¬ μ 14 c = (-1 : Int32) := by rw [e14]; exact k_ne u (by omega)
    obtain ⟨⟨e0, e1, e2, e3, e4, e5⟩, hi⟩ := hU u hu
    have hi2 : μ 7 u = nI 0 ∧ μ 6 u < nI 30 ∧ vp_in (μ 9 u) nS := by
      rcases hi with ⟨q, -⟩ | ⟨-, q1, q2, q3⟩ | ⟨q, -⟩ | ⟨q, -⟩
      · rw [q] at g2; exact absurd g2 (by decide)
      · exact ⟨q1, q2, q3⟩
      · rw [q] at g2; exact absurd g2 (by decide)
      · rw [q] at g2; exact absurd g2 (by decide)
    rw [e14, isUm_in hR0 hu, if_neg (show ¬ nI 1 = 0 by decide), htu, up_s, e2]
    /- an umbrella in hand that only gets worn -/
    have wear : ∀ v : Int32, v < nI 30 → Rel mS mC h nS nU nC (up σ (13 + u) 2 v) (up μ 6 u v) ρ := by
      intro v hv
      refine ⟨?_, fun i hi => ?_, fun y hy => ?_, fun d hd => ?_, fun j hj => ?_⟩
      · unfold R0 at h0 ⊢
        simp (disch := omega) only [up_row_ne]
        exact h0
      · refine (hS i hi).cg ?_ ?_ ?_ ?_ <;> simp (disch := omega) only [up_row_ne]
      · by_cases e : y = u
        · subst e
          refine ⟨⟨?_, ?_, ?_, ?_, ?_, ?_⟩, Or.inr (Or.inl ⟨?_, ?_, ?_, ?_⟩)⟩ <;> simp (disch := omega) only [up_s, up_row_ne, up_neK, e0, e1, e2, e3, e4, e5]
          · exact g2
          · exact hi2.1
          · exact hv
          · exact hi2.2.2
        · refine (hU y hy).cg ?_ ?_ ?_ ?_ ?_ ?_ ?_ <;> simp (disch := omega) only [up_row_ne, up_neK]
      · obtain ⟨a, b, w', d9', z⟩ := hC d hd
        refine ⟨fun hdc => (a hdc).cg (fun k hk => ?_) ?_ ?_, b.cg ?_ ?_ ?_ ?_ (fun j _ => ?_), w'.cg ?_ ?_ ?_ ?_ ?_, fun hdc => (d9' hdc).cg ?_ (fun v hv1 hv2 h4' h5' => ?_) hnU, fun hdz => (by simp (disch := omega) only [up_row_ne, up_neK]; exact z hdz)⟩
        all_goals simp (disch := omega) only [up_row_ne]
        exact ⟨h4', h5'⟩
      · simp (disch := omega) only [up_row_ne]
        exact hr j hj
    by_cases hx0 : x ≤ 0
    · have er : mRain μ c x = μ := by unfold mRain; rw [if_neg hne, if_pos hx0]
      have ex : x = 0 := lt30_add (w := x) hx hx0
      have ew : μ 6 u + x = μ 6 u := by rw [ex]; exact Int32.add_zero _
      rw [er, ew, if_pos hi2.2.1]
      have hw := wear (μ 6 u) hi2.2.1
      have em : up μ 6 u (μ 6 u) = μ := by
        funext a b
        unfold up
        by_cases q : a = 6 ∧ b = u
        · rw [if_pos q, q.1, q.2]
        · rw [if_neg q]
      rw [em] at hw
      exact hw
    · by_cases h3 : μ 6 u + x < nI 30
      · have er : mRain μ c x = up μ 6 u (μ 6 u + x) := by unfold mRain; rw [if_neg hne, if_neg hx0, e14, htu, if_pos (by rw [up_s]; exact h3)]
        rw [er, if_pos h3]
        exact wear _ h3
      · have er : mRain μ c x = up (up (up (up (up μ 6 u (μ 6 u + x)) 4 u (nI 3)) 5 u (-1 : Int32)) 7 u (nI 12)) 14 c (-1 : Int32) := by unfold mRain; rw [if_neg hne, if_neg hx0, e14, htu, if_neg (by rw [up_s]; exact h3)]
        rw [er, if_neg h3]
        unfold s_X3_stayAway
        simp only [ltt]
        refine ⟨?_, fun i hi => ?_, fun y hy => ?_, fun d hd => ?_, fun j hj => ?_⟩
        · unfold R0 at h0 ⊢
          simp (disch := omega) only [up_row_ne]
          exact h0
        · refine (hS i hi).cg ?_ ?_ ?_ ?_ <;> simp (disch := omega) only [up_row_ne]
        · by_cases e : y = u
          · subst e
            refine ⟨⟨?_, ?_, ?_, ?_, ?_, ?_⟩, Or.inr (Or.inr (Or.inr ⟨?_, ?_, ?_, ?_, ?_⟩))⟩ <;> simp (disch := omega) only [up_s, up_row_ne, up_neK, e0, e1, e2, e3, e4, e5]
            · exact vp_in_nI (by decide) (by decide)
            · decide
            · exact hi2.2.2
          · refine (hU y hy).cg ?_ ?_ ?_ ?_ ?_ ?_ ?_ <;> simp (disch := omega) only [up_row_ne, up_neK]
        · obtain ⟨a, b, w', d9', z⟩ := hC d hd
          refine ⟨fun hdc => (a hdc).cg (fun k hk => ?_) ?_ ?_, ?_, w'.cg2 ?_ ?_ ?_ ?_ ?_ ?_, ?_, fun hdz => (by simp (disch := omega) only [up_row_ne, up_neK]; exact z hdz)⟩
          · simp (disch := omega) only [up_row_ne, up_neK]
          · simp (disch := omega) only [up_row_ne]
          · simp (disch := omega) only [up_row_ne]
          · by_cases e : d = c
            · subst e
              refine ⟨⟨?_, ?_, ?_, ?_, ?_, ?_, ?_⟩, ?_⟩ <;> simp (disch := omega) only [up_s, up_row_ne, up_neK, b6, b10, b11, b12, b13, b14]
              exact bt
            · refine b.cg2 (fun k _ _ _ => ?_) ?_ ?_ ?_ (fun j hj => ?_) <;> simp (disch := omega) only [up_row_ne, up_neK]
          · simp (disch := omega) only [up_row_ne, up_neK]
          · simp (disch := omega) only [up_row_ne, up_neK]
          · simp (disch := omega) only [up_row_ne]
          · simp (disch := omega) only [up_row_ne]
          · simp (disch := omega) only [up_row_ne]
          · simp (disch := omega) only [up_row_ne]
          · intro hdc
            by_cases e : d = c
            · subst e
              refine Or.inl ?_
              simp (disch := omega) only [up_s]
            · refine (d9' hdc).cg ?_ (fun v hv1 hv2 h4' h5' => ?_) hnU
              · simp (disch := omega) only [up_row_ne, up_neK]
              · have hvu : v ≠ u := fun q => by
                  rw [q, g3] at h5'
                  rw [nI_eq (by omega) (by omega)] at h5'
                  exact e h5'.symm
                simp (disch := omega) only [up_row_ne, up_neK]
                exact ⟨h4', h5'⟩
        · simp (disch := omega) only [up_row_ne]
          exact hr j hj
/-- an hour of walking that isn't the last one -/
theorem sim_step {c : Nat} (hR : Rel mS mC h nS nU nC σ μ ρ) (hc : c < nC) (hst : μ 11 c = (-1 : Int32)) (hl : ¬ μ 13 c - nI 1 ≤ 0) : Rel mS mC h nS nU nC (up σ (53 + c) 8 (σ (53 + c) 8 - nI 1)) (mStep μ c) ρ := by
  have hC' : ∀ c, c < nC → CRel σ μ nS nU c := fun c hc => hR.ci hc
  have hS' : ∀ i, i < nS → SRel σ μ i := fun i hi => hR.sh hi
  have hm := hR.1.2.2.2.2.2
  obtain ⟨h0, hS, hU, hC, hr⟩ := hR
  have hnU := h0.2.2.1.2.2
  have hnS := h0.2.1.2.2
  have hnC := h0.2.2.2.1.2.2
  obtain ⟨⟨-, ⟨q1, q2, -⟩, -⟩, -, w, -⟩ := hC' c hc
  have w1 : 0 < μ 13 c ∧ σ (53 + c) 8 = μ 13 c ∧ σ (53 + c) 7 = μ 12 c ∧ (μ 12 c = μ 10 (5 * c) ∨ μ 12 c = μ 10 (5 * c + 1)) := by
    rcases w with ⟨-, w⟩ | ⟨-, w | w⟩
    · exact w
    · exact absurd (hst.symm.trans w).symm (in_ne q1)
    · exact absurd (hst.symm.trans w).symm (in_ne q2)
  unfold mStep
  rw [w1.2.1]
  refine ⟨?_, fun i hi => ?_, fun y hy => ?_, fun d hd => ?_, fun j hj => ?_⟩
  · unfold R0 at h0 ⊢
    simp (disch := omega) only [up_row_ne]
    exact h0
  · refine (hS i hi).cg ?_ ?_ ?_ ?_ <;> simp (disch := omega) only [up_row_ne]
  · refine (hU y hy).cg ?_ ?_ ?_ ?_ ?_ ?_ ?_ <;> simp (disch := omega) only [up_row_ne]
  · obtain ⟨a, b, w', d9', z⟩ := hC d hd
    refine ⟨fun hdc => (a hdc).cg (fun k hk => ?_) ?_ ?_, b.cg2 (fun k _ _ _ => ?_) ?_ ?_ ?_ (fun j hj => ?_), ?_, fun hdc => (d9' hdc).cg ?_ (fun v hv1 hv2 h4' h5' => ?_) hnU, fun hdz => (by simp (disch := omega) only [up_row_ne, up_neK]; exact z hdz)⟩
    · simp (disch := omega) only [up_row_ne, up_neK]
    · simp (disch := omega) only [up_row_ne]
    · simp (disch := omega) only [up_row_ne]
    · simp (disch := omega) only [up_row_ne, up_neK]
    · simp (disch := omega) only [up_row_ne]
    · simp (disch := omega) only [up_row_ne]
    · simp (disch := omega) only [up_row_ne]
    · simp (disch := omega) only [up_row_ne]
    · by_cases e : d = c
      · subst e
        refine Or.inl ⟨?_, ?_, ?_, ?_, ?_⟩ <;> simp (disch := omega) only [up_s, up_row_ne, up_neK]
        · exact hst
        · exact Int32.not_le.mp hl
        · exact w1.2.2.1
        · exact w1.2.2.2
      · refine w'.cg2 ?_ ?_ ?_ ?_ ?_ ?_ <;> simp (disch := omega) only [up_row_ne, up_neK]
    · simp (disch := omega) only [up_row_ne]
    · simp (disch := omega) only [up_row_ne]
      exact ⟨h4', h5'⟩
  · simp (disch := omega) only [up_row_ne]
    exact hr j hj
end SW
