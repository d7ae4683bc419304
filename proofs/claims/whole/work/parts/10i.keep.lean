/-! the same state ahead; what the hours keep -/
section SI
variable {mS mC h nS nU nC : Nat} {σ μ ρ : Sg}
theorem rel_cp0 (hR : Rel mS mC h nS nU nC σ μ ρ) {σ' μ' : Sg} (s0 : ∀ k, 4 ≤ k → k < 9 → σ' 0 k = σ 0 k) (s1 : ∀ j, j < 24 → σ' 1 j = σ 1 j) (sS : ∀ i x, i < nS → x < 7 → σ' (5 + i) x = σ (5 + i) x) (sU : ∀ u x, u < nU → x < 6 → σ' (13 + u) x = σ (13 + u) x) (sC : ∀ c x, c < nC → x < 15 → σ' (53 + c) x = σ (53 + c) x) (m0 : μ' 0 0 = μ 0 0 ∧ μ' 0 1 = μ 0 1 ∧ μ' 0 5 = μ 0 5 ∧ μ' 0 12 = μ 0 12 ∧ μ' 0 20 = μ 0 20) (mm : ∀ p b, 0 < p → p < 17 → b < sLen p → μ' p b = μ p b) : Rel nS nC h nS nU nC σ' μ' ρ := by
  have hC' : ∀ c, c < nC → CRel σ μ nS nU c := fun c hc => hR.ci hc
  have hS' : ∀ i, i < nS → SRel σ μ i := fun i hi => hR.sh hi
  have hm := hR.1.2.2.2.2.2
  obtain ⟨h0, hS, hU, hC, hr⟩ := hR
  have hnU := h0.2.2.1.2.2
  have hnS := h0.2.1.2.2
  have hnC := h0.2.2.2.1.2.2
  have e1 : ∀ b, b < 8 → μ' 1 b = μ 1 b := fun b hb => mm 1 b (by decide) (by decide) hb
  have e2 : ∀ b, b < 8 → μ' 2 b = μ 2 b := fun b hb => mm 2 b (by decide) (by decide) hb
  have e3 : ∀ b, b < 40 → μ' 3 b = μ 3 b := fun b hb => mm 3 b (by decide) (by decide) hb
  have e4 : ∀ b, b < 40 → μ' 4 b = μ 4 b := fun b hb => mm 4 b (by decide) (by decide) hb
  have e5 : ∀ b, b < 40 → μ' 5 b = μ 5 b := fun b hb => mm 5 b (by decide) (by decide) hb
  have e6 : ∀ b, b < 40 → μ' 6 b = μ 6 b := fun b hb => mm 6 b (by decide) (by decide) hb
  have e7 : ∀ b, b < 40 → μ' 7 b = μ 7 b := fun b hb => mm 7 b (by decide) (by decide) hb
  have e8 : ∀ b, b < 40 → μ' 8 b = μ 8 b := fun b hb => mm 8 b (by decide) (by decide) hb
  have e9 : ∀ b, b < 40 → μ' 9 b = μ 9 b := fun b hb => mm 9 b (by decide) (by decide) hb
  have e10 : ∀ b, b < 50 → μ' 10 b = μ 10 b := fun b hb => mm 10 b (by decide) (by decide) hb
  have e11 : ∀ b, b < 10 → μ' 11 b = μ 11 b := fun b hb => mm 11 b (by decide) (by decide) hb
  have e12 : ∀ b, b < 10 → μ' 12 b = μ 12 b := fun b hb => mm 12 b (by decide) (by decide) hb
  have e13 : ∀ b, b < 10 → μ' 13 b = μ 13 b := fun b hb => mm 13 b (by decide) (by decide) hb
  have e14 : ∀ b, b < 10 → μ' 14 b = μ 14 b := fun b hb => mm 14 b (by decide) (by decide) hb
  have e15 : ∀ b, b < 10 → μ' 15 b = μ 15 b := fun b hb => mm 15 b (by decide) (by decide) hb
  have e16 : ∀ b, b < 40 → μ' 16 b = μ 16 b := fun b hb => mm 16 b (by decide) (by decide) hb
  obtain ⟨m00, m01, m05, m012, m020⟩ := m0
  refine ⟨?_, fun i hi => ?_, fun u hu => ?_, fun c hc => ?_, fun j hj => ?_⟩
  · unfold R0 at h0 ⊢
    rw [s0 4 (by decide) (by decide), s0 5 (by decide) (by decide), s0 6 (by decide) (by decide), s0 7 (by decide) (by decide), s0 8 (by decide) (by decide), m00, m01, m05, m012, m020]
    exact ⟨h0.1, h0.2.1, h0.2.2.1, h0.2.2.2.1, h0.2.2.2.2.1, Nat.le_refl _, hnS, Nat.le_refl _, hnC⟩
  · have g := hS' i hi
    unfold SRel at g ⊢
    rw [sS i 0 hi (by decide), sS i 1 hi (by decide), sS i 2 hi (by decide), sS i 3 hi (by decide), sS i 4 hi (by decide), sS i 5 hi (by decide), sS i 6 hi (by decide), e1 i (by omega), e2 i (by omega), e3 (5 * i) (by omega), e3 (5 * i + 1) (by omega), e3 (5 * i + 2) (by omega), e3 (5 * i + 3) (by omega), e3 (5 * i + 4) (by omega)]
    exact g
  · have g := hU u hu
    unfold URel at g ⊢
    rw [sU u 0 hu (by decide), sU u 1 hu (by decide), sU u 2 hu (by decide), sU u 3 hu (by decide), sU u 4 hu (by decide), sU u 5 hu (by decide), e4 u (by omega), e5 u (by omega), e6 u (by omega), e7 u (by omega), e8 u (by omega), e9 u (by omega)]
    exact g
  · obtain ⟨a, b, w, d⟩ := hC' c hc
    refine ⟨fun _ => ?_, ?_, ?_, fun _ => ?_, fun hz => absurd hc (by omega)⟩
    · have q1 := tn_in a.2.1.1
      have q2 := tn_in a.2.1.2.1
      unfold CFix at a ⊢
      rw [sC c 0 hc (by decide), sC c 1 hc (by decide), sC c 2 hc (by decide), sC c 3 hc (by decide), sC c 4 hc (by decide), sC c 5 hc (by decide), e10 (5 * c) (by omega), e10 (5 * c + 1) (by omega), e10 (5 * c + 2) (by omega), e10 (5 * c + 3) (by omega), e10 (5 * c + 4) (by omega), e1 (tn (μ 10 (5 * c))) (Nat.lt_of_lt_of_le q1 hnS), e1 (tn (μ 10 (5 * c + 1))) (Nat.lt_of_lt_of_le q2 hnS)]
      exact a
    · unfold CVar at b ⊢
      rw [sC c 6 hc (by decide), sC c 9 hc (by decide), sC c 10 hc (by decide), sC c 11 hc (by decide), sC c 12 hc (by decide), sC c 13 hc (by decide), sC c 14 hc (by decide), e11 c (by omega), e14 c (by omega), e15 c (by omega), e16 (4 * c) (by omega), e16 (4 * c + 1) (by omega), e16 (4 * c + 2) (by omega), e16 (4 * c + 3) (by omega)]
      exact b
    · unfold CWay at w ⊢
      rw [sC c 8 hc (by decide), sC c 7 hc (by decide), e10 (5 * c) (by omega), e10 (5 * c + 1) (by omega), e11 c (by omega), e12 c (by omega), e13 c (by omega)]
      exact w
    · refine d.cg (e14 c (by omega)) (fun v _ hv h4 h5 => ?_) hnU
      rw [e4 v (by omega), e5 v (by omega)]
      exact ⟨h4, h5⟩
  · rw [s1 j hj]
    exact hr j hj
theorem rel_cp (hR : Rel mS mC h nS nU nC σ μ ρ) (σa μa : Sg) : Rel nS nC h nS nU nC (s_X1_becomeLike (σ, σa)).2 (s_X5_become (μ, μa)).2 ρ := by
  have ht := hR.tn
  have hnU := hR.1.2.2.1.2.2
  have hnS := hR.1.2.1.2.2
  have hn : tn (σ 0 5) ≤ 8 ∧ tn (σ 0 6) ≤ 40 := by rw [ht.1, ht.2.2.1]; exact ⟨hnS, hnU⟩
  refine rel_cp0 hR (fun k h4 h9 => ?_) (fun j hj => ?_) (fun i x hi hx => ?_) (fun i x hi hx => ?_) (fun i x hi hx => ?_) ?_ (fun p b h0 h1 hb => bec_at μ μa p b h0 h1 hb)
  · rw [bl_0 σ σa hn 0 (by decide)]
    unfold blB
    have hk : k = 4 ∨ k = 5 ∨ k = 6 ∨ k = 7 ∨ k = 8 := by omega
    rcases hk with rfl | rfl | rfl | rfl | rfl <;> simp (disch := decide) only [up_s, up_neK]
  · rw [bl_0 σ σa hn 1 (by decide)]
    unfold blB
    simp (disch := decide) only [up_row_ne, upr_row]
    unfold va_cpy
    rw [if_pos ⟨Nat.zero_le _, by omega⟩]
    simp
  · exact bl_2 σ σa hn i x (by rw [ht.1]; exact hi) hx
  · exact bl_3 σ σa hn i x (by rw [ht.2.2.1]; exact hi) hx
  · exact bl_0c σ σa i x (by rw [ht.2.2.2.2.1]; exact hi) hx
  · exact ⟨become_0 (μ, μa) 0 (by decide), become_0 (μ, μa) 1 (by decide), become_0 (μ, μa) 5 (by decide), become_0 (μ, μa) 12 (by decide), become_0 (μ, μa) 20 (by decide)⟩
theorem sim_bring {x : Int32} (hR : Rel mS mC h nS nU nC σ μ ρ) (hn : nU < 40) (hx : vp_in x nS) : Rel mS mC h nS (nU + 1) nC (s_X1_addUmbrella σ x) (s_X5_bring μ x) ρ := by
  have ht := hR.tn
  have hm := hR.1.2.2.2.2.2
  obtain ⟨h0, hS, hU, hC, hr⟩ := hR
  have hnU := h0.2.2.1.2.2
  have hnS := h0.2.1.2.2
  have hnC := h0.2.2.2.1.2.2
  unfold s_X1_addUmbrella s_X5_bring s_X3_beNewIn s_X3_standIn
  simp only [ltt]
  rw [ht.2.2.1, ht.2.2.2.1, if_neg (by rw [nI_leI (by omega) (by omega)]; omega)]
  obtain ⟨⟨r1, r2⟩, ⟨r3, r4, r5⟩, ⟨r6, r7, r8⟩, ⟨r9, r10, r11⟩, r12, rm⟩ := h0
  refine ⟨⟨⟨?_, ?_⟩, ⟨?_, ?_, hnS⟩, ⟨?_, ?_, by omega⟩, ⟨?_, ?_, hnC⟩, ?_, rm⟩, fun i hi => ?_, fun y hy => ?_, fun d hd => ?_, fun j hj => ?_⟩
  · simp (disch := omega) only [up_row_ne, up_neK, r1]
  · simp (disch := omega) only [up_row_ne, up_neK, r2]
  · simp (disch := omega) only [up_row_ne, up_neK, r3]
  · simp (disch := omega) only [up_row_ne, up_neK, r4]
  · simp (disch := omega) only [up_s]
  · simp (disch := omega) only [up_s]
  · simp (disch := omega) only [up_row_ne, up_neK, r9]
  · simp (disch := omega) only [up_row_ne, up_neK, r10]
  · simp (disch := omega) only [up_row_ne, up_neK, r12]
  · refine (hS i hi).cg ?_ ?_ ?_ ?_ <;> simp (disch := omega) only [up_row_ne]
  · by_cases e : y = nU
    · subst e
      refine ⟨⟨?_, ?_, ?_, ?_, ?_, ?_⟩, Or.inl ⟨?_, ?_, ?_, ?_⟩⟩ <;> simp (disch := omega) only [up_s, up_row_ne, up_neK]
      · exact hx
      · decide
    · refine (hU y (by omega)).cg ?_ ?_ ?_ ?_ ?_ ?_ ?_ <;> simp (disch := omega) only [up_row_ne, up_neK]
  · obtain ⟨a, b, w', d9', z⟩ := hC d hd
    refine ⟨fun hdc => (a hdc).cg (fun k hk => ?_) ?_ ?_, b.cg ?_ ?_ ?_ ?_ (fun j _ => ?_), w'.cg ?_ ?_ ?_ ?_ ?_, fun hdc => ?_, fun hdz => (by simp (disch := omega) only [up_row_ne, up_neK]; exact z hdz)⟩
    all_goals (try simp (disch := omega) only [up_row_ne])
    rcases d9' hdc with q | ⟨q1, q2, q3⟩
    · refine Or.inl ?_
      simp (disch := omega) only [up_row_ne]
      exact q
    · have hlt : tn (μ 14 d) < nU := tn_in q1
      refine Or.inr ⟨?_, ?_, ?_⟩ <;> simp (disch := omega) only [up_row_ne, up_neK]
      · exact in_mono q1 (by omega)
      · exact q2
      · exact q3
  · simp (disch := omega) only [up_row_ne]
    exact hr j hj
theorem sim_walk {k now : Nat} (hR : Rel mS mC h nS nU nC σ μ ρ) (hkc : k < nC) (hn : now < 24) (hst : μ 11 k = (-1 : Int32)) : ∃ σ', Rel mS mC h nS nU nC σ' (s_X5_walk μ k (ρ 1 now)) ρ := by
  have hx := (hR.2.2.2.2 now hn).2
  have h1 := sim_rain hR hkc hx
  have hst1 : mRain μ k (ρ 1 now) 11 k = (-1 : Int32) := by rw [rain_row μ k 11 _ (by decide) (by decide) (by decide) (by decide) (by decide) (by decide)]; exact hst
  rw [walk_eq]
  have es : mStep (mRain μ k (ρ 1 now)) k 13 k = mRain μ k (ρ 1 now) 13 k - nI 1 := up_s _ _ _ _
  rw [es]
  by_cases hz : mRain μ k (ρ 1 now) 13 k - nI 1 ≤ 0
  · rw [if_pos hz]
    exact ⟨_, sim_arr h1 hkc hst1 hz⟩
  · rw [if_neg hz]
    exact ⟨_, sim_step h1 hkc hst1 hz⟩
theorem rel_rho (hR : Rel mS mC h nS nU nC σ μ ρ) (v : Int32) : Rel mS mC h nS nU nC σ μ (up ρ 0 0 v) := by
  refine ⟨hR.1, hR.2.1, hR.2.2.1, hR.2.2.2.1, fun j hj => ?_⟩
  rw [up_row_ne ρ 0 v (by decide : 1 ≠ 0)]
  exact hR.2.2.2.2 j hj
end SI
def IV (h : Nat) (τ : Sg × Sg) : Prop := ∃ σ mS mC nS nU nC, Rel mS mC h nS nU nC σ τ.1 τ.2
theorem IV_P (h : Nat) : PInv (IV h) := by
  refine ⟨?_, ?_, ?_, ?_, ?_⟩
  · rintro τ ⟨σ, mS, mC, nS, nU, nC, hR⟩
    exact hR.okN
  · rintro τ ⟨σ, mS, mC, nS, nU, nC, hR⟩ c hc
    rw [hR.tn.2.2.2.2.2] at hc
    have hnU := hR.1.2.2.1.2.2
    have hnS := hR.1.2.1.2.2
    obtain ⟨a, b, w, d⟩ := hR.ci hc
    refine ⟨?_, in_mono a.2.1.1 hnS, in_mono a.2.1.2.1 hnS, a.2.1.2.2.2.2, ?_⟩
    · by_cases q : τ.1 11 c = (-1 : Int32)
      · exact Or.inl q
      · exact Or.inr (in_mono (stays_in hR hc q) hnS)
    · rcases d with q | ⟨q1, q2, q3⟩
      · exact Or.inl q
      · refine Or.inr ⟨in_mono q1 hnU, ?_⟩
        rcases (hR.2.2.1 _ (tn_in q1)).2 with ⟨q, -⟩ | ⟨-, -, -, q⟩ | ⟨q, -⟩ | ⟨q, -⟩
        · rw [q] at q2; exact absurd q2 (by decide)
        · exact in_mono q hnS
        · rw [q] at q2; exact absurd q2 (by decide)
        · rw [q] at q2; exact absurd q2 (by decide)
  · rintro ⟨μ, ρ⟩ u ⟨σ, mS, mC, nS, nU, nC, hR⟩ hu hw
    have hu2 : u < nU := by have e := hR.tn.2.2.2.1; exact e ▸ hu
    exact ⟨_, mS, mC, nS, nU, nC, sim_wait hR hu2 hw⟩
  · rintro ⟨μ, ρ⟩ c now ⟨σ, mS, mC, nS, nU, nC, hR⟩ hc hst hn
    have hc2 : c < nC := by have e := hR.tn.2.2.2.2.2; exact e ▸ hc
    have ho : (s_X5_leave (μ, ρ) c now).2.2 = ρ := o_X5_leave (μ, ρ) c now
    have key : ∃ σ', Rel mS mC h nS nU nC σ' (s_X5_leave (μ, ρ) c now).2.1 ρ := by
      by_cases h1 : 0 < ρ 1 now
      · exact ⟨_, ((sim_leave hR hc2 hst (wt := nI 1) (Or.inl ⟨Or.inl h1, rfl⟩)).2 (by decide)).2⟩
      · by_cases h2 : ρ 1 ((now + 1) % 24) ≤ 0
        · exact ⟨_, ((sim_leave hR hc2 hst (wt := nI 0) (Or.inr ⟨h1, h2, rfl⟩)).1 (by decide)).2⟩
        · exact ⟨_, ((sim_leave hR hc2 hst (wt := nI 1) (Or.inl ⟨Or.inr ⟨h1, h2⟩, rfl⟩)).2 (by decide)).2⟩
    obtain ⟨σ', hk⟩ := key
    refine ⟨σ', mS, mC, nS, nU, nC, ?_⟩
    rw [ho]
    exact hk
  · rintro ⟨μ, ρ⟩ c now ⟨σ, mS, mC, nS, nU, nC, hR⟩ hc hst hn
    have hc2 : c < nC := by have e := hR.tn.2.2.2.2.2; exact e ▸ hc
    obtain ⟨σ', hk⟩ := sim_walk hR hc2 hn hst
    exact ⟨σ', mS, mC, nS, nU, nC, hk⟩
theorem IV_Q : QInv IV := by
  refine ⟨IV_P, ?_, ?_, ?_, ?_, ?_⟩
  · rintro h τ ⟨σ, mS, mC, nS, nU, nC, hR⟩
    exact hR.1.1.2
  · rintro h ⟨μ, ρ⟩ ⟨σ, mS, mC, nS, nU, nC, hR⟩ hh
    have ho : (s_X5_pass (μ, ρ)).2.2 = ρ := o_X5_pass (μ, ρ)
    refine ⟨(cHour σ).2, mS, mC, nS, nU, nC, ?_⟩
    rw [ho]
    exact (sim_pass hR (by omega)).2
  · rintro h a b ρ ⟨σ, mS, mC, nS, nU, nC, hR⟩
    exact ⟨_, nS, nC, nS, nU, nC, rel_cp hR (fun _ _ => 0) b⟩
  · rintro h μ ρ x ⟨σ, mS, mC, nS, nU, nC, hR⟩ hb hx
    have e := hR.tn
    have hb2 : nU < 40 := by have e2 := e.2.2.2.1; exact e2 ▸ hb
    have hx2 : vp_in x nS := by have e2 := e.2.1; exact e2 ▸ hx
    exact ⟨_, mS, mC, nS, nU + 1, nC, sim_bring hR hb2 hx2⟩
  · rintro h μ ρ v ⟨σ, mS, mC, nS, nU, nC, hR⟩
    exact ⟨σ, mS, mC, nS, nU, nC, rel_rho hR v⟩
