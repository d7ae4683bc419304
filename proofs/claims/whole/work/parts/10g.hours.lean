/-! an hour, and hours -/
section SH
variable {mS mC h nS nU nC : Nat} {σ μ ρ : Sg}
theorem rain_row (μ : Sg) (c p : Nat) (x : Int32) (h4 : p ≠ 4) (h5 : p ≠ 5) (h6 : p ≠ 6) (h7 : p ≠ 7) (h14 : p ≠ 14) (h16 : p ≠ 16) : mRain μ c x p = μ p := by
  unfold mRain
  repeat' split
  all_goals first | rfl | (repeat (first | rw [up_row_ne _ _ _ h4] | rw [up_row_ne _ _ _ h5] | rw [up_row_ne _ _ _ h6] | rw [up_row_ne _ _ _ h7] | rw [up_row_ne _ _ _ h14] | rw [up_row_ne _ _ _ h16]))
theorem CWay.on {c : Nat} (hR : Rel mS mC h nS nU nC σ μ ρ) (hc : c < nC) (hst : μ 11 c = (-1 : Int32)) : 0 < μ 13 c ∧ σ (53 + c) 8 = μ 13 c := by
  obtain ⟨⟨-, ⟨q1, q2, -⟩, -⟩, -, w, -⟩ := hR.ci hc
  rcases w with ⟨-, w1, w2, -⟩ | ⟨-, w | w⟩
  · exact ⟨w1, w2⟩
  · exact absurd (hst.symm.trans w).symm (in_ne q1)
  · exact absurd (hst.symm.trans w).symm (in_ne q2)
theorem sim_lp_walk {now : Nat} (hn : now < 24) (s0 : Sg) (m0 : Sg × Sg) (many : Int32) (hm : tn (m0.1 0 0) % 24 = now) : ∀ (n k : Nat) (σ μ : Sg), k + n = nC → Rel mS mC h nS nU nC σ μ ρ → Rel mS mC h nS nU nC (lp_X1_letCitizensWalk_2 s0 (ρ 1 now) n k σ) (lp_X5_pass_124 m0 many n k (μ, ρ)).1 ρ ∧ (lp_X5_pass_124 m0 many n k (μ, ρ)).2 = ρ := by
  intro n
  induction n with
  | zero => intro k σ μ _ hR; exact ⟨hR, rfl⟩
  | succ n ih =>
    intro k σ μ hk hR
    have hkc : k < nC := by omega
    by_cases hst : μ 11 k = (-1 : Int32)
    · have e2 : lp_X5_pass_124 m0 many (n + 1) k (μ, ρ) = lp_X5_pass_124 m0 many n (k + 1) (s_X5_walk μ k (ρ 1 now), ρ) := by
        show (if μ 11 k = (-1 : Int32) then ltt (s_X5_walk μ k (ρ 1 (tn (m0.1 0 0) % 24))) _ else _) = _
        rw [if_pos hst, hm]
        rfl
      have hx := (hR.2.2.2.2 now hn).2
      have h1 := sim_rain hR hkc hx
      have hst1 : mRain μ k (ρ 1 now) 11 k = (-1 : Int32) := by rw [rain_row μ k 11 _ (by decide) (by decide) (by decide) (by decide) (by decide) (by decide)]; exact hst
      have hw := CWay.on hR hkc hst
      have hw1 := CWay.on h1 hkc hst1
      have e1 : lp_X1_letCitizensWalk_2 s0 (ρ 1 now) (n + 1) k σ = lp_X1_letCitizensWalk_2 s0 (ρ 1 now) n (k + 1) (if mRain μ k (ρ 1 now) 13 k - nI 1 = 0 then s_X1_arrive (up (s_X1_meetRain σ k (ρ 1 now)) (53 + k) 8 (s_X1_meetRain σ k (ρ 1 now) (53 + k) 8 - nI 1)) k else up (s_X1_meetRain σ k (ρ 1 now)) (53 + k) 8 (s_X1_meetRain σ k (ρ 1 now) (53 + k) 8 - nI 1)) := by
        show (if σ (53 + k) 8 ≤ 0 then _ else ltt (s_X1_meetRain σ k (ρ 1 now)) _) = _
        rw [if_neg (by rw [hw.2]; exact Int32.not_le.mpr hw.1)]
        simp only [ltt]
        rw [up_s, hw1.2]
        split <;> rfl
      rw [e1, e2, walk_eq]
      have es : mStep (mRain μ k (ρ 1 now)) k 13 k = mRain μ k (ρ 1 now) 13 k - nI 1 := up_s _ _ _ _
      rw [es]
      by_cases hz : mRain μ k (ρ 1 now) 13 k - nI 1 ≤ 0
      · rw [if_pos hz, if_pos (last_0 hw1.1 hz)]
        exact ih (k + 1) _ _ (by omega) (sim_arr h1 hkc hst1 hz)
      · rw [if_neg hz, if_neg (fun q => hz (by rw [q]; decide))]
        exact ih (k + 1) _ _ (by omega) (sim_step h1 hkc hst1 hz)
    · have e2 : lp_X5_pass_124 m0 many (n + 1) k (μ, ρ) = lp_X5_pass_124 m0 many n (k + 1) (μ, ρ) := if_neg hst
      have w8 := ((hR.ci hkc).2.2.1.at hst).1
      have e1 : lp_X1_letCitizensWalk_2 s0 (ρ 1 now) (n + 1) k σ = lp_X1_letCitizensWalk_2 s0 (ρ 1 now) n (k + 1) σ := if_pos (by rw [w8]; decide)
      rw [e1, e2]
      exact ih (k + 1) _ _ (by omega) hR
theorem lp_cart_eq (hR : Rel mS mC h nS nU nC σ μ ρ) : ∀ (n k : Nat) (fu em : Int32), lp_X1_driveCart_6 σ n k fu em = lp_X5_cart_6 μ n k fu em := by
  intro n
  induction n with
  | zero => intro k fu em; rfl
  | succ n ih =>
    intro k fu em
    unfold lp_X1_driveCart_6 lp_X5_cart_6
    simp only [ltt, rd_there hR, ih]
theorem lp_cart_in (μ : Sg) {N : Nat} : ∀ (n k : Nat) (fu em : Int32), k + n ≤ N → N < 2 ^ 31 → vp_in fu N → vp_in em N → vp_in (lp_X5_cart_6 μ n k fu em).1 N ∧ vp_in (lp_X5_cart_6 μ n k fu em).2 N := by
  intro n
  induction n with
  | zero => intro k fu em _ _ h1 h2; exact ⟨h1, h2⟩
  | succ n ih =>
    intro k fu em hk hN h1 h2
    have h3 : vp_in (nI k) N := vp_in_nI (by omega) hN
    unfold lp_X5_cart_6
    simp only [ltt]
    repeat' split
    all_goals first | exact ih (k + 1) _ _ (by omega) hN h1 h2 | exact ih (k + 1) _ _ (by omega) hN h1 h3 | exact ih (k + 1) _ _ (by omega) hN h3 h2 | exact ih (k + 1) _ _ (by omega) hN h3 h3
theorem sim_cart (hR : Rel mS mC h nS nU nC σ μ ρ) : Rel mS mC h nS nU nC (s_X1_driveCart σ) (s_X5_cart μ) ρ := by
  have hR0 := hR
  have ht := hR.tn
  have hC' : ∀ c, c < nC → CRel σ μ nS nU c := fun c hc => hR.ci hc
  have hS' : ∀ i, i < nS → SRel σ μ i := fun i hi => hR.sh hi
  have hm := hR.1.2.2.2.2.2
  obtain ⟨h0, hS, hU, hC, hr⟩ := hR
  have hnU := h0.2.2.1.2.2
  have hnS := h0.2.1.2.2
  have hnC := h0.2.2.2.1.2.2
  unfold s_X1_driveCart s_X5_cart
  simp only [ltt]
  rw [ht.1, ht.2.1, lp_cart_eq hR0]
  have hrange : 0 < nS → vp_in (lp_X5_cart_6 μ (nS - 1) 1 (nI 0) (nI 0)).2 nS := fun hp => (lp_cart_in μ (N := nS) (nS - 1) 1 (nI 0) (nI 0) (by omega) (by omega) (vp_in_nI hp (by omega)) (vp_in_nI hp (by omega))).2
  generalize lp_X5_cart_6 μ (nS - 1) 1 (nI 0) (nI 0) = q at hrange ⊢
  simp only [rd_there hR0, rd_first hR0]
  by_cases hf : s_X5_first μ q.1 = (-1 : Int32)
  · rw [hf, isUm_no, if_pos nI_0]
    by_cases hz : nI nS = 0
    · rw [if_pos hz]; exact hR0
    · rw [if_neg hz, if_neg (fun h2 => in_ne (first_of_there hR0.okN h2) hf)]
      exact hR0
  · obtain ⟨s4, s5, su⟩ := first_stands hR0 hf
    have hfn : s_X5_first μ q.1 = nI (tn (s_X5_first μ q.1)) := tn_eq ((first_or (σ := μ) (x := q.1) hR0.okN).resolve_left hf) (by decide)
    generalize hue : tn (s_X5_first μ q.1) = u at hfn s4 s5 su ⊢
    have hu0 := um_0 (hU u su) s4
    have hpos : 0 < nS := by have := tn_in hu0.2.1; omega
    have hq2 := hrange hpos
    rw [hfn, isUm_in hR0 su, if_neg (show ¬ nI 1 = 0 by decide), if_neg (nI_ne0 hpos (by omega))]
    by_cases h2 : nI 2 ≤ s_X5_there μ q.1 - s_X5_there μ q.2
    · rw [if_pos h2, if_neg (Int32.not_lt.mpr h2)]
      unfold s_X3_standIn
      simp only [ltt]
      obtain ⟨⟨e0, e1, e2, e3, e4, e5⟩, hi⟩ := hU u su
      obtain ⟨⟨r1, r2⟩, ⟨r3, r4, r5⟩, ⟨r6, r7, r8⟩, ⟨r9, r10, r11⟩, r12, rm⟩ := h0
      refine ⟨⟨⟨?_, ?_⟩, ⟨?_, ?_, hnS⟩, ⟨?_, ?_, hnU⟩, ⟨?_, ?_, hnC⟩, ?_, rm⟩, fun i hi => ?_, fun y hy => ?_, fun d hd => ?_, fun j hj => ?_⟩
      · simp (disch := omega) only [up_row_ne, up_neK, r1]
      · simp (disch := omega) only [up_row_ne, up_neK, r2]
      · simp (disch := omega) only [up_row_ne, up_neK, r3]
      · simp (disch := omega) only [up_row_ne, up_neK, r4]
      · simp (disch := omega) only [up_row_ne, up_neK, r6]
      · simp (disch := omega) only [up_row_ne, up_neK, r7]
      · simp (disch := omega) only [up_row_ne, up_neK, r9]
      · simp (disch := omega) only [up_row_ne, up_neK, r10]
      · simp (disch := omega) only [up_s, up_row_ne, up_neK, r12]
      · refine (hS i hi).cg ?_ ?_ ?_ ?_ <;> simp (disch := omega) only [up_row_ne]
      · by_cases e : y = u
        · subst e
          refine ⟨⟨?_, ?_, ?_, ?_, ?_, ?_⟩, Or.inl ⟨?_, ?_, ?_, ?_⟩⟩ <;> simp (disch := omega) only [up_s, up_row_ne, up_neK, e0, e1, e2, e3, e4, e5]
          · rw [s4]; exact nI_0
          · exact hu0.2.2.symm
          · rw [s4]; exact nI_0.symm
          · exact hq2
          · exact hu0.2.2
          · exact hu0.1
        · refine (hU y hy).cg ?_ ?_ ?_ ?_ ?_ ?_ ?_ <;> simp (disch := omega) only [up_row_ne, up_neK]
      · obtain ⟨a, b, w', d9', z⟩ := hC d hd
        refine ⟨fun hdc => (a hdc).cg (fun k hk => ?_) ?_ ?_, b.cg ?_ ?_ ?_ ?_ (fun j _ => ?_), w'.cg ?_ ?_ ?_ ?_ ?_, fun hdc => (d9' hdc).cg ?_ (fun v hv1 hv2 h4' h5' => ?_) hnU, fun hdz => (by simp (disch := omega) only [up_row_ne, up_neK]; exact z hdz)⟩
        all_goals (try simp (disch := omega) only [up_row_ne])
        have hvu : v ≠ u := fun q => by rw [q, s4] at h4'; exact absurd h4' (by decide)
        simp (disch := omega) only [up_row_ne, up_neK]
        exact ⟨h4', h5'⟩
      · simp (disch := omega) only [up_row_ne]
        exact hr j hj
    · rw [if_neg h2, if_pos (Int32.not_le.mp h2)]
      exact hR0
def mDec (μ : Sg) (k : Nat) : Sg := if (μ 3 ((5 * k) + 3)) ≤ (nI 1) then if (μ 3 ((5 * k) + 3)) = 0 then if (μ 3 ((5 * k) + 4)) ≤ 0 then up (up μ 3 ((5 * k) + 3) (nI 0)) 3 ((5 * k) + 4) (nI 0) else up (up (up μ 2 k (m_max (nI 0) ((μ 2 k) - (nI 1)))) 3 ((5 * k) + 3) (nI 0)) 3 ((5 * k) + 4) (nI 0) else up (up μ 3 ((5 * k) + 3) (nI 0)) 3 ((5 * k) + 4) (nI 0) else up (up (up μ 2 k (m_min (nI 10) ((μ 2 k) + (nI 1)))) 3 ((5 * k) + 3) (nI 0)) 3 ((5 * k) + 4) (nI 0)
theorem lp_dec (m0 : Sg) (n k : Nat) (μ : Sg) : lp_X5_decree_2 m0 (n + 1) k μ = lp_X5_decree_2 m0 n (k + 1) (mDec μ k) := by
  show (if μ 3 ((5 * k) + 3) ≤ nI 1 then _ else _) = _
  unfold mDec
  split
  · split
    · split <;> rfl
    · rfl
  · rfl
theorem lt2_le1 (x : Int32) : x < nI 2 ↔ x ≤ nI 1 := by
  have e2 : (nI 2).toInt = 2 := by decide
  have e1 : (nI 1).toInt = 1 := by decide
  rw [Int32.lt_iff_toInt_lt, Int32.le_iff_toInt_le, e1, e2]
  omega
theorem sim_dec {k : Nat} (hR : Rel mS mC h nS nU nC σ μ ρ) (hk : k < nS) : Rel mS mC h nS nU nC (s_X2_endDay σ k) (mDec μ k) ρ := by
  have hC' : ∀ c, c < nC → CRel σ μ nS nU c := fun c hc => hR.ci hc
  have hS' : ∀ i, i < nS → SRel σ μ i := fun i hi => hR.sh hi
  have hm := hR.1.2.2.2.2.2
  obtain ⟨h0, hS, hU, hC, hr⟩ := hR
  have hnU := h0.2.2.1.2.2
  have hnS := h0.2.1.2.2
  have hnC := h0.2.2.2.1.2.2
  obtain ⟨a0, a1, a2, a3, a4, a5, a6, a7⟩ := hS' k hk
  have key : ∃ dm : Int32, s_X2_endDay σ k = up (up (up σ (5 + k) 1 dm) (5 + k) 5 (nI 0)) (5 + k) 6 (nI 0) ∧ mDec μ k = up (up (up μ 2 k dm) 3 (5 * k + 3) (nI 0)) 3 (5 * k + 4) (nI 0) := by
    have idσ : up σ (5 + k) 1 (μ 2 k) = σ := by
      funext a b
      unfold up
      by_cases q : a = 5 + k ∧ b = 1
      · rw [if_pos q, q.1, q.2, a1]
      · rw [if_neg q]
    have idμ : up μ 2 k (μ 2 k) = μ := by
      funext a b
      unfold up
      by_cases q : a = 2 ∧ b = k
      · rw [if_pos q, q.1, q.2]
      · rw [if_neg q]
    unfold s_X2_endDay mDec
    simp only [ltt]
    rw [a5, a6, a1]
    by_cases c1 : μ 3 (5 * k + 3) ≤ nI 1
    · rw [if_pos c1, if_pos ((lt2_le1 _).mpr c1)]
      by_cases c2 : μ 3 (5 * k + 3) = 0
      · rw [if_pos c2, if_pos c2]
        by_cases c3 : μ 3 (5 * k + 4) ≤ 0
        · rw [if_pos c3, if_pos c3]
          exact ⟨μ 2 k, by rw [idσ], by rw [idμ]⟩
        · rw [if_neg c3, if_neg c3]
          exact ⟨_, rfl, rfl⟩
      · rw [if_neg c2, if_neg c2]
        exact ⟨μ 2 k, by rw [idσ], by rw [idμ]⟩
    · rw [if_neg c1, if_neg (fun q => c1 ((lt2_le1 _).mp q))]
      exact ⟨_, rfl, rfl⟩
  obtain ⟨dm, k1, k2⟩ := key
  rw [k1, k2]
  refine ⟨?_, fun i hi => ?_, fun y hy => ?_, fun d hd => ?_, fun j hj => ?_⟩
  · unfold R0 at h0 ⊢
    simp (disch := omega) only [up_row_ne]
    exact h0
  · obtain ⟨a0, a1, a2, a3, a4, a5, a6, a7⟩ := hS i hi
    by_cases e : i = k
    · subst e
      refine ⟨?_, ?_, ?_, ?_, ?_, ?_, ?_, ?_⟩ <;> simp (disch := omega) only [up_s, up_row_ne, up_neK, a0, a1, a2, a3, a4, a5, a6]
      exact a7
    · refine ⟨?_, ?_, ?_, ?_, ?_, ?_, ?_, ?_⟩ <;> simp (disch := omega) only [up_s, up_row_ne, up_neK, a0, a1, a2, a3, a4, a5, a6]
      exact a7
  · refine (hU y hy).cg ?_ ?_ ?_ ?_ ?_ ?_ ?_ <;> simp (disch := omega) only [up_row_ne]
  · obtain ⟨a, b, w', d9', z⟩ := hC d hd
    refine ⟨fun hdc => (a hdc).cg (fun k hk => ?_) ?_ ?_, b.cg ?_ ?_ ?_ ?_ (fun j _ => ?_), w'.cg ?_ ?_ ?_ ?_ ?_, fun hdc => (d9' hdc).cg ?_ (fun v hv1 hv2 h4' h5' => ?_) hnU, fun hdz => (by simp (disch := omega) only [up_row_ne, up_neK]; exact z hdz)⟩
    all_goals (try simp (disch := omega) only [up_row_ne])
    exact ⟨h4', h5'⟩
  · simp (disch := omega) only [up_row_ne]
    exact hr j hj
theorem sim_lp_dec (s0 m0 : Sg) : ∀ (n k : Nat) (σ μ : Sg), k + n = nS → Rel mS mC h nS nU nC σ μ ρ → Rel mS mC h nS nU nC (lp_X1_endDay_2 s0 n k σ) (lp_X5_decree_2 m0 n k μ) ρ := by
  intro n
  induction n with
  | zero => intro k σ μ _ hR; exact hR
  | succ n ih =>
    intro k σ μ hk hR
    have e1 : lp_X1_endDay_2 s0 (n + 1) k σ = lp_X1_endDay_2 s0 n (k + 1) (s_X2_endDay σ k) := rfl
    rw [e1, lp_dec]
    exact ih (k + 1) _ _ (by omega) (sim_dec hR (by omega))
theorem sim_hour (hR : Rel mS mC h nS nU nC σ μ ρ) : Rel mS mC (h + 1) nS nU nC (up σ 0 4 (σ 0 4 + nI 1)) (up μ 0 0 (μ 0 0 + nI 1)) ρ := by
  have hC' : ∀ c, c < nC → CRel σ μ nS nU c := fun c hc => hR.ci hc
  have hS' : ∀ i, i < nS → SRel σ μ i := fun i hi => hR.sh hi
  have hm := hR.1.2.2.2.2.2
  obtain ⟨h0, hS, hU, hC, hr⟩ := hR
  have hnU := h0.2.2.1.2.2
  have hnS := h0.2.1.2.2
  have hnC := h0.2.2.2.1.2.2
  obtain ⟨⟨r1, r2⟩, ⟨r3, r4, r5⟩, ⟨r6, r7, r8⟩, ⟨r9, r10, r11⟩, r12, rm⟩ := h0
  refine ⟨⟨⟨?_, ?_⟩, ⟨?_, ?_, hnS⟩, ⟨?_, ?_, hnU⟩, ⟨?_, ?_, hnC⟩, ?_, rm⟩, fun i hi => ?_, fun y hy => ?_, fun d hd => ?_, fun j hj => ?_⟩
  · rw [up_s, r1, nI_add]
  · rw [up_s, r2, nI_add]
  · simp (disch := omega) only [up_row_ne, up_neK, r3]
  · simp (disch := omega) only [up_row_ne, up_neK, r4]
  · simp (disch := omega) only [up_row_ne, up_neK, r6]
  · simp (disch := omega) only [up_row_ne, up_neK, r7]
  · simp (disch := omega) only [up_row_ne, up_neK, r9]
  · simp (disch := omega) only [up_row_ne, up_neK, r10]
  · simp (disch := omega) only [up_row_ne, up_neK, r12]
  · refine (hS i hi).cg ?_ ?_ ?_ ?_ <;> simp (disch := omega) only [up_row_ne]
  · refine (hU y hy).cg ?_ ?_ ?_ ?_ ?_ ?_ ?_ <;> simp (disch := omega) only [up_row_ne]
  · obtain ⟨a, b, w', d9', z⟩ := hC d hd
    refine ⟨fun hdc => (a hdc).cg (fun k hk => ?_) ?_ ?_, b.cg ?_ ?_ ?_ ?_ (fun j _ => ?_), w'.cg ?_ ?_ ?_ ?_ ?_, fun hdc => (d9' hdc).cg ?_ (fun v hv1 hv2 h4' h5' => ?_) hnU, fun hdz => (by simp (disch := omega) only [up_row_ne, up_neK]; exact z hdz)⟩
    all_goals (try simp (disch := omega) only [up_row_ne])
    exact ⟨h4', h5'⟩
  · simp (disch := omega) only [up_row_ne]
    exact hr j hj
theorem fm_nI (n : Nat) (hn : n < 2 ^ 31) : s_J9_floorMod_7cf53 (nI n) (nI 24) = nI (n % 24) := by
  unfold s_J9_floorMod_7cf53
  rw [if_pos ((xor_nn (by decide)).mpr (by rw [nI_toInt hn]; omega)), nI_rem n 24 hn (by decide) (by decide)]
/-- the class's hour -/
def cHour (τ : Sg) : Int32 × Sg :=
  let r3 := s_J9_floorMod_7cf53 (τ 0 4) (nI 24)
  let r6 := s_X1_letCitizensLeave (s_X1_letUmbrellasWait τ) (tn r3)
  let u8 := s_X1_letCitizensWalk r6.2 (r6.2 1 (tn r3))
  let u14 := if ((nI (tn r3)) - (nI (tn r3)) / (nI 6) * (nI 6)) = 0 then s_X1_driveCart u8 else u8
  let u17 := if (nI (tn r3)) = (nI 23) then s_X1_endDay u14 else u14
  (r6.1, up u17 0 4 ((u17 0 4) + (nI 1)))
theorem lp_go (n k : Nat) (a : Int32) (τ : Sg) : lp_X1_letGoBy_4 (n + 1) k a τ = lp_X1_letGoBy_4 n (k + 1) (a + (cHour τ).1) (cHour τ).2 := by
  show ltt _ _ = _
  simp only [ltt, cHour]
  split
  · split <;> rfl
  · split <;> rfl
theorem sim_letLeave (hR : Rel mS mC h nS nU nC σ μ ρ) {now : Nat} (hn : now < 24) (m0 : Sg × Sg) (hm : tn (m0.1 0 0) % 24 = now) : (s_X1_letCitizensLeave σ now).1 = (lp_X5_pass_42 m0 nC 0 (nI 0) (μ, ρ)).1 ∧ Rel mS mC h nS nU nC (s_X1_letCitizensLeave σ now).2 (lp_X5_pass_42 m0 nC 0 (nI 0) (μ, ρ)).2.1 ρ ∧ (lp_X5_pass_42 m0 nC 0 (nI 0) (μ, ρ)).2.2 = ρ := by
  have ht := hR.tn
  have r1 := (hR.2.2.2.2 now hn).1
  have r2 := (hR.2.2.2.2 ((now + 1) % 24) (Nat.mod_lt _ (by decide))).1
  unfold s_X1_letCitizensLeave
  simp only [ltt]
  rw [r1, fm_nI (now + 1) (by omega), tn_nI (by omega), r2, ht.2.2.2.2.1]
  by_cases h1 : 0 < ρ 1 now
  · rw [if_pos h1]
    exact sim_lp_leave (Or.inl ⟨Or.inl h1, rfl⟩) σ m0 hm nC 0 (nI 0) σ μ (by omega) hR
  · rw [if_neg h1]
    by_cases h2 : ρ 1 ((now + 1) % 24) ≤ 0
    · rw [if_pos h2]
      exact sim_lp_leave (Or.inr ⟨h1, h2, rfl⟩) σ m0 hm nC 0 (nI 0) σ μ (by omega) hR
    · rw [if_neg h2]
      exact sim_lp_leave (Or.inl ⟨Or.inr ⟨h1, h2⟩, rfl⟩) σ m0 hm nC 0 (nI 0) σ μ (by omega) hR
def mEnd (now : Nat) (μ : Sg) : Sg :=
  let u14 := if (nI (now % 6)) = 0 then s_X5_cart μ else μ
  let u17 := if (nI now) = (nI 23) then s_X5_decree u14 else u14
  up u17 0 0 ((u17 0 0) + (nI 1))
theorem pass_eq (μ ρ : Sg) : s_X5_pass (μ, ρ) = ((lp_X5_pass_42 (μ, ρ) (tn (μ 0 12)) 0 (nI 0) (lp_X5_pass_10 (μ, ρ) (tn (μ 0 5)) 0 (μ, ρ))).1, (mEnd (tn (μ 0 0) % 24) (lp_X5_pass_124 (μ, ρ) (lp_X5_pass_42 (μ, ρ) (tn (μ 0 12)) 0 (nI 0) (lp_X5_pass_10 (μ, ρ) (tn (μ 0 5)) 0 (μ, ρ))).1 (tn (μ 0 12)) 0 (lp_X5_pass_42 (μ, ρ) (tn (μ 0 12)) 0 (nI 0) (lp_X5_pass_10 (μ, ρ) (tn (μ 0 5)) 0 (μ, ρ))).2).1, (lp_X5_pass_124 (μ, ρ) (lp_X5_pass_42 (μ, ρ) (tn (μ 0 12)) 0 (nI 0) (lp_X5_pass_10 (μ, ρ) (tn (μ 0 5)) 0 (μ, ρ))).1 (tn (μ 0 12)) 0 (lp_X5_pass_42 (μ, ρ) (tn (μ 0 12)) 0 (nI 0) (lp_X5_pass_10 (μ, ρ) (tn (μ 0 5)) 0 (μ, ρ))).2).2)) := by
  unfold s_X5_pass mEnd
  simp only [ltt]
  split
  · split <;> rfl
  · split <;> rfl
theorem sim_pass (hR : Rel mS mC h nS nU nC σ μ ρ) (hh : h < 2 ^ 31) : (cHour σ).1 = (s_X5_pass (μ, ρ)).1 ∧ Rel mS mC (h + 1) nS nU nC (cHour σ).2 (s_X5_pass (μ, ρ)).2.1 ρ := by
  have ht := hR.tn
  have h04 := hR.1.1
  have hnow : h % 24 < 24 := Nat.mod_lt _ (by decide)
  have tm : tn (μ 0 0) = h := by rw [h04.2, tn_nI hh]
  rw [pass_eq]
  unfold cHour
  simp only
  rw [h04.1, fm_nI h hh, tn_nI (show h % 24 < 2 ^ 31 by omega), ht.2.2.2.1, ht.2.2.2.2.2, tm]
  have m0 : tn (((μ, ρ) : Sg × Sg).1 0 0) % 24 = h % 24 := by show tn (μ 0 0) % 24 = _; rw [tm]
  obtain ⟨w1, w2⟩ := sim_lp_wait σ (μ, ρ) nU 0 σ μ (by omega) hR
  have ew : s_X1_letUmbrellasWait σ = lp_X1_letUmbrellasWait_2 σ nU 0 σ := by
    show lp_X1_letUmbrellasWait_2 σ (tn (σ 0 6)) 0 σ = _
    rw [ht.2.2.1]
  have epair : lp_X5_pass_10 (μ, ρ) nU 0 (μ, ρ) = ((lp_X5_pass_10 (μ, ρ) nU 0 (μ, ρ)).1, ρ) := Prod.ext rfl w2
  rw [ew, epair]
  generalize (lp_X5_pass_10 (μ, ρ) nU 0 (μ, ρ)).1 = μ1 at w1 ⊢
  generalize lp_X1_letUmbrellasWait_2 σ nU 0 σ = σ1 at w1 ⊢
  obtain ⟨l1, l2, l3⟩ := sim_letLeave w1 hnow (μ, ρ) m0
  rw [l1]
  have ep2 : (lp_X5_pass_42 (μ, ρ) nC 0 (nI 0) (μ1, ρ)).2 = ((lp_X5_pass_42 (μ, ρ) nC 0 (nI 0) (μ1, ρ)).2.1, ρ) := Prod.ext rfl l3
  rw [ep2]
  generalize (lp_X5_pass_42 (μ, ρ) nC 0 (nI 0) (μ1, ρ)).1 = many
  generalize (lp_X5_pass_42 (μ, ρ) nC 0 (nI 0) (μ1, ρ)).2.1 = μ2 at l2 ⊢
  generalize (s_X1_letCitizensLeave σ1 (h % 24)).2 = σ2 at l2 ⊢
  have r1 := (l2.2.2.2.2 (h % 24) hnow).1
  have t2 := l2.tn
  have ek : s_X1_letCitizensWalk σ2 (σ2 1 (h % 24)) = lp_X1_letCitizensWalk_2 σ2 (ρ 1 (h % 24)) nC 0 σ2 → True := fun _ => trivial
  have ewk : s_X1_letCitizensWalk σ2 (ρ 1 (h % 24)) = lp_X1_letCitizensWalk_2 σ2 (ρ 1 (h % 24)) nC 0 σ2 := by
    show lp_X1_letCitizensWalk_2 σ2 (ρ 1 (h % 24)) (tn (σ2 0 7)) 0 σ2 = _
    rw [t2.2.2.2.2.1]
  obtain ⟨k1, k2⟩ := sim_lp_walk hnow σ2 (μ, ρ) many m0 nC 0 σ2 μ2 (by omega) l2
  rw [r1, ewk]
  generalize lp_X1_letCitizensWalk_2 σ2 (ρ 1 (h % 24)) nC 0 σ2 = σ3 at k1 ⊢
  generalize (lp_X5_pass_124 (μ, ρ) many nC 0 (μ2, ρ)).1 = μ3 at k1 ⊢
  refine ⟨rfl, ?_⟩
  unfold mEnd
  simp only
  rw [nI_rem (h % 24) 6 (by omega) (by decide) (by decide)]
  have c1 : Rel mS mC h nS nU nC (if nI (h % 24 % 6) = 0 then s_X1_driveCart σ3 else σ3) (if nI (h % 24 % 6) = 0 then s_X5_cart μ3 else μ3) ρ := by
    split
    · exact sim_cart k1
    · exact k1
  generalize (if nI (h % 24 % 6) = 0 then s_X1_driveCart σ3 else σ3) = σ4 at c1 ⊢
  generalize (if nI (h % 24 % 6) = 0 then s_X5_cart μ3 else μ3) = μ4 at c1 ⊢
  have c2 : Rel mS mC h nS nU nC (if nI (h % 24) = nI 23 then s_X1_endDay σ4 else σ4) (if nI (h % 24) = nI 23 then s_X5_decree μ4 else μ4) ρ := by
    split
    · have t4 := c1.tn
      show Rel mS mC h nS nU nC (lp_X1_endDay_2 σ4 (tn (σ4 0 5)) 0 σ4) (lp_X5_decree_2 μ4 (tn (μ4 0 1)) 0 μ4) ρ
      rw [t4.1, t4.2.1]
      exact sim_lp_dec σ4 μ4 nS 0 σ4 μ4 (by omega) c1
    · exact c1
  exact sim_hour c2
theorem sim_go (m0 : Sg × Sg) (nh : Nat) : ∀ (n k h : Nat) (a : Int32) (σ μ : Sg), h + n < 2 ^ 31 → Rel mS mC h nS nU nC σ μ ρ → (lp_X1_letGoBy_4 n k a σ).1 = (lp_X6_pass_4 m0 nh n k a (μ, ρ)).1 ∧ Rel mS mC (h + n) nS nU nC (lp_X1_letGoBy_4 n k a σ).2 (lp_X6_pass_4 m0 nh n k a (μ, ρ)).2.1 ρ := by
  intro n
  induction n with
  | zero => intro k h a σ μ _ hR; exact ⟨rfl, hR⟩
  | succ n ih =>
    intro k h a σ μ hh hR
    obtain ⟨p1, p2⟩ := sim_pass hR (by omega)
    have e2 : lp_X6_pass_4 m0 nh (n + 1) k a (μ, ρ) = lp_X6_pass_4 m0 nh n (k + 1) (a + (s_X5_pass (μ, ρ)).1) (s_X5_pass (μ, ρ)).2 := rfl
    have ep : (s_X5_pass (μ, ρ)).2 = ((s_X5_pass (μ, ρ)).2.1, ρ) := Prod.ext rfl (o_X5_pass (μ, ρ))
    rw [lp_go, e2, p1, ep, show h + (n + 1) = h + 1 + n by omega]
    exact ih (k + 1) (h + 1) _ _ _ (by omega) p2
theorem sim_letGo {nh : Nat} (hR : Rel mS mC h nS nU nC σ μ ρ) (hh : h + nh < 2 ^ 31) : (s_X1_letGoBy σ nh).1 = (s_X6_pass (μ, ρ) nh).1 ∧ Rel mS mC (h + nh) nS nU nC (s_X1_letGoBy σ nh).2 (s_X6_pass (μ, ρ) nh).2.1 ρ := sim_go (μ, ρ) nh nh 0 h (nI 0) σ μ hh hR
end SH
