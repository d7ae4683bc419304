/-! what both read is the same -/
theorem i32_1 : nI 1 = (1 : Int32) := rfl
theorem add_n0 (x : Int32) : x + nI 0 = x := by rw [nI_0]; exact Int32.add_zero x
theorem um_0 {σ μ : Sg} {nS u : Nat} (h : URel σ μ nS u) (h0 : μ 4 u = 0) : μ 6 u < nI 30 ∧ vp_in (μ 5 u) nS ∧ μ 7 u = nI 0 := by
  rcases h.2 with ⟨-, h5, h7, h6⟩ | ⟨h4, -⟩ | ⟨h4, -⟩ | ⟨h4, -⟩
  · exact ⟨h6, h5, h7⟩
  all_goals (rw [h4] at h0; exact absurd h0 (by decide))
theorem k_ne (k : Nat) (h : k < 2 ^ 31) : ¬ nI k = (-1 : Int32) := by
  intro e
  have e2 := congrArg Int32.toInt e
  rw [nI_toInt h] at e2
  have e3 : (-1 : Int32).toInt = -1 := by decide
  omega
theorem stands_eq {σ μ : Sg} {nS u : Nat} (h : URel σ μ nS u) (x : Int32) : s_X3_standsIn σ u x = if μ 4 u = 0 then if μ 5 u = x then nI 1 else nI 0 else nI 0 := by
  unfold s_X3_standsIn
  rw [h.1.1, h.1.2.1]
theorem lp_first_eq {σ μ : Sg} {nS nU : Nat} (hn : nU ≤ 40) (hU : ∀ u, u < nU → URel σ μ nS u) (x : Int32) : ∀ (n k : Nat) (b lw : Int32), k + n ≤ nU → ((b = (-1 : Int32) ∧ lw = nI 30) ∨ (¬ b = (-1 : Int32) ∧ lw = μ 6 (tn b))) → (lp_X1_firstUmbrellaIn_8 σ x n k b lw).1 = lp_X5_first_4 μ x n k b := by
  intro n
  induction n with
  | zero => intro k b lw _ _; rfl
  | succ n ih =>
    intro k b lw hk hb
    have hu := hU k (by omega)
    have hkn : ¬ nI k = (-1 : Int32) := k_ne k (by omega)
    have htk : tn (nI k) = k := tn_nI (by omega)
    have e2 : σ (13 + k) 2 = μ 6 k := hu.1.2.2.1
    unfold lp_X1_firstUmbrellaIn_8 lp_X5_first_4
    simp only [ltt]
    rw [stands_eq hu, e2]
    by_cases h4 : μ 4 k = 0
    · rw [if_pos h4]
      by_cases h5 : μ 5 k = x
      · rw [if_pos h5, if_neg (by decide), if_pos h4, if_pos h5]
        rcases hb with ⟨rfl, rfl⟩ | ⟨hb1, rfl⟩
        · rw [if_pos rfl, if_neg (Int32.not_le.mpr (um_0 hu h4).1)]
          exact ih (k + 1) _ _ (by omega) (Or.inr ⟨hkn, by rw [htk]⟩)
        · rw [if_neg hb1]
          by_cases h6 : μ 6 (tn b) ≤ μ 6 k
          · rw [if_pos h6, if_pos h6]
            exact ih (k + 1) _ _ (by omega) (Or.inr ⟨hb1, rfl⟩)
          · rw [if_neg h6, if_neg h6]
            exact ih (k + 1) _ _ (by omega) (Or.inr ⟨hkn, by rw [htk]⟩)
      · rw [if_neg h5, if_pos nI_0, if_pos h4, if_neg h5]
        exact ih (k + 1) _ _ (by omega) hb
    · rw [if_neg h4, if_pos nI_0, if_neg h4]
      exact ih (k + 1) _ _ (by omega) hb
theorem lp_there_eq {σ μ : Sg} {nS nU : Nat} (hU : ∀ u, u < nU → URel σ μ nS u) (x : Int32) : ∀ (n k : Nat) (a : Int32), k + n ≤ nU → lp_X1_umbrellasIn_4 σ x n k a = lp_X5_there_4 μ x n k a := by
  intro n
  induction n with
  | zero => intro k a _; rfl
  | succ n ih =>
    intro k a hk
    have hu := hU k (by omega)
    unfold lp_X1_umbrellasIn_4 lp_X5_there_4
    simp only [ltt]
    rw [stands_eq hu]
    by_cases h4 : μ 4 k = 0
    · rw [if_pos h4]
      by_cases h5 : μ 5 k = x
      · rw [if_pos h5, if_neg (by decide), if_pos h4, if_pos h5]; exact ih _ _ (by omega)
      · rw [if_neg h5, if_pos nI_0, if_pos h4, if_neg h5, add_n0]; exact ih _ _ (by omega)
    · rw [if_neg h4, if_pos nI_0, if_neg h4, add_n0]; exact ih _ _ (by omega)
theorem lp_of_eq {σ μ : Sg} {nS nU : Nat} (hU : ∀ u, u < nU → URel σ μ nS u) (x : Int32) : ∀ (n k : Nat) (a : Int32), k + n ≤ nU → lp_X1_umbrellasThatAre_4 σ x n k a = lp_X5_of_4 μ x n k a := by
  intro n
  induction n with
  | zero => intro k a _; rfl
  | succ n ih =>
    intro k a hk
    have hu := hU k (by omega)
    unfold lp_X1_umbrellasThatAre_4 lp_X5_of_4
    rw [hu.1.1]
    by_cases h4 : μ 4 k = x
    · rw [if_pos h4, if_pos h4]; exact ih _ _ (by omega)
    · rw [if_neg h4, if_neg h4, add_n0]; exact ih _ _ (by omega)
theorem lp_wet_eq {σ μ : Sg} {nC : Nat} (hC : ∀ c, c < nC → σ (53 + c) 11 = μ 16 (4 * c)) : ∀ (n k : Nat) (a : Int32), k + n ≤ nC → lp_X1_wetOfAll_4 σ n k a = lp_X5_over_4 μ (nI 0) n k a := by
  intro n
  induction n with
  | zero => intro k a _; rfl
  | succ n ih =>
    intro k a hk
    unfold lp_X1_wetOfAll_4 lp_X5_over_4
    rw [if_pos nI_0, hC k (by omega)]
    exact ih _ _ (by omega)
theorem lp_trust_eq {σ μ : Sg} {nC : Nat} (hC : ∀ c, c < nC → σ (53 + c) 10 = μ 15 c) : ∀ (n k : Nat) (a : Int32), k + n ≤ nC → lp_X1_trustOfAll_4 σ n k a = lp_X5_over_4 μ (nI 1) n k a := by
  intro n
  induction n with
  | zero => intro k a _; rfl
  | succ n ih =>
    intro k a hk
    unfold lp_X1_trustOfAll_4 lp_X5_over_4
    rw [if_neg (by decide), if_pos rfl, hC k (by omega)]
    exact ih _ _ (by omega)
theorem lp_way_eq {σ μ : Sg} {nC : Nat} (hC : ∀ c, c < nC → σ (53 + c) 6 = μ 11 c) : ∀ (n k : Nat) (a : Int32), k + n ≤ nC → lp_X1_citizensIn_4 σ (-1) n k a = lp_X5_over_4 μ (nI 2) n k a := by
  intro n
  induction n with
  | zero => intro k a _; rfl
  | succ n ih =>
    intro k a hk
    unfold lp_X1_citizensIn_4 lp_X5_over_4
    rw [hC k (by omega), if_neg (show ¬ nI 2 = 0 by decide), if_neg (show ¬ nI 2 = nI 1 by decide)]
    by_cases h : μ 11 k = (-1 : Int32)
    · rw [if_pos h, if_pos h]; exact ih _ _ (by omega)
    · rw [if_neg h, if_neg h, add_n0]; exact ih _ _ (by omega)
section RD
variable {mS mC h nS nU nC : Nat} {σ μ ρ : Sg}
theorem Rel.tn (hR : Rel mS mC h nS nU nC σ μ ρ) : tn (σ 0 5) = nS ∧ tn (μ 0 1) = nS ∧ tn (σ 0 6) = nU ∧ tn (μ 0 5) = nU ∧ tn (σ 0 7) = nC ∧ tn (μ 0 12) = nC := by
  obtain ⟨⟨-, ⟨a1, a2, a3⟩, ⟨b1, b2, b3⟩, ⟨c1, c2, c3⟩, -⟩, -⟩ := hR
  exact ⟨by rw [a1, tn_nI (by omega)], by rw [a2, tn_nI (by omega)], by rw [b1, tn_nI (by omega)], by rw [b2, tn_nI (by omega)], by rw [c1, tn_nI (by omega)], by rw [c2, tn_nI (by omega)]⟩
theorem Rel.okR (hR : Rel mS mC h nS nU nC σ μ ρ) : OkR σ := by
  have ht := hR.tn
  obtain ⟨⟨-, ⟨a1, a2, a3⟩, ⟨b1, b2, b3⟩, ⟨c1, c2, c3⟩, -⟩, -⟩ := hR
  exact ⟨⟨by rw [ht.1]; exact a1, by rw [ht.1]; exact a3⟩, ⟨by rw [ht.2.2.1]; exact b1, by rw [ht.2.2.1]; exact b3⟩, by rw [ht.2.2.2.2.1]; exact c1, by rw [ht.2.2.2.2.1]; exact c3⟩
theorem Rel.okN (hR : Rel mS mC h nS nU nC σ μ ρ) : OkN μ := by
  have ht := hR.tn
  obtain ⟨⟨-, ⟨a1, a2, a3⟩, ⟨b1, b2, b3⟩, ⟨c1, c2, c3⟩, -⟩, -⟩ := hR
  exact ⟨⟨by rw [ht.2.1]; exact a2, by rw [ht.2.1]; exact a3⟩, ⟨by rw [ht.2.2.2.1]; exact b2, by rw [ht.2.2.2.1]; exact b3⟩, by rw [ht.2.2.2.2.2]; exact c2, by rw [ht.2.2.2.2.2]; exact c3⟩
theorem rd_first (hR : Rel mS mC h nS nU nC σ μ ρ) (x : Int32) : s_X1_firstUmbrellaIn σ x = s_X5_first μ x := by
  have ht := hR.tn
  unfold s_X1_firstUmbrellaIn s_X5_first
  simp only [ltt]
  rw [ht.2.2.1, ht.2.2.2.1]
  exact lp_first_eq hR.1.2.2.1.2.2 hR.2.2.1 x nU 0 _ _ (by omega) (Or.inl ⟨rfl, rfl⟩)
theorem rd_there (hR : Rel mS mC h nS nU nC σ μ ρ) (x : Int32) : s_X1_umbrellasIn σ x = s_X5_there μ x := by
  have ht := hR.tn
  unfold s_X1_umbrellasIn s_X5_there
  simp only [ltt]
  rw [ht.2.2.1, ht.2.2.2.1]
  exact lp_there_eq hR.2.2.1 x nU 0 _ (by omega)
theorem rd_of (hR : Rel mS mC h nS nU nC σ μ ρ) (x : Int32) : s_X1_umbrellasThatAre σ x = s_X5_of μ x := by
  have ht := hR.tn
  unfold s_X1_umbrellasThatAre s_X5_of
  simp only [ltt]
  rw [ht.2.2.1, ht.2.2.2.1]
  exact lp_of_eq hR.2.2.1 x nU 0 _ (by omega)
theorem rd_wet (hR : Rel mS mC h nS nU nC σ μ ρ) : s_X1_wetOfAll σ = s_X5_over μ (nI 0) := by
  have ht := hR.tn
  unfold s_X1_wetOfAll s_X5_over
  simp only [ltt]
  rw [ht.2.2.2.2.1, ht.2.2.2.2.2]
  exact lp_wet_eq (fun c hc => (hR.ci hc).2.1.1.2.2.2.1) nC 0 _ (by omega)
theorem rd_trust (hR : Rel mS mC h nS nU nC σ μ ρ) : s_X1_trustOfAll σ = s_X5_over μ (nI 1) := by
  have ht := hR.tn
  unfold s_X1_trustOfAll s_X5_over
  simp only [ltt]
  rw [ht.2.2.2.2.1, ht.2.2.2.2.2]
  exact lp_trust_eq (fun c hc => (hR.ci hc).2.1.1.2.2.1) nC 0 _ (by omega)
theorem rd_way (hR : Rel mS mC h nS nU nC σ μ ρ) : s_X1_citizensIn σ (-1) = s_X5_over μ (nI 2) := by
  have ht := hR.tn
  unfold s_X1_citizensIn s_X5_over
  simp only [ltt]
  rw [ht.2.2.2.2.1, ht.2.2.2.2.2]
  exact lp_way_eq (fun c hc => (hR.ci hc).2.1.1.1) nC 0 _ (by omega)
/-- the first umbrella is one that stands there -/
theorem lp_first_stands (μ : Sg) (x : Int32) : ∀ (n k : Nat) (b : Int32), k + n ≤ 40 → (b = (-1 : Int32) ∨ (μ 4 (tn b) = 0 ∧ μ 5 (tn b) = x ∧ tn b < k)) → lp_X5_first_4 μ x n k b = (-1 : Int32) ∨ (μ 4 (tn (lp_X5_first_4 μ x n k b)) = 0 ∧ μ 5 (tn (lp_X5_first_4 μ x n k b)) = x ∧ tn (lp_X5_first_4 μ x n k b) < k + n) := by
  intro n
  induction n with
  | zero => intro k b hk hb; exact hb
  | succ n ih =>
    intro k b hk hb
    have hb' : b = (-1 : Int32) ∨ (μ 4 (tn b) = 0 ∧ μ 5 (tn b) = x ∧ tn b < k + 1) := hb.imp id (fun q => ⟨q.1, q.2.1, by omega⟩)
    have htk : tn (nI k) = k := tn_nI (by omega)
    unfold lp_X5_first_4
    rw [show k + (n + 1) = k + 1 + n by omega]
    by_cases h4 : μ 4 k = 0
    · rw [if_pos h4]
      by_cases h5 : μ 5 k = x
      · rw [if_pos h5]
        have hn : nI k = (-1 : Int32) ∨ (μ 4 (tn (nI k)) = 0 ∧ μ 5 (tn (nI k)) = x ∧ tn (nI k) < k + 1) := Or.inr (by rw [htk]; exact ⟨h4, h5, by omega⟩)
        split
        · exact ih (k + 1) _ (by omega) hn
        · split
          · exact ih (k + 1) _ (by omega) hb'
          · exact ih (k + 1) _ (by omega) hn
      · rw [if_neg h5]; exact ih (k + 1) _ (by omega) hb'
    · rw [if_neg h4]; exact ih (k + 1) _ (by omega) hb'
theorem first_stands (hR : Rel mS mC h nS nU nC σ μ ρ) {x : Int32} (hf : ¬ s_X5_first μ x = (-1 : Int32)) : μ 4 (tn (s_X5_first μ x)) = 0 ∧ μ 5 (tn (s_X5_first μ x)) = x ∧ tn (s_X5_first μ x) < nU := by
  have ht := hR.tn
  have hn := hR.1.2.2.1.2.2
  have h1 := lp_first_stands μ x nU 0 (-1) (by omega) (Or.inl rfl)
  have e : s_X5_first μ x = lp_X5_first_4 μ x nU 0 (-1) := by unfold s_X5_first; simp only [ltt]; rw [ht.2.2.2.1]
  rw [← e] at h1
  have h2 := h1.resolve_left hf
  exact ⟨h2.1, h2.2.1, by omega⟩
end RD
