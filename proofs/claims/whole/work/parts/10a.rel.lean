/-! THE SAME REPUBLIC TWICE: the class's (σ) and the model's (μ, with the rain ρ), after h hours -/
theorem upr_s (σ : Sg) (p : Nat) (g : Nat → Int32) (k : Nat) : upr σ p g p k = g k := by rw [upr_row]
def UInv (kd pl we wa fr : Int32) (nS : Nat) : Prop :=
  (kd = nI 0 ∧ vp_in pl nS ∧ wa = nI 0 ∧ we < nI 30) ∨ (kd = nI 1 ∧ wa = nI 0 ∧ we < nI 30 ∧ vp_in fr nS) ∨ (kd = nI 2 ∧ pl = (-1 : Int32) ∧ vp_in wa 25 ∧ ¬ wa = nI 0 ∧ we < nI 30 ∧ vp_in fr nS) ∨ (kd = nI 3 ∧ pl = (-1 : Int32) ∧ vp_in wa 25 ∧ ¬ wa = nI 0 ∧ vp_in fr nS)
def URel (σ μ : Sg) (nS u : Nat) : Prop :=
  (σ (13 + u) 0 = μ 4 u ∧ σ (13 + u) 1 = μ 5 u ∧ σ (13 + u) 2 = μ 6 u ∧ σ (13 + u) 3 = μ 7 u ∧ σ (13 + u) 4 = μ 8 u ∧ σ (13 + u) 5 = μ 9 u) ∧ UInv (μ 4 u) (μ 5 u) (μ 6 u) (μ 7 u) (μ 9 u) nS
def SRel (σ μ : Sg) (i : Nat) : Prop :=
  σ (5 + i) 0 = μ 1 i ∧ σ (5 + i) 1 = μ 2 i ∧ σ (5 + i) 2 = μ 3 (5 * i) ∧ σ (5 + i) 3 = μ 3 (5 * i + 1) ∧ σ (5 + i) 4 = μ 3 (5 * i + 2) ∧ σ (5 + i) 5 = μ 3 (5 * i + 3) ∧ σ (5 + i) 6 = μ 3 (5 * i + 4) ∧ vp_in (μ 1 i) 100
def CFix (σ μ : Sg) (nS c : Nat) : Prop :=
  (σ (53 + c) 0 = μ 10 (5 * c) ∧ σ (53 + c) 1 = μ 10 (5 * c + 1) ∧ σ (53 + c) 2 = μ 10 (5 * c + 2) ∧ σ (53 + c) 3 = μ 10 (5 * c + 3) ∧ σ (53 + c) 4 = μ 10 (5 * c + 4)) ∧ (vp_in (μ 10 (5 * c)) nS ∧ vp_in (μ 10 (5 * c + 1)) nS ∧ ¬ μ 10 (5 * c) = μ 10 (5 * c + 1) ∧ vp_in (μ 10 (5 * c + 4)) 10 ∧ ¬ μ 10 (5 * c + 4) = 0) ∧ σ (53 + c) 5 = m_max (nI 1) (m_abs (μ 1 (tn (μ 10 (5 * c))) - μ 1 (tn (μ 10 (5 * c + 1)))) / nI 10)
def CVar (σ μ : Sg) (c : Nat) : Prop :=
  (σ (53 + c) 6 = μ 11 c ∧ σ (53 + c) 9 = μ 14 c ∧ σ (53 + c) 10 = μ 15 c ∧ σ (53 + c) 11 = μ 16 (4 * c) ∧ σ (53 + c) 12 = μ 16 (4 * c + 1) ∧ σ (53 + c) 13 = μ 16 (4 * c + 2) ∧ σ (53 + c) 14 = μ 16 (4 * c + 3)) ∧ vp_in (μ 15 c) 11
def CWay (σ μ : Sg) (c : Nat) : Prop :=
  (μ 11 c = (-1 : Int32) ∧ 0 < μ 13 c ∧ σ (53 + c) 8 = μ 13 c ∧ σ (53 + c) 7 = μ 12 c ∧ (μ 12 c = μ 10 (5 * c) ∨ μ 12 c = μ 10 (5 * c + 1))) ∨ (σ (53 + c) 8 = 0 ∧ (μ 11 c = μ 10 (5 * c) ∨ μ 11 c = μ 10 (5 * c + 1)))
def CHand (μ : Sg) (nU c : Nat) : Prop := μ 14 c = (-1 : Int32) ∨ (vp_in (μ 14 c) nU ∧ μ 4 (tn (μ 14 c)) = nI 1 ∧ μ 5 (tn (μ 14 c)) = nI c)
def CRel (σ μ : Sg) (nS nU c : Nat) : Prop := CFix σ μ nS c ∧ CVar σ μ c ∧ CWay σ μ c ∧ CHand μ nU c
def R0 (mS mC h nS nU nC : Nat) (σ μ : Sg) : Prop :=
  (σ 0 4 = nI h ∧ μ 0 0 = nI h) ∧ (σ 0 5 = nI nS ∧ μ 0 1 = nI nS ∧ nS ≤ 8) ∧ (σ 0 6 = nI nU ∧ μ 0 5 = nI nU ∧ nU ≤ 40) ∧ (σ 0 7 = nI nC ∧ μ 0 12 = nI nC ∧ nC ≤ 10) ∧ σ 0 8 = μ 0 20 ∧ (nS ≤ mS ∧ mS ≤ 8 ∧ nC ≤ mC ∧ mC ≤ 10)
def RRn (σ ρ : Sg) : Prop := ∀ j, j < 24 → σ 1 j = ρ 1 j ∧ vp_in (ρ 1 j) 10
/-- of the rows past a count: what isn't set anew when one is added (mS, mC: how far this is known) -/
def CAll (σ μ : Sg) (nS nU nC c : Nat) : Prop := (c < nC → CFix σ μ nS c) ∧ CVar σ μ c ∧ CWay σ μ c ∧ (c < nC → CHand μ nU c) ∧ (nC ≤ c → σ (53 + c) 8 = 0)
def Rel (mS mC h nS nU nC : Nat) (σ μ ρ : Sg) : Prop :=
  R0 mS mC h nS nU nC σ μ ∧ (∀ i, i < mS → SRel σ μ i) ∧ (∀ u, u < nU → URel σ μ nS u) ∧ (∀ c, c < mC → CAll σ μ nS nU nC c) ∧ RRn σ ρ
theorem Rel.ci {mS mC h nS nU nC : Nat} {σ μ ρ : Sg} (hR : Rel mS mC h nS nU nC σ μ ρ) {c : Nat} (hc : c < nC) : CRel σ μ nS nU c := by
  have h := hR.2.2.2.1 c (by have := hR.1.2.2.2.2.2; omega)
  exact ⟨h.1 hc, h.2.1, h.2.2.1, h.2.2.2.1 hc⟩
theorem Rel.sh {mS mC h nS nU nC : Nat} {σ μ ρ : Sg} (hR : Rel mS mC h nS nU nC σ μ ρ) {i : Nat} (hi : i < nS) : SRel σ μ i := hR.2.1 i (by have := hR.1.2.2.2.2.2; omega)
theorem neg1_in {n : Nat} (hn : n < 2 ^ 31) : ¬ vp_in (-1 : Int32) n := by
  rw [vp_in_iff]
  have e : (-1 : Int32).toInt = -1 := by decide
  omega
theorem in_ne {x : Int32} {n : Nat} (h : vp_in x n) : ¬ x = (-1 : Int32) := by
  intro e
  rw [vp_in_iff, e] at h
  have e : (-1 : Int32).toInt = -1 := by decide
  omega
/-- rows that a thing is seen in -/
theorem SRel.cg {σ μ σ' μ' : Sg} {i : Nat} (h : SRel σ μ i) (e : σ' (5 + i) = σ (5 + i)) (e1 : μ' 1 = μ 1) (e2 : μ' 2 = μ 2) (e3 : μ' 3 = μ 3) : SRel σ' μ' i := by
  unfold SRel at h ⊢
  rw [e, e1, e2, e3]
  exact h
theorem URel.cg {σ μ σ' μ' : Sg} {nS u : Nat} (h : URel σ μ nS u) (e : σ' (13 + u) = σ (13 + u)) (e4 : μ' 4 u = μ 4 u) (e5 : μ' 5 u = μ 5 u) (e6 : μ' 6 u = μ 6 u) (e7 : μ' 7 u = μ 7 u) (e8 : μ' 8 u = μ 8 u) (e9 : μ' 9 u = μ 9 u) : URel σ' μ' nS u := by
  unfold URel at h ⊢
  rw [e, e4, e5, e6, e7, e8, e9]
  exact h
theorem CFix.cg {σ μ σ' μ' : Sg} {nS c : Nat} (h : CFix σ μ nS c) (e : ∀ k, k < 6 → σ' (53 + c) k = σ (53 + c) k) (e1 : μ' 1 = μ 1) (e10 : μ' 10 = μ 10) : CFix σ' μ' nS c := by
  unfold CFix at h ⊢
  rw [e 0 (by decide), e 1 (by decide), e 2 (by decide), e 3 (by decide), e 4 (by decide), e 5 (by decide), e1, e10]
  exact h
theorem CVar.cg {σ μ σ' μ' : Sg} {c : Nat} (h : CVar σ μ c) (e : σ' (53 + c) = σ (53 + c)) (e11 : μ' 11 c = μ 11 c) (e14 : μ' 14 c = μ 14 c) (e15 : μ' 15 c = μ 15 c) (e16 : ∀ j, j < 4 → μ' 16 (4 * c + j) = μ 16 (4 * c + j)) : CVar σ' μ' c := by
  have e0 : μ' 16 (4 * c) = μ 16 (4 * c) := e16 0 (by decide)
  unfold CVar at h ⊢
  rw [e, e11, e14, e15, e0, e16 1 (by decide), e16 2 (by decide), e16 3 (by decide)]
  exact h
theorem CWay.cg {σ μ σ' μ' : Sg} {c : Nat} (h : CWay σ μ c) (e : σ' (53 + c) = σ (53 + c)) (e10 : μ' 10 = μ 10) (e11 : μ' 11 c = μ 11 c) (e12 : μ' 12 c = μ 12 c) (e13 : μ' 13 c = μ 13 c) : CWay σ' μ' c := by
  unfold CWay at h ⊢
  rw [e, e10, e11, e12, e13]
  exact h
theorem CHand.cg {μ μ' : Sg} {nU c : Nat} (h : CHand μ nU c) (e14 : μ' 14 c = μ 14 c) (e4 : ∀ v, μ 14 c = nI v → v < nU → μ 4 v = nI 1 → μ 5 v = nI c → μ' 4 v = nI 1 ∧ μ' 5 v = nI c) (hn : nU ≤ 40) : CHand μ' nU c := by
  unfold CHand at h ⊢
  rw [e14]
  rcases h with h | ⟨h1, h2, h3⟩
  · exact Or.inl h
  · obtain ⟨a, b⟩ := e4 (tn (μ 14 c)) (tn_eq h1 (by omega)) (tn_in h1) h2 h3
    exact Or.inr ⟨h1, a, b⟩
/-! the waiting umbrellas -/
theorem wait_row (σ : Sg) (u p : Nat) (hp : p ≠ 13 + u) : s_X3_waitAnHour σ u p = σ p := by
  unfold s_X3_waitAnHour s_X3_standIn
  simp only [ltt]
  repeat' split
  all_goals first | rfl | (repeat rw [up_row_ne _ _ _ hp])
theorem come_row (μ : Sg) (u p : Nat) (h4 : p ≠ 4) (h5 : p ≠ 5) (h6 : p ≠ 6) (h7 : p ≠ 7) : s_X5_comeBack μ u p = μ p := by
  unfold s_X5_comeBack
  simp only [ltt]
  repeat' split
  all_goals (repeat (first | rw [up_row_ne _ _ _ h4] | rw [up_row_ne _ _ _ h5] | rw [up_row_ne _ _ _ h6] | rw [up_row_ne _ _ _ h7]))
theorem come_at (μ : Sg) (u p v : Nat) (hv : v ≠ u) : s_X5_comeBack μ u p v = μ p v := by
  unfold s_X5_comeBack
  simp only [ltt]
  repeat' split
  all_goals simp [up, hv]
theorem wa_cases {x : Int32} (h : vp_in x 25) (h0 : ¬ x = nI 0) : ¬ x ≤ 0 ∧ ((x - nI 1 ≤ 0 ∧ x - nI 1 = nI 0) ∨ (¬ x - nI 1 ≤ 0 ∧ vp_in (x - nI 1) 25 ∧ ¬ x - nI 1 = nI 0)) := by
  obtain ⟨j, hj, rfl⟩ := vp_in_of h (by decide)
  have hj0 : j ≠ 0 := fun e => h0 (by rw [e])
  obtain ⟨i, rfl⟩ : ∃ i, j = i + 1 := ⟨j - 1, by omega⟩
  have e : nI (i + 1) - nI 1 = nI i := nI_pred i
  rw [e, ← nI_0, nI_leI (by omega) (by omega), nI_leI (by omega) (by omega)]
  refine ⟨by omega, ?_⟩
  by_cases hi : i = 0
  · subst hi; exact Or.inl ⟨Nat.le_refl 0, rfl⟩
  · exact Or.inr ⟨by omega, vp_in_nI (by omega) (by decide), by rw [nI_eq (by omega) (by omega)]; exact hi⟩
theorem come_um {σ μ : Sg} {nS u : Nat} (hS0 : nS ≤ 8) (h : URel σ μ nS u) (hw : ¬ μ 7 u ≤ 0) : URel (s_X3_waitAnHour σ u) (s_X5_comeBack μ u) nS u := by
  obtain ⟨⟨e0, e1, e2, e3, e4, e5⟩, hi⟩ := h
  have n00 : nI 0 = (0 : Int32) := nI_0
  rcases hi with ⟨-, -, h7, -⟩ | ⟨-, h7, -, -⟩ | ⟨h4, h5, h7, h70, h6, h9⟩ | ⟨h4, h5, h7, h70, h9⟩
  · exact absurd (by rw [h7, nI_0]; decide) hw
  · exact absurd (by rw [h7, nI_0]; decide) hw
  · have h70' : ¬ μ 7 u = 0 := by rw [← nI_0]; exact h70
    have k23 : ¬ nI 2 = nI 3 := by decide
    obtain ⟨-, ⟨hz, hz2⟩ | ⟨hz, hz2, hz3⟩⟩ := wa_cases h7 h70
    · have ec : s_X3_waitAnHour σ u = up (up (up (up σ (13 + u) 3 (σ (13 + u) 3 - nI 1)) (13 + u) 0 (nI 0)) (13 + u) 1 (σ (13 + u) 5)) (13 + u) 3 (nI 0) := by
        simp [s_X3_waitAnHour, s_X3_standIn, ltt, up, e0, e3, h4, h70', hz, k23]
      have em : s_X5_comeBack μ u = up (up (up μ 7 u (μ 7 u - nI 1)) 5 u (μ 9 u)) 4 u (nI 0) := by
        simp [s_X5_comeBack, ltt, up, h4, hz, k23]
      rw [ec, em]
      refine ⟨by simp [up, e0, e1, e2, e3, e4, e5, hz2], Or.inl ?_⟩
      simp [up, hz2, h6]
      exact h9
    · have ec : s_X3_waitAnHour σ u = up σ (13 + u) 3 (σ (13 + u) 3 - nI 1) := by
        simp [s_X3_waitAnHour, ltt, up, e3, h70', hz]
      have em : s_X5_comeBack μ u = up μ 7 u (μ 7 u - nI 1) := by
        simp [s_X5_comeBack, ltt, up, hz]
      rw [ec, em]
      refine ⟨by simp [up, e0, e1, e2, e3, e4, e5], Or.inr (Or.inr (Or.inl ?_))⟩
      simp [up, h4, h5, h6, hz3]
      exact ⟨hz2, h9⟩
  · have h70' : ¬ μ 7 u = 0 := by rw [← nI_0]; exact h70
    have k32 : ¬ nI 3 = nI 2 := by decide
    have hn : 0 < nS := by have := tn_in h9; omega
    obtain ⟨-, ⟨hz, hz2⟩ | ⟨hz, hz2, hz3⟩⟩ := wa_cases h7 h70
    · have ec : s_X3_waitAnHour σ u = up (up (up (up (up σ (13 + u) 3 (σ (13 + u) 3 - nI 1)) (13 + u) 2 (nI 0)) (13 + u) 0 (nI 0)) (13 + u) 1 (nI 0)) (13 + u) 3 (nI 0) := by
        simp [s_X3_waitAnHour, s_X3_standIn, ltt, up, e0, e3, h4, h70', hz]
      have em : s_X5_comeBack μ u = up (up (up (up μ 7 u (μ 7 u - nI 1)) 5 u (nI 0)) 6 u (nI 0)) 4 u (nI 0) := by
        simp [s_X5_comeBack, ltt, up, h4, hz, k32]
      rw [ec, em]
      refine ⟨by simp [up, e0, e1, e2, e3, e4, e5, hz2], Or.inl ?_⟩
      simp [up, hz2]
      exact ⟨vp_in_nI hn (by omega), by decide⟩
    · have ec : s_X3_waitAnHour σ u = up σ (13 + u) 3 (σ (13 + u) 3 - nI 1) := by
        simp [s_X3_waitAnHour, ltt, up, e3, h70', hz]
      have em : s_X5_comeBack μ u = up μ 7 u (μ 7 u - nI 1) := by
        simp [s_X5_comeBack, ltt, up, hz]
      rw [ec, em]
      refine ⟨by simp [up, e0, e1, e2, e3, e4, e5], Or.inr (Or.inr (Or.inr ?_))⟩
      simp [up, h4, h5, hz3]
      exact ⟨hz2, h9⟩
theorem wait_0 {σ μ : Sg} {nS u : Nat} (h : URel σ μ nS u) (hw : μ 7 u ≤ 0) : s_X3_waitAnHour σ u = σ := by
  obtain ⟨⟨e0, e1, e2, e3, e4, e5⟩, hi⟩ := h
  have e : σ (13 + u) 3 = 0 := by
    rw [e3]
    rcases hi with ⟨-, -, h7, -⟩ | ⟨-, h7, -, -⟩ | ⟨-, -, h7, h70, -⟩ | ⟨-, -, h7, h70, -⟩
    · rw [h7]; exact nI_0
    · rw [h7]; exact nI_0
    · exact absurd hw (wa_cases h7 h70).1
    · exact absurd hw (wa_cases h7 h70).1
  unfold s_X3_waitAnHour
  rw [if_pos e]
theorem sim_wait {mS mC h nS nU nC u : Nat} {σ μ ρ : Sg} (hR : Rel mS mC h nS nU nC σ μ ρ) (hu : u < nU) (hw : ¬ μ 7 u ≤ 0) : Rel mS mC h nS nU nC (s_X3_waitAnHour σ u) (s_X5_comeBack μ u) ρ := by
  have hm := hR.1.2.2.2.2.2
  obtain ⟨h0, hs, hum, hc, hr⟩ := hR
  have hnU := h0.2.2.1.2.2
  have hnS := h0.2.1.2.2
  have hnC := h0.2.2.2.1.2.2
  have c4 : ¬ μ 4 u = nI 1 := by
    intro e
    rcases (hum u hu).2 with ⟨-, -, h7, -⟩ | ⟨-, h7, -, -⟩ | ⟨h4, -⟩ | ⟨h4, -⟩
    · exact hw (by rw [h7, nI_0]; decide)
    · exact hw (by rw [h7, nI_0]; decide)
    · rw [h4] at e; exact absurd e (by decide)
    · rw [h4] at e; exact absurd e (by decide)
  refine ⟨?_, fun i hi => ?_, fun v hv => ?_, fun c hc2 => ?_, fun j hj => ?_⟩
  · unfold R0 at h0 ⊢
    rw [wait_row σ u 0 (by omega), come_row μ u 0 (by decide) (by decide) (by decide) (by decide)]
    exact h0
  · exact (hs i hi).cg (wait_row σ u _ (by omega)) (come_row μ u 1 (by decide) (by decide) (by decide) (by decide)) (come_row μ u 2 (by decide) (by decide) (by decide) (by decide)) (come_row μ u 3 (by decide) (by decide) (by decide) (by decide))
  · by_cases e : v = u
    · subst e; exact come_um hnS (hum v hv) hw
    · exact (hum v hv).cg (wait_row σ u _ (by omega)) (come_at μ u 4 v e) (come_at μ u 5 v e) (come_at μ u 6 v e) (come_at μ u 7 v e) (come_at μ u 8 v e) (come_at μ u 9 v e)
  · obtain ⟨a, b, w, d, z⟩ := hc c hc2
    have r : ∀ p, 10 ≤ p → s_X5_comeBack μ u p = μ p := fun p hp => come_row μ u p (by omega) (by omega) (by omega) (by omega)
    have ec := wait_row σ u (53 + c) (by omega)
    refine ⟨fun hdc => (a hdc).cg (fun k _ => by rw [ec]) (come_row μ u 1 (by decide) (by decide) (by decide) (by decide)) (r 10 (by decide)), b.cg ec (by rw [r 11 (by decide)]) (by rw [r 14 (by decide)]) (by rw [r 15 (by decide)]) (fun j _ => by rw [r 16 (by decide)]), w.cg ec (r 10 (by decide)) (by rw [r 11 (by decide)]) (by rw [r 12 (by decide)]) (by rw [r 13 (by decide)]), fun hdc => (d hdc).cg (by rw [r 14 (by decide)]) (fun v _ _ h4 h5 => ?_) hnU, fun hdz => (by rw [ec]; exact z hdz)⟩
    have e : v ≠ u := fun e => c4 (by rw [← e]; exact h4)
    exact ⟨(come_at μ u 4 v e).trans h4, (come_at μ u 5 v e).trans h5⟩
  · rw [wait_row σ u 1 (by omega)]
    exact hr j hj
