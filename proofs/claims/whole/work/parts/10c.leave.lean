/-! citizens leave -/
theorem up_neK (σ : Sg) (p : Nat) {k b : Nat} (v : Int32) (a : Nat) (h : b ≠ k) : up σ p k v a b = σ a b := up_ne σ v (fun q => h q.2)
theorem CVar.cg2 {σ μ σ' μ' : Sg} {c : Nat} (h : CVar σ μ c) (e : ∀ k, 6 ≤ k → k ≠ 7 → k ≠ 8 → σ' (53 + c) k = σ (53 + c) k) (e11 : μ' 11 c = μ 11 c) (e14 : μ' 14 c = μ 14 c) (e15 : μ' 15 c = μ 15 c) (e16 : ∀ j, j < 4 → μ' 16 (4 * c + j) = μ 16 (4 * c + j)) : CVar σ' μ' c := by
  have e0 : μ' 16 (4 * c) = μ 16 (4 * c) := e16 0 (by decide)
  unfold CVar at h ⊢
  rw [e 6 (by decide) (by decide) (by decide), e 9 (by decide) (by decide) (by decide), e 10 (by decide) (by decide) (by decide), e 11 (by decide) (by decide) (by decide), e 12 (by decide) (by decide) (by decide), e 13 (by decide) (by decide) (by decide), e 14 (by decide) (by decide) (by decide), e11, e14, e15, e0, e16 1 (by decide), e16 2 (by decide), e16 3 (by decide)]
  exact h
theorem CWay.cg2 {σ μ σ' μ' : Sg} {c : Nat} (h : CWay σ μ c) (e7 : σ' (53 + c) 7 = σ (53 + c) 7) (e8 : σ' (53 + c) 8 = σ (53 + c) 8) (e10 : μ' 10 = μ 10) (e11 : μ' 11 c = μ 11 c) (e12 : μ' 12 c = μ 12 c) (e13 : μ' 13 c = μ 13 c) : CWay σ' μ' c := by
  unfold CWay at h ⊢
  rw [e7, e8, e10, e11, e12, e13]
  exact h
def mRef (μ : Sg) (c sh : Nat) : Sg := ltt (up μ 16 ((4 * c) + 3) ((μ 16 ((4 * c) + 3)) + (nI 1))) (fun v => ltt (up v 3 ((5 * sh) + 2) ((v 3 ((5 * sh) + 2)) + (nI 1))) (fun w => up w 3 ((5 * sh) + 4) ((w 3 ((5 * sh) + 4)) + (nI 1))))
def mTak (μ : Sg) (c sh u : Nat) : Sg := ltt (up μ 4 u (nI 1)) (fun v1 => ltt (up v1 5 u (nI c)) (fun v2 => ltt (up v2 9 u (nI sh)) (fun v3 => ltt (up v3 8 u ((v3 8 u) + (nI 1))) (fun v4 => ltt (up v4 14 c (nI u)) (fun v5 => ltt (up v5 16 ((4 * c) + 1) ((v5 16 ((4 * c) + 1)) + (nI 1))) (fun v6 => up v6 3 (5 * sh) ((v6 3 (5 * sh)) + (nI 1))))))))
def mOut (μ : Sg) (c sh : Nat) : Sg := if (nI sh) = (μ 10 (5 * c)) then ltt (up μ 12 c (μ 10 ((5 * c) + 1))) (fun v => ltt (up v 13 c (m_max (nI 1) ((m_abs ((v 1 sh) - (v 1 (tn (v 12 c))))) / (nI 10)))) (fun w => up w 11 c (-1 : Int32))) else ltt (up μ 12 c (μ 10 (5 * c))) (fun v => ltt (up v 13 c (m_max (nI 1) ((m_abs ((v 1 sh) - (v 1 (tn (v 12 c))))) / (nI 10)))) (fun w => up w 11 c (-1 : Int32)))
def mWant (μ ρ : Sg) (c : Nat) : Int32 × (Sg × Sg) := if s_X5_wouldGet μ c (tn (μ 11 c)) = 0 then (nI 0, (mOut (mRef μ c (tn (μ 11 c))) c (tn (μ 11 c)), ρ)) else (nI 1, (mOut (mTak μ c (tn (μ 11 c)) (tn (s_X5_first μ (nI (tn (μ 11 c)))))) c (tn (μ 11 c)), ρ))
theorem out_ltt (X : Sg × Sg) (c sh : Nat) (r : Int32) : (if (nI sh) = (X.1 10 (5 * c)) then ltt ((up X.1 12 c (X.1 10 ((5 * c) + 1)), X.2)) (fun u29 => ltt ((up u29.1 13 c (m_max (nI 1) ((m_abs ((u29.1 1 sh) - (u29.1 1 (tn (u29.1 12 c))))) / (nI 10))), u29.2)) (fun u34 => ltt ((up u34.1 11 c (-1 : Int32), u34.2)) (fun u36 => (r, u36)))) else ltt ((up X.1 12 c (X.1 10 (5 * c)), X.2)) (fun u19 => ltt ((up u19.1 13 c (m_max (nI 1) ((m_abs ((u19.1 1 sh) - (u19.1 1 (tn (u19.1 12 c))))) / (nI 10))), u19.2)) (fun u24 => ltt ((up u24.1 11 c (-1 : Int32), u24.2)) (fun u26 => (r, u26))))) = (r, (mOut X.1 c sh, X.2)) := by
  unfold mOut
  by_cases q : (nI sh) = (X.1 10 (5 * c))
  · rw [if_pos q, if_pos q]; rfl
  · rw [if_neg q, if_neg q]; rfl
theorem leave_w1 (μ ρ : Sg) (c now : Nat) (h : 0 < ρ 1 now) : s_X5_leave (μ, ρ) c now = mWant μ ρ c := by
  by_cases h2 : s_X5_wouldGet μ c (tn (μ 11 c)) = 0
  · have e2 : mWant μ ρ c = _ := if_pos h2
    rw [e2]
    exact (if_pos h).trans ((if_pos h2).trans (out_ltt (mRef μ c (tn (μ 11 c)), ρ) c (tn (μ 11 c)) (nI 0)))
  · have e2 : mWant μ ρ c = _ := if_neg h2
    rw [e2]
    exact (if_pos h).trans ((if_neg h2).trans (out_ltt (mTak μ c (tn (μ 11 c)) (tn (s_X5_first μ (nI (tn (μ 11 c))))), ρ) c (tn (μ 11 c)) (nI 1)))
theorem leave_w2 (μ ρ : Sg) (c now : Nat) (h : ¬ 0 < ρ 1 now) (h1 : ¬ ρ 1 ((now + 1) % 24) ≤ 0) : s_X5_leave (μ, ρ) c now = mWant μ ρ c := by
  by_cases h2 : s_X5_wouldGet μ c (tn (μ 11 c)) = 0
  · have e2 : mWant μ ρ c = _ := if_pos h2
    rw [e2]
    exact (if_neg h).trans ((if_neg h1).trans ((if_pos h2).trans (out_ltt (mRef μ c (tn (μ 11 c)), ρ) c (tn (μ 11 c)) (nI 0))))
  · have e2 : mWant μ ρ c = _ := if_neg h2
    rw [e2]
    exact (if_neg h).trans ((if_neg h1).trans ((if_neg h2).trans (out_ltt (mTak μ c (tn (μ 11 c)) (tn (s_X5_first μ (nI (tn (μ 11 c))))), ρ) c (tn (μ 11 c)) (nI 1))))
theorem leave_w0 (μ ρ : Sg) (c now : Nat) (h : ¬ 0 < ρ 1 now) (h1 : ρ 1 ((now + 1) % 24) ≤ 0) : s_X5_leave (μ, ρ) c now = (nI 0, (mOut μ c (tn (μ 11 c)), ρ)) :=
  (if_neg h).trans ((if_pos h1).trans (out_ltt (μ, ρ) c (tn (μ 11 c)) (nI 0)))
section SL
variable {mS mC h nS nU nC : Nat} {σ μ ρ : Sg}
theorem isSh_in (hR : Rel mS mC h nS nU nC σ μ ρ) {j : Nat} (hj : j < nS) : s_X1_isShelter σ (nI j) = nI 1 := by
  have h5 := hR.1.2.1
  unfold s_X1_isShelter
  rw [if_neg (nI_pos (by omega)), h5.1, if_neg (nI_ge hj (by omega))]
theorem isUm_in (hR : Rel mS mC h nS nU nC σ μ ρ) {j : Nat} (hj : j < nU) : s_X1_isUmbrella σ (nI j) = nI 1 := by
  have h5 := hR.1.2.2.1
  unfold s_X1_isUmbrella
  rw [if_neg (nI_pos (by omega)), h5.1, if_neg (nI_ge hj (by omega))]
theorem isUm_no (σ : Sg) : s_X1_isUmbrella σ (-1) = nI 0 := by
  unfold s_X1_isUmbrella
  rw [if_pos (by decide)]
theorem sim_ref {c sh : Nat} (hR : Rel mS mC h nS nU nC σ μ ρ) (hc : c < nC) (hs : sh < nS) : Rel mS mC h nS nU nC (s_X2_noteRefusal (up σ (53 + c) 14 ((σ (53 + c) 14) + (nI 1))) sh) (mRef μ c sh) ρ := by
  have hC' : ∀ c, c < nC → CRel σ μ nS nU c := fun c hc => hR.ci hc
  have hS' : ∀ i, i < nS → SRel σ μ i := fun i hi => hR.sh hi
  have hm := hR.1.2.2.2.2.2
  obtain ⟨h0, hS, hU, hC, hr⟩ := hR
  have hnU := h0.2.2.1.2.2
  have hnS := h0.2.1.2.2
  have hnC := h0.2.2.2.1.2.2
  unfold s_X2_noteRefusal mRef
  simp only [ltt]
  refine ⟨?_, fun i hi => ?_, fun u hu => ?_, fun d hd => ?_, fun j hj => ?_⟩
  · unfold R0 at h0 ⊢
    simp (disch := omega) only [up_row_ne]
    exact h0
  · obtain ⟨a0, a1, a2, a3, a4, a5, a6, a7⟩ := hS i hi
    by_cases e : i = sh
    · subst e
      refine ⟨?_, ?_, ?_, ?_, ?_, ?_, ?_, ?_⟩ <;> simp (disch := omega) only [up_s, up_row_ne, up_neK, a0, a1, a2, a3, a4, a5, a6]
      exact a7
    · refine ⟨?_, ?_, ?_, ?_, ?_, ?_, ?_, ?_⟩ <;> simp (disch := omega) only [up_s, up_row_ne, up_neK, a0, a1, a2, a3, a4, a5, a6]
      exact a7
  · refine (hU u hu).cg ?_ ?_ ?_ ?_ ?_ ?_ ?_ <;> simp (disch := omega) only [up_row_ne]
  · obtain ⟨a, b, w, d9, z⟩ := hC d hd
    refine ⟨fun hdc => (a hdc).cg (fun k hk => ?_) ?_ ?_, ?_, w.cg2 ?_ ?_ ?_ ?_ ?_ ?_, fun hdc => (d9 hdc).cg ?_ (fun v hv1 hv2 h4 h5 => ?_) hnU, fun hdz => (by simp (disch := omega) only [up_row_ne, up_neK]; exact z hdz)⟩
    · simp (disch := omega) only [up_row_ne, up_neK]
    · simp (disch := omega) only [up_row_ne]
    · simp (disch := omega) only [up_row_ne]
    · by_cases e : d = c
      · subst e
        obtain ⟨⟨b6, b9, b10, b11, b12, b13, b14⟩, bt⟩ := b
        refine ⟨⟨?_, ?_, ?_, ?_, ?_, ?_, ?_⟩, ?_⟩ <;> simp (disch := omega) only [up_s, up_row_ne, up_neK, b6, b9, b10, b11, b12, b13, b14]
        exact bt
      · refine b.cg2 (fun k _ _ _ => ?_) ?_ ?_ ?_ (fun j hj => ?_) <;> simp (disch := omega) only [up_row_ne, up_neK]
    · simp (disch := omega) only [up_row_ne, up_neK]
    · simp (disch := omega) only [up_row_ne, up_neK]
    · simp (disch := omega) only [up_row_ne]
    · simp (disch := omega) only [up_row_ne]
    · simp (disch := omega) only [up_row_ne]
    · simp (disch := omega) only [up_row_ne]
    · simp (disch := omega) only [up_row_ne]
    · simp (disch := omega) only [up_row_ne]
      exact ⟨h4, h5⟩
  · simp (disch := omega) only [up_row_ne]
    exact hr j hj
theorem sim_tak {c sh u : Nat} (hR : Rel mS mC h nS nU nC σ μ ρ) (hc : c < nC) (hs : sh < nS) (hu : u < nU) (h4 : μ 4 u = 0) (h5 : μ 5 u = nI sh) : Rel mS mC h nS nU nC (up (up (up (s_X3_goWith σ u (nI c)) (53 + c) 9 (nI u)) (53 + c) 12 ((up (s_X3_goWith σ u (nI c)) (53 + c) 9 (nI u) (53 + c) 12) + (nI 1))) (5 + sh) 2 ((up (up (s_X3_goWith σ u (nI c)) (53 + c) 9 (nI u)) (53 + c) 12 ((up (s_X3_goWith σ u (nI c)) (53 + c) 9 (nI u) (53 + c) 12) + (nI 1)) (5 + sh) 2) + (nI 1))) (mTak μ c sh u) ρ := by
  have hC' : ∀ c, c < nC → CRel σ μ nS nU c := fun c hc => hR.ci hc
  have hS' : ∀ i, i < nS → SRel σ μ i := fun i hi => hR.sh hi
  have hm := hR.1.2.2.2.2.2
  obtain ⟨h0, hS, hU, hC, hr⟩ := hR
  have hnU := h0.2.2.1.2.2
  have hnS := h0.2.1.2.2
  have hnC := h0.2.2.2.1.2.2
  have hu0 := um_0 (hU u hu) h4
  unfold s_X3_goWith mTak
  simp only [ltt]
  refine ⟨?_, fun i hi => ?_, fun x hx => ?_, fun d hd => ?_, fun j hj => ?_⟩
  · unfold R0 at h0 ⊢
    simp (disch := omega) only [up_row_ne]
    exact h0
  · obtain ⟨a0, a1, a2, a3, a4, a5, a6, a7⟩ := hS i hi
    by_cases e : i = sh
    · subst e
      refine ⟨?_, ?_, ?_, ?_, ?_, ?_, ?_, ?_⟩ <;> simp (disch := omega) only [up_s, up_row_ne, up_neK, a0, a1, a2, a3, a4, a5, a6]
      exact a7
    · refine ⟨?_, ?_, ?_, ?_, ?_, ?_, ?_, ?_⟩ <;> simp (disch := omega) only [up_s, up_row_ne, up_neK, a0, a1, a2, a3, a4, a5, a6]
      exact a7
  · by_cases e : x = u
    · subst e
      obtain ⟨⟨e0, e1, e2, e3, e4, e5⟩, -⟩ := hU x hx
      refine ⟨⟨?_, ?_, ?_, ?_, ?_, ?_⟩, Or.inr (Or.inl ⟨?_, ?_, ?_, ?_⟩)⟩ <;> simp (disch := omega) only [up_s, up_row_ne, up_neK, e0, e1, e2, e3, e4, e5, h5]
      · exact hu0.2.2
      · exact hu0.1
      · exact vp_in_nI hs (by omega)
    · refine (hU x hx).cg ?_ ?_ ?_ ?_ ?_ ?_ ?_ <;> simp (disch := omega) only [up_row_ne, up_neK]
  · obtain ⟨a, b, w, d9, z⟩ := hC d hd
    refine ⟨fun hdc => (a hdc).cg (fun k hk => ?_) ?_ ?_, ?_, w.cg2 ?_ ?_ ?_ ?_ ?_ ?_, ?_, fun hdz => (by simp (disch := omega) only [up_row_ne, up_neK]; exact z hdz)⟩
    · simp (disch := omega) only [up_row_ne, up_neK]
    · simp (disch := omega) only [up_row_ne]
    · simp (disch := omega) only [up_row_ne]
    · by_cases e : d = c
      · subst e
        obtain ⟨⟨b6, b9, b10, b11, b12, b13, b14⟩, bt⟩ := b
        refine ⟨⟨?_, ?_, ?_, ?_, ?_, ?_, ?_⟩, ?_⟩ <;> simp (disch := omega) only [up_s, up_row_ne, up_neK, b6, b9, b10, b11, b12, b13, b14]
        exact bt
      · refine b.cg2 (fun k _ _ _ => ?_) ?_ ?_ ?_ (fun j hj => ?_) <;> simp (disch := omega) only [up_row_ne, up_neK]
    · simp (disch := omega) only [up_row_ne, up_neK]
    · simp (disch := omega) only [up_row_ne, up_neK]
    · simp (disch := omega) only [up_row_ne]
    · simp (disch := omega) only [up_row_ne]
    · simp (disch := omega) only [up_row_ne]
    · simp (disch := omega) only [up_row_ne]
    · intro hdc
      by_cases e : d = c
      · subst e
        refine Or.inr ⟨?_, ?_, ?_⟩ <;> simp (disch := omega) only [up_s, up_row_ne, up_neK, tn_nI]
        exact vp_in_nI hu (by omega)
      · refine (d9 hdc).cg ?_ (fun v hv1 hv2 h4' h5' => ?_) hnU
        · simp (disch := omega) only [up_row_ne, up_neK]
        · have hvu : v ≠ u := fun q => by rw [q, h4] at h4'; exact absurd h4' (by decide)
          simp (disch := omega) only [up_row_ne, up_neK]
          exact ⟨h4', h5'⟩
  · simp (disch := omega) only [up_row_ne]
    exact hr j hj
theorem m_max_pos (x : Int32) : 0 < m_max (nI 1) x := by
  unfold m_max
  by_cases q : nI 1 < x
  · rw [if_pos q]
    rw [Int32.lt_iff_toInt_lt] at q ⊢
    have e1 : (nI 1).toInt = 1 := by decide
    have e0 : (0 : Int32).toInt = 0 := by decide
    omega
  · rw [if_neg q]; decide
theorem abs_sym {x y : Int32} (hx : vp_in x 100) (hy : vp_in y 100) : m_abs (x - y) = m_abs (y - x) := by
  obtain ⟨i, hi, rfl⟩ := vp_in_of hx (by decide)
  obtain ⟨j, hj, rfl⟩ := vp_in_of hy (by decide)
  have ei := nI_toInt (n := i) (by omega)
  have ej := nI_toInt (n := j) (by omega)
  have e0 : (0 : Int32).toInt = 0 := by decide
  have d1 : (nI i - nI j).toInt = (i : Int) - j := by rw [Int32.toInt_sub, ei, ej, Int.bmod_eq_of_le_mul_two (by omega) (by omega)]
  have d2 : (nI j - nI i).toInt = (j : Int) - i := by rw [Int32.toInt_sub, ei, ej, Int.bmod_eq_of_le_mul_two (by omega) (by omega)]
  apply Int32.toInt_inj.mp
  unfold m_abs
  by_cases h1 : (j : Int) ≤ i
  · rw [if_pos (by rw [Int32.le_iff_toInt_le, d1, e0]; omega)]
    by_cases h2 : (i : Int) ≤ j
    · rw [if_pos (by rw [Int32.le_iff_toInt_le, d2, e0]; omega), d1, d2]; omega
    · rw [if_neg (by rw [Int32.le_iff_toInt_le, d2, e0]; omega), Int32.toInt_sub 0 (nI j - nI i), d2, d1, e0, Int.bmod_eq_of_le_mul_two (by omega) (by omega)]; omega
  · rw [if_neg (by rw [Int32.le_iff_toInt_le, d1, e0]; omega), if_pos (by rw [Int32.le_iff_toInt_le, d2, e0]; omega), Int32.toInt_sub, d1, d2, e0, Int.bmod_eq_of_le_mul_two (by omega) (by omega)]; omega
theorem sim_out {c sh : Nat} (hR : Rel mS mC h nS nU nC σ μ ρ) (hc : c < nC) (h11 : μ 11 c = nI sh) (hs : sh < nS) : Rel mS mC h nS nU nC (s_X0_setOut σ c) (mOut μ c sh) ρ := by
  have hC' : ∀ c, c < nC → CRel σ μ nS nU c := fun c hc => hR.ci hc
  have hS' : ∀ i, i < nS → SRel σ μ i := fun i hi => hR.sh hi
  have hm := hR.1.2.2.2.2.2
  obtain ⟨h0, hS, hU, hC, hr⟩ := hR
  have hnU := h0.2.2.1.2.2
  have hnS := h0.2.1.2.2
  have hnC := h0.2.2.2.1.2.2
  obtain ⟨⟨⟨f0, f1, f2, f3, f4⟩, ⟨g1, g2, g3, g4, g5⟩, f5⟩, ⟨⟨b6, b9, b10, b11, b12, b13, b14⟩, bt⟩, w, d9⟩ := hC' c hc
  have hts : tn (nI sh) = sh := tn_nI (by omega)
  have hne : ¬ nI sh = (-1 : Int32) := k_ne sh (by omega)
  have hw : μ 11 c = μ 10 (5 * c) ∨ μ 11 c = μ 10 (5 * c + 1) := by
    rcases w with ⟨q, -⟩ | ⟨-, q⟩
    · exact absurd (h11.symm.trans q) hne
    · exact q
  have key : ∃ to lf : Int32, s_X0_setOut σ c = up (up (up σ (53 + c) 7 to) (53 + c) 6 (-1 : Int32)) (53 + c) 8 lf ∧ mOut μ c sh = up (up (up μ 12 c to) 13 c lf) 11 c (-1 : Int32) ∧ 0 < lf ∧ (to = μ 10 (5 * c) ∨ to = μ 10 (5 * c + 1)) := by
    have p1 : vp_in (μ 1 (tn (μ 10 (5 * c)))) 100 := (hS' _ (tn_in g1)).2.2.2.2.2.2.2
    have p2 : vp_in (μ 1 (tn (μ 10 (5 * c + 1)))) 100 := (hS' _ (tn_in g2)).2.2.2.2.2.2.2
    by_cases e : nI sh = μ 10 (5 * c)
    · refine ⟨μ 10 (5 * c + 1), σ (53 + c) 5, ?_, ?_, by rw [f5]; exact m_max_pos _, Or.inr rfl⟩
      · unfold s_X0_setOut
        rw [if_pos (by rw [b6, f0, h11]; exact e)]
        simp only [ltt, f1]
        simp (disch := omega) only [up_neK]
      · unfold mOut
        rw [if_pos e]
        simp only [ltt]
        simp (disch := omega) only [up_row_ne, up_s]
        rw [f5, ← e, hts]
    · have e2 : nI sh = μ 10 (5 * c + 1) := by
        rcases hw with q | q
        · exact absurd (h11.symm.trans q) e
        · exact h11.symm.trans q
      refine ⟨μ 10 (5 * c), σ (53 + c) 5, ?_, ?_, by rw [f5]; exact m_max_pos _, Or.inl rfl⟩
      · unfold s_X0_setOut
        rw [if_neg (by rw [b6, f0, h11]; exact e)]
        simp only [ltt, f0]
        simp (disch := omega) only [up_neK]
      · unfold mOut
        rw [if_neg e]
        simp only [ltt]
        simp (disch := omega) only [up_row_ne, up_s]
        rw [f5, abs_sym p1 p2, ← e2, hts]
  obtain ⟨to, lf, k1, k2, k3, k4⟩ := key
  rw [k1, k2]
  refine ⟨?_, fun i hi => ?_, fun x hx => ?_, fun d hd => ?_, fun j hj => ?_⟩
  · unfold R0 at h0 ⊢
    simp (disch := omega) only [up_row_ne]
    exact h0
  · refine (hS i hi).cg ?_ ?_ ?_ ?_ <;> simp (disch := omega) only [up_row_ne]
  · refine (hU x hx).cg ?_ ?_ ?_ ?_ ?_ ?_ ?_ <;> simp (disch := omega) only [up_row_ne]
  · obtain ⟨a, b, w', d9', z⟩ := hC d hd
    refine ⟨fun hdc => (a hdc).cg (fun k hk => ?_) ?_ ?_, ?_, ?_, fun hdc => (d9' hdc).cg ?_ (fun v hv1 hv2 h4' h5' => ?_) hnU, fun hdz => (by simp (disch := omega) only [up_row_ne, up_neK]; exact z hdz)⟩
    · simp (disch := omega) only [up_row_ne, up_neK]
    · simp (disch := omega) only [up_row_ne]
    · simp (disch := omega) only [up_row_ne]
    · by_cases e : d = c
      · subst e
        refine ⟨⟨?_, ?_, ?_, ?_, ?_, ?_, ?_⟩, ?_⟩ <;> simp (disch := omega) only [up_s, up_row_ne, up_neK, b6, b9, b10, b11, b12, b13, b14]
        exact bt
      · refine b.cg2 (fun k _ _ _ => ?_) ?_ ?_ ?_ (fun j hj => ?_) <;> simp (disch := omega) only [up_row_ne, up_neK]
    · by_cases e : d = c
      · subst e
        refine Or.inl ⟨?_, ?_, ?_, ?_, ?_⟩ <;> simp (disch := omega) only [up_s, up_row_ne, up_neK]
        · exact k3
        · exact k4
      · refine w'.cg2 ?_ ?_ ?_ ?_ ?_ ?_ <;> simp (disch := omega) only [up_row_ne, up_neK]
    · simp (disch := omega) only [up_row_ne]
    · simp (disch := omega) only [up_row_ne]
      exact ⟨h4', h5'⟩
  · simp (disch := omega) only [up_row_ne]
    exact hr j hj
end SL
