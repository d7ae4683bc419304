theorem lp_bring (s : Sg × Sg) (m : MS) (x y : Int32) {mS mC h nS nC : Nat} (hx : vp_in x nS) : ∀ (n k nU : Nat) (τ : Sg × Sg) (u : MS), nU + n ≤ 40 → Rel mS mC h nS nU nC τ.1 u.2.1 u.1 → Rel mS mC h nS (nU + n) nC (lp_X4_bring_51 s x y n k τ).1 (lp_X6_bring_57 m x y n k u).2.1 (lp_X6_bring_57 m x y n k u).1 ∧ (lp_X6_bring_57 m x y n k u).1 = u.1 := by
  intro n
  induction n with
  | zero => intro k nU τ u _ hR; exact ⟨hR, rfl⟩
  | succ n ih =>
    intro k nU τ u hb hR
    have h1 := sim_bring hR (by omega) hx
    have e1 : lp_X4_bring_51 s x y (n + 1) k τ = lp_X4_bring_51 s x y n (k + 1) (s_X1_addUmbrella τ.1 x, τ.2) := rfl
    have e2 : lp_X6_bring_57 m x y (n + 1) k u = lp_X6_bring_57 m x y n (k + 1) (u.1, (s_X5_bring u.2.1 x, u.2.2)) := rfl
    rw [e1, e2, show nU + (n + 1) = nU + 1 + n by omega]
    exact ih (k + 1) (nU + 1) (s_X1_addUmbrella τ.1 x, τ.2) (u.1, (s_X5_bring u.2.1 x, u.2.2)) (by omega) h1
theorem St_bring_ : St_bring LI := by
  intro h σ μ hL hh6 x y
  obtain ⟨h0, nS, nU, nC, hh, hR⟩ := hL
  have ht := hR.tn
  by_cases c1 : s_X6_isIn x (nI 0) (μ.2.1 0 1 - nI 1) = 0
  · exact mt_n (E := "java/lang/IndexOutOfBoundsException") (k := nI 1) hh hR (xb_l (if_pos ((ckS hR x).trans c1))) (if_pos c1) (by decide) (by decide) (by decide)
  · have k1 : ¬ s_X1_isShelter σ.1 x = 0 := by rw [ckS hR]; exact c1
    by_cases c2 : s_X6_isIn y (nI 1) (nI 10) = 0
    · exact mt_n (E := "java/lang/IllegalArgumentException") (k := nI 2) hh hR ((xb_r (x := ()) (if_neg k1)).trans (if_pos c2)) ((if_neg c1).trans (if_pos c2)) (by decide) (by decide) (by decide)
    · obtain ⟨j, h1, h10, rfl⟩ := isIn_in (by decide) (by decide) c2
      have hj : tn (nI j) = j := tn_nI (by omega)
      have hx := inS hR c1
      have hnU := hR.1.2.2.1.2.2
      have e6 := hR.1.2.2.1.1
      have en := nI_toInt (n := nU) (by omega)
      have e40 : (nI 40).toInt = 40 := by decide
      have ejt := nI_toInt (n := j) (by omega)
      have ed : (nI 40 - nI nU).toInt = (40 : Int) - nU := by rw [Int32.toInt_sub, en, e40, Int.bmod_eq_of_le_mul_two (by omega) (by omega)]
      by_cases c3 : nU + j ≤ 40
      · have k3 : nI j ≤ nI 40 - σ.1 0 6 := by rw [e6, Int32.le_iff_toInt_le, ed, ejt]; omega
        have m3 : nI (tn (μ.2.1 0 5) + tn (nI j)) ≤ nI 40 := by rw [ht.2.2.2.1, hj, nI_leI (by omega) (by omega)]; exact c3
        have ef : s_X4_bring σ x (nI j) = .inr ((lp_X4_bring_51 σ x (nI j) (tn (nI j)) 0 σ).1 0 6, lp_X4_bring_51 σ x (nI j) (tn (nI j)) 0 σ) := (xb_r (x := ()) (if_neg k1)).trans ((if_neg c2).trans (if_pos k3))
        have eg : s_X6_bring μ x (nI j) = ((lp_X6_bring_57 μ x (nI j) (tn (nI j)) 0 (up μ.1 0 0 (nI 0), μ.2)).2.1 0 5, lp_X6_bring_57 μ x (nI j) (tn (nI j)) 0 (up μ.1 0 0 (nI 0), μ.2)) := (if_neg c1).trans ((if_neg c2).trans (if_pos m3))
        rw [hj] at ef eg
        obtain ⟨g1, g2⟩ := lp_bring σ μ x (nI j) hx j 0 nU σ (up μ.1 0 0 (nI 0), μ.2) c3 (rel_rho hR (nI 0))
        refine mt_i ef eg ⟨h0, nS, nU + j, nC, by omega, g1⟩ ?_ ?_
        · rw [g2]; exact up_s μ.1 0 0 (nI 0)
        · rw [g1.1.2.2.1.1, g1.1.2.2.1.2.1]
      · have k3 : ¬ nI j ≤ nI 40 - σ.1 0 6 := by rw [e6, Int32.le_iff_toInt_le, ed, ejt]; omega
        have m3 : ¬ nI (tn (μ.2.1 0 5) + tn (nI j)) ≤ nI 40 := by rw [ht.2.2.2.1, hj, nI_leI (by omega) (by omega)]; exact c3
        exact mt_n (E := "java/lang/IllegalStateException") (k := nI 3) hh hR ((xb_r (x := ()) (if_neg k1)).trans ((if_neg c2).trans (if_neg k3))) ((if_neg c1).trans ((if_neg c2).trans (if_neg m3))) (by decide) (by decide) (by decide)
def addC (σ : Sg) (n : Nat) (x y z w v q : Int32) : Sg := up (up (up (up (up (up (up (up (up (up (up σ (53 + n) 0 x) (53 + n) 1 y) (53 + n) 5 q) (53 + n) 6 x) (53 + n) 7 x) (53 + n) 9 (-1 : Int32)) (53 + n) 10 (nI 5)) (53 + n) 2 z) (53 + n) 3 w) (53 + n) 4 v) 0 7 (nI (n + 1))
def addM (μ : Sg) (n : Nat) (x : Int32) (g : Nat → Int32) : Sg := up (up (up (up (upr μ 10 g) 11 n x) 14 n (-1 : Int32)) 15 n (nI 5)) 0 12 (nI (n + 1))
theorem sim_add {mS h nS nU nC : Nat} {σ μ ρ : Sg} {x y z w v : Int32} {g : Nat → Int32} (hR : Rel mS 10 h nS nU nC σ μ ρ) (hn : nC < 10) (hx : vp_in x nS) (hy : vp_in y nS) (hxy : ¬ x = y) (hv : vp_in v 10) (hv0 : ¬ v = 0) (g0 : g (5 * nC) = x) (g1 : g (5 * nC + 1) = y) (g2 : g (5 * nC + 2) = z) (g3 : g (5 * nC + 3) = w) (g4 : g (5 * nC + 4) = v) (go : ∀ b, (b < 5 * nC ∨ 5 * nC + 5 ≤ b) → g b = μ 10 b) : Rel mS 10 h nS nU (nC + 1) (addC σ nC x y z w v (m_max (nI 1) (m_abs (σ (5 + tn x) 0 - σ (5 + tn y) 0) / nI 10))) (addM μ nC x g) ρ := by
  have hS' : ∀ i, i < nS → SRel σ μ i := fun i hi => hR.sh hi
  have hm := hR.1.2.2.2.2.2
  obtain ⟨h0, hS, hU, hC, hr⟩ := hR
  have hnU := h0.2.2.1.2.2
  have hnS := h0.2.1.2.2
  have hnC := h0.2.2.2.1.2.2
  have px := (hS' _ (tn_in hx)).1
  have py := (hS' _ (tn_in hy)).1
  rw [px, py]
  obtain ⟨⟨r1, r2⟩, ⟨r3, r4, r5⟩, ⟨r6, r7, r8⟩, ⟨r9, r10, r11⟩, r12, rm⟩ := h0
  unfold addC addM
  refine ⟨⟨⟨?_, ?_⟩, ⟨?_, ?_, hnS⟩, ⟨?_, ?_, hnU⟩, ⟨?_, ?_, by omega⟩, ?_, by omega⟩, fun i hi => ?_, fun u hu => ?_, fun d hd => ?_, fun j hj => ?_⟩
  · simp (disch := omega) only [up_row_ne, upr_ne, up_neK, r1]
  · simp (disch := omega) only [up_row_ne, upr_ne, up_neK, r2]
  · simp (disch := omega) only [up_row_ne, upr_ne, up_neK, r3]
  · simp (disch := omega) only [up_row_ne, upr_ne, up_neK, r4]
  · simp (disch := omega) only [up_row_ne, upr_ne, up_neK, r6]
  · simp (disch := omega) only [up_row_ne, upr_ne, up_neK, r7]
  · simp (disch := omega) only [up_s]
  · simp (disch := omega) only [up_s]
  · simp (disch := omega) only [up_row_ne, upr_ne, up_neK, r12]
  · refine (hS i hi).cg ?_ ?_ ?_ ?_ <;> simp (disch := omega) only [up_row_ne, upr_ne]
  · refine (hU u hu).cg ?_ ?_ ?_ ?_ ?_ ?_ ?_ <;> simp (disch := omega) only [up_row_ne, upr_ne]
  · obtain ⟨a, b, w', d9', z'⟩ := hC d hd
    by_cases e : d = nC
    · subst e
      obtain ⟨⟨b6, b9, b10, b11, b12, b13, b14⟩, bt⟩ := b
      refine ⟨fun _ => ⟨⟨?_, ?_, ?_, ?_, ?_⟩, ⟨?_, ?_, ?_, ?_, ?_⟩, ?_⟩, ⟨⟨?_, ?_, ?_, ?_, ?_, ?_, ?_⟩, ?_⟩, Or.inr ⟨?_, ?_⟩, fun _ => Or.inl ?_, fun q => absurd q (by omega)⟩ <;> simp (disch := omega) only [up_s, up_row_ne, up_neK, upr_row, upr_ne, g0, g1, g2, g3, g4, b11, b12, b13, b14]
      · exact hx
      · exact hy
      · exact hxy
      · exact hv
      · exact hv0
      · exact vp_in_nI (by decide) (by decide)
      · exact z' (Nat.le_refl _)
      · exact Or.inl trivial
    · have o0 := go (5 * d) (by omega)
      have o1 := go (5 * d + 1) (by omega)
      have o2 := go (5 * d + 2) (by omega)
      have o3 := go (5 * d + 3) (by omega)
      have o4 := go (5 * d + 4) (by omega)
      refine ⟨fun hdc => ?_, b.cg ?_ ?_ ?_ ?_ (fun j _ => ?_), ?_, fun hdc => (d9' (by omega)).cg ?_ (fun v hv1 hv2 h4' h5' => ?_) hnU, fun hdz => ?_⟩
      · have a2 := a (by omega)
        unfold CFix at a2 ⊢
        simp (disch := omega) only [up_row_ne, up_neK, upr_row, upr_ne, o0, o1, o2, o3, o4]
        exact a2
      · simp (disch := omega) only [up_row_ne]
      · simp (disch := omega) only [up_row_ne, up_neK, upr_ne]
      · simp (disch := omega) only [up_row_ne, up_neK, upr_ne]
      · simp (disch := omega) only [up_row_ne, up_neK, upr_ne]
      · simp (disch := omega) only [up_row_ne, up_neK, upr_ne]
      · unfold CWay at w' ⊢
        simp (disch := omega) only [up_row_ne, up_neK, upr_row, upr_ne, o0, o1]
        exact w'
      · simp (disch := omega) only [up_row_ne, up_neK, upr_ne]
      · simp (disch := omega) only [up_row_ne, up_neK, upr_ne]
        exact ⟨h4', h5'⟩
      · simp (disch := omega) only [up_row_ne, up_neK, upr_ne]
        exact z' (by omega)
  · simp (disch := omega) only [up_row_ne]
    exact hr j hj
theorem St_addCitizen_ : St_addCitizen LI := by
  intro h σ μ hL hh6 x y z w v
  obtain ⟨h0, nS, nU, nC, hh, hR⟩ := hL
  have ht := hR.tn
  have hnS := hR.1.2.1.2.2
  have hnC := hR.1.2.2.2.1.2.2
  by_cases c1 : s_X6_isIn x (nI 0) (μ.2.1 0 1 - nI 1) = 0
  · exact mt_n (E := "java/lang/IndexOutOfBoundsException") (k := nI 1) hh hR (xb_l (if_pos ((ckS hR x).trans c1))) (if_pos c1) (by decide) (by decide) (by decide)
  · have k1 : ¬ s_X1_isShelter σ.1 x = 0 := by rw [ckS hR]; exact c1
    by_cases c2 : s_X6_isIn y (nI 0) (μ.2.1 0 1 - nI 1) = 0
    · exact mt_n (E := "java/lang/IndexOutOfBoundsException") (k := nI 1) hh hR ((xb_r (x := ()) (if_neg k1)).trans (xb_l (if_pos ((ckS hR y).trans c2)))) ((if_neg c1).trans (if_pos c2)) (by decide) (by decide) (by decide)
    · have k2 : ¬ s_X1_isShelter σ.1 y = 0 := by rw [ckS hR]; exact c2
      have no2 : ∀ {f g}, f = .inl "java/lang/IllegalArgumentException" → g = (nI 0, (up (up μ.1 0 0 (nI 0)) 0 0 (nI 2), μ.2)) → Mt LI h cvI ["java/lang/IndexOutOfBoundsException", "java/lang/IllegalArgumentException", "java/lang/IllegalStateException"] f σ g := fun hf hg => mt_n (E := "java/lang/IllegalArgumentException") (k := nI 2) hh hR hf hg (by decide) (by decide) (by decide)
      by_cases c3 : x = y
      · exact no2 ((xb_r (x := ()) (if_neg k1)).trans ((xb_r (x := ()) (if_neg k2)).trans (if_pos c3))) ((if_neg c1).trans ((if_neg c2).trans (if_pos c3)))
      · have f3 : s_X4_addCitizen σ x y z w v = _ := (xb_r (x := ()) (if_neg k1)).trans ((xb_r (x := ()) (if_neg k2)).trans (if_neg c3))
        have m3 : s_X6_addCitizen μ x y z w v = _ := (if_neg c1).trans ((if_neg c2).trans (if_neg c3))
        by_cases c4 : z = w
        · by_cases c5 : s_X6_isIn z (nI 0) (nI 23) = 0
          · exact no2 (f3.trans (if_pos c4)) (m3.trans (if_pos c5))
          · by_cases c6 : s_X6_isIn w (nI 0) (nI 23) = 0
            · exact no2 (f3.trans (if_pos c4)) (m3.trans ((if_neg c5).trans (if_pos c6)))
            · exact no2 (f3.trans (if_pos c4)) (m3.trans ((if_neg c5).trans ((if_neg c6).trans (if_pos c4))))
        · by_cases c5 : s_X6_isIn z (nI 0) (nI 23) = 0
          · exact no2 (f3.trans ((if_neg c4).trans (if_pos c5))) (m3.trans (if_pos c5))
          · by_cases c6 : s_X6_isIn w (nI 0) (nI 23) = 0
            · exact no2 (f3.trans ((if_neg c4).trans ((if_neg c5).trans (if_pos c6)))) (m3.trans ((if_neg c5).trans (if_pos c6)))
            · have f6 := f3.trans ((if_neg c4).trans ((if_neg c5).trans (if_neg c6)))
              have m6 := m3.trans ((if_neg c5).trans ((if_neg c6).trans (if_neg c4)))
              by_cases c7 : s_X6_isIn v (nI 1) (nI 9) = 0
              · exact no2 (f6.trans (if_pos c7)) (m6.trans (if_pos c7))
              · by_cases c8 : nC = 10
                · have k8 : ¬ σ.1 0 7 < nI 10 := by rw [hR.1.2.2.2.1.1, c8]; decide
                  have m8 : nI (tn (μ.2.1 0 12)) = nI 10 := by rw [ht.2.2.2.2.2, c8]
                  exact mt_n (E := "java/lang/IllegalStateException") (k := nI 3) hh hR (f6.trans ((if_neg c7).trans (if_neg k8))) (m6.trans ((if_neg c7).trans (if_pos m8))) (by decide) (by decide) (by decide)
                · have hlt : nC < 10 := by omega
                  have k8 : σ.1 0 7 < nI 10 := by rw [hR.1.2.2.2.1.1, nI_ltI (by omega) (by omega)]; exact hlt
                  have m8 : ¬ nI (tn (μ.2.1 0 12)) = nI 10 := by rw [ht.2.2.2.2.2, nI_eq (by omega) (by omega)]; exact c8
                  have hx := inS hR c1
                  have hy := inS hR c2
                  obtain ⟨j, j1, j9, rfl⟩ := isIn_in (by decide) (by decide) c7
                  have eq9 : s_X1_hoursBetween σ.1 x y = m_max (nI 1) (m_abs (σ.1 (5 + tn x) 0 - σ.1 (5 + tn y) 0) / nI 10) := (if_neg k1).trans (if_neg k2)
                  have ea : s_X1_addPerson σ.1 x y z w (nI j) = (nI (nC + 1) - nI 1, addC σ.1 nC x y z w (nI j) (m_max (nI 1) (m_abs (σ.1 (5 + tn x) 0 - σ.1 (5 + tn y) 0) / nI 10))) := by
                    unfold s_X1_addPerson
                    rw [ht.2.2.2.2.1, if_pos (by rw [nI_ltI (by omega) (by omega)]; exact hlt)]
                    unfold s_X0_settle
                    simp only [ltt, up_s]
                    rw [eq9]
                    rfl
                  have ef : s_X4_addCitizen σ x y z w (nI j) = .inr ((s_X1_addPerson σ.1 x y z w (nI j)).1, ((s_X1_addPerson σ.1 x y z w (nI j)).2, σ.2)) := f6.trans ((if_neg c7).trans (if_pos k8))
                  have eg : s_X6_addCitizen μ x y z w (nI j) = (nI (tn (μ.2.1 0 12) + 1) - nI 1, (up μ.1 0 0 (nI 0), (addM μ.2.1 (tn (μ.2.1 0 12)) x (va_cpy (upd (upd (upd (upd (upd (fun _ => (0 : Int32)) 0 x) 1 y) 2 z) 3 w) 4 (nI j)) (μ.2.1 10) 0 (5 * (tn (μ.2.1 0 12))) 5), μ.2.2))) := by
                    refine (m6.trans ((if_neg c7).trans (if_neg m8))).trans ?_
                    simp only [ltt, up_s]
                    rfl
                  rw [ea] at ef
                  rw [ht.2.2.2.2.2] at eg
                  refine mt_i ef eg ⟨h0, nS, nU, nC + 1, by omega, ?_⟩ (up_s μ.1 0 0 (nI 0)) rfl
                  refine sim_add (rel_rho hR (nI 0)) hlt hx hy c3 (vp_in_nI (by omega) (by decide)) (nI_ne0 (by omega) (by omega)) ?_ ?_ ?_ ?_ ?_ (fun b hb => ?_)
                  · unfold va_cpy; rw [if_pos (by omega)]; simp [upd]
                  · unfold va_cpy; rw [if_pos (by omega)]; simp [upd]
                  · unfold va_cpy; rw [if_pos (by omega)]; simp [upd]
                  · unfold va_cpy; rw [if_pos (by omega)]; simp [upd]
                  · unfold va_cpy; rw [if_pos (by omega)]; simp [upd]
                  · unfold va_cpy; rw [if_neg (by omega)]
