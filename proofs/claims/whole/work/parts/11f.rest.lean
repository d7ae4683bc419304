/-! wouldGet, lasts, trust, digest; what a step needs -/
theorem St_wouldGet_ : St_wouldGet LI := by
  intro h σ μ hL hh6 x y
  obtain ⟨h0, nS, nU, nC, hh, hR⟩ := hL
  have hnS := hR.1.2.1.2.2
  have hnC := hR.1.2.2.2.1.2.2
  have no1 : ∀ {f g}, f = .inl "java/lang/IndexOutOfBoundsException" → g = (nI 0, (up μ.1 0 0 (nI 1), μ.2)) → Mt LI h cvB ["java/lang/IndexOutOfBoundsException"] f σ g := by
    intro f g hf hg
    subst hf hg
    exact mt_no (li_1 hh hR (nI 1)) (by decide) ((show codeOf ["java/lang/IndexOutOfBoundsException"] 1 "java/lang/IndexOutOfBoundsException" = nI 1 by decide).trans (up_s μ.1 0 0 (nI 1)).symm) (by decide)
  by_cases c1 : s_X6_isIn x (nI 0) (μ.2.1 0 12 - nI 1) = 0
  · exact no1 (xb_l (if_pos ((ckC hR x).trans c1))) (if_pos c1)
  · have k1 : ¬ s_X1_isCitizen σ.1 x = 0 := by rw [ckC hR]; exact c1
    by_cases c2 : s_X6_isIn y (nI 0) (μ.2.1 0 1 - nI 1) = 0
    · exact no1 ((xb_r (x := ()) (if_neg k1)).trans (xb_l (if_pos ((ckS hR y).trans c2)))) ((if_neg c1).trans (if_pos c2))
    · have k2 : ¬ s_X1_isShelter σ.1 y = 0 := by rw [ckS hR]; exact c2
      have hx := inC hR c1
      have hy := inS hR c2
      have ey : y = nI (tn y) := tn_eq hy (by omega)
      have f2 : s_X4_wouldGet σ x y = _ := (xb_r (x := ()) (if_neg k1)).trans (xb_r (x := ()) (if_neg k2))
      have m2 : s_X6_wouldGet μ x y = _ := (if_neg c1).trans (if_neg c2)
      have e10 : σ.1 (53 + tn x) 10 = μ.2.1 15 (tn x) := (hR.ci (tn_in hx)).2.1.1.2.2.1
      have e1 : σ.1 (5 + tn y) 1 = μ.2.1 2 (tn y) := (hR.sh (tn_in hy)).2.1
      have ef1 : s_X1_firstUmbrellaIn σ.1 y = s_X5_first μ.2.1 y := rd_first hR y
      have ew : s_X5_wouldGet μ.2.1 (tn x) (tn y) = if μ.2.1 15 (tn x) < μ.2.1 2 (tn y) then nI 0 else if s_X5_first μ.2.1 (nI (tn y)) = (-1 : Int32) then nI 0 else nI 1 := rfl
      rw [← ey] at ew
      have hl := li_1 hh hR (nI 0)
      by_cases c3 : μ.2.1 15 (tn x) < μ.2.1 2 (tn y)
      · rw [if_pos c3] at ew
        exact mt_i (f2.trans (if_pos (by rw [e10, e1]; exact c3))) (m2.trans (if_pos (ew.trans nI_0))) hl (up_s μ.1 0 0 (nI 0)) rfl
      · rw [if_neg c3] at ew
        have k3 : ¬ σ.1 (53 + tn x) 10 < σ.1 (5 + tn y) 1 := by rw [e10, e1]; exact c3
        by_cases c4 : s_X5_first μ.2.1 y = (-1 : Int32)
        · rw [if_pos c4] at ew
          exact mt_i (f2.trans ((if_neg k3).trans (if_pos (ef1.trans c4)))) (m2.trans (if_pos (ew.trans nI_0))) hl (up_s μ.1 0 0 (nI 0)) rfl
        · rw [if_neg c4] at ew
          exact mt_i (f2.trans ((if_neg k3).trans (if_neg (by rw [ef1]; exact c4)))) (m2.trans (if_neg (by rw [ew]; decide))) hl (up_s μ.1 0 0 (nI 0)) rfl
theorem lp_las (s : Sg × Sg) (m : MS) (x : Int32) {b : Nat} (hb : b < 24) (u : MS) (hr : ∀ i, i < 24 → s.1 1 i = u.1 1 i) (h4 : ¬ u.2.1 4 (tn x) = nI 3) : ∀ (n k : Nat) (w : Int32), k + n ≤ 200 → lp_X4_lasts_43 s x (nI b) n k w = .inr ((lp_X6_lasts_51 m x (nI b) n k w u).1, s) ∧ (lp_X6_lasts_51 m x (nI b) n k w u).2 = u := by
  intro n
  induction n with
  | zero => intro k w _; exact ⟨rfl, rfl⟩
  | succ n ih =>
    intro k w hk
    have ef : s_J9_floorMod_7cf53 (nI b + nI k) (nI 24) = nI ((b + k) % 24) := by rw [nI_add, fm_nI (b + k) (by omega)]
    have e1 : lp_X4_lasts_43 s x (nI b) (n + 1) k w = if w + s.1 1 (tn (s_J9_floorMod_7cf53 (nI b + nI k) (nI 24))) < nI 30 then lp_X4_lasts_43 s x (nI b) n (k + 1) (w + s.1 1 (tn (s_J9_floorMod_7cf53 (nI b + nI k) (nI 24)))) else .inr (nI (k + 1), s) := rfl
    have e2 : lp_X6_lasts_51 m x (nI b) (n + 1) k w u = if w + u.1 1 ((tn (nI b) + k) % 24) < nI 30 then lp_X6_lasts_51 m x (nI b) n (k + 1) (w + u.1 1 ((tn (nI b) + k) % 24)) u else (nI (k + 1), u) := if_neg h4
    rw [ef, tn_nI (show (b + k) % 24 < 2 ^ 31 by omega), hr ((b + k) % 24) (Nat.mod_lt _ (by decide))] at e1
    rw [tn_nI (show b < 2 ^ 31 by omega)] at e2
    rw [e1, e2]
    by_cases q : w + u.1 1 ((b + k) % 24) < nI 30
    · rw [if_pos q, if_pos q]
      exact ih (k + 1) _ (by omega)
    · rw [if_neg q, if_neg q]
      exact ⟨rfl, rfl⟩
theorem St_lasts_ : St_lasts LI := by
  intro h σ μ hL hh6 x y
  obtain ⟨h0, nS, nU, nC, hh, hR⟩ := hL
  by_cases c1 : s_X6_isIn x (nI 0) (nI (tn (μ.2.1 0 5)) - nI 1) = 0
  · exact mt_n (E := "java/lang/IndexOutOfBoundsException") (k := nI 1) hh hR (xb_l (if_pos ((ckU hR x).trans c1))) (if_pos c1) (by decide) (by decide) (by decide)
  · have k1 : ¬ s_X1_isUmbrella σ.1 x = 0 := by rw [ckU hR]; exact c1
    by_cases c2 : s_X6_isIn y (nI 0) (nI 23) = 0
    · exact mt_n (E := "java/lang/IndexOutOfBoundsException") (k := nI 1) hh hR ((xb_r (x := ()) (if_neg k1)).trans (xb_l (if_pos c2))) ((if_neg c1).trans (if_pos c2)) (by decide) (by decide) (by decide)
    · obtain ⟨b, -, hb, rfl⟩ := isIn_in (by decide) (by decide) c2
      have hx := inU hR c1
      have hR2 := rel_rho hR (nI 0)
      obtain ⟨⟨e0, e1, e2, e3, e4, e5⟩, -⟩ := hR.2.2.1 (tn x) (tn_in hx)
      have f2 : s_X4_lasts σ x (nI b) = _ := (xb_r (x := ()) (if_neg k1)).trans (xb_r (x := ()) (if_neg c2))
      have m2 : s_X6_lasts μ x (nI b) = lp_X6_lasts_51 μ x (nI b) 200 0 (μ.2.1 6 (tn x)) (up μ.1 0 0 (nI 0), μ.2) := (if_neg c1).trans (if_neg c2)
      by_cases c3 : μ.2.1 4 (tn x) = nI 3
      · have m3 : s_X6_lasts μ x (nI b) = ((-1 : Int32), (up μ.1 0 0 (nI 0), μ.2)) := m2.trans (if_pos c3)
        exact mt_i (f2.trans (if_pos (e0.trans c3))) m3 (li_1 hh hR (nI 0)) (up_s μ.1 0 0 (nI 0)) rfl
      · obtain ⟨l1, l2⟩ := lp_las σ μ x (show b < 24 by omega) (up μ.1 0 0 (nI 0), μ.2) (fun i hi => (hR2.2.2.2.2 i hi).1) c3 200 0 (μ.2.1 6 (tn x)) (by decide)
        have f3 : s_X4_lasts σ x (nI b) = lp_X4_lasts_43 σ x (nI b) 200 0 (σ.1 (13 + tn x) 2) := f2.trans (if_neg (by rw [e0]; exact c3))
        rw [e2, l1] at f3
        have m3 : s_X6_lasts μ x (nI b) = ((lp_X6_lasts_51 μ x (nI b) 200 0 (μ.2.1 6 (tn x)) (up μ.1 0 0 (nI 0), μ.2)).1, (up μ.1 0 0 (nI 0), μ.2)) := m2.trans (Prod.ext rfl l2)
        exact mt_i f3 m3 (li_1 hh hR (nI 0)) (up_s μ.1 0 0 (nI 0)) rfl
theorem St_trust_ : St_trust LI := by
  intro h σ μ hL
  obtain ⟨h0, nS, nU, nC, hh, hR⟩ := hL
  have ht := hR.tn
  have e7 := hR.1.2.2.2.1.1
  have hl : LI h σ (up μ.1 0 0 (nI 0), μ.2) := ⟨h0, nS, nU, nC, hh, rel_rho hR (nI 0)⟩
  by_cases c : nI nC = 0
  · have ef : s_X4_trust σ = (FP.dconst0, σ) := if_pos (e7.trans c)
    have eg : s_X6_trust μ = (FP.dconst0, (up μ.1 0 0 (nI 0), μ.2)) := if_pos (by rw [ht.2.2.2.2.2]; exact c)
    rw [ef, eg]
    exact ⟨rfl, hl⟩
  · have ef : s_X4_trust σ = (FP.ddiv (FP.i2d (s_X1_trustOfAll σ.1)) (FP.i2d (σ.1 0 7)), σ) := if_neg (by rw [e7]; exact c)
    have eg : s_X6_trust μ = (FP.ddiv (FP.i2d (s_X5_over μ.2.1 (nI 1))) (FP.i2d (nI (tn (μ.2.1 0 12)))), (up μ.1 0 0 (nI 0), μ.2)) := if_neg (by rw [ht.2.2.2.2.2]; exact c)
    rw [ef, eg, rd_trust hR, e7, ht.2.2.2.2.2]
    exact ⟨rfl, hl⟩
section DG
variable {mS mC h nS nU nC : Nat} {σ μ ρ : Sg}
theorem dg_A (s : Sg × Sg) (m u : MS) (hR : Rel mS mC h nS nU nC s.1 u.2.1 u.1) : ∀ (n k : Nat) (d : Int64), k + n ≤ 11 → lp_X6_digest_11 m n k d u = (lp_X4_digest_6 s n k d, u) := by
  intro n
  induction n with
  | zero => intro k d _; rfl
  | succ n ih =>
    intro k d hk
    have e := told_A hR u.2.2 (show k < 11 by omega)
    have e1 : lp_X4_digest_6 s (n + 1) k d = lp_X4_digest_6 s n (k + 1) ((d * (31 : Int64)) + ((s_X1_tellAll s.1 (nI k)).toInt64)) := rfl
    have e2 : lp_X6_digest_11 m (n + 1) k d u = lp_X6_digest_11 m n (k + 1) ((d * (31 : Int64)) + ((s_X6_counted (u.1, (u.2.1, u.2.2)) (nI k)).toInt64)) u := rfl
    rw [e1, e2, ← e]
    exact ih (k + 1) _ (by omega)
theorem dg_R (s : Sg × Sg) (m u : MS) (hr : ∀ i, i < 24 → s.1 1 i = u.1 1 i) : ∀ (n k : Nat) (d : Int64), k + n ≤ 24 → lp_X6_digest_38 m n k d u = (lp_X4_digest_36 s n k d, u) := by
  intro n
  induction n with
  | zero => intro k d _; rfl
  | succ n ih =>
    intro k d hk
    have e1 : lp_X4_digest_36 s (n + 1) k d = lp_X4_digest_36 s n (k + 1) ((d * (31 : Int64)) + ((s.1 1 k).toInt64)) := rfl
    have e2 : lp_X6_digest_38 m (n + 1) k d u = lp_X6_digest_38 m n (k + 1) ((d * (31 : Int64)) + ((u.1 1 k).toInt64)) u := rfl
    rw [e1, e2, hr k (by omega)]
    exact ih (k + 1) _ (by omega)
theorem dg_S1 (s : Sg × Sg) (m u : MS) (hR : Rel mS mC h nS nU nC s.1 u.2.1 u.1) {i : Nat} (hi : i < nS) : ∀ (n k : Nat) (d : Int64), k + n ≤ 8 → lp_X6_digest_80 m i n k d u = (lp_X4_digest_81 s i n k d, u) := by
  intro n
  induction n with
  | zero => intro k d _; rfl
  | succ n ih =>
    intro k d hk
    have e := told_S hR u.2.2 hi (show k < 8 by omega)
    have e1 : lp_X4_digest_81 s i (n + 1) k d = lp_X4_digest_81 s i n (k + 1) ((d * (31 : Int64)) + ((s_X1_tellShelter s.1 (nI i) (nI k)).toInt64)) := rfl
    have e2 : lp_X6_digest_80 m i (n + 1) k d u = lp_X6_digest_80 m i n (k + 1) ((d * (31 : Int64)) + ((s_X6_shelterTold (u.1, (u.2.1, u.2.2)) i (nI k)).toInt64)) u := rfl
    rw [e1, e2, ← e]
    exact ih (k + 1) _ (by omega)
theorem dg_U1 (s : Sg × Sg) (m u : MS) (hR : Rel mS mC h nS nU nC s.1 u.2.1 u.1) {i : Nat} (hi : i < nU) : ∀ (n k : Nat) (d : Int64), k + n ≤ 6 → lp_X6_digest_130 m i n k d u = (lp_X4_digest_134 s i n k d, u) := by
  intro n
  induction n with
  | zero => intro k d _; rfl
  | succ n ih =>
    intro k d hk
    have e := told_U hR u.2.2 hi (show k < 6 by omega)
    have e1 : lp_X4_digest_134 s i (n + 1) k d = lp_X4_digest_134 s i n (k + 1) ((d * (31 : Int64)) + ((s_X3_tell s.1 i (nI k)).toInt64)) := rfl
    have e2 : lp_X6_digest_130 m i (n + 1) k d u = lp_X6_digest_130 m i n (k + 1) ((d * (31 : Int64)) + ((s_X6_umbrellaTold (u.1, (u.2.1, u.2.2)) i (nI k)).toInt64)) u := rfl
    rw [e1, e2, ← e]
    exact ih (k + 1) _ (by omega)
theorem dg_C1 (s : Sg × Sg) (m u : MS) (hR : Rel mS mC h nS nU nC s.1 u.2.1 u.1) {i : Nat} (hi : i < nC) : ∀ (n k : Nat) (d : Int64), k + n ≤ 10 → lp_X6_digest_180 m i n k d u = (lp_X4_digest_191 s i n k d, u) := by
  intro n
  induction n with
  | zero => intro k d _; rfl
  | succ n ih =>
    intro k d hk
    have e := told_C hR u.2.2 hi (show k < 10 by omega)
    have e1 : lp_X4_digest_191 s i (n + 1) k d = lp_X4_digest_191 s i n (k + 1) ((d * (31 : Int64)) + ((s_X0_tell s.1 i (nI k)).toInt64)) := rfl
    have e2 : lp_X6_digest_180 m i (n + 1) k d u = lp_X6_digest_180 m i n (k + 1) ((d * (31 : Int64)) + ((s_X6_citizenTold (u.1, (u.2.1, u.2.2)) i (nI k)).toInt64)) u := rfl
    rw [e1, e2, ← e]
    exact ih (k + 1) _ (by omega)
theorem dg_S (s : Sg × Sg) (m u : MS) (hR : Rel mS mC h nS nU nC s.1 u.2.1 u.1) : ∀ (n k : Nat) (d : Int64), k + n ≤ nS → lp_X6_digest_66 m n k d u = (lp_X4_digest_67 s n k d, u) := by
  intro n
  induction n with
  | zero => intro k d _; rfl
  | succ n ih =>
    intro k d hk
    have e1 : lp_X4_digest_67 s (n + 1) k d = lp_X4_digest_67 s n (k + 1) (lp_X4_digest_81 s k 8 0 d) := rfl
    have e2 : lp_X6_digest_66 m (n + 1) k d u = lp_X6_digest_66 m n (k + 1) (lp_X6_digest_80 m k 8 0 d u).1 (lp_X6_digest_80 m k 8 0 d u).2 := rfl
    rw [e1, e2, dg_S1 s m u hR (show k < nS by omega) 8 0 d (by decide)]
    exact ih (k + 1) _ (by omega)
theorem dg_U (s : Sg × Sg) (m u : MS) (hR : Rel mS mC h nS nU nC s.1 u.2.1 u.1) : ∀ (n k : Nat) (d : Int64), k + n ≤ nU → lp_X6_digest_116 m n k d u = (lp_X4_digest_120 s n k d, u) := by
  intro n
  induction n with
  | zero => intro k d _; rfl
  | succ n ih =>
    intro k d hk
    have e1 : lp_X4_digest_120 s (n + 1) k d = lp_X4_digest_120 s n (k + 1) (lp_X4_digest_134 s k 6 0 d) := rfl
    have e2 : lp_X6_digest_116 m (n + 1) k d u = lp_X6_digest_116 m n (k + 1) (lp_X6_digest_130 m k 6 0 d u).1 (lp_X6_digest_130 m k 6 0 d u).2 := rfl
    rw [e1, e2, dg_U1 s m u hR (show k < nU by omega) 6 0 d (by decide)]
    exact ih (k + 1) _ (by omega)
theorem dg_C (s : Sg × Sg) (m u : MS) (hR : Rel mS mC h nS nU nC s.1 u.2.1 u.1) : ∀ (n k : Nat) (d : Int64), k + n ≤ nC → lp_X6_digest_166 m n k d u = (lp_X4_digest_177 s n k d, u) := by
  intro n
  induction n with
  | zero => intro k d _; rfl
  | succ n ih =>
    intro k d hk
    have e1 : lp_X4_digest_177 s (n + 1) k d = lp_X4_digest_177 s n (k + 1) (lp_X4_digest_191 s k 10 0 d) := rfl
    have e2 : lp_X6_digest_166 m (n + 1) k d u = lp_X6_digest_166 m n (k + 1) (lp_X6_digest_180 m k 10 0 d u).1 (lp_X6_digest_180 m k 10 0 d u).2 := rfl
    rw [e1, e2, dg_C1 s m u hR (show k < nC by omega) 10 0 d (by decide)]
    exact ih (k + 1) _ (by omega)
end DG
theorem St_digest_ : St_digest LI := by
  intro h σ μ hL
  obtain ⟨h0, nS, nU, nC, hh, hR⟩ := hL
  have ht := hR.tn
  have hR2 := rel_rho hR (nI 0)
  have hl : LI h σ (up μ.1 0 0 (nI 0), μ.2) := ⟨h0, nS, nU, nC, hh, hR2⟩
  have eg : s_X6_digest μ = ((s_X4_digest σ).1, (up μ.1 0 0 (nI 0), μ.2)) := by
    unfold s_X6_digest s_X4_digest
    simp only [ltt]
    rw [dg_A σ μ (up μ.1 0 0 (nI 0), μ.2) hR2 11 0 _ (by decide)]
    simp only
    rw [dg_R σ μ (up μ.1 0 0 (nI 0), μ.2) (fun i hi => (hR2.2.2.2.2 i hi).1) 24 0 _ (by decide)]
    simp only
    rw [ht.1, ht.2.1, ht.2.2.1, ht.2.2.2.1, ht.2.2.2.2.1, ht.2.2.2.2.2]
    rw [dg_S σ μ (up μ.1 0 0 (nI 0), μ.2) hR2 nS 0 _ (by omega)]
    simp only
    rw [dg_U σ μ (up μ.1 0 0 (nI 0), μ.2) hR2 nU 0 _ (by omega)]
    simp only
    rw [dg_C σ μ (up μ.1 0 0 (nI 0), μ.2) hR2 nC 0 _ (by omega)]
  rw [eg]
  exact ⟨rfl, hl⟩
theorem nan_ok : ∀ s, s < 101 → ∀ n, n < 11 → n = 0 ∨ FP.ddiv (FP.i2d (nI s)) (FP.i2d (nI n)) &&& 0x7fffffffffffffff ≤ 0x7ff0000000000000 := by decide +kernel
theorem tr_sum {μ : Sg} {nC : Nat} (h : ∀ c, c < nC → vp_in (μ 15 c) 11) : ∀ (n k a : Nat), k + n ≤ nC → nC ≤ 10 → a ≤ 10 * k → ∃ b, b ≤ 10 * (k + n) ∧ lp_X5_over_4 μ (nI 1) n k (nI a) = nI b := by
  intro n
  induction n with
  | zero => intro k a _ _ ha; exact ⟨a, ha, rfl⟩
  | succ n ih =>
    intro k a hk hn ha
    obtain ⟨j, hj, e⟩ := vp_in_of (h k (by omega)) (by decide)
    have e1 : lp_X5_over_4 μ (nI 1) (n + 1) k (nI a) = lp_X5_over_4 μ (nI 1) n (k + 1) (nI a + μ 15 k) := by
      conv => lhs; unfold lp_X5_over_4
      rw [if_neg (show ¬ nI 1 = 0 by decide), if_pos rfl]
    rw [e1, e, nI_add, show k + (n + 1) = k + 1 + n by omega]
    exact ih (k + 1) (a + j) (by omega) hn (by omega)
theorem LI_ok : LIok IV LI := by
  refine ⟨IV_Q, ?_⟩
  rintro h σ μ ⟨h0, nS, nU, nC, hh, hR⟩
  have ht := hR.tn
  have hnC := hR.1.2.2.2.1.2.2
  have e7 := hR.1.2.2.2.1.1
  have e12 := hR.1.2.2.2.1.2.1
  have key : nC ≠ 0 → vf_n64 (FP.ddiv (FP.i2d (s_X5_over μ.2.1 (nI 1))) (FP.i2d (nI nC))) := by
    intro q
    have eo : s_X5_over μ.2.1 (nI 1) = lp_X5_over_4 μ.2.1 (nI 1) nC 0 (nI 0) := by
      unfold s_X5_over
      simp only [ltt]
      rw [ht.2.2.2.2.2]
    obtain ⟨b, hb, e⟩ := tr_sum (fun c hc => (hR.ci hc).2.1.2) nC 0 0 (by omega) hnC (by omega)
    rw [eo, e]
    exact (nan_ok b (by omega) nC (by omega)).resolve_left q
  refine ⟨hR.okR, hR.okN, ⟨h0, hh, σ.1, 8, 10, nS, nU, nC, hR⟩, fun q => ?_, fun q => ?_⟩
  · rw [rd_trust hR, e7]
    refine key (fun z => q ?_)
    rw [e7, z]
    exact nI_0
  · rw [ht.2.2.2.2.2]
    refine key (fun z => q ?_)
    rw [e12, z]
    exact nI_0
