/-! what holds between two calls -/
def LI (h : Nat) (σ : Sg × Sg) (μ : MS) : Prop := ∃ h0 nS nU nC, h0 ≤ h ∧ Rel 8 10 h0 nS nU nC σ.1 μ.2.1 μ.1
theorem mt_no {h : Nat} {cv : Int32 → Int64} {hs : List String} {E : String} {σ : Sg × Sg} {g : Int32 × MS} (hl : LI (h + 100) σ g.2) (hE : E ∈ hs) (hk : codeOf hs 1 E = g.2.1 0 0) (h0 : ¬ codeOf hs 1 E = 0) : Mt LI h cv hs (.inl E) σ g :=
  ⟨fun E' e => Sum.inl.inj e ▸ hE, fun _ => ⟨hk, fun q => absurd q h0, hl⟩⟩
theorem mt_in {h : Nat} {cv : Int32 → Int64} {hs : List String} {r : Int32} {σ v : Sg × Sg} {g : Int32 × MS} (hl : LI (h + 100) v g.2) (h0 : g.2.1 0 0 = nI 0) (hr : r = g.1) : Mt LI h cv hs (.inr (r, v)) σ g := by
  refine ⟨fun E e => (nomatch e), fun fo => ⟨h0.symm, fun _ => ?_, hl⟩⟩
  subst hr
  show vp_updL fo 0 (cv g.1) 0 = cv g.1
  simp [vp_updL]
theorem li_of {h h0 nS nU nC : Nat} {σ : Sg × Sg} {μ : MS} (hh : h0 ≤ h) (hR : Rel 8 10 h0 nS nU nC σ.1 μ.2.1 μ.1) : LI (h + 100) σ μ := ⟨h0, nS, nU, nC, by omega, hR⟩
theorem li_1 {h h0 nS nU nC : Nat} {σ : Sg × Sg} {μ : MS} (hh : h0 ≤ h) (hR : Rel 8 10 h0 nS nU nC σ.1 μ.2.1 μ.1) (a : Int32) : LI (h + 100) σ (up μ.1 0 0 a, μ.2) := ⟨h0, nS, nU, nC, by omega, rel_rho hR a⟩
theorem li_2 {h h0 nS nU nC : Nat} {σ : Sg × Sg} {μ : MS} (hh : h0 ≤ h) (hR : Rel 8 10 h0 nS nU nC σ.1 μ.2.1 μ.1) (a b : Int32) : LI (h + 100) σ (up (up μ.1 0 0 a) 0 0 b, μ.2) := ⟨h0, nS, nU, nC, by omega, rel_rho (rel_rho hR a) b⟩
/-! the checks -/
theorem ck_eq {n : Nat} (hn : n ≤ 40) (x : Int32) : (if x < 0 then nI 0 else if nI n ≤ x then nI 0 else nI 1) = s_X6_isIn x (nI 0) (nI n - nI 1) := by
  have e1 : (nI 1).toInt = 1 := by decide
  have en := nI_toInt (n := n) (by omega)
  have ed : (nI n - nI 1).toInt = (n : Int) - 1 := by rw [Int32.toInt_sub, en, e1, Int.bmod_eq_of_le_mul_two (by omega) (by omega)]
  unfold s_X6_isIn
  by_cases c : x < 0
  · rw [if_pos c, if_pos (show x < nI 0 by rw [nI_0]; exact c)]
  · rw [if_neg c, if_neg (show ¬ x < nI 0 by rw [nI_0]; exact c)]
    by_cases d : nI n ≤ x
    · rw [if_pos d, if_pos (show nI n - nI 1 < x by rw [Int32.lt_iff_toInt_lt, ed]; rw [Int32.le_iff_toInt_le, en] at d; omega)]
    · rw [if_neg d, if_neg (show ¬ nI n - nI 1 < x by rw [Int32.lt_iff_toInt_lt, ed]; rw [Int32.le_iff_toInt_le, en] at d; omega)]
theorem ck_in {n : Nat} (hn : n ≤ 40) {x : Int32} (h : ¬ s_X6_isIn x (nI 0) (nI n - nI 1) = 0) : vp_in x n := by
  rw [← ck_eq hn] at h
  by_cases c : x < 0
  · rw [if_pos c] at h; exact absurd nI_0 h
  · rw [if_neg c] at h
    by_cases d : nI n ≤ x
    · rw [if_pos d] at h; exact absurd nI_0 h
    · rw [vp_in_iff]
      have en := nI_toInt (n := n) (by omega)
      have e0 : (0 : Int32).toInt = 0 := by decide
      rw [Int32.le_iff_toInt_le, en] at d
      rw [Int32.lt_iff_toInt_lt, e0] at c
      omega
theorem isIn_in {a b : Nat} (hb : b < 1000) (ha : a < 1000) {x : Int32} (h : ¬ s_X6_isIn x (nI a) (nI b) = 0) : ∃ j : Nat, a ≤ j ∧ j ≤ b ∧ x = nI j := by
  unfold s_X6_isIn at h
  by_cases c : x < nI a
  · rw [if_pos c] at h; exact absurd nI_0 h
  · rw [if_neg c] at h
    by_cases d : nI b < x
    · rw [if_pos d] at h; exact absurd nI_0 h
    · have ea := nI_toInt (n := a) (by omega)
      have eb := nI_toInt (n := b) (by omega)
      rw [Int32.lt_iff_toInt_lt, ea] at c
      rw [Int32.lt_iff_toInt_lt, eb] at d
      obtain ⟨j, hj, rfl⟩ := vp_in_of (x := x) (n := b + 1) (by rw [vp_in_iff]; omega) (by omega)
      rw [nI_toInt (by omega)] at c d
      exact ⟨j, by omega, by omega, rfl⟩
theorem wi_eq (x y z : Int32) : s_X4_isWithin x y z = s_X6_isIn x y z := rfl
section CK
variable {mS mC h nS nU nC : Nat} {σ μ ρ : Sg}
theorem ckS (hR : Rel mS mC h nS nU nC σ μ ρ) (x : Int32) : s_X1_isShelter σ x = s_X6_isIn x (nI 0) (μ 0 1 - nI 1) := by
  unfold s_X1_isShelter
  rw [hR.1.2.1.1, hR.1.2.1.2.1]
  exact ck_eq (by have := hR.1.2.1.2.2; omega) x
theorem ckU (hR : Rel mS mC h nS nU nC σ μ ρ) (x : Int32) : s_X1_isUmbrella σ x = s_X6_isIn x (nI 0) (nI (tn (μ 0 5)) - nI 1) := by
  unfold s_X1_isUmbrella
  rw [hR.1.2.2.1.1, hR.tn.2.2.2.1]
  exact ck_eq hR.1.2.2.1.2.2 x
theorem ckC (hR : Rel mS mC h nS nU nC σ μ ρ) (x : Int32) : s_X1_isCitizen σ x = s_X6_isIn x (nI 0) (μ 0 12 - nI 1) := by
  unfold s_X1_isCitizen
  rw [hR.1.2.2.2.1.1, hR.1.2.2.2.1.2.1]
  exact ck_eq (by have := hR.1.2.2.2.1.2.2; omega) x
theorem inS (hR : Rel mS mC h nS nU nC σ μ ρ) {x : Int32} (hx : ¬ s_X6_isIn x (nI 0) (μ 0 1 - nI 1) = 0) : vp_in x nS := by
  rw [hR.1.2.1.2.1] at hx
  exact ck_in (by have := hR.1.2.1.2.2; omega) hx
theorem inU (hR : Rel mS mC h nS nU nC σ μ ρ) {x : Int32} (hx : ¬ s_X6_isIn x (nI 0) (nI (tn (μ 0 5)) - nI 1) = 0) : vp_in x nU := by
  rw [hR.tn.2.2.2.1] at hx
  exact ck_in hR.1.2.2.1.2.2 hx
theorem inC (hR : Rel mS mC h nS nU nC σ μ ρ) {x : Int32} (hx : ¬ s_X6_isIn x (nI 0) (μ 0 12 - nI 1) = 0) : vp_in x nC := by
  rw [hR.1.2.2.2.1.2.1] at hx
  exact ck_in (by have := hR.1.2.2.2.1.2.2; omega) hx
/-! what is told -/
theorem lp_here_eq (σ0 : MS) (i : Nat) (y : Int32) (hC : ∀ c, c < nC → σ (53 + c) 6 = σ0.2.1 11 c) : ∀ (n k : Nat) (a : Int32), k + n ≤ nC → lp_X1_citizensIn_4 σ (nI i) n k a = lp_X6_shelterTold_5 σ0 i y n k a := by
  intro n
  induction n with
  | zero => intro k a _; rfl
  | succ n ih =>
    intro k a hk
    unfold lp_X1_citizensIn_4 lp_X6_shelterTold_5
    rw [hC k (by omega)]
    by_cases h : σ0.2.1 11 k = nI i
    · rw [if_pos h, if_pos h]; exact ih _ _ (by omega)
    · rw [if_neg h, if_neg h, add_n0]; exact ih _ _ (by omega)
theorem told_S (hR : Rel mS mC h nS nU nC σ μ ρ) (q : Sg) {i j : Nat} (hi : i < nS) (hj : j < 8) : s_X1_tellShelter σ (nI i) (nI j) = s_X6_shelterTold (ρ, (μ, q)) i (nI j) := by
  have hnS := hR.1.2.1.2.2
  have hti : tn (nI i) = i := tn_nI (by omega)
  have htj : tn (nI j) = j := tn_nI (by omega)
  have h1 : ¬ nI 1 = 0 := by decide
  obtain ⟨a0, a1, a2, a3, a4, a5, a6, a7⟩ := hR.sh hi
  have ht := hR.tn
  have eh : s_X1_citizensIn σ (nI i) = lp_X6_shelterTold_5 (ρ, (μ, q)) i (nI j) nC 0 (nI 0) := by
    unfold s_X1_citizensIn
    simp only [ltt]
    rw [ht.2.2.2.2.1]
    exact lp_here_eq (ρ, (μ, q)) i (nI j) (fun c hc => (hR.ci hc).2.1.1.1) nC 0 _ (by omega)
  unfold s_X1_tellShelter s_X6_shelterTold
  simp only [ltt]
  rw [isSh_in hR hi, if_neg h1, hti, htj, rd_there hR, rd_first hR, eh, ht.2.2.2.2.2, a0, a1, a2, a3, a4]
  have hx : j = 0 ∨ j = 1 ∨ j = 2 ∨ j = 3 ∨ j = 4 ∨ j = 5 ∨ j = 6 ∨ j = 7 := by omega
  rcases hx with rfl | rfl | rfl | rfl | rfl | rfl | rfl | rfl <;> simp (disch := decide) [upd, nI_eq]
theorem told_U (hR : Rel mS mC h nS nU nC σ μ ρ) (q : Sg) {i j : Nat} (hi : i < nU) (hj : j < 6) : s_X3_tell σ i (nI j) = s_X6_umbrellaTold (ρ, (μ, q)) i (nI j) := by
  have htj : tn (nI j) = j := tn_nI (by omega)
  obtain ⟨⟨e0, e1, e2, e3, e4, e5⟩, hi2⟩ := hR.2.2.1 i hi
  have k10 : ¬ nI 1 = 0 := by decide
  have k20 : ¬ nI 2 = 0 := by decide
  have k21 : ¬ nI 2 = nI 1 := by decide
  have k30 : ¬ nI 3 = 0 := by decide
  have k31 : ¬ nI 3 = nI 1 := by decide
  have hx : j = 0 ∨ j = 1 ∨ j = 2 ∨ j = 3 ∨ j = 4 ∨ j = 5 := by omega
  unfold s_X3_tell s_X6_umbrellaTold
  simp only
  rw [htj, e0, e1, e2, e3, e4, e5]
  rcases hi2 with ⟨h4, -⟩ | ⟨h4, -⟩ | ⟨h4, h5, -⟩ | ⟨h4, h5, -⟩
  · rw [h4, if_pos nI_0]
    rcases hx with rfl | rfl | rfl | rfl | rfl | rfl <;> simp (disch := decide) [upd, nI_eq]
  · rw [h4, if_neg k10, if_pos rfl]
    rcases hx with rfl | rfl | rfl | rfl | rfl | rfl <;> simp (disch := decide) [upd, nI_eq]
  · rw [h4, if_neg k20, if_neg k21, h5]
    rcases hx with rfl | rfl | rfl | rfl | rfl | rfl <;> simp (disch := decide) [upd, nI_eq]
  · rw [h4, if_neg k30, if_neg k31, h5]
    rcases hx with rfl | rfl | rfl | rfl | rfl | rfl <;> simp (disch := decide) [upd, nI_eq]
theorem told_C (hR : Rel mS mC h nS nU nC σ μ ρ) (q : Sg) {i j : Nat} (hi : i < nC) (hj : j < 10) : s_X0_tell σ i (nI j) = s_X6_citizenTold (ρ, (μ, q)) i (nI j) := by
  have htj : tn (nI j) = j := tn_nI (by omega)
  have hcr := hR.ci hi
  obtain ⟨⟨⟨f0, f1, -⟩, -, -⟩, ⟨⟨b6, b9, b10, b11, b12, b13, b14⟩, bt⟩, w, -⟩ := hcr
  have hx : j = 0 ∨ j = 1 ∨ j = 2 ∨ j = 3 ∨ j = 4 ∨ j = 5 ∨ j = 6 ∨ j = 7 ∨ j = 8 ∨ j = 9 := by omega
  unfold s_X0_tell s_X6_citizenTold
  simp only
  rw [htj, f0, f1, b6, b9, b10, b11, b12, b13, b14]
  by_cases hst : μ 11 i = (-1 : Int32)
  · have e8 := (CWay.on hR hi hst).2
    rw [if_pos hst, e8]
    rcases hx with rfl | rfl | rfl | rfl | rfl | rfl | rfl | rfl | rfl | rfl <;> simp (disch := decide) [upd, nI_eq]
  · have e8 : σ (53 + i) 8 = nI 0 := (w.at hst).1.trans nI_0.symm
    rw [if_neg hst, e8]
    rcases hx with rfl | rfl | rfl | rfl | rfl | rfl | rfl | rfl | rfl | rfl <;> simp (disch := decide) [upd, nI_eq]
theorem told_A (hR : Rel mS mC h nS nU nC σ μ ρ) (q : Sg) {j : Nat} (hj : j < 11) : s_X1_tellAll σ (nI j) = s_X6_counted (ρ, (μ, q)) (nI j) := by
  have htj : tn (nI j) = j := tn_nI (by omega)
  have ht := hR.tn
  obtain ⟨⟨r1, r2⟩, ⟨r3, r4, r5⟩, ⟨r6, r7, r8⟩, ⟨r9, r10, r11⟩, r12, rm⟩ := hR.1
  have hx : j = 0 ∨ j = 1 ∨ j = 2 ∨ j = 3 ∨ j = 4 ∨ j = 5 ∨ j = 6 ∨ j = 7 ∨ j = 8 ∨ j = 9 ∨ j = 10 := by omega
  unfold s_X1_tellAll s_X6_counted
  simp only [ltt]
  rw [htj, r1, r2, r3, r6, r9, r12, ht.2.1, ht.2.2.2.1, ht.2.2.2.2.2, rd_of hR, rd_of hR, rd_of hR, rd_of hR, rd_way hR, rd_wet hR]
  rcases hx with rfl | rfl | rfl | rfl | rfl | rfl | rfl | rfl | rfl | rfl | rfl <;> simp (disch := decide) [upd, nI_eq]
end CK
