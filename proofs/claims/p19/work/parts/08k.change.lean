/-! WHAT CHANGES THE REPUBLIC BETWEEN THE HOURS -/
def Fr (nS nC : Nat) (σ : Sg) : Prop := (∀ i, nS ≤ i → i < 8 → σ (5 + i) 2 = 0 ∧ σ (5 + i) 3 = 0) ∧ ∀ c, nC ≤ c → c < 10 → σ (53 + c) 11 = 0 ∧ σ (53 + c) 12 = 0 ∧ σ (53 + c) 13 = 0
theorem UI.mono {nS nC nC' : Nat} {r : Nat → Int32} (h : UI nS nC r) (hC : nC ≤ nC') : UI nS nC' r := by
  unfold UI at h ⊢
  omega
theorem CI.monoU {nS nU nU' B : Nat} {r : Nat → Int32} (h : CI nS nU B r) (hU : nU ≤ nU') : CI nS nU' B r := by
  unfold CI at h ⊢
  omega
section CH
variable {B nS nU nC : Nat} {σ : Sg}
theorem inv_addU (hI : Inv B nS nU nC σ) (hU : nU < 40) {x : Int32} (hx : 0 ≤ x.toInt ∧ x.toInt < nS) : Inv B nS (nU + 1) nC (s_X1_addUmbrella σ x) ∧ ∀ p, p ≠ 0 → p ≠ 13 + nU → s_X1_addUmbrella σ x p = σ p := by
  have ht := (inv_tn hI).2.1
  obtain ⟨⟨⟨n5, n6, n7⟩, n1, n8, n40, n10, nB⟩, hr, hs, hU9, hC, hh⟩ := hI
  have c1 : ¬ nI 40 ≤ nI (tn (σ 0 6)) := by rw [ht, nI_leI (by omega) (by omega)]; omega
  have e : s_X1_addUmbrella σ x = up (s_X3_beNewIn σ (tn (σ 0 6)) x) 0 6 (nI (tn (σ 0 6) + 1)) := if_neg c1
  rw [ht] at e
  have row : ∀ p, p ≠ 0 → p ≠ 13 + nU → s_X1_addUmbrella σ x p = σ p := by
    intro p p1 p2
    rw [e]
    unfold s_X3_beNewIn s_X3_standIn
    simp only [ltt]
    simp (disch := omega) only [up_row_ne]
  have r0 : ∀ k, k ≠ 6 → s_X1_addUmbrella σ x 0 k = σ 0 k := by
    intro k hk
    rw [e]
    unfold s_X3_beNewIn s_X3_standIn
    simp only [ltt]
    simp (disch := omega) only [up_neK, up_row_ne]
  have r6 : s_X1_addUmbrella σ x 0 6 = nI (nU + 1) := by rw [e]; exact up_s _ _ _ _
  have a : s_X1_addUmbrella σ x (13 + nU) 0 = nI 0 ∧ s_X1_addUmbrella σ x (13 + nU) 1 = x ∧ s_X1_addUmbrella σ x (13 + nU) 2 = nI 0 ∧ s_X1_addUmbrella σ x (13 + nU) 3 = nI 0 := by
    rw [e]
    unfold s_X3_beNewIn s_X3_standIn
    simp only [ltt]
    refine ⟨?_, ?_, ?_, ?_⟩ <;> simp (disch := omega) only [up_s, up_neK, up_row_ne]
  refine ⟨⟨⟨⟨(r0 5 (by decide)).trans n5, r6, (r0 7 (by decide)).trans n7⟩, Or.inr (by omega), n8, hU, n10, nB⟩, ?_, fun i hi => ?_, fun u hu => ?_, fun c hc => ?_, fun u hu c hc => ?_⟩, row⟩
  · rw [row 1 (by omega) (by omega)]; exact hr
  · obtain ⟨b1, b2⟩ := hs i hi
    rw [row (5 + i) (by omega) (by omega)]
    refine ⟨b1, ?_⟩
    have e1 : cn (fH (s_X1_addUmbrella σ x) i) nU = cn (fH σ i) nU := cn_cg nU (fun u hu => by unfold fH; rw [row (13 + u) (by omega) (by omega)])
    have e2 : fH (s_X1_addUmbrella σ x) i nU = 0 := fH_0 (by rw [a.1, k_0]; omega)
    simp only [cn]
    rw [e1, e2]
    omega
  · by_cases q : u = nU
    · subst q
      unfold UI
      rw [a.1, a.2.1, a.2.2.1, a.2.2.2, k_0]
      omega
    · rw [row (13 + u) (by omega) (by omega)]
      exact hU9 u (by omega)
  · rw [row (53 + c) (by omega) (by omega)]
    exact (hC c hc).monoU (by omega)
  · by_cases q : u = nU
    · subst q
      have h := hC c hc
      unfold CI at h
      unfold HH
      rw [a.1, k_0, row (53 + c) (by omega) (by omega)]
      omega
    · have h := hh u (by omega) c hc
      unfold HH at h ⊢
      rw [row (13 + u) (by omega) (by omega), row (53 + c) (by omega) (by omega)]
      exact h
theorem inv_bring (s : Sg × Sg) (x y : Int32) (hx : 0 ≤ x.toInt ∧ x.toInt < nS) : ∀ (n k nU : Nat) (τ : Sg × Sg), nU + n ≤ 40 → Inv B nS nU nC τ.1 → Inv B nS (nU + n) nC (lp_X4_bring_51 s x y n k τ).1 ∧ (∀ p, (p ≠ 0 ∧ p < 13) ∨ 53 ≤ p → (lp_X4_bring_51 s x y n k τ).1 p = τ.1 p) := by
  intro n
  induction n with
  | zero => intro k nU τ _ hI; exact ⟨hI, fun _ _ => rfl⟩
  | succ n ih =>
    intro k nU τ h40 hI
    obtain ⟨a, b⟩ := inv_addU hI (by omega) hx
    obtain ⟨c, d⟩ := ih (k + 1) (nU + 1) (s_X1_addUmbrella τ.1 x, τ.2) (by omega) a
    have e : lp_X4_bring_51 s x y (n + 1) k τ = lp_X4_bring_51 s x y n (k + 1) (s_X1_addUmbrella τ.1 x, τ.2) := rfl
    rw [e]
    refine ⟨by rw [show nU + (n + 1) = nU + 1 + n by omega]; exact c, fun p hp => ?_⟩
    have h13 : p ≠ 13 + nU := by omega
    exact (d p hp).trans (b p (by omega) h13)
theorem op_bring {σ : Sg × Sg} (hI : Inv B nS nU nC σ.1) {x y : Int32} (hx : 0 ≤ x.toInt ∧ x.toInt < nS) (hy : 1 ≤ y.toInt ∧ y.toInt ≤ 10) (h40 : (nU : Int) + y.toInt ≤ 40) : ∃ (r : Int32) (τ : Sg × Sg), s_X4_bring σ x y = .inr (r, τ) ∧ Inv B nS (nU + tn y) nC τ.1 ∧ (∀ p, (p ≠ 0 ∧ p < 13) ∨ 53 ≤ p → τ.1 p = σ.1 p) := by
  have ey := ti_tn (x := y) (by omega)
  have n40 := hI.1.2.2.2.1
  have c1 : ¬ s_X4_isWithin y (nI 1) (nI 10) = 0 := win (lo := 1) (hi := 10) (by omega) (by decide)
  have k40 : (nI 40).toInt = 40 := ti_n (by decide)
  have kU : (σ.1 0 6).toInt = (nU : Int) := by rw [hI.1.1.2.1, ti_n (by omega)]
  have c2 : y ≤ nI 40 - σ.1 0 6 := by rw [tle, ti_sub (by omega), k40, kU]; omega
  obtain ⟨a, b⟩ := inv_bring σ x y hx (tn y) 0 nU σ (by omega) hI
  exact ⟨_, _, (xb_r (x := ()) (ck_sh hI hx)).trans ((if_neg c1).trans (if_pos c2)), a, b⟩
theorem inv_setR (hI : Inv B nS nU nC σ) (j : Nat) {y : Int32} (hy : 0 ≤ y.toInt ∧ y.toInt ≤ 9) : Inv B nS nU nC (up σ 1 j y) := by
  obtain ⟨⟨⟨n5, n6, n7⟩, n1, n8, n40, n10, nB⟩, hr, hs, hU, hC, hh⟩ := hI
  have a := fun p (hp : p ≠ 1) => up_row_ne σ j y hp
  refine ⟨⟨⟨?_, ?_, ?_⟩, n1, n8, n40, n10, nB⟩, fun k hk => ?_, fun i hi => ?_, fun u hu => ?_, fun c hc => ?_, fun u hu c hc => ?_⟩
  · rw [a 0 (by omega)]; exact n5
  · rw [a 0 (by omega)]; exact n6
  · rw [a 0 (by omega)]; exact n7
  · rw [up_get]
    by_cases q : 1 = 1 ∧ k = j
    · rw [if_pos q]; exact hy
    · rw [if_neg q]; exact hr k hk
  · have e : cn (fH (up σ 1 j y) i) nU = cn (fH σ i) nU := cn_cg nU (fun u hu => by unfold fH; rw [a (13 + u) (by omega)])
    rw [a (5 + i) (by omega), e]; exact hs i hi
  · rw [a (13 + u) (by omega)]; exact hU u hu
  · rw [a (53 + c) (by omega)]; exact hC c hc
  · have h := hh u hu c hc
    unfold HH at h ⊢
    rw [a (13 + u) (by omega), a (53 + c) (by omega)]
    exact h
theorem op_rain {σ : Sg × Sg} {x y : Int32} (hx : 0 ≤ x.toInt ∧ x.toInt ≤ 23) (hy : 0 ≤ y.toInt ∧ y.toInt ≤ 9) : s_X4_setRain σ x y = .inr (σ.1 1 (tn x), (up σ.1 1 (tn x) y, σ.2)) :=
  (xb_r (x := ()) (ck_hr hx)).trans (if_neg (win (lo := 0) (hi := 9) (by omega) (by decide)))
theorem op_dem {σ : Sg × Sg} (hI : Inv B nS nU nC σ.1) {x y : Int32} (hx : 0 ≤ x.toInt ∧ x.toInt < nS) (hy : 0 ≤ y.toInt ∧ y.toInt ≤ 10) : ∃ (r : Int32) (τ : Sg × Sg), s_X4_setDemand σ x y = .inr (r, τ) ∧ Inv B nS nU nC τ.1 := by
  have n8 := hI.1.2.2.1
  have ex := ti_tn hx.1
  refine ⟨_, _, (xb_r (x := ()) (ck_sh hI hx)).trans (if_neg (win (lo := 0) (hi := 10) (by omega) (by decide))), ?_⟩
  show Inv B nS nU nC (up σ.1 (5 + tn x) 1 y)
  refine inv_sh (i := tn x) hI (by omega) (fun p hp => up_row_ne _ _ _ hp) (up_neK _ _ _ _ (by decide)) (up_neK _ _ _ _ (by decide)) (fun _ => ?_)
  rw [up_s]
  exact hy
/-! what is built first -/
theorem inv_zz : Inv 0 0 0 0 zz := by
  refine ⟨⟨⟨nI_0.symm, nI_0.symm, nI_0.symm⟩, Or.inl rfl, by decide, by decide, by decide, by decide⟩, fun j _ => ?_, fun i hi => ?_, fun u hu => ?_, fun c hc => ?_, fun u hu => ?_⟩
  · show 0 ≤ (0 : Int32).toInt ∧ (0 : Int32).toInt ≤ 9
    rw [ti_0]; omega
  · omega
  · omega
  · omega
  · omega
theorem fr_zz : Fr 0 0 zz := ⟨fun _ _ _ => ⟨rfl, rfl⟩, fun _ _ _ => ⟨rfl, rfl, rfl⟩⟩
theorem notB (σ : Sg) (x : Int32) : ∀ (n k : Nat), (∀ i, k ≤ i → i < k + n → ¬ σ (5 + i) 0 = x) → lp_X1_isBuiltOn_2 σ x n k = nI 0 := by
  intro n
  induction n with
  | zero => intro k _; rfl
  | succ n ih =>
    intro k h
    have e : lp_X1_isBuiltOn_2 σ x (n + 1) k = lp_X1_isBuiltOn_2 σ x n (k + 1) := if_neg (h k (by omega) (by omega))
    rw [e]
    exact ih (k + 1) (fun i a b => h i (by omega) (by omega))
theorem addS_eq {σ : Sg} {x y : Int32} {n : Nat} (ht : tn (σ 0 5) = n) (h8 : n < 8) : (s_X1_addShelter σ x y).2 = up (s_X2_open σ n x y) 0 5 (nI (n + 1)) := by
  have c5 : nI (tn (σ 0 5)) < nI 8 := by rw [ht, nI_ltI (by omega) (by omega)]; exact h8
  have e2 : s_X1_addShelter σ x y = ((up (s_X2_open σ (tn (σ 0 5)) x y) 0 5 (nI (tn (σ 0 5) + 1))) 0 5 - nI 1, up (s_X2_open σ (tn (σ 0 5)) x y) 0 5 (nI (tn (σ 0 5) + 1))) := if_pos c5
  rw [e2, ht]
theorem build_eq {σ : Sg × Sg} {x y : Int32} (c1 : ¬ s_X4_isWithin x (nI 0) (nI 99) = 0) (c2 : ¬ s_X4_isWithin y (nI 0) (nI 10) = 0) (c3 : ¬ nI 8 ≤ σ.1 0 5) (c4 : s_X1_isBuiltOn σ.1 x = 0) : s_X4_build σ x y = .inr ((s_X1_addShelter σ.1 x y).1, ((s_X1_addShelter σ.1 x y).2, σ.2)) :=
  (if_neg c1).trans ((if_neg c2).trans ((if_neg c3).trans (if_pos c4)))
theorem op_build {σ : Sg × Sg} (hI : Inv B nS 0 0 σ.1) (hF : Fr nS 0 σ.1) (h8 : nS < 8) (hP : ∀ i, i < nS → (σ.1 (5 + i) 0).toInt < 12 * nS) {x y : Int32} (hx : 12 * (nS : Int) ≤ x.toInt ∧ x.toInt ≤ 12 * nS + 11) (hy : 0 ≤ y.toInt ∧ y.toInt ≤ 10) :
    ∃ (r : Int32) (τ : Sg × Sg), s_X4_build σ x y = .inr (r, τ) ∧ Inv B (nS + 1) 0 0 τ.1 ∧ Fr (nS + 1) 0 τ.1 ∧ ∀ i, i < nS + 1 → (τ.1 (5 + i) 0).toInt < 12 * ((nS + 1 : Nat) : Int) := by
  have ht := (inv_tn hI).1
  obtain ⟨⟨⟨n5, n6, n7⟩, n1, n8, n40, n10, nB⟩, hr, hs, hU9, hC, hh⟩ := hI
  have c1 : ¬ s_X4_isWithin x (nI 0) (nI 99) = 0 := win (lo := 0) (hi := 99) (by omega) (by decide)
  have c2 : ¬ s_X4_isWithin y (nI 0) (nI 10) = 0 := win (lo := 0) (hi := 10) (by omega) (by decide)
  have c3 : ¬ nI 8 ≤ σ.1 0 5 := by rw [n5, nI_leI (by omega) (by omega)]; omega
  have c4 : s_X1_isBuiltOn σ.1 x = 0 := by
    have e : s_X1_isBuiltOn σ.1 x = lp_X1_isBuiltOn_2 σ.1 x nS 0 := by rw [← ht]; rfl
    rw [e, notB σ.1 x nS 0 (fun i _ h2 q => by
      have h3 := hP i (by omega)
      rw [q] at h3
      omega)]
    exact nI_0
  have e1 := addS_eq (σ := σ.1) (x := x) (y := y) ht h8
  refine ⟨(s_X1_addShelter σ.1 x y).1, ((s_X1_addShelter σ.1 x y).2, σ.2), build_eq c1 c2 c3 c4, ?_⟩
  show Inv B (nS + 1) 0 0 (s_X1_addShelter σ.1 x y).2 ∧ Fr (nS + 1) 0 (s_X1_addShelter σ.1 x y).2 ∧ ∀ i, i < nS + 1 → ((s_X1_addShelter σ.1 x y).2 (5 + i) 0).toInt < 12 * ((nS + 1 : Nat) : Int)
  have row : ∀ p, p ≠ 0 → p ≠ 5 + nS → (s_X1_addShelter σ.1 x y).2 p = σ.1 p := by
    intro p p1 p2
    rw [e1]
    unfold s_X2_open
    simp only [ltt]
    simp (disch := omega) only [up_row_ne]
  have r0 : ∀ k, k ≠ 5 → (s_X1_addShelter σ.1 x y).2 0 k = σ.1 0 k := by
    intro k hk
    rw [e1]
    unfold s_X2_open
    simp only [ltt]
    simp (disch := omega) only [up_neK, up_row_ne]
  have r5 : (s_X1_addShelter σ.1 x y).2 0 5 = nI (nS + 1) := by rw [e1]; exact up_s _ _ _ _
  have a : (s_X1_addShelter σ.1 x y).2 (5 + nS) 0 = x ∧ (s_X1_addShelter σ.1 x y).2 (5 + nS) 1 = y ∧ (s_X1_addShelter σ.1 x y).2 (5 + nS) 2 = σ.1 (5 + nS) 2 ∧ (s_X1_addShelter σ.1 x y).2 (5 + nS) 3 = σ.1 (5 + nS) 3 := by
    rw [e1]
    unfold s_X2_open
    simp only [ltt]
    refine ⟨?_, ?_, ?_, ?_⟩ <;> simp (disch := omega) only [up_s, up_neK, up_row_ne]
  generalize (s_X1_addShelter σ.1 x y).2 = T at row r0 r5 a ⊢
  refine ⟨⟨⟨⟨r5, (r0 6 (by decide)).trans n6, (r0 7 (by decide)).trans n7⟩, Or.inl rfl, h8, n40, n10, nB⟩, ?_, fun i hi => ?_, fun u hu => by omega, fun c hc => by omega, fun u hu => by omega⟩, ⟨fun i h1 h2 => ?_, fun c h1 h2 => ?_⟩, fun i hi => ?_⟩
  · rw [row 1 (by omega) (by omega)]; exact hr
  · by_cases q : i = nS
    · subst q
      have hf := hF.1 i (Nat.le_refl _) h8
      have s1 : (T (5 + i) 1).toInt = y.toInt := by rw [a.2.1]
      have s2 : (T (5 + i) 2).toInt = 0 := by rw [a.2.2.1, hf.1, ti_0]
      have s3 : (T (5 + i) 3).toInt = 0 := by rw [a.2.2.2, hf.2, ti_0]
      have ez : cn (fH T i) 0 = 0 := rfl
      unfold SI
      exact ⟨⟨by omega, by omega, by omega⟩, by omega⟩
    · obtain ⟨b1, b2⟩ := hs i (by omega)
      have ez : cn (fH T i) 0 = 0 := rfl
      have ez2 : cn (fH σ.1 i) 0 = 0 := rfl
      rw [ez2] at b2
      rw [row (5 + i) (by omega) (by omega), ez]
      exact ⟨b1, b2⟩
  · rw [row (5 + i) (by omega) (by omega)]; exact hF.1 i (by omega) h2
  · rw [row (53 + c) (by omega) (by omega)]; exact hF.2 c h1 h2
  · by_cases q : i = nS
    · subst q; rw [a.1]; omega
    · rw [row (5 + i) (by omega) (by omega)]
      have := hP i (by omega)
      omega
theorem op_addC {σ : Sg × Sg} (hI : Inv B nS nU nC σ.1) (hF : Fr nS nC σ.1) (h10 : nC < 10) {x y z w v : Int32} (hx : 0 ≤ x.toInt ∧ x.toInt < nS) (hy : 0 ≤ y.toInt ∧ y.toInt < nS) (hxy : ¬ x = y) (hz : 0 ≤ z.toInt ∧ z.toInt ≤ 23) (hw : 0 ≤ w.toInt ∧ w.toInt ≤ 23) (hzw : ¬ z = w) (hv : 1 ≤ v.toInt ∧ v.toInt ≤ 9) :
    ∃ (r : Int32) (τ : Sg × Sg), s_X4_addCitizen σ x y z w v = .inr (r, τ) ∧ Inv B nS nU (nC + 1) τ.1 ∧ Fr nS (nC + 1) τ.1 := by
  have ht := (inv_tn hI).2.2
  have hI0 := hI
  obtain ⟨⟨⟨n5, n6, n7⟩, n1, n8, n40, n10, nB⟩, hr, hs, hU9, hC, hh⟩ := hI
  have c5 : ¬ s_X4_isHourOfDay z = 0 := win (lo := 0) (hi := 23) (by omega) (by decide)
  have c6 : ¬ s_X4_isHourOfDay w = 0 := win (lo := 0) (hi := 23) (by omega) (by decide)
  have c7 : ¬ s_X4_isWithin v (nI 1) (nI 9) = 0 := win (lo := 1) (hi := 9) (by omega) (by decide)
  have c8 : σ.1 0 7 < nI 10 := by rw [n7, nI_ltI (by omega) (by omega)]; exact h10
  have c9 : nI (tn (σ.1 0 7)) < nI 10 := by rw [ht, nI_ltI (by omega) (by omega)]; exact h10
  have e1 : (s_X1_addPerson σ.1 x y z w v).2 = up (up (up (up (s_X0_settle σ.1 (tn (σ.1 0 7)) x y (s_X1_hoursBetween σ.1 x y)) (53 + tn (σ.1 0 7)) 2 z) (53 + tn (σ.1 0 7)) 3 w) (53 + tn (σ.1 0 7)) 4 v) 0 7 (nI (tn (σ.1 0 7) + 1)) := by
    have e2 : s_X1_addPerson σ.1 x y z w v = _ := if_pos c9
    rw [e2]; rfl
  rw [ht] at e1
  refine ⟨(s_X1_addPerson σ.1 x y z w v).1, ((s_X1_addPerson σ.1 x y z w v).2, σ.2), (xb_r (x := ()) (ck_sh hI0 hx)).trans ((xb_r (x := ()) (ck_sh hI0 hy)).trans ((if_neg hxy).trans ((if_neg hzw).trans ((if_neg c5).trans ((if_neg c6).trans ((if_neg c7).trans (if_pos c8))))))), ?_⟩
  show Inv B nS nU (nC + 1) (s_X1_addPerson σ.1 x y z w v).2 ∧ Fr nS (nC + 1) (s_X1_addPerson σ.1 x y z w v).2
  have row : ∀ p, p ≠ 0 → p ≠ 53 + nC → (s_X1_addPerson σ.1 x y z w v).2 p = σ.1 p := by
    intro p p1 p2
    rw [e1]
    unfold s_X0_settle
    simp only [ltt]
    simp (disch := omega) only [up_row_ne]
  have r0 : ∀ k, k ≠ 7 → (s_X1_addPerson σ.1 x y z w v).2 0 k = σ.1 0 k := by
    intro k hk
    rw [e1]
    unfold s_X0_settle
    simp only [ltt]
    simp (disch := omega) only [up_neK, up_row_ne]
  have r7 : (s_X1_addPerson σ.1 x y z w v).2 0 7 = nI (nC + 1) := by rw [e1]; exact up_s _ _ _ _
  have a : (s_X1_addPerson σ.1 x y z w v).2 (53 + nC) 0 = x ∧ (s_X1_addPerson σ.1 x y z w v).2 (53 + nC) 1 = y ∧ (s_X1_addPerson σ.1 x y z w v).2 (53 + nC) 6 = x ∧ (s_X1_addPerson σ.1 x y z w v).2 (53 + nC) 7 = x ∧ (s_X1_addPerson σ.1 x y z w v).2 (53 + nC) 9 = (-1 : Int32) ∧ (s_X1_addPerson σ.1 x y z w v).2 (53 + nC) 10 = nI 5 ∧ (s_X1_addPerson σ.1 x y z w v).2 (53 + nC) 11 = σ.1 (53 + nC) 11 ∧ (s_X1_addPerson σ.1 x y z w v).2 (53 + nC) 12 = σ.1 (53 + nC) 12 ∧ (s_X1_addPerson σ.1 x y z w v).2 (53 + nC) 13 = σ.1 (53 + nC) 13 := by
    rw [e1]
    unfold s_X0_settle
    simp only [ltt]
    refine ⟨?_, ?_, ?_, ?_, ?_, ?_, ?_, ?_, ?_⟩ <;> simp (disch := omega) only [up_s, up_neK, up_row_ne]
  generalize (s_X1_addPerson σ.1 x y z w v).2 = T at row r0 r7 a ⊢
  obtain ⟨a0, a1, a6, a7, a9, a10, a11, a12, a13⟩ := a
  have hf := hF.2 nC (Nat.le_refl _) h10
  have k5 : (nI 5).toInt = 5 := ti_n (by decide)
  refine ⟨⟨⟨⟨(r0 5 (by decide)).trans n5, (r0 6 (by decide)).trans n6, r7⟩, n1, n8, n40, h10, nB⟩, ?_, fun i hi => ?_, fun u hu => ?_, fun c hc => ?_, fun u hu c hc => ?_⟩, ⟨fun i h1 h2 => ?_, fun c h1 h2 => ?_⟩⟩
  · rw [row 1 (by omega) (by omega)]; exact hr
  · have e : cn (fH T i) nU = cn (fH σ.1 i) nU := cn_cg nU (fun u hu => by unfold fH; rw [row (13 + u) (by omega) (by omega)])
    rw [row (5 + i) (by omega) (by omega), e]; exact hs i hi
  · rw [row (13 + u) (by omega) (by omega)]; exact (hU9 u hu).mono (by omega)
  · by_cases q : c = nC
    · subst q
      unfold CI
      rw [a0, a1, a6, a7, a9, a10, a11, a12, a13, hf.1, hf.2.1, hf.2.2, ti_m1, ti_0, k5]
      omega
    · rw [row (53 + c) (by omega) (by omega)]; exact hC c (by omega)
  · by_cases q : c = nC
    · subst q
      have h := hU9 u hu
      unfold UI at h
      unfold HH
      rw [row (13 + u) (by omega) (by omega), a9, ti_m1]
      omega
    · have h := hh u hu c (by omega)
      unfold HH at h ⊢
      rw [row (13 + u) (by omega) (by omega), row (53 + c) (by omega) (by omega)]
      exact h
  · rw [row (5 + i) (by omega) (by omega)]; exact hF.1 i h1 h2
  · rw [row (53 + c) (by omega) (by omega)]; exact hF.2 c (by omega) h2
end CH
