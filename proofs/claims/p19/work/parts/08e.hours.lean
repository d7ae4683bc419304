section SC
variable {B nS nU nC : Nat} {σ : Sg}
theorem inv_h0 {k : Nat} (v : Int32) (hk : k = 4 ∨ k = 8) (hI : Inv B nS nU nC σ) : Inv B nS nU nC (up σ 0 k v) := by
  have hI0 := hI
  obtain ⟨⟨n0, n1, n8, n40, n10, nB⟩, hr, hs, hU, hC, hh⟩ := hI
  have a := fun p (hp : p ≠ 0) => up_row_ne σ k v hp
  have b := fun j (hj : j ≠ k) => up_neK σ 0 v 0 hj
  refine inv_mod (u := 99) (c := 99) hI0 (Nat.le_refl B) nB (b 5 (by omega)) (b 6 (by omega)) (b 7 (by omega)) (a 1 (by omega)) (fun x hx hn => a _ (by omega)) (fun x hx hn => a _ (by omega)) (fun q => by omega) (fun q => by omega) (fun q => by omega) (fun q => by omega) (fun q => by omega) (fun i hi => ?_)
  rw [if_neg (by omega), a (5 + i) (by omega)]
  exact ⟨(hs i hi).1, by omega⟩
theorem lp_cart (σ : Sg) (m : Nat) : ∀ (n k : Nat) (fu em : Int32), k + n ≤ m → (∃ j, j < m ∧ em = nI j) → ∃ j, j < m ∧ (lp_X1_driveCart_6 σ n k fu em).2 = nI j := by
  intro n
  induction n with
  | zero => intro k fu em _ h; exact h
  | succ n ih =>
    intro k fu em hk h
    have hkk : ∃ j, j < m ∧ nI k = nI j := ⟨k, by omega, rfl⟩
    by_cases c1 : s_X1_umbrellasIn σ (nI k) ≤ s_X1_umbrellasIn σ fu
    · by_cases c2 : s_X1_umbrellasIn σ em ≤ s_X1_umbrellasIn σ (nI k)
      · have e : lp_X1_driveCart_6 σ (n + 1) k fu em = lp_X1_driveCart_6 σ n (k + 1) fu em := (if_pos c1).trans (if_pos c2)
        rw [e]; exact ih _ _ _ (by omega) h
      · have e : lp_X1_driveCart_6 σ (n + 1) k fu em = lp_X1_driveCart_6 σ n (k + 1) fu (nI k) := (if_pos c1).trans (if_neg c2)
        rw [e]; exact ih _ _ _ (by omega) hkk
    · by_cases c2 : s_X1_umbrellasIn σ em ≤ s_X1_umbrellasIn σ (nI k)
      · have e : lp_X1_driveCart_6 σ (n + 1) k fu em = lp_X1_driveCart_6 σ n (k + 1) (nI k) em := (if_neg c1).trans (if_pos c2)
        rw [e]; exact ih _ _ _ (by omega) h
      · have e : lp_X1_driveCart_6 σ (n + 1) k fu em = lp_X1_driveCart_6 σ n (k + 1) (nI k) (nI k) := (if_neg c1).trans (if_neg c2)
        rw [e]; exact ih _ _ _ (by omega) hkk
theorem inv_cart (hI : Inv B nS nU nC σ) : Inv B nS nU nC (s_X1_driveCart σ) ∧ ∀ p, 53 ≤ p → s_X1_driveCart σ p = σ p := by
  have hI0 := hI
  obtain ⟨⟨n0, n1, n8, n40, n10, nB⟩, hr, hs, hU, hC, hh⟩ := hI
  by_cases c1 : s_X1_isUmbrella σ (s_X1_firstUmbrellaIn σ (lp_X1_driveCart_6 σ (tn (σ 0 5) - 1) 1 (nI 0) (nI 0)).1) = 0
  · have e : s_X1_driveCart σ = σ := if_pos c1
    rw [e]; exact ⟨hI0, fun _ _ => rfl⟩
  · by_cases c2 : s_X1_umbrellasIn σ (lp_X1_driveCart_6 σ (tn (σ 0 5) - 1) 1 (nI 0) (nI 0)).1 - s_X1_umbrellasIn σ (lp_X1_driveCart_6 σ (tn (σ 0 5) - 1) 1 (nI 0) (nI 0)).2 < nI 2
    · have e : s_X1_driveCart σ = σ := (if_neg c1).trans (if_pos c2)
      rw [e]; exact ⟨hI0, fun _ _ => rfl⟩
    · have e : s_X1_driveCart σ = up (s_X3_standIn σ (tn (s_X1_firstUmbrellaIn σ (lp_X1_driveCart_6 σ (tn (σ 0 5) - 1) 1 (nI 0) (nI 0)).1)) (lp_X1_driveCart_6 σ (tn (σ 0 5) - 1) 1 (nI 0) (nI 0)).2) 0 8 ((s_X3_standIn σ (tn (s_X1_firstUmbrellaIn σ (lp_X1_driveCart_6 σ (tn (σ 0 5) - 1) 1 (nI 0) (nI 0)).1)) (lp_X1_driveCart_6 σ (tn (σ 0 5) - 1) 1 (nI 0) (nI 0)).2) 0 8 + nI 1) := (if_neg c1).trans (if_neg c2)
      rcases first_form hI0 (lp_X1_driveCart_6 σ (tn (σ 0 5) - 1) 1 (nI 0) (nI 0)).1 with q | ⟨u, hu, q, a0, a1⟩
      · exact absurd (by rw [q]; exact isUm_m1 σ) c1
      · have ht := (inv_tn hI0).1
        obtain ⟨j, hj, ej⟩ := lp_cart σ nS (tn (σ 0 5) - 1) 1 (nI 0) (nI 0) (by omega) ⟨0, by omega, rfl⟩
        rw [ej, q, tn_nI (by omega)] at e
        have row : ∀ p, p ≠ 13 + u → p ≠ 0 → s_X1_driveCart σ p = σ p := by
          intro p p1 p2
          rw [e]
          unfold s_X3_standIn
          simp only [ltt]
          simp (disch := omega) only [up_row_ne]
        have r0 : ∀ k, k ≠ 8 → s_X1_driveCart σ 0 k = σ 0 k := by
          intro k hk
          rw [e]
          unfold s_X3_standIn
          simp only [ltt]
          simp (disch := omega) only [up_neK, up_row_ne]
        have a : s_X1_driveCart σ (13 + u) 0 = nI 0 ∧ s_X1_driveCart σ (13 + u) 1 = nI j ∧ s_X1_driveCart σ (13 + u) 2 = σ (13 + u) 2 ∧ s_X1_driveCart σ (13 + u) 3 = nI 0 := by
          rw [e]
          unfold s_X3_standIn
          simp only [ltt]
          refine ⟨?_, ?_, ?_, ?_⟩ <;> simp (disch := omega) only [up_s, up_neK, up_row_ne]
        have i0 := te_0.mp a0
        have hUu := hU u hu
        refine ⟨inv_um hI0 hu row (r0 5 (by decide)) (r0 6 (by decide)) (r0 7 (by decide)) (by omega) (by rw [a.1, k_0]; omega) ?_, fun p hp => row p (by omega) (by omega)⟩
        unfold UI at hUu ⊢
        rw [a.1, a.2.1, a.2.2.1, a.2.2.2, k_0, ti_n (show j < 2 ^ 31 by omega)]
        omega
end SC
section SH
variable {nS nU nC : Nat}
theorem inv_waits (σ0 : Sg) {B : Nat} : ∀ (n k : Nat) (τ : Sg), k + n ≤ nU → nU ≤ 40 → Inv B nS nU nC τ → Inv B nS nU nC (lp_X1_letUmbrellasWait_2 σ0 n k τ) ∧ ∀ p, 53 ≤ p → lp_X1_letUmbrellasWait_2 σ0 n k τ p = τ p := by
  intro n
  induction n with
  | zero => intro k τ _ _ hI; exact ⟨hI, fun _ _ => rfl⟩
  | succ n ih =>
    intro k τ hk h40 hI
    obtain ⟨a, b⟩ := ih (k + 1) (s_X3_waitAnHour τ k) (by omega) h40 (inv_wait hI (by omega))
    exact ⟨a, fun p hp => (b p hp).trans (wait_row τ k p (by omega))⟩
theorem inv_ends (σ0 : Sg) {B : Nat} : ∀ (n k : Nat) (τ : Sg), k + n ≤ nS → nS ≤ 8 → Inv B nS nU nC τ → Inv B nS nU nC (lp_X1_endDay_2 σ0 n k τ) ∧ ∀ p, 53 ≤ p → lp_X1_endDay_2 σ0 n k τ p = τ p := by
  intro n
  induction n with
  | zero => intro k τ _ _ hI; exact ⟨hI, fun _ _ => rfl⟩
  | succ n ih =>
    intro k τ hk h8 hI
    obtain ⟨a, b⟩ := ih (k + 1) (s_X2_endDay τ k) (by omega) h8 (inv_end hI (by omega))
    exact ⟨a, fun p hp => (b p hp).trans (end_row k p (by omega))⟩
theorem inv_leaves {B : Nat} {σ : Sg} (hI : Inv B nS nU nC σ) (hB : B + 10 ≤ 100000000) (h : Nat) : Inv (B + 10) nS nU nC (s_X1_letCitizensLeave σ h).2 ∧ (∀ d, d < nC → (s_X1_letCitizensLeave σ h).2 (53 + d) 11 = σ (53 + d) 11) ∧ 0 ≤ (s_X1_letCitizensLeave σ h).1.toInt ∧ (s_X1_letCitizensLeave σ h).1.toInt ≤ nC := by
  have h10 := hI.1.2.2.2.2.1
  have ht := (inv_tn hI).2.2
  have key : ∀ wt, ∀ r, r = lp_X1_letCitizensLeave_36 σ h wt (tn (σ 0 7)) 0 (nI 0) σ → Inv (B + 10) nS nU nC r.2 ∧ (∀ d, d < nC → r.2 (53 + d) 11 = σ (53 + d) 11) ∧ 0 ≤ r.1.toInt ∧ r.1.toInt ≤ nC := by
    intro wt r hr
    rw [ht] at hr
    obtain ⟨a, b, c, d⟩ := inv_leave σ h wt nC 0 B (nI 0) σ (by omega) hI (by omega) (by rw [k_0]; omega) (by rw [k_0]; omega)
    rw [← hr] at a b c d
    rw [k_0] at c d
    exact ⟨inv_mono a (by omega) hB, b, c, by omega⟩
  by_cases c1 : 0 < σ 1 h
  · exact key (nI 1) _ (if_pos c1)
  · by_cases c2 : σ 1 (tn (s_J9_floorMod_7cf53 (nI (h + 1)) (nI 24))) ≤ 0
    · exact key (nI 0) _ ((if_neg c1).trans (if_pos c2))
    · exact key (nI 1) _ ((if_neg c1).trans (if_neg c2))
theorem tn_fm (x : Int32) : tn (s_J9_floorMod_7cf53 x (nI 24)) < 24 := by
  have h := fm_in x
  rw [vp_in_iff] at h
  have e := ti_tn h.1
  omega
/-- the hours go by -/
theorem inv_go : ∀ (n k B : Nat) (many : Int32) (τ : Sg), Inv B nS nU nC τ → B + 100 * n ≤ 100000000 → 0 ≤ many.toInt → many.toInt + 10 * n ≤ 1000000 →
    Inv (B + 100 * n) nS nU nC (lp_X1_letGoBy_4 n k many τ).2 ∧ (∀ d, d < nC → (τ (53 + d) 11).toInt ≤ ((lp_X1_letGoBy_4 n k many τ).2 (53 + d) 11).toInt) ∧ many.toInt ≤ (lp_X1_letGoBy_4 n k many τ).1.toInt ∧ (lp_X1_letGoBy_4 n k many τ).1.toInt ≤ many.toInt + (nC : Int) * n := by
  intro n
  induction n with
  | zero => intro k B many τ hI _ h0 _; exact ⟨hI, fun _ _ => Int.le_refl _, Int.le_refl _, by show many.toInt ≤ many.toInt + (nC : Int) * ((0 : Nat) : Int); simp⟩
  | succ n ih =>
    intro k B many τ hI hB h0 h1
    have n8 := hI.1.2.2.1
    have n40 := hI.1.2.2.2.1
    have n10 := hI.1.2.2.2.2.1
    obtain ⟨w1, w2⟩ := inv_waits (nS := nS) (nU := nU) (nC := nC) τ (tn (τ 0 6)) 0 τ (by rw [(inv_tn hI).2.1]; omega) n40 hI
    have ew : s_X1_letUmbrellasWait τ = lp_X1_letUmbrellasWait_2 τ (tn (τ 0 6)) 0 τ := rfl
    rw [← ew] at w1 w2
    obtain ⟨l1, l2, l3, l4⟩ := inv_leaves w1 (by omega) (tn (s_J9_floorMod_7cf53 (τ 0 4) (nI 24)))
    have hrain := l1.2.1 _ (tn_fm (τ 0 4))
    obtain ⟨g1, g2⟩ := inv_walk (s_X1_letCitizensLeave (s_X1_letUmbrellasWait τ) (tn (s_J9_floorMod_7cf53 (τ 0 4) (nI 24)))).2 _ hrain nC 0 (B + 10) _ (by omega) l1 (by omega)
    have eg : s_X1_letCitizensWalk (s_X1_letCitizensLeave (s_X1_letUmbrellasWait τ) (tn (s_J9_floorMod_7cf53 (τ 0 4) (nI 24)))).2 ((s_X1_letCitizensLeave (s_X1_letUmbrellasWait τ) (tn (s_J9_floorMod_7cf53 (τ 0 4) (nI 24)))).2 1 (tn (s_J9_floorMod_7cf53 (τ 0 4) (nI 24)))) = lp_X1_letCitizensWalk_2 (s_X1_letCitizensLeave (s_X1_letUmbrellasWait τ) (tn (s_J9_floorMod_7cf53 (τ 0 4) (nI 24)))).2 ((s_X1_letCitizensLeave (s_X1_letUmbrellasWait τ) (tn (s_J9_floorMod_7cf53 (τ 0 4) (nI 24)))).2 1 (tn (s_J9_floorMod_7cf53 (τ 0 4) (nI 24)))) nC 0 (s_X1_letCitizensLeave (s_X1_letUmbrellasWait τ) (tn (s_J9_floorMod_7cf53 (τ 0 4) (nI 24)))).2 := by
      rw [← (inv_tn l1).2.2]; rfl
    rw [← eg] at g1 g2
    generalize hr3 : tn (s_J9_floorMod_7cf53 (τ 0 4) (nI 24)) = r3 at *
    generalize hX : s_X1_letCitizensWalk (s_X1_letCitizensLeave (s_X1_letUmbrellasWait τ) r3).2 ((s_X1_letCitizensLeave (s_X1_letUmbrellasWait τ) r3).2 1 r3) = X at *
    have gm : Inv (B + 100) nS nU nC X := inv_mono g1 (by omega) (by omega)
    have gw : ∀ d, d < nC → (τ (53 + d) 11).toInt ≤ (X (53 + d) 11).toInt := by
      intro d hd
      have q := g2 d hd
      rw [l2 d hd, w2 (53 + d) (by omega)] at q
      exact q
    have em : (many + (s_X1_letCitizensLeave (s_X1_letUmbrellasWait τ) r3).1).toInt = many.toInt + (s_X1_letCitizensLeave (s_X1_letUmbrellasWait τ) r3).1.toInt := ti_add (by omega)
    have go : ∀ Y : Sg, Inv (B + 100) nS nU nC Y → (∀ p, 53 ≤ p → Y p = X p) → ∀ r, r = lp_X1_letGoBy_4 n (k + 1) (many + (s_X1_letCitizensLeave (s_X1_letUmbrellasWait τ) r3).1) (up Y 0 4 (Y 0 4 + nI 1)) → Inv (B + 100 * (n + 1)) nS nU nC r.2 ∧ (∀ d, d < nC → (τ (53 + d) 11).toInt ≤ (r.2 (53 + d) 11).toInt) ∧ many.toInt ≤ r.1.toInt ∧ r.1.toInt ≤ many.toInt + (nC : Int) * ((n + 1 : Nat) : Int) := by
      intro Y y1 y2 r hr
      obtain ⟨b1, b2, b3, b4⟩ := ih (k + 1) (B + 100) (many + (s_X1_letCitizensLeave (s_X1_letUmbrellasWait τ) r3).1) (up Y 0 4 (Y 0 4 + nI 1)) (inv_h0 _ (Or.inl rfl) y1) (by omega) (by omega) (by omega)
      rw [← hr] at b1 b2 b3 b4
      refine ⟨by rw [show B + 100 * (n + 1) = B + 100 + 100 * n by omega]; exact b1, fun d hd => ?_, by omega, ?_⟩
      · have q := b2 d hd
        rw [up_row_ne Y 4 _ (show 53 + d ≠ 0 by omega), y2 (53 + d) (by omega)] at q
        exact Int.le_trans (gw d hd) q
      · rw [show (nC : Int) * ((n + 1 : Nat) : Int) = (nC : Int) * (n : Int) + nC by rw [Int.natCast_add, Int.mul_add]; simp]
        omega
    by_cases c1 : nI r3 - nI r3 / nI 6 * nI 6 = 0
    · obtain ⟨k1, k2⟩ := inv_cart gm
      by_cases c2 : nI r3 = nI 23
      · obtain ⟨e1, e2⟩ := inv_ends (nS := nS) (nU := nU) (nC := nC) (s_X1_driveCart X) (tn (s_X1_driveCart X 0 5)) 0 (s_X1_driveCart X) (by rw [(inv_tn k1).1]; omega) n8 k1
        refine go (s_X1_endDay (s_X1_driveCart X)) e1 (fun p hp => (e2 p hp).trans (k2 p hp)) _ ?_
        subst hX; subst hr3
        exact (if_pos c1).trans (if_pos c2)
      · refine go (s_X1_driveCart X) k1 k2 _ ?_
        subst hX; subst hr3
        exact (if_pos c1).trans (if_neg c2)
    · by_cases c2 : nI r3 = nI 23
      · obtain ⟨e1, e2⟩ := inv_ends (nS := nS) (nU := nU) (nC := nC) X (tn (X 0 5)) 0 X (by rw [(inv_tn gm).1]; omega) n8 gm
        refine go (s_X1_endDay X) e1 e2 _ ?_
        subst hX; subst hr3
        exact (if_neg c1).trans (if_pos c2)
      · refine go X gm (fun _ _ => rfl) _ ?_
        subst hX; subst hr3
        exact (if_neg c1).trans (if_neg c2)
end SH
