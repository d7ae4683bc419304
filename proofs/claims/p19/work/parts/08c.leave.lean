section SL
variable {B nS nU nC : Nat} {σ : Sg}
theorem inv_cirr {c k : Nat} (v : Int32) (hk : k = 8 ∨ k = 14) (hI : Inv B nS nU nC σ) : Inv B nS nU nC (up σ (53 + c) k v) := by
  refine inv_ci (c := c) hI (Nat.le_refl B) hI.1.2.2.2.2.2 (fun p hp => up_row_ne σ k v hp) (up_neK σ _ v _ (by omega)) (fun h => ?_)
  have a := hI.2.2.2.2.1 c h
  unfold CI at a ⊢
  simp (disch := omega) only [up_neK]
  exact a
theorem inv_ref {c i : Nat} (v : Int32) (hI : Inv B nS nU nC σ) (hi : i < 8) : Inv B nS nU nC (s_X2_noteRefusal (up σ (53 + c) 14 v) i) := by
  have h1 := inv_cirr (c := c) v (Or.inr rfl) hI
  generalize up σ (53 + c) 14 v = τ at h1 ⊢
  unfold s_X2_noteRefusal
  simp only [ltt]
  refine inv_sh (i := i) h1 hi (fun p hp => ?_) ?_ ?_ (fun h => ?_)
  · simp (disch := omega) only [up_row_ne]
  · simp (disch := omega) only [up_neK]
  · simp (disch := omega) only [up_neK]
  · simp (disch := omega) only [up_neK]
    exact (h1.2.2.1 i h).1.1
theorem ref_c (c i d : Nat) (v : Int32) (k : Nat) (hi : i < 8) (hk : k ≠ 14) : s_X2_noteRefusal (up σ (53 + c) 14 v) i (53 + d) k = σ (53 + d) k := by
  unfold s_X2_noteRefusal
  simp only [ltt]
  simp (disch := omega) only [up_row_ne, up_neK]
def tkS (σ : Sg) (F : Int32) (c sh : Nat) : Sg := ltt (s_X3_goWith σ (tn F) (nI c)) (fun u12 => ltt (up u12 (53 + c) 9 F) (fun u13 => ltt (up u13 (53 + c) 12 ((u13 (53 + c) 12) + (nI 1))) (fun u14 => up u14 (5 + sh) 2 ((u14 (5 + sh) 2) + (nI 1)))))
theorem take_form {c sh : Nat} (hI : Inv B nS nU nC σ) (hs : sh < nS) (h6 : σ (53 + c) 6 = nI sh) :
    (∃ v, s_X1_takeUmbrella σ c = (nI 0, s_X2_noteRefusal (up σ (53 + c) 14 v) sh)) ∨ (∃ u, u < nU ∧ σ (13 + u) 0 = 0 ∧ σ (13 + u) 1 = nI sh ∧ s_X1_takeUmbrella σ c = (nI 1, tkS σ (nI u) c sh)) := by
  have h8 := hI.1.2.2.1
  have ht : tn (σ (53 + c) 6) = sh := by rw [h6, tn_nI (by omega)]
  have h1 : ¬ s_X1_isShelter σ (σ (53 + c) 6) = 0 := (isSh_n hI).mpr ⟨sh, hs, h6⟩
  by_cases h2 : σ (53 + c) 10 < σ (5 + tn (σ (53 + c) 6)) 1
  · have e : s_X1_takeUmbrella σ c = (nI 0, s_X2_noteRefusal (up σ (53 + c) 14 (σ (53 + c) 14 + nI 1)) (tn (σ (53 + c) 6))) := (if_neg h1).trans (if_pos h2)
    rw [ht] at e
    exact Or.inl ⟨_, e⟩
  · by_cases h3 : s_X1_isUmbrella σ (s_X1_firstUmbrellaIn σ (σ (53 + c) 6)) = 0
    · have e : s_X1_takeUmbrella σ c = (nI 0, s_X2_noteRefusal (up σ (53 + c) 14 (σ (53 + c) 14 + nI 1)) (tn (σ (53 + c) 6))) := (if_neg h1).trans ((if_neg h2).trans (if_pos h3))
      rw [ht] at e
      exact Or.inl ⟨_, e⟩
    · have e : s_X1_takeUmbrella σ c = (nI 1, tkS σ (s_X1_firstUmbrellaIn σ (σ (53 + c) 6)) c (tn (σ (53 + c) 6))) := (if_neg h1).trans ((if_neg h2).trans (if_neg h3))
      rcases first_form hI (σ (53 + c) 6) with q | ⟨u, hu, q, a, b⟩
      · exact absurd (by rw [q]; exact isUm_m1 σ) h3
      · rw [q, ht] at e
        exact Or.inr ⟨u, hu, a, b.trans h6, e⟩
theorem tk_row {u c sh p : Nat} (hu : u < 40) (h1 : p ≠ 13 + u) (h2 : p ≠ 53 + c) (h3 : p ≠ 5 + sh) : tkS σ (nI u) c sh p = σ p := by
  unfold tkS s_X3_goWith
  simp only [ltt]
  rw [tn_nI (by omega)]
  simp (disch := omega) only [up_row_ne]
theorem tk_u {u c sh : Nat} (hu : u < 40) (hs : sh < 8) : tkS σ (nI u) c sh (13 + u) 0 = nI 1 ∧ tkS σ (nI u) c sh (13 + u) 1 = nI c ∧ tkS σ (nI u) c sh (13 + u) 2 = σ (13 + u) 2 ∧ tkS σ (nI u) c sh (13 + u) 3 = σ (13 + u) 3 ∧ tkS σ (nI u) c sh (13 + u) 5 = σ (13 + u) 1 := by
  unfold tkS s_X3_goWith
  simp only [ltt]
  rw [tn_nI (by omega)]
  refine ⟨?_, ?_, ?_, ?_, ?_⟩ <;> simp (disch := omega) only [up_s, up_neK, up_row_ne]
theorem tk_c {u c sh : Nat} (hu : u < 40) (hs : sh < 8) : tkS σ (nI u) c sh (53 + c) 9 = nI u ∧ tkS σ (nI u) c sh (53 + c) 12 = σ (53 + c) 12 + nI 1 ∧ ∀ k, k ≠ 9 → k ≠ 12 → tkS σ (nI u) c sh (53 + c) k = σ (53 + c) k := by
  unfold tkS s_X3_goWith
  simp only [ltt]
  rw [tn_nI (by omega)]
  refine ⟨?_, ?_, fun k h1 h2 => ?_⟩ <;> simp (disch := omega) only [up_s, up_neK, up_row_ne]
theorem tk_s {u c sh : Nat} (hu : u < 40) (hs : sh < 8) : tkS σ (nI u) c sh (5 + sh) 2 = σ (5 + sh) 2 + nI 1 ∧ ∀ k, k ≠ 2 → tkS σ (nI u) c sh (5 + sh) k = σ (5 + sh) k := by
  unfold tkS s_X3_goWith
  simp only [ltt]
  rw [tn_nI (by omega)]
  refine ⟨?_, fun k h1 => ?_⟩ <;> simp (disch := omega) only [up_s, up_neK, up_row_ne]
theorem inv_take {u c sh : Nat} (hI : Inv B nS nU nC σ) (hB2 : B + 1 ≤ 100000000) (hu : u < nU) (hc : c < nC) (hs : sh < nS) (h6 : σ (53 + c) 6 = nI sh) (h0 : σ (13 + u) 0 = 0) (h1 : σ (13 + u) 1 = nI sh) : Inv (B + 1) nS nU nC (s_X0_setOut (tkS σ (nI u) c sh) c) := by
  have hI0 := hI
  obtain ⟨⟨n0, n1, n8, n40, n10, nB⟩, hr, hs9, hU, hC, hh⟩ := hI
  have hUu := hU u hu
  have hCc := hC c hc
  have u40 : u < 40 := by omega
  have s8 : sh < 8 := by omega
  have isv : (nI sh).toInt = (sh : Int) := ti_n (by omega)
  have icv : (nI c).toInt = (c : Int) := ti_n (by omega)
  have iuv : (nI u).toInt = (u : Int) := ti_n (by omega)
  have i0 := te_0.mp h0
  have i6 : (σ (53 + c) 6).toInt = (sh : Int) := by rw [h6, isv]
  obtain ⟨a0, a1, a2, a3, a5⟩ := tk_u (σ := σ) (c := c) u40 s8
  obtain ⟨c9, c12, ck⟩ := tk_c (σ := σ) (c := c) u40 s8
  obtain ⟨s2, sk⟩ := tk_s (σ := σ) (c := c) u40 s8
  have row := fun p => tk_row (σ := σ) (u := u) (c := c) (sh := sh) (p := p) u40
  generalize tkS σ (nI u) c sh = T at a0 a1 a2 a3 a5 c9 c12 ck s2 sk row ⊢
  have orow := out_row T c
  have oat := out_at T c
  obtain ⟨g, lf, oe, hg⟩ := out_form T c
  have o6 : s_X0_setOut T c (53 + c) 6 = (-1 : Int32) := by rw [oe]; simp (disch := omega) only [up_s, up_neK]
  have o7 : s_X0_setOut T c (53 + c) 7 = g := by rw [oe]; simp (disch := omega) only [up_s, up_neK]
  rw [ck 0 (by decide) (by decide), ck 1 (by decide) (by decide)] at hg
  unfold UI at hUu
  unfold CI at hCc
  rw [i6] at hCc
  have e12 : (T (53 + c) 12).toInt = (σ (53 + c) 12).toInt + 1 := by rw [c12, ti_inc (by omega)]
  refine inv_mod (u := u) (c := c) hI0 (Nat.le_succ B) hB2 ?_ ?_ ?_ ?_ (fun x hx hn => ?_) (fun x hx hn => ?_) (fun _ => ?_) (fun _ => ?_) (fun _ x hx hn => ?_) (fun _ x hx hn => ?_) (fun _ _ => ?_) (fun i hi => ?_)
  · rw [orow 0 (by omega), row 0 (by omega) (by omega) (by omega)]
  · rw [orow 0 (by omega), row 0 (by omega) (by omega) (by omega)]
  · rw [orow 0 (by omega), row 0 (by omega) (by omega) (by omega)]
  · rw [orow 1 (by omega), row 1 (by omega) (by omega) (by omega)]
  · rw [orow _ (by omega), row _ (by omega) (by omega) (by omega)]
  · rw [orow _ (by omega), row _ (by omega) (by omega) (by omega)]
  · rw [orow _ (by omega)]
    unfold UI
    rw [a0, a1, a2, a3, a5, h1, isv, icv, k_1]
    omega
  · unfold CI
    rw [o6, o7, oat 0 (by decide) (by decide) (by decide), oat 1 (by decide) (by decide) (by decide), oat 9 (by decide) (by decide) (by decide), oat 10 (by decide) (by decide) (by decide), oat 11 (by decide) (by decide) (by decide), oat 12 (by decide) (by decide) (by decide), oat 13 (by decide) (by decide) (by decide), e12, c9, ck 0 (by decide) (by decide), ck 1 (by decide) (by decide), ck 10 (by decide) (by decide), ck 11 (by decide) (by decide), ck 13 (by decide) (by decide), iuv, ti_m1]
    rcases hg with rfl | rfl <;> omega
  · have h := hh u hu x hx
    unfold HH at h ⊢
    rw [orow _ (by omega), orow _ (by omega), a0, a1, k_1, icv, row (53 + x) (by omega) (by omega) (by omega)]
    omega
  · have h := hh x hx c hc
    unfold HH at h ⊢
    rw [orow _ (by omega), oat 9 (by decide) (by decide) (by decide), c9, iuv, row (13 + x) (by omega) (by omega) (by omega)]
    omega
  · unfold HH
    rw [orow _ (by omega), oat 9 (by decide) (by decide) (by decide), c9, iuv, a0, a1, k_1, icv]
    omega
  · rw [if_pos hu, fH_0 (σ := σ) (by omega)]
    have hsi := hs9 i hi
    have hcn := cn_nn (f := fH σ i) nU (fun x _ => (fH_nn σ i x).1)
    unfold SI at hsi ⊢
    rw [orow (5 + i) (by omega)]
    have ef : fH (s_X0_setOut T c) i u = if sh = i then 1 else 0 := by
      unfold fH
      rw [orow _ (by omega), a0, a5, h1, k_1, isv]
      by_cases q : sh = i
      · rw [if_pos q, if_pos (by omega)]
      · rw [if_neg q, if_neg (by omega)]
    rw [ef]
    by_cases q : i = sh
    · subst q
      have es2 : (T (5 + i) 2).toInt = (σ (5 + i) 2).toInt + 1 := by rw [s2, ti_inc (by omega)]
      rw [if_pos rfl, es2, sk 1 (by decide), sk 3 (by decide)]
      omega
    · rw [if_neg (fun e => q e.symm), row (5 + i) (by omega) (by omega) (by omega)]
      omega
theorem take_11 {u c sh d : Nat} (hu : u < 40) (hs : sh < 8) : s_X0_setOut (tkS σ (nI u) c sh) c (53 + d) 11 = σ (53 + d) 11 := by
  by_cases e : d = c
  · subst e
    rw [out_at _ _ 11 (by decide) (by decide) (by decide), (tk_c hu hs).2.2 11 (by decide) (by decide)]
  · rw [out_row _ _ _ (by omega), tk_row hu (by omega) (by omega) (by omega)]
theorem out_11 (X : Sg) (c d : Nat) : s_X0_setOut X c (53 + d) 11 = X (53 + d) 11 := by
  by_cases e : d = c
  · subst e; exact out_at _ _ 11 (by decide) (by decide) (by decide)
  · rw [out_row _ _ _ (by omega)]
theorem leaves_st {c : Nat} {x : Int32} (h : ¬ s_X0_leavesAt σ c x = 0) : σ (53 + c) 6 = σ (53 + c) 0 ∨ σ (53 + c) 6 = σ (53 + c) 1 := by
  by_cases h0 : σ (53 + c) 6 = σ (53 + c) 0
  · exact Or.inl h0
  · by_cases h1 : σ (53 + c) 6 = σ (53 + c) 1
    · exact Or.inr h1
    · exact absurd ((if_neg h0).trans ((if_neg h1).trans nI_0)) h
end SL
theorem inv_leave {nS nU nC : Nat} (σ0 : Sg) (h : Nat) (wt : Int32) : ∀ (n k B : Nat) (many : Int32) (τ : Sg), k + n ≤ nC → Inv B nS nU nC τ → B + n ≤ 100000000 → 0 ≤ many.toInt → many.toInt + n ≤ 1000000 →
    Inv (B + n) nS nU nC (lp_X1_letCitizensLeave_36 σ0 h wt n k many τ).2 ∧ (∀ d, d < nC → (lp_X1_letCitizensLeave_36 σ0 h wt n k many τ).2 (53 + d) 11 = τ (53 + d) 11) ∧ many.toInt ≤ (lp_X1_letCitizensLeave_36 σ0 h wt n k many τ).1.toInt ∧ (lp_X1_letCitizensLeave_36 σ0 h wt n k many τ).1.toInt ≤ many.toInt + n := by
  intro n
  induction n with
  | zero => intro k B many τ _ hI _ h0 _; exact ⟨hI, fun _ _ => rfl, Int.le_refl _, by show many.toInt ≤ many.toInt + ((0 : Nat) : Int); omega⟩
  | succ n ih =>
    intro k B many τ hk hI hB h0 h1
    have hI0 := hI
    have go : ∀ (m1 : Int32) (τ1 : Sg), Inv (B + 1) nS nU nC τ1 → (∀ d, d < nC → τ1 (53 + d) 11 = τ (53 + d) 11) → (m1.toInt = many.toInt ∨ m1.toInt = many.toInt + 1) → ∀ r, r = lp_X1_letCitizensLeave_36 σ0 h wt n (k + 1) m1 τ1 → Inv (B + (n + 1)) nS nU nC r.2 ∧ (∀ d, d < nC → r.2 (53 + d) 11 = τ (53 + d) 11) ∧ many.toInt ≤ r.1.toInt ∧ r.1.toInt ≤ many.toInt + ((n + 1 : Nat) : Int) := by
      intro m1 τ1 a1 a2 a3 r hr
      obtain ⟨b1, b2, b3, b4⟩ := ih (k + 1) (B + 1) m1 τ1 (by omega) a1 (by omega) (by omega) (by omega)
      rw [← hr] at b1 b2 b3 b4
      refine ⟨by rw [show B + (n + 1) = B + 1 + n by omega]; exact b1, fun d hd => (b2 d hd).trans (a2 d hd), by omega, by omega⟩
    by_cases c1 : s_X0_leavesAt τ k (nI h) = 0
    · exact go many τ (inv_mono hI (by omega) (by omega)) (fun _ _ => rfl) (Or.inl rfl) _ (if_pos c1)
    · by_cases c2 : wt = 0
      · exact go many _ (inv_mono (inv_out hI (by omega)) (by omega) (by omega)) (fun d _ => out_11 τ k d) (Or.inl rfl) _ ((if_neg c1).trans (if_pos c2))
      · have hCk := hI.2.2.2.2.1 k (by omega)
        have n8 := hI.1.2.2.1
        have n40 := hI.1.2.2.2.1
        have hst : 0 ≤ (τ (53 + k) 6).toInt ∧ (τ (53 + k) 6).toInt < nS := by
          unfold CI at hCk
          rcases leaves_st c1 with q | q <;> (rw [q]; omega)
        obtain ⟨sh, hs, h6, -⟩ := of_rng hst.1 hst.2
        rcases take_form hI hs h6 with ⟨v, e⟩ | ⟨u, hu, a0, a1, e⟩
        · have c3 : (s_X1_takeUmbrella τ k).1 = 0 := by rw [e]; exact nI_0
          have e2 : lp_X1_letCitizensLeave_36 σ0 h wt (n + 1) k many τ = lp_X1_letCitizensLeave_36 σ0 h wt n (k + 1) many (s_X0_setOut (s_X1_takeUmbrella τ k).2 k) := (if_neg c1).trans ((if_neg c2).trans (if_pos c3))
          rw [e] at e2
          have hR := inv_ref (c := k) v hI (show sh < 8 by omega)
          exact go many _ (inv_mono (inv_out hR (by omega)) (by omega) (by omega)) (fun d _ => (out_11 _ k d).trans (ref_c k sh d v 11 (by omega) (by decide))) (Or.inl rfl) _ e2
        · have c3 : ¬ (s_X1_takeUmbrella τ k).1 = 0 := by rw [e]; show ¬ nI 1 = 0; decide
          have e2 : lp_X1_letCitizensLeave_36 σ0 h wt (n + 1) k many τ = lp_X1_letCitizensLeave_36 σ0 h wt n (k + 1) (many + nI 1) (s_X0_setOut (s_X1_takeUmbrella τ k).2 k) := (if_neg c1).trans ((if_neg c2).trans (if_neg c3))
          rw [e] at e2
          exact go (many + nI 1) _ (inv_take hI (by omega) hu (by omega) hs h6 a0 a1) (fun d _ => take_11 (by omega) (by omega)) (Or.inr (ti_inc (by omega))) _ e2
