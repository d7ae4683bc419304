/-! WHAT THE CLASS ANSWERS AND DOES, as the law calls it -/
theorem win {x : Int32} {lo hi : Nat} (h : (lo : Int) ≤ x.toInt ∧ x.toInt ≤ hi) (hh : lo < 2 ^ 31 ∧ hi < 2 ^ 31) : ¬ s_X4_isWithin x (nI lo) (nI hi) = 0 := by
  unfold s_X4_isWithin
  rw [if_neg (by rw [tl, ti_n hh.1]; omega), if_neg (by rw [tl, ti_n hh.2]; omega)]
  decide
section OP
variable {B nS nU nC : Nat} {σ : Sg × Sg}
theorem in_n {x : Int32} {n : Nat} (h : 0 ≤ x.toInt ∧ x.toInt < n) : ∃ j, j < n ∧ x = nI j := by
  obtain ⟨j, a, b, -⟩ := of_rng h.1 h.2
  exact ⟨j, a, b⟩
theorem isCi_n {τ : Sg} (hI : Inv B nS nU nC τ) {c : Nat} (hc : c < nC) : ¬ s_X1_isCitizen τ (nI c) = 0 := by
  obtain ⟨⟨⟨n5, n6, n7⟩, n1, n8, n40, n10, nB⟩, -⟩ := hI
  have e : s_X1_isCitizen τ (nI c) = nI 1 := by
    unfold s_X1_isCitizen
    rw [if_neg (nI_pos (by omega)), n7, if_neg (nI_ge hc (by omega))]
  rw [e]; decide
theorem ck_sh (hI : Inv B nS nU nC σ.1) {x : Int32} (h : 0 ≤ x.toInt ∧ x.toInt < nS) : s_X4_checkShelter σ x = .inr () := if_neg ((isSh_n hI).mpr (in_n h))
theorem ck_um (hI : Inv B nS nU nC σ.1) {u : Nat} (h : u < nU) : s_X4_checkUmbrella σ (nI u) = .inr () := if_neg ((isUm_n hI).mpr ⟨u, h, rfl⟩)
theorem ck_ci (hI : Inv B nS nU nC σ.1) {c : Nat} (h : c < nC) : s_X4_checkCitizen σ (nI c) = .inr () := if_neg (isCi_n hI h)
theorem ck_hr {x : Int32} (h : 0 ≤ x.toInt ∧ x.toInt ≤ 23) : s_X4_checkHourOfDay x = .inr () := if_neg (win (lo := 0) (hi := 23) (by omega) (by decide))
theorem ck_hs {x : Int32} {n : Nat} (hn : n < 2 ^ 31) (h : 1 ≤ x.toInt ∧ x.toInt ≤ n) : s_X4_checkHours x (nI n) = .inr () := if_neg (win (lo := 1) (hi := n) (by omega) ⟨by decide, hn⟩)
theorem op_count (k : Nat) (h : s_X4_checkWhat (nI k) (nI 11) = .inr ()) : s_X4_count σ (nI k) = .inr (s_X1_tellAll σ.1 (nI k), σ) := xb_r (x := ()) h
theorem cw11 (k : Nat) (h : ¬ s_X4_isWithin (nI k) (nI 0) (nI 11 - nI 1) = 0) : s_X4_checkWhat (nI k) (nI 11) = .inr () := if_neg h
theorem oc_1 (hI : Inv B nS nU nC σ.1) : s_X4_count σ (nI 1) = .inr (nI nS, σ) := by
  rw [op_count 1 (cw11 1 (by decide)), ← hI.1.1.1]
  exact congrArg (fun r => Sum.inr (r, σ)) ((if_neg (by decide)).trans (if_pos rfl))
theorem oc_2 (hI : Inv B nS nU nC σ.1) : s_X4_count σ (nI 2) = .inr (nI nU, σ) := by
  rw [op_count 2 (cw11 2 (by decide)), ← hI.1.1.2.1]
  exact congrArg (fun r => Sum.inr (r, σ)) ((if_neg (by decide)).trans ((if_neg (by decide)).trans (if_pos rfl)))
theorem oc_3 (hI : Inv B nS nU nC σ.1) : s_X4_count σ (nI 3) = .inr (nI nC, σ) := by
  rw [op_count 3 (cw11 3 (by decide)), ← hI.1.1.2.2]
  exact congrArg (fun r => Sum.inr (r, σ)) ((if_neg (by decide)).trans ((if_neg (by decide)).trans ((if_neg (by decide)).trans (if_pos rfl))))
theorem oc_4 : s_X4_count σ (nI 4) = .inr (s_X1_umbrellasThatAre σ.1 (nI 0), σ) := by
  rw [op_count 4 (cw11 4 (by decide))]
  exact congrArg (fun r => Sum.inr (r, σ)) ((if_neg (by decide)).trans ((if_neg (by decide)).trans ((if_neg (by decide)).trans ((if_neg (by decide)).trans (if_pos rfl)))))
theorem oc_5 : s_X4_count σ (nI 5) = .inr (s_X1_umbrellasThatAre σ.1 (nI 1), σ) := by
  rw [op_count 5 (cw11 5 (by decide))]
  exact congrArg (fun r => Sum.inr (r, σ)) ((if_neg (by decide)).trans ((if_neg (by decide)).trans ((if_neg (by decide)).trans ((if_neg (by decide)).trans ((if_neg (by decide)).trans (if_pos rfl))))))
theorem oc_6 : s_X4_count σ (nI 6) = .inr (s_X1_umbrellasThatAre σ.1 (nI 2), σ) := by
  rw [op_count 6 (cw11 6 (by decide))]
  exact congrArg (fun r => Sum.inr (r, σ)) ((if_neg (by decide)).trans ((if_neg (by decide)).trans ((if_neg (by decide)).trans ((if_neg (by decide)).trans ((if_neg (by decide)).trans ((if_neg (by decide)).trans (if_pos rfl)))))))
theorem oc_7 : s_X4_count σ (nI 7) = .inr (s_X1_umbrellasThatAre σ.1 (nI 3), σ) := by
  rw [op_count 7 (cw11 7 (by decide))]
  exact congrArg (fun r => Sum.inr (r, σ)) ((if_neg (by decide)).trans ((if_neg (by decide)).trans ((if_neg (by decide)).trans ((if_neg (by decide)).trans ((if_neg (by decide)).trans ((if_neg (by decide)).trans ((if_neg (by decide)).trans (if_pos rfl))))))))
theorem oc_8 : s_X4_count σ (nI 8) = .inr (s_X1_citizensIn σ.1 (-1 : Int32), σ) := by
  rw [op_count 8 (cw11 8 (by decide))]
  exact congrArg (fun r => Sum.inr (r, σ)) ((if_neg (by decide)).trans ((if_neg (by decide)).trans ((if_neg (by decide)).trans ((if_neg (by decide)).trans ((if_neg (by decide)).trans ((if_neg (by decide)).trans ((if_neg (by decide)).trans ((if_neg (by decide)).trans (if_pos rfl)))))))))
theorem oc_9 : s_X4_count σ (nI 9) = .inr (s_X1_wetOfAll σ.1, σ) := by
  rw [op_count 9 (cw11 9 (by decide))]
  exact congrArg (fun r => Sum.inr (r, σ)) ((if_neg (by decide)).trans ((if_neg (by decide)).trans ((if_neg (by decide)).trans ((if_neg (by decide)).trans ((if_neg (by decide)).trans ((if_neg (by decide)).trans ((if_neg (by decide)).trans ((if_neg (by decide)).trans ((if_neg (by decide)).trans (if_pos rfl))))))))))
theorem op_umb (hI : Inv B nS nU nC σ.1) {u : Nat} (hu : u < nU) (k : Nat) (h : ¬ s_X4_isWithin (nI k) (nI 0) (nI 6 - nI 1) = 0) {v : Int32} (hv : s_X3_tell σ.1 u (nI k) = v) : s_X4_umbrella σ (nI u) (nI k) = .inr (v, σ) := by
  have n40 := hI.1.2.2.2.1
  have e : s_X4_umbrella σ (nI u) (nI k) = .inr (s_X3_tell σ.1 (tn (nI u)) (nI k), σ) := (xb_r (x := ()) (ck_um hI hu)).trans (xb_r (x := ()) (if_neg h))
  rw [e, tn_nI (by omega), hv]
theorem ou_0 (hI : Inv B nS nU nC σ.1) {u : Nat} (hu : u < nU) : s_X4_umbrella σ (nI u) (nI 0) = .inr (σ.1 (13 + u) 0, σ) := op_umb hI hu 0 (by decide) (if_pos rfl)
theorem ou_1 (hI : Inv B nS nU nC σ.1) {u : Nat} (hu : u < nU) : s_X4_umbrella σ (nI u) (nI 1) = .inr (σ.1 (13 + u) 1, σ) := op_umb hI hu 1 (by decide) ((if_neg (by decide)).trans (if_pos rfl))
theorem ou_2 (hI : Inv B nS nU nC σ.1) {u : Nat} (hu : u < nU) : s_X4_umbrella σ (nI u) (nI 2) = .inr (σ.1 (13 + u) 2, σ) := op_umb hI hu 2 (by decide) ((if_neg (by decide)).trans ((if_neg (by decide)).trans (if_pos rfl)))
theorem ou_3 (hI : Inv B nS nU nC σ.1) {u : Nat} (hu : u < nU) : s_X4_umbrella σ (nI u) (nI 3) = .inr (σ.1 (13 + u) 3, σ) := op_umb hI hu 3 (by decide) ((if_neg (by decide)).trans ((if_neg (by decide)).trans ((if_neg (by decide)).trans (if_pos rfl))))
theorem op_cit (hI : Inv B nS nU nC σ.1) {c : Nat} (hc : c < nC) (k : Nat) (h : ¬ s_X4_isWithin (nI k) (nI 0) (nI 10 - nI 1) = 0) {v : Int32} (hv : s_X0_tell σ.1 c (nI k) = v) : s_X4_citizen σ (nI c) (nI k) = .inr (v, σ) := by
  have n10 := hI.1.2.2.2.2.1
  have e : s_X4_citizen σ (nI c) (nI k) = .inr (s_X0_tell σ.1 (tn (nI c)) (nI k), σ) := (xb_r (x := ()) (ck_ci hI hc)).trans (xb_r (x := ()) (if_neg h))
  rw [e, tn_nI (by omega), hv]
theorem ot_2 (hI : Inv B nS nU nC σ.1) {c : Nat} (hc : c < nC) : s_X4_citizen σ (nI c) (nI 2) = .inr (σ.1 (53 + c) 6, σ) := op_cit hI hc 2 (by decide) ((if_neg (by decide)).trans ((if_neg (by decide)).trans (if_pos rfl)))
theorem ot_4 (hI : Inv B nS nU nC σ.1) {c : Nat} (hc : c < nC) : s_X4_citizen σ (nI c) (nI 4) = .inr (σ.1 (53 + c) 9, σ) := op_cit hI hc 4 (by decide) ((if_neg (by decide)).trans ((if_neg (by decide)).trans ((if_neg (by decide)).trans ((if_neg (by decide)).trans (if_pos rfl)))))
theorem ot_5 (hI : Inv B nS nU nC σ.1) {c : Nat} (hc : c < nC) : s_X4_citizen σ (nI c) (nI 5) = .inr (σ.1 (53 + c) 10, σ) := op_cit hI hc 5 (by decide) ((if_neg (by decide)).trans ((if_neg (by decide)).trans ((if_neg (by decide)).trans ((if_neg (by decide)).trans ((if_neg (by decide)).trans (if_pos rfl))))))
theorem ot_7 (hI : Inv B nS nU nC σ.1) {c : Nat} (hc : c < nC) : s_X4_citizen σ (nI c) (nI 7) = .inr (σ.1 (53 + c) 12, σ) := op_cit hI hc 7 (by decide) ((if_neg (by decide)).trans ((if_neg (by decide)).trans ((if_neg (by decide)).trans ((if_neg (by decide)).trans ((if_neg (by decide)).trans ((if_neg (by decide)).trans ((if_neg (by decide)).trans (if_pos rfl))))))))
theorem ot_8 (hI : Inv B nS nU nC σ.1) {c : Nat} (hc : c < nC) : s_X4_citizen σ (nI c) (nI 8) = .inr (σ.1 (53 + c) 13, σ) := op_cit hI hc 8 (by decide) ((if_neg (by decide)).trans ((if_neg (by decide)).trans ((if_neg (by decide)).trans ((if_neg (by decide)).trans ((if_neg (by decide)).trans ((if_neg (by decide)).trans ((if_neg (by decide)).trans ((if_neg (by decide)).trans (if_pos rfl)))))))))
theorem op_she (hI : Inv B nS nU nC σ.1) {i : Nat} (hi : i < nS) (k : Nat) (h : ¬ s_X4_isWithin (nI k) (nI 0) (nI 8 - nI 1) = 0) {v : Int32} (hv : s_X1_tellShelter σ.1 (nI i) (nI k) = v) : s_X4_shelter σ (nI i) (nI k) = .inr (v, σ) := by
  have n8 := hI.1.2.2.1
  have e : s_X4_shelter σ (nI i) (nI k) = .inr (s_X1_tellShelter σ.1 (nI i) (nI k), σ) := (xb_r (x := ()) (ck_sh hI (by rw [ti_n (by omega)]; omega))).trans (xb_r (x := ()) (if_neg h))
  rw [e, hv]
theorem os_1 (hI : Inv B nS nU nC σ.1) {i : Nat} (hi : i < nS) : s_X4_shelter σ (nI i) (nI 1) = .inr (σ.1 (5 + i) 1, σ) := by
  have n8 := hI.1.2.2.1
  have e : s_X1_tellShelter σ.1 (nI i) (nI 1) = σ.1 (5 + tn (nI i)) 1 := (if_neg ((isSh_n hI).mpr ⟨i, hi, rfl⟩)).trans ((if_neg (by decide)).trans (if_pos rfl))
  rw [tn_nI (by omega)] at e
  exact op_she hI hi 1 (by decide) e
theorem os_2 (hI : Inv B nS nU nC σ.1) {i : Nat} (hi : i < nS) : s_X4_shelter σ (nI i) (nI 2) = .inr (s_X1_umbrellasIn σ.1 (nI i), σ) :=
  op_she hI hi 2 (by decide) ((if_neg ((isSh_n hI).mpr ⟨i, hi, rfl⟩)).trans ((if_neg (by decide)).trans ((if_neg (by decide)).trans (if_pos rfl))))
theorem os_3 (hI : Inv B nS nU nC σ.1) {i : Nat} (hi : i < nS) : s_X4_shelter σ (nI i) (nI 3) = .inr (s_X1_citizensIn σ.1 (nI i), σ) :=
  op_she hI hi 3 (by decide) ((if_neg ((isSh_n hI).mpr ⟨i, hi, rfl⟩)).trans ((if_neg (by decide)).trans ((if_neg (by decide)).trans ((if_neg (by decide)).trans (if_pos rfl)))))
theorem os_4 (hI : Inv B nS nU nC σ.1) {i : Nat} (hi : i < nS) : s_X4_shelter σ (nI i) (nI 4) = .inr (σ.1 (5 + i) 2, σ) := by
  have n8 := hI.1.2.2.1
  have e : s_X1_tellShelter σ.1 (nI i) (nI 4) = σ.1 (5 + tn (nI i)) 2 := (if_neg ((isSh_n hI).mpr ⟨i, hi, rfl⟩)).trans ((if_neg (by decide)).trans ((if_neg (by decide)).trans ((if_neg (by decide)).trans ((if_neg (by decide)).trans (if_pos rfl)))))
  rw [tn_nI (by omega)] at e
  exact op_she hI hi 4 (by decide) e
theorem os_5 (hI : Inv B nS nU nC σ.1) {i : Nat} (hi : i < nS) : s_X4_shelter σ (nI i) (nI 5) = .inr (σ.1 (5 + i) 3, σ) := by
  have n8 := hI.1.2.2.1
  have e : s_X1_tellShelter σ.1 (nI i) (nI 5) = σ.1 (5 + tn (nI i)) 3 := (if_neg ((isSh_n hI).mpr ⟨i, hi, rfl⟩)).trans ((if_neg (by decide)).trans ((if_neg (by decide)).trans ((if_neg (by decide)).trans ((if_neg (by decide)).trans ((if_neg (by decide)).trans (if_pos rfl))))))
  rw [tn_nI (by omega)] at e
  exact op_she hI hi 5 (by decide) e
theorem os_7 (hI : Inv B nS nU nC σ.1) {i : Nat} (hi : i < nS) : s_X4_shelter σ (nI i) (nI 7) = .inr (s_X1_firstUmbrellaIn σ.1 (nI i), σ) :=
  op_she hI hi 7 (by decide) ((if_neg ((isSh_n hI).mpr ⟨i, hi, rfl⟩)).trans ((if_neg (by decide)).trans ((if_neg (by decide)).trans ((if_neg (by decide)).trans ((if_neg (by decide)).trans ((if_neg (by decide)).trans ((if_neg (by decide)).trans (if_neg (by decide)))))))))
/-! hours, looking ahead -/
theorem cw5 (k : Nat) (h : ¬ s_X4_isWithin (nI k) (nI 0) (nI 5 - nI 1) = 0) : s_X4_checkWhat (nI k) (nI 5) = .inr () := if_neg h
theorem op_pass {x : Int32} (h : 1 ≤ x.toInt ∧ x.toInt ≤ 100) : s_X4_pass σ x = .inr ((s_X1_letGoBy σ.1 (tn x)).1, ((s_X1_letGoBy σ.1 (tn x)).2, σ.2)) := xb_r (x := ()) (ck_hs (n := 100) (by decide) h)
theorem op_foreA (hI : Inv B nS nU nC σ.1) {x y : Int32} (h : 1 ≤ x.toInt ∧ x.toInt ≤ 100) (hy : y = nI 0) : ∃ A : Sg, s_X4_foresee σ x y = .inr (s_X1_wetOfAll (s_X1_letGoBy σ.1 (tn x)).2, (σ.1, A)) := by
  obtain ⟨a, b⟩ := σ
  refine ⟨(s_X1_letGoBy (s_X1_becomeLike (a, b)).2 (tn x)).2, ?_⟩
  have z1 : (s_X1_becomeLike (a, b)).1 = a := z1_X1_becomeLike _
  have hw : s_X4_checkWhat y (nI 5) = .inr () := by rw [hy]; exact cw5 0 (by decide)
  have e : s_X4_foresee (a, b) x y = .inr (s_X1_wetOfAll (s_X1_letGoBy (s_X1_becomeLike (a, b)).2 (tn x)).2, ((s_X1_becomeLike (a, b)).1, (s_X1_letGoBy (s_X1_becomeLike (a, b)).2 (tn x)).2)) := (xb_r (x := ()) (ck_hs (n := 100) (by decide) h)).trans ((xb_r (x := ()) hw).trans (if_pos hy))
  rw [e, z1, (fore_ok b (tn x) hI).1]
theorem op_foreB (hI : Inv B nS nU nC σ.1) {x y : Int32} (h : 1 ≤ x.toInt ∧ x.toInt ≤ 100) (hy : y = nI 1) : ∃ A : Sg, s_X4_foresee σ x y = .inr (s_X1_umbrellasThatAre (s_X1_letGoBy σ.1 (tn x)).2 (nI 0), (σ.1, A)) := by
  obtain ⟨a, b⟩ := σ
  refine ⟨(s_X1_letGoBy (s_X1_becomeLike (a, b)).2 (tn x)).2, ?_⟩
  have z1 : (s_X1_becomeLike (a, b)).1 = a := z1_X1_becomeLike _
  have hw : s_X4_checkWhat y (nI 5) = .inr () := by rw [hy]; exact cw5 1 (by decide)
  have hy0 : ¬ y = nI 0 := by rw [hy]; decide
  have e : s_X4_foresee (a, b) x y = .inr (s_X1_umbrellasThatAre (s_X1_letGoBy (s_X1_becomeLike (a, b)).2 (tn x)).2 (nI 0), ((s_X1_becomeLike (a, b)).1, (s_X1_letGoBy (s_X1_becomeLike (a, b)).2 (tn x)).2)) := (xb_r (x := ()) (ck_hs (n := 100) (by decide) h)).trans ((xb_r (x := ()) hw).trans ((if_neg hy0).trans (if_pos hy)))
  rw [e, z1, (fore_ok b (tn x) hI).2]
theorem op_fore0 (hI : Inv B nS nU nC σ.1) {x : Int32} (h : 1 ≤ x.toInt ∧ x.toInt ≤ 100) : ∃ A : Sg, s_X4_foresee σ x (nI 0) = .inr (s_X1_wetOfAll (s_X1_letGoBy σ.1 (tn x)).2, (σ.1, A)) := op_foreA hI h rfl
theorem op_fore1 (hI : Inv B nS nU nC σ.1) {x : Int32} (h : 1 ≤ x.toInt ∧ x.toInt ≤ 100) : ∃ A : Sg, s_X4_foresee σ x (nI 1) = .inr (s_X1_umbrellasThatAre (s_X1_letGoBy σ.1 (tn x)).2 (nI 0), (σ.1, A)) := op_foreB hI h rfl
theorem op_adv (hI : Inv B nS nU nC σ.1) (hU : nU < 40) {x : Int32} (h : 1 ≤ x.toInt ∧ x.toInt ≤ 24) : ∃ (r : Int32) (A : Sg), s_X4_advise σ x = .inr (r, (σ.1, A)) := by
  have key : ∀ (s : Sg × Sg) (n k : Nat) (b lw : Int32) (τ : Sg × Sg), (lp_X4_advise_40 s x n k b lw τ).2.2.1 = τ.1 := by
    intro s n
    induction n with
    | zero => intro k b lw τ; rfl
    | succ n ih =>
      intro k b lw τ
      by_cases c1 : lw ≤ (s_X4_wetAfter τ (tn x) (nI k)).1
      · have e : lp_X4_advise_40 s x (n + 1) k b lw τ = lp_X4_advise_40 s x n (k + 1) b lw (s_X4_wetAfter τ (tn x) (nI k)).2 := if_pos c1
        rw [e, ih, z1_X4_wetAfter]
      · have e : lp_X4_advise_40 s x (n + 1) k b lw τ = lp_X4_advise_40 s x n (k + 1) (nI k) (s_X4_wetAfter τ (tn x) (nI k)).1 (s_X4_wetAfter τ (tn x) (nI k)).2 := if_neg c1
        rw [e, ih, z1_X4_wetAfter]
  have k2 : σ.1 0 6 < nI 40 := by rw [hI.1.1.2.1, nI_ltI (by omega) (by omega)]; exact hU
  have e : s_X4_advise σ x = .inr ((lp_X4_advise_40 σ x (tn (σ.1 0 5)) 0 (-1 : Int32) (s_X4_wetAfter σ (tn x) (-1 : Int32)).1 (s_X4_wetAfter σ (tn x) (-1 : Int32)).2).1, (lp_X4_advise_40 σ x (tn (σ.1 0 5)) 0 (-1 : Int32) (s_X4_wetAfter σ (tn x) (-1 : Int32)).1 (s_X4_wetAfter σ (tn x) (-1 : Int32)).2).2.2) := (xb_r (x := ()) (ck_hs (n := 24) (by decide) h)).trans (if_pos k2)
  have e1 := key σ (tn (σ.1 0 5)) 0 (-1 : Int32) (s_X4_wetAfter σ (tn x) (-1 : Int32)).1 (s_X4_wetAfter σ (tn x) (-1 : Int32)).2
  rw [z1_X4_wetAfter] at e1
  generalize lp_X4_advise_40 σ x (tn (σ.1 0 5)) 0 (-1 : Int32) (s_X4_wetAfter σ (tn x) (-1 : Int32)).1 (s_X4_wetAfter σ (tn x) (-1 : Int32)).2 = q at e e1
  exact ⟨q.1, q.2.2.2, by rw [e, ← e1]⟩
theorem op_lasts (hI : Inv B nS nU nC σ.1) {u : Nat} (hu : u < nU) {y : Int32} (h : 0 ≤ y.toInt ∧ y.toInt ≤ 23) : ∃ r : Int32, s_X4_lasts σ (nI u) y = .inr (r, σ) := by
  have key : ∀ (n k : Nat) (w : Int32), ∃ r : Int32, lp_X4_lasts_43 σ (nI u) y n k w = .inr (r, σ) := by
    intro n
    induction n with
    | zero => intro k w; exact ⟨_, rfl⟩
    | succ n ih =>
      intro k w
      by_cases c1 : w + σ.1 1 (tn (s_J9_floorMod_7cf53 (y + nI k) (nI 24))) < nI 30
      · obtain ⟨r, hr⟩ := ih (k + 1) (w + σ.1 1 (tn (s_J9_floorMod_7cf53 (y + nI k) (nI 24))))
        exact ⟨r, (if_pos c1).trans hr⟩
      · exact ⟨_, if_neg c1⟩
  by_cases c1 : σ.1 (13 + tn (nI u)) 0 = nI 3
  · exact ⟨_, (xb_r (x := ()) (ck_um hI hu)).trans ((xb_r (x := ()) (ck_hr h)).trans (if_pos c1))⟩
  · obtain ⟨r, hr⟩ := key 200 0 (σ.1 (13 + tn (nI u)) 2)
    exact ⟨r, (xb_r (x := ()) (ck_um hI hu)).trans ((xb_r (x := ()) (ck_hr h)).trans ((if_neg c1).trans hr))⟩
/-! the checksum tells of what is now alone -/
theorem dg_ok (a b b' : Sg) : (s_X4_digest (a, b)).1 = (s_X4_digest (a, b')).1 := by
  have h6 : ∀ (n k : Nat) (d : Int64), lp_X4_digest_6 (a, b) n k d = lp_X4_digest_6 (a, b') n k d := by
    intro n
    induction n with
    | zero => intro k d; rfl
    | succ n ih => intro k d; exact ih (k + 1) _
  have h36 : ∀ (n k : Nat) (d : Int64), lp_X4_digest_36 (a, b) n k d = lp_X4_digest_36 (a, b') n k d := by
    intro n
    induction n with
    | zero => intro k d; rfl
    | succ n ih => intro k d; exact ih (k + 1) _
  have h81 : ∀ (i n k : Nat) (d : Int64), lp_X4_digest_81 (a, b) i n k d = lp_X4_digest_81 (a, b') i n k d := by
    intro i n
    induction n with
    | zero => intro k d; rfl
    | succ n ih => intro k d; exact ih (k + 1) _
  have h67 : ∀ (n k : Nat) (d : Int64), lp_X4_digest_67 (a, b) n k d = lp_X4_digest_67 (a, b') n k d := by
    intro n
    induction n with
    | zero => intro k d; rfl
    | succ n ih =>
      intro k d
      show lp_X4_digest_67 (a, b) n (k + 1) (lp_X4_digest_81 (a, b) k 8 0 d) = lp_X4_digest_67 (a, b') n (k + 1) (lp_X4_digest_81 (a, b') k 8 0 d)
      rw [h81, ih]
  have h134 : ∀ (i n k : Nat) (d : Int64), lp_X4_digest_134 (a, b) i n k d = lp_X4_digest_134 (a, b') i n k d := by
    intro i n
    induction n with
    | zero => intro k d; rfl
    | succ n ih => intro k d; exact ih (k + 1) _
  have h120 : ∀ (n k : Nat) (d : Int64), lp_X4_digest_120 (a, b) n k d = lp_X4_digest_120 (a, b') n k d := by
    intro n
    induction n with
    | zero => intro k d; rfl
    | succ n ih =>
      intro k d
      show lp_X4_digest_120 (a, b) n (k + 1) (lp_X4_digest_134 (a, b) k 6 0 d) = lp_X4_digest_120 (a, b') n (k + 1) (lp_X4_digest_134 (a, b') k 6 0 d)
      rw [h134, ih]
  have h191 : ∀ (i n k : Nat) (d : Int64), lp_X4_digest_191 (a, b) i n k d = lp_X4_digest_191 (a, b') i n k d := by
    intro i n
    induction n with
    | zero => intro k d; rfl
    | succ n ih => intro k d; exact ih (k + 1) _
  have h177 : ∀ (n k : Nat) (d : Int64), lp_X4_digest_177 (a, b) n k d = lp_X4_digest_177 (a, b') n k d := by
    intro n
    induction n with
    | zero => intro k d; rfl
    | succ n ih =>
      intro k d
      show lp_X4_digest_177 (a, b) n (k + 1) (lp_X4_digest_191 (a, b) k 10 0 d) = lp_X4_digest_177 (a, b') n (k + 1) (lp_X4_digest_191 (a, b') k 10 0 d)
      rw [h191, ih]
  show lp_X4_digest_177 (a, b) (tn (a 0 7)) 0 (lp_X4_digest_120 (a, b) (tn (a 0 6)) 0 (lp_X4_digest_67 (a, b) (tn (a 0 5)) 0 (lp_X4_digest_36 (a, b) 24 0 (lp_X4_digest_6 (a, b) 11 0 569)))) = lp_X4_digest_177 (a, b') (tn (a 0 7)) 0 (lp_X4_digest_120 (a, b') (tn (a 0 6)) 0 (lp_X4_digest_67 (a, b') (tn (a 0 5)) 0 (lp_X4_digest_36 (a, b') 24 0 (lp_X4_digest_6 (a, b') 11 0 569))))
  rw [h6, h36, h67, h120, h177]
theorem op_trust (hI : Inv B nS nU nC σ.1) (hC : 1 ≤ nC) : s_X4_trust σ = (FP.ddiv (FP.i2d (s_X1_trustOfAll σ.1)) (FP.i2d (nI nC)), σ) := by
  have n10 := hI.1.2.2.2.2.1
  have n7 := hI.1.1.2.2
  have e : s_X4_trust σ = (FP.ddiv (FP.i2d (s_X1_trustOfAll σ.1)) (FP.i2d (σ.1 0 7)), σ) := if_neg (by rw [n7]; exact nI_ne0 (by omega) (by omega))
  rw [e, n7]
end OP
