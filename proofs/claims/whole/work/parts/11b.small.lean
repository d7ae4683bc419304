/-! calls that only tell, and the small ones -/
theorem w8 : nI 8 - nI 1 = nI 7 := by decide
theorem w6 : nI 6 - nI 1 = nI 5 := by decide
theorem w10 : nI 10 - nI 1 = nI 9 := by decide
theorem w11 : nI 11 - nI 1 = nI 10 := by decide
theorem w5 : nI 5 - nI 1 = nI 4 := by decide
theorem mt_n {h h0 nS nU nC : Nat} {cv : Int32 → Int64} {hs : List String} {E : String} {k : Int32} {σ : Sg × Sg} {μ : MS} {f : String ⊕ (Int32 × (Sg × Sg))} {g : Int32 × MS} (hh : h0 ≤ h) (hR : Rel 8 10 h0 nS nU nC σ.1 μ.2.1 μ.1) (hf : f = .inl E) (hg : g = (nI 0, (up (up μ.1 0 0 (nI 0)) 0 0 k, μ.2))) (hE : E ∈ hs) (hk : codeOf hs 1 E = k) (hk0 : ¬ k = 0) : Mt LI h cv hs f σ g := by
  subst hf hg hk
  exact mt_no (li_2 hh hR _ _) hE (up_s (up μ.1 0 0 (nI 0)) 0 0 _).symm hk0
theorem mt_i {h : Nat} {cv : Int32 → Int64} {hs : List String} {r r' : Int32} {σ v : Sg × Sg} {m : MS} {f : String ⊕ (Int32 × (Sg × Sg))} {g : Int32 × MS} (hf : f = .inr (r, v)) (hg : g = (r', m)) (hl : LI (h + 100) v m) (h0 : m.1 0 0 = nI 0) (hr : r = r') : Mt LI h cv hs f σ g := by
  subst hf hg hr
  exact mt_in hl h0 rfl
theorem St_shelter_ : St_shelter LI := by
  intro h σ μ hL hh6 x y
  obtain ⟨h0, nS, nU, nC, hh, hR⟩ := hL
  by_cases c1 : s_X6_isIn x (nI 0) (μ.2.1 0 1 - nI 1) = 0
  · exact mt_n (E := "java/lang/IndexOutOfBoundsException") (k := nI 1) hh hR (xb_l (if_pos ((ckS hR x).trans c1))) (if_pos c1) (by decide) (by decide) (by decide)
  · have k1 : ¬ s_X1_isShelter σ.1 x = 0 := by rw [ckS hR]; exact c1
    by_cases c2 : s_X6_isIn y (nI 0) (nI 7) = 0
    · exact mt_n (E := "java/lang/IndexOutOfBoundsException") (k := nI 1) hh hR ((xb_r (x := ()) (if_neg k1)).trans (xb_l (if_pos c2))) ((if_neg c1).trans (if_pos c2)) (by decide) (by decide) (by decide)
    · obtain ⟨j, -, hj, rfl⟩ := isIn_in (by decide) (by decide) c2
      have hx := inS hR c1
      have ex : x = nI (tn x) := tn_eq hx (by have := hR.1.2.1.2.2; omega)
      have et := told_S (rel_rho hR (nI 0)) μ.2.2 (tn_in hx) (show j < 8 by omega)
      rw [← ex] at et
      exact mt_i ((xb_r (x := ()) (if_neg k1)).trans (xb_r (x := ()) (if_neg c2))) ((if_neg c1).trans (if_neg c2)) (li_1 hh hR (nI 0)) (up_s μ.1 0 0 (nI 0)) et
theorem St_umbrella_ : St_umbrella LI := by
  intro h σ μ hL hh6 x y
  obtain ⟨h0, nS, nU, nC, hh, hR⟩ := hL
  by_cases c1 : s_X6_isIn x (nI 0) (nI (tn (μ.2.1 0 5)) - nI 1) = 0
  · exact mt_n (E := "java/lang/IndexOutOfBoundsException") (k := nI 1) hh hR (xb_l (if_pos ((ckU hR x).trans c1))) (if_pos c1) (by decide) (by decide) (by decide)
  · have k1 : ¬ s_X1_isUmbrella σ.1 x = 0 := by rw [ckU hR]; exact c1
    by_cases c2 : s_X6_isIn y (nI 0) (nI 5) = 0
    · exact mt_n (E := "java/lang/IndexOutOfBoundsException") (k := nI 1) hh hR ((xb_r (x := ()) (if_neg k1)).trans (xb_l (if_pos c2))) ((if_neg c1).trans (if_pos c2)) (by decide) (by decide) (by decide)
    · obtain ⟨j, -, hj, rfl⟩ := isIn_in (by decide) (by decide) c2
      have hx := inU hR c1
      have et := told_U (rel_rho hR (nI 0)) μ.2.2 (tn_in hx) (show j < 6 by omega)
      exact mt_i ((xb_r (x := ()) (if_neg k1)).trans (xb_r (x := ()) (if_neg c2))) ((if_neg c1).trans (if_neg c2)) (li_1 hh hR (nI 0)) (up_s μ.1 0 0 (nI 0)) et
theorem St_citizen_ : St_citizen LI := by
  intro h σ μ hL hh6 x y
  obtain ⟨h0, nS, nU, nC, hh, hR⟩ := hL
  by_cases c1 : s_X6_isIn x (nI 0) (μ.2.1 0 12 - nI 1) = 0
  · exact mt_n (E := "java/lang/IndexOutOfBoundsException") (k := nI 1) hh hR (xb_l (if_pos ((ckC hR x).trans c1))) (if_pos c1) (by decide) (by decide) (by decide)
  · have k1 : ¬ s_X1_isCitizen σ.1 x = 0 := by rw [ckC hR]; exact c1
    by_cases c2 : s_X6_isIn y (nI 0) (nI 9) = 0
    · exact mt_n (E := "java/lang/IndexOutOfBoundsException") (k := nI 1) hh hR ((xb_r (x := ()) (if_neg k1)).trans (xb_l (if_pos c2))) ((if_neg c1).trans (if_pos c2)) (by decide) (by decide) (by decide)
    · obtain ⟨j, -, hj, rfl⟩ := isIn_in (by decide) (by decide) c2
      have hx := inC hR c1
      have et := told_C (rel_rho hR (nI 0)) μ.2.2 (tn_in hx) (show j < 10 by omega)
      exact mt_i ((xb_r (x := ()) (if_neg k1)).trans (xb_r (x := ()) (if_neg c2))) ((if_neg c1).trans (if_neg c2)) (li_1 hh hR (nI 0)) (up_s μ.1 0 0 (nI 0)) et
theorem St_count_ : St_count LI := by
  intro h σ μ hL hh6 x
  obtain ⟨h0, nS, nU, nC, hh, hR⟩ := hL
  by_cases c1 : s_X6_isIn x (nI 0) (nI 10) = 0
  · exact mt_n (E := "java/lang/IndexOutOfBoundsException") (k := nI 1) hh hR (xb_l (if_pos c1)) (if_pos c1) (by decide) (by decide) (by decide)
  · obtain ⟨j, -, hj, rfl⟩ := isIn_in (by decide) (by decide) c1
    have et := told_A (rel_rho hR (nI 0)) μ.2.2 (show j < 11 by omega)
    exact mt_i (xb_r (x := ()) (if_neg c1)) (if_neg c1) (li_1 hh hR (nI 0)) (up_s μ.1 0 0 (nI 0)) et
theorem St_setRain_ : St_setRain LI := by
  intro h σ μ hL hh6 x y
  obtain ⟨h0, nS, nU, nC, hh, hR⟩ := hL
  by_cases c1 : s_X6_isIn x (nI 0) (nI 23) = 0
  · exact mt_n (E := "java/lang/IndexOutOfBoundsException") (k := nI 1) hh hR (xb_l (if_pos c1)) (if_pos c1) (by decide) (by decide) (by decide)
  · by_cases c2 : s_X6_isIn y (nI 0) (nI 9) = 0
    · exact mt_n (E := "java/lang/IllegalArgumentException") (k := nI 2) hh hR ((xb_r (x := ()) (if_neg c1)).trans (if_pos c2)) ((if_neg c1).trans (if_pos c2)) (by decide) (by decide) (by decide)
    · have hf : s_X4_setRain σ x y = .inr (σ.1 1 (tn x), (up σ.1 1 (tn x) y, σ.2)) := (xb_r (x := ()) (if_neg c1)).trans (if_neg c2)
      have hg : s_X6_setRain μ x y = (up μ.1 0 0 (nI 0) 1 (tn x), (up (up μ.1 0 0 (nI 0)) 1 (tn x) y, μ.2)) := (if_neg c1).trans (if_neg c2)
      obtain ⟨i, -, hi, rfl⟩ := isIn_in (by decide) (by decide) c1
      obtain ⟨j, -, hj, rfl⟩ := isIn_in (by decide) (by decide) c2
      have hti : tn (nI i) = i := tn_nI (by omega)
      rw [hti] at hf hg
      have er := (hR.2.2.2.2 i (by omega)).1
      refine mt_i hf hg ?_ ?_ ?_
      · refine ⟨h0, nS, nU, nC, by omega, ?_⟩
        show Rel 8 10 h0 nS nU nC (up σ.1 1 i (nI j)) μ.2.1 (up (up μ.1 0 0 (nI 0)) 1 i (nI j))
        obtain ⟨k0, kS, kU, kC, kr⟩ := hR
        refine ⟨?_, fun i hi => ?_, fun y hy => ?_, fun d hd => ?_, fun k hk => ?_⟩
        · unfold R0 at k0 ⊢
          simp (disch := omega) only [up_row_ne]
          exact k0
        · refine (kS i hi).cg ?_ rfl rfl rfl
          simp (disch := omega) only [up_row_ne]
        · refine (kU y hy).cg ?_ rfl rfl rfl rfl rfl rfl
          simp (disch := omega) only [up_row_ne]
        · obtain ⟨a, b, w', d9', z⟩ := kC d hd
          refine ⟨fun hdc => (a hdc).cg (fun k hk => ?_) rfl rfl, b.cg ?_ rfl rfl rfl (fun j _ => rfl), w'.cg ?_ rfl rfl rfl rfl, d9', fun hdz => (by simp (disch := omega) only [up_row_ne, up_neK]; exact z hdz)⟩
          all_goals simp (disch := omega) only [up_row_ne]
        · by_cases e : k = i
          · subst e
            rw [up_s, up_s]
            exact ⟨rfl, vp_in_nI (by omega) (by decide)⟩
          · rw [up_neK _ _ _ _ e, up_neK _ _ _ _ e, up_row_ne _ _ _ (by decide : 1 ≠ 0)]
            exact kr k hk
      · show up (up μ.1 0 0 (nI 0)) 1 i (nI j) 0 0 = nI 0
        rw [up_row_ne _ _ _ (by decide : 0 ≠ 1), up_s]
      · show σ.1 1 i = up μ.1 0 0 (nI 0) 1 i
        rw [up_row_ne _ _ _ (by decide : 1 ≠ 0)]
        exact er
theorem St_setDemand_ : St_setDemand LI := by
  intro h σ μ hL hh6 x y
  obtain ⟨h0, nS, nU, nC, hh, hR⟩ := hL
  by_cases c1 : s_X6_isIn x (nI 0) (μ.2.1 0 1 - nI 1) = 0
  · exact mt_n (E := "java/lang/IndexOutOfBoundsException") (k := nI 1) hh hR (xb_l (if_pos ((ckS hR x).trans c1))) (if_pos c1) (by decide) (by decide) (by decide)
  · have k1 : ¬ s_X1_isShelter σ.1 x = 0 := by rw [ckS hR]; exact c1
    by_cases c2 : s_X6_isIn y (nI 0) (nI 10) = 0
    · exact mt_n (E := "java/lang/IllegalArgumentException") (k := nI 2) hh hR ((xb_r (x := ()) (if_neg k1)).trans (if_pos c2)) ((if_neg c1).trans (if_pos c2)) (by decide) (by decide) (by decide)
    · have hf : s_X4_setDemand σ x y = .inr (σ.1 (5 + tn x) 1, (up σ.1 (5 + tn x) 1 y, σ.2)) := (xb_r (x := ()) (if_neg k1)).trans (if_neg c2)
      have hg : s_X6_setDemand μ x y = (μ.2.1 2 (tn x), (up μ.1 0 0 (nI 0), (up μ.2.1 2 (tn x) y, μ.2.2))) := (if_neg c1).trans (if_neg c2)
      have hx := inS hR c1
      have hlt : tn x < nS := tn_in hx
      generalize tn x = i at hlt hf hg
      have hS' := hR.sh hlt
      have hm := hR.1.2.2.2.2.2
      refine mt_i hf hg ?_ (up_s μ.1 0 0 (nI 0)) hS'.2.1
      refine ⟨h0, nS, nU, nC, by omega, ?_⟩
      show Rel 8 10 h0 nS nU nC (up σ.1 (5 + i) 1 y) (up μ.2.1 2 i y) (up μ.1 0 0 (nI 0))
      have hR2 := rel_rho hR (nI 0)
      generalize up μ.1 0 0 (nI 0) = ρ at hR2 ⊢
      obtain ⟨k0, kS, kU, kC, kr⟩ := hR2
      refine ⟨?_, fun v hv => ?_, fun y hy => ?_, fun d hd => ?_, fun k hk => ?_⟩
      · unfold R0 at k0 ⊢
        simp (disch := omega) only [up_row_ne]
        exact k0
      · obtain ⟨a0, a1, a2, a3, a4, a5, a6, a7⟩ := kS v hv
        by_cases e : v = i
        · subst e
          refine ⟨?_, ?_, ?_, ?_, ?_, ?_, ?_, ?_⟩ <;> simp (disch := omega) only [up_s, up_row_ne, up_neK, a0, a1, a2, a3, a4, a5, a6]
          exact a7
        · refine ⟨?_, ?_, ?_, ?_, ?_, ?_, ?_, ?_⟩ <;> simp (disch := omega) only [up_s, up_row_ne, up_neK, a0, a1, a2, a3, a4, a5, a6]
          exact a7
      · refine (kU y hy).cg ?_ ?_ ?_ ?_ ?_ ?_ ?_ <;> simp (disch := omega) only [up_row_ne]
      · obtain ⟨a, b, w', d9', z⟩ := kC d hd
        refine ⟨fun hdc => (a hdc).cg (fun k hk => ?_) ?_ ?_, b.cg ?_ ?_ ?_ ?_ (fun j _ => ?_), w'.cg ?_ ?_ ?_ ?_ ?_, fun hdc => (d9' hdc).cg ?_ (fun v hv1 hv2 h4' h5' => ?_) k0.2.2.1.2.2, fun hdz => (by simp (disch := omega) only [up_row_ne, up_neK]; exact z hdz)⟩
        all_goals (try simp (disch := omega) only [up_row_ne])
        exact ⟨h4', h5'⟩
      · simp (disch := omega) only [up_row_ne]
        exact kr k hk
