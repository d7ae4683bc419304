/-! TWO REPUBLICS THAT AGREE ON THE ROWS BELOW THE COUNTS go on alike -/
def Agr (nS nU nC : Nat) (σ τ : Sg) : Prop :=
  ((σ 0 5 = nI nS ∧ σ 0 6 = nI nU ∧ σ 0 7 = nI nC) ∧ nS ≤ 8 ∧ nU ≤ 40 ∧ nC ≤ 10) ∧ (∀ k, 4 ≤ k → k < 9 → σ 0 k = τ 0 k) ∧ (∀ j, j < 24 → σ 1 j = τ 1 j) ∧ (∀ i, i < nS → ∀ k, k < 7 → σ (5 + i) k = τ (5 + i) k) ∧ (∀ u, u < nU → ∀ k, k < 6 → σ (13 + u) k = τ (13 + u) k) ∧ (∀ c, c < nC → ∀ k, k < 15 → σ (53 + c) k = τ (53 + c) k)
def AgP (nS nU nC : Nat) (a b : Int32 × Sg) : Prop := a.1 = b.1 ∧ Agr nS nU nC a.2 b.2
section AG
variable {nS nU nC : Nat} {σ τ : Sg}
theorem Agr.sh (h : Agr nS nU nC σ τ) {i : Nat} (hi : i < nS) (k : Nat) (hk : k < 7) : σ (5 + i) k = τ (5 + i) k := h.2.2.2.1 i hi k hk
theorem Agr.um (h : Agr nS nU nC σ τ) {u : Nat} (hu : u < nU) (k : Nat) (hk : k < 6) : σ (13 + u) k = τ (13 + u) k := h.2.2.2.2.1 u hu k hk
theorem Agr.ci (h : Agr nS nU nC σ τ) {c : Nat} (hc : c < nC) (k : Nat) (hk : k < 15) : σ (53 + c) k = τ (53 + c) k := h.2.2.2.2.2 c hc k hk
theorem up_cg {σ τ : Sg} (p k : Nat) (v : Int32) {a b : Nat} (e : σ a b = τ a b) : up σ p k v a b = up τ p k v a b := by
  rw [up_get, up_get]
  by_cases q : a = p ∧ b = k
  · rw [if_pos q, if_pos q]
  · rw [if_neg q, if_neg q]; exact e
theorem ag_up (h : Agr nS nU nC σ τ) {p k : Nat} {v w : Int32} (hp : p ≠ 0 ∨ k = 4 ∨ k = 8) (e : v = w) : Agr nS nU nC (up σ p k v) (up τ p k w) := by
  subst e
  obtain ⟨⟨⟨n5, n6, n7⟩, n8⟩, h0, h1, h2, h3, h4⟩ := h
  refine ⟨⟨⟨?_, ?_, ?_⟩, n8⟩, fun k' a b => up_cg _ _ _ (h0 k' a b), fun j a => up_cg _ _ _ (h1 j a), fun i a k' b => up_cg _ _ _ (h2 i a k' b), fun u a k' b => up_cg _ _ _ (h3 u a k' b), fun c a k' b => up_cg _ _ _ (h4 c a k' b)⟩
  · rw [up_ne σ v (by omega)]; exact n5
  · rw [up_ne σ v (by omega)]; exact n6
  · rw [up_ne σ v (by omega)]; exact n7
theorem ag_uu (h : Agr nS nU nC σ τ) {u k : Nat} {v w : Int32} (e : v = w) : Agr nS nU nC (up σ (13 + u) k v) (up τ (13 + u) k w) := ag_up h (Or.inl (by omega)) e
theorem ag_us (h : Agr nS nU nC σ τ) {i k : Nat} {v w : Int32} (e : v = w) : Agr nS nU nC (up σ (5 + i) k v) (up τ (5 + i) k w) := ag_up h (Or.inl (by omega)) e
theorem ag_uc (h : Agr nS nU nC σ τ) {c k : Nat} {v w : Int32} (e : v = w) : Agr nS nU nC (up σ (53 + c) k v) (up τ (53 + c) k w) := ag_up h (Or.inl (by omega)) e
theorem ag_ite {P Q : Prop} [Decidable P] [Decidable Q] {a b a' b' : Sg} (e : P ↔ Q) (h1 : P → Agr nS nU nC a a') (h2 : ¬ P → Agr nS nU nC b b') : Agr nS nU nC (if P then a else b) (if Q then a' else b') := by
  by_cases q : P
  · rw [if_pos q, if_pos (e.mp q)]; exact h1 q
  · rw [if_neg q, if_neg (fun r => q (e.mpr r))]; exact h2 q
theorem pl1 {x y : Int32} (e : x = y) : x + nI 1 = y + nI 1 := by rw [e]
theorem ag_stand (h : Agr nS nU nC σ τ) (u : Nat) {x y : Int32} (e : x = y) : Agr nS nU nC (s_X3_standIn σ u x) (s_X3_standIn τ u y) := ag_uu (ag_uu (ag_uu h rfl) e) rfl
theorem ag_away (h : Agr nS nU nC σ τ) (u : Nat) (x y : Int32) : Agr nS nU nC (s_X3_stayAway σ u x y) (s_X3_stayAway τ u x y) := ag_uu (ag_uu (ag_uu h rfl) rfl) rfl
theorem ag_with (h : Agr nS nU nC σ τ) {u : Nat} (hu : u < nU) (x : Int32) : Agr nS nU nC (s_X3_goWith σ u x) (s_X3_goWith τ u x) := by
  have h1 := ag_uu (u := u) (k := 5) h (h.um hu 1 (by decide))
  have h2 := ag_uu (u := u) (k := 4) h1 (pl1 (h1.um hu 4 (by decide)))
  exact ag_uu (ag_uu h2 rfl) rfl
theorem ag_wait (h : Agr nS nU nC σ τ) {u : Nat} (hu : u < nU) : Agr nS nU nC (s_X3_waitAnHour σ u) (s_X3_waitAnHour τ u) := by
  have h1 : Agr nS nU nC (up σ (13 + u) 3 (σ (13 + u) 3 - nI 1)) (up τ (13 + u) 3 (τ (13 + u) 3 - nI 1)) := ag_uu h (by rw [h.um hu 3 (by decide)])
  exact ag_ite (by rw [h.um hu 3 (by decide)]) (fun _ => h) (fun _ => ag_ite (by rw [h1.um hu 3 (by decide)]) (fun _ => ag_ite (by rw [h1.um hu 0 (by decide)]) (fun _ => ag_stand (ag_uu h1 rfl) u rfl) (fun _ => ag_stand h1 u (h1.um hu 5 (by decide)))) (fun _ => h1))
theorem ag_noteR (h : Agr nS nU nC σ τ) {i : Nat} (hi : i < nS) : Agr nS nU nC (s_X2_noteRefusal σ i) (s_X2_noteRefusal τ i) := by
  have h1 := ag_us (i := i) (k := 4) h (pl1 (h.sh hi 4 (by decide)))
  exact ag_us h1 (pl1 (h1.sh hi 6 (by decide)))
theorem ag_noteF (h : Agr nS nU nC σ τ) {i : Nat} (hi : i < nS) : Agr nS nU nC (s_X2_noteForgotten σ i) (s_X2_noteForgotten τ i) := by
  have h1 := ag_us (i := i) (k := 3) h (pl1 (h.sh hi 3 (by decide)))
  exact ag_us h1 (pl1 (h1.sh hi 5 (by decide)))
theorem ag_noteC (h : Agr nS nU nC σ τ) {c : Nat} (hc : c < nC) : Agr nS nU nC (s_X0_noteForgotten σ c) (s_X0_noteForgotten τ c) := by
  have h1 := ag_uc (c := c) (k := 13) h (pl1 (h.ci hc 13 (by decide)))
  exact ag_uc h1 (by rw [h1.ci hc 10 (by decide)])
theorem ag_noteB (h : Agr nS nU nC σ τ) {c : Nat} (hc : c < nC) : Agr nS nU nC (s_X0_noteBroughtBack σ c) (s_X0_noteBroughtBack τ c) :=
  ag_uc h (by rw [h.ci hc 10 (by decide)])
theorem ag_endDay (h : Agr nS nU nC σ τ) {i : Nat} (hi : i < nS) : Agr nS nU nC (s_X2_endDay σ i) (s_X2_endDay τ i) := by
  have e1 := h.sh hi 1 (by decide)
  have e5 := h.sh hi 5 (by decide)
  have e6 := h.sh hi 6 (by decide)
  exact ag_ite (by rw [e5]) (fun _ => ag_ite (by rw [e5]) (fun _ => ag_ite (by rw [e6]) (fun _ => ag_us (ag_us h rfl) rfl) (fun _ => ag_us (ag_us (ag_us h (by rw [e1])) rfl) rfl)) (fun _ => ag_us (ag_us h rfl) rfl)) (fun _ => ag_us (ag_us (ag_us h (by rw [e1])) rfl) rfl)
theorem ag_setOut (h : Agr nS nU nC σ τ) {c : Nat} (hc : c < nC) : Agr nS nU nC (s_X0_setOut σ c) (s_X0_setOut τ c) := by
  have out : ∀ v w : Int32, v = w → Agr nS nU nC (up (up (up σ (53 + c) 7 v) (53 + c) 6 (-1 : Int32)) (53 + c) 8 (up (up σ (53 + c) 7 v) (53 + c) 6 (-1 : Int32) (53 + c) 5)) (up (up (up τ (53 + c) 7 w) (53 + c) 6 (-1 : Int32)) (53 + c) 8 (up (up τ (53 + c) 7 w) (53 + c) 6 (-1 : Int32) (53 + c) 5)) := by
    intro v w e
    have h1 := ag_uc (c := c) (k := 6) (v := (-1 : Int32)) (w := (-1 : Int32)) (ag_uc (c := c) (k := 7) h e) rfl
    exact ag_uc h1 (h1.ci hc 5 (by decide))
  exact ag_ite (by rw [h.ci hc 6 (by decide), h.ci hc 0 (by decide)]) (fun _ => out _ _ (h.ci hc 1 (by decide))) (fun _ => out _ _ (h.ci hc 0 (by decide)))
theorem ag_leaves (h : Agr nS nU nC σ τ) {c : Nat} (hc : c < nC) (x : Int32) : s_X0_leavesAt σ c x = s_X0_leavesAt τ c x := by
  unfold s_X0_leavesAt
  rw [h.ci hc 6 (by decide), h.ci hc 0 (by decide), h.ci hc 1 (by decide), h.ci hc 2 (by decide), h.ci hc 3 (by decide)]
theorem ag_isSh (h : Agr nS nU nC σ τ) (x : Int32) : s_X1_isShelter σ x = s_X1_isShelter τ x := by
  unfold s_X1_isShelter
  rw [h.2.1 5 (by decide) (by decide)]
theorem ag_isUm (h : Agr nS nU nC σ τ) (x : Int32) : s_X1_isUmbrella σ x = s_X1_isUmbrella τ x := by
  unfold s_X1_isUmbrella
  rw [h.2.1 6 (by decide) (by decide)]
theorem sh_rng (h : Agr nS nU nC σ τ) {x : Int32} (q : ¬ s_X1_isShelter σ x = 0) : tn x < nS := by
  obtain ⟨⟨⟨n5, n6, n7⟩, n8, n40, n10⟩, -⟩ := h
  unfold s_X1_isShelter at q
  by_cases h0 : x < 0
  · rw [if_pos h0] at q; exact absurd nI_0 q
  · rw [if_neg h0] at q
    by_cases h1 : σ 0 5 ≤ x
    · rw [if_pos h1] at q; exact absurd nI_0 q
    · have h0' : ¬ x.toInt < 0 := fun q => h0 (tl.mpr (by rw [ti_0]; exact q))
      have h1' : ¬ (nS : Int) ≤ x.toInt := fun q => h1 (tle.mpr (by rw [n5, ti_n (by omega)]; exact q))
      have := ti_tn (x := x) (by omega)
      omega
theorem um_rng (h : Agr nS nU nC σ τ) {x : Int32} (q : ¬ s_X1_isUmbrella σ x = 0) : tn x < nU := by
  obtain ⟨⟨⟨n5, n6, n7⟩, n8, n40, n10⟩, -⟩ := h
  unfold s_X1_isUmbrella at q
  by_cases h0 : x < 0
  · rw [if_pos h0] at q; exact absurd nI_0 q
  · rw [if_neg h0] at q
    by_cases h1 : σ 0 6 ≤ x
    · rw [if_pos h1] at q; exact absurd nI_0 q
    · have h0' : ¬ x.toInt < 0 := fun q => h0 (tl.mpr (by rw [ti_0]; exact q))
      have h1' : ¬ (nU : Int) ≤ x.toInt := fun q => h1 (tle.mpr (by rw [n6, ti_n (by omega)]; exact q))
      have := ti_tn (x := x) (by omega)
      omega
theorem ag_tn (h : Agr nS nU nC σ τ) : (tn (σ 0 5) = nS ∧ tn (σ 0 6) = nU ∧ tn (σ 0 7) = nC) ∧ tn (τ 0 5) = nS ∧ tn (τ 0 6) = nU ∧ tn (τ 0 7) = nC := by
  obtain ⟨⟨⟨n5, n6, n7⟩, n8, n40, n10⟩, h0, -⟩ := h
  rw [← h0 5 (by decide) (by decide), ← h0 6 (by decide) (by decide), ← h0 7 (by decide) (by decide), n5, n6, n7, tn_nI (by omega), tn_nI (by omega), tn_nI (by omega)]
  exact ⟨⟨rfl, rfl, rfl⟩, rfl, rfl, rfl⟩
theorem ag_stands (h : Agr nS nU nC σ τ) {u : Nat} (hu : u < nU) (x : Int32) : s_X3_standsIn σ u x = s_X3_standsIn τ u x := by
  unfold s_X3_standsIn
  rw [h.um hu 0 (by decide), h.um hu 1 (by decide)]
theorem ag_first (h : Agr nS nU nC σ τ) (x : Int32) : s_X1_firstUmbrellaIn σ x = s_X1_firstUmbrellaIn τ x := by
  have key : ∀ (n k : Nat) (f lw : Int32), k + n ≤ nU → lp_X1_firstUmbrellaIn_8 σ x n k f lw = lp_X1_firstUmbrellaIn_8 τ x n k f lw := by
    intro n
    induction n with
    | zero => intro k f lw _; rfl
    | succ n ih =>
      intro k f lw hk
      unfold lp_X1_firstUmbrellaIn_8
      simp only [ltt]
      rw [ag_stands h (show k < nU by omega), h.um (show k < nU by omega) 2 (by decide), ih (k + 1) f lw (by omega), ih (k + 1) (nI k) _ (by omega)]
  unfold s_X1_firstUmbrellaIn
  simp only [ltt]
  rw [(ag_tn h).1.2.1, (ag_tn h).2.2.1, key nU 0 _ _ (by omega)]
theorem ag_umIn (h : Agr nS nU nC σ τ) (x : Int32) : s_X1_umbrellasIn σ x = s_X1_umbrellasIn τ x := by
  have key : ∀ (n k : Nat) (a : Int32), k + n ≤ nU → lp_X1_umbrellasIn_4 σ x n k a = lp_X1_umbrellasIn_4 τ x n k a := by
    intro n
    induction n with
    | zero => intro k a _; rfl
    | succ n ih =>
      intro k a hk
      unfold lp_X1_umbrellasIn_4
      simp only [ltt]
      rw [ag_stands h (show k < nU by omega), ih (k + 1) a (by omega), ih (k + 1) (a + 1) (by omega)]
  unfold s_X1_umbrellasIn
  simp only [ltt]
  rw [(ag_tn h).1.2.1, (ag_tn h).2.2.1, key nU 0 _ (by omega)]
theorem ag_that (h : Agr nS nU nC σ τ) (x : Int32) : s_X1_umbrellasThatAre σ x = s_X1_umbrellasThatAre τ x := by
  have key : ∀ (n k : Nat) (a : Int32), k + n ≤ nU → lp_X1_umbrellasThatAre_4 σ x n k a = lp_X1_umbrellasThatAre_4 τ x n k a := by
    intro n
    induction n with
    | zero => intro k a _; rfl
    | succ n ih =>
      intro k a hk
      unfold lp_X1_umbrellasThatAre_4
      rw [h.um (show k < nU by omega) 0 (by decide), ih (k + 1) a (by omega), ih (k + 1) (a + 1) (by omega)]
  unfold s_X1_umbrellasThatAre
  simp only [ltt]
  rw [(ag_tn h).1.2.1, (ag_tn h).2.2.1, key nU 0 _ (by omega)]
theorem ag_wet (h : Agr nS nU nC σ τ) : s_X1_wetOfAll σ = s_X1_wetOfAll τ := by
  have key : ∀ (n k : Nat) (a : Int32), k + n ≤ nC → lp_X1_wetOfAll_4 σ n k a = lp_X1_wetOfAll_4 τ n k a := by
    intro n
    induction n with
    | zero => intro k a _; rfl
    | succ n ih =>
      intro k a hk
      unfold lp_X1_wetOfAll_4
      rw [h.ci (show k < nC by omega) 11 (by decide), ih (k + 1) _ (by omega)]
  unfold s_X1_wetOfAll
  simp only [ltt]
  rw [(ag_tn h).1.2.2, (ag_tn h).2.2.2, key nC 0 _ (by omega)]
theorem ag_tk (h : Agr nS nU nC σ τ) {F : Int32} {c sh : Nat} (hu : tn F < nU) (hc : c < nC) (hs : sh < nS) : Agr nS nU nC (tkS σ F c sh) (tkS τ F c sh) := by
  have h1 := ag_with h hu (nI c)
  have h2 := ag_uc (c := c) (k := 9) (v := F) (w := F) h1 rfl
  have h3 := ag_uc (c := c) (k := 12) h2 (pl1 (h2.ci hc 12 (by decide)))
  exact ag_us h3 (pl1 (h3.sh hs 2 (by decide)))
theorem ag_take (h : Agr nS nU nC σ τ) {c : Nat} (hc : c < nC) : AgP nS nU nC (s_X1_takeUmbrella σ c) (s_X1_takeUmbrella τ c) := by
  have e6 := h.ci hc 6 (by decide)
  have e10 := h.ci hc 10 (by decide)
  have e14 := h.ci hc 14 (by decide)
  by_cases c1 : s_X1_isShelter σ (σ (53 + c) 6) = 0
  · have a : s_X1_takeUmbrella σ c = (nI 0, σ) := if_pos c1
    have b : s_X1_takeUmbrella τ c = (nI 0, τ) := if_pos (by rw [← ag_isSh h, ← e6]; exact c1)
    rw [a, b]; exact ⟨rfl, h⟩
  · have c1' : ¬ s_X1_isShelter τ (τ (53 + c) 6) = 0 := by rw [← ag_isSh h, ← e6]; exact c1
    have hs := sh_rng h c1
    have er : Agr nS nU nC (s_X2_noteRefusal (up σ (53 + c) 14 (σ (53 + c) 14 + nI 1)) (tn (σ (53 + c) 6))) (s_X2_noteRefusal (up τ (53 + c) 14 (τ (53 + c) 14 + nI 1)) (tn (σ (53 + c) 6))) := ag_noteR (ag_uc h (pl1 e14)) hs
    by_cases c2 : σ (53 + c) 10 < σ (5 + tn (σ (53 + c) 6)) 1
    · have a : s_X1_takeUmbrella σ c = (nI 0, s_X2_noteRefusal (up σ (53 + c) 14 (σ (53 + c) 14 + nI 1)) (tn (σ (53 + c) 6))) := (if_neg c1).trans (if_pos c2)
      have b : s_X1_takeUmbrella τ c = (nI 0, s_X2_noteRefusal (up τ (53 + c) 14 (τ (53 + c) 14 + nI 1)) (tn (τ (53 + c) 6))) := (if_neg c1').trans (if_pos (by rw [← e10, ← e6, ← h.sh hs 1 (by decide)]; exact c2))
      rw [a, b, ← e6]; exact ⟨rfl, er⟩
    · have c2' : ¬ τ (53 + c) 10 < τ (5 + tn (τ (53 + c) 6)) 1 := by rw [← e10, ← e6, ← h.sh hs 1 (by decide)]; exact c2
      by_cases c3 : s_X1_isUmbrella σ (s_X1_firstUmbrellaIn σ (σ (53 + c) 6)) = 0
      · have a : s_X1_takeUmbrella σ c = (nI 0, s_X2_noteRefusal (up σ (53 + c) 14 (σ (53 + c) 14 + nI 1)) (tn (σ (53 + c) 6))) := (if_neg c1).trans ((if_neg c2).trans (if_pos c3))
        have b : s_X1_takeUmbrella τ c = (nI 0, s_X2_noteRefusal (up τ (53 + c) 14 (τ (53 + c) 14 + nI 1)) (tn (τ (53 + c) 6))) := (if_neg c1').trans ((if_neg c2').trans (if_pos (by rw [← ag_isUm h, ← ag_first h, ← e6]; exact c3)))
        rw [a, b, ← e6]; exact ⟨rfl, er⟩
      · have a : s_X1_takeUmbrella σ c = (nI 1, tkS σ (s_X1_firstUmbrellaIn σ (σ (53 + c) 6)) c (tn (σ (53 + c) 6))) := (if_neg c1).trans ((if_neg c2).trans (if_neg c3))
        have b : s_X1_takeUmbrella τ c = (nI 1, tkS τ (s_X1_firstUmbrellaIn τ (τ (53 + c) 6)) c (tn (τ (53 + c) 6))) := (if_neg c1').trans ((if_neg c2').trans (if_neg (by rw [← ag_isUm h, ← ag_first h, ← e6]; exact c3)))
        rw [a, b, ← e6, ← ag_first h]; exact ⟨rfl, ag_tk h (um_rng h c3) hc hs⟩
theorem ag_rain (h : Agr nS nU nC σ τ) {c : Nat} (hc : c < nC) (x : Int32) : Agr nS nU nC (s_X1_meetRain σ c x) (s_X1_meetRain τ c x) := by
  have e9 := h.ci hc 9 (by decide)
  have e11 := h.ci hc 11 (by decide)
  by_cases c1 : s_X1_isUmbrella σ (σ (53 + c) 9) = 0
  · have a : s_X1_meetRain σ c x = up σ (53 + c) 11 (σ (53 + c) 11 + x) := if_pos c1
    have b : s_X1_meetRain τ c x = up τ (53 + c) 11 (τ (53 + c) 11 + x) := if_pos (by rw [← ag_isUm h, ← e9]; exact c1)
    rw [a, b]; exact ag_uc h (by rw [e11])
  · have c1' : ¬ s_X1_isUmbrella τ (τ (53 + c) 9) = 0 := by rw [← ag_isUm h, ← e9]; exact c1
    have hu := um_rng h c1
    have h1 : Agr nS nU nC (up σ (13 + tn (σ (53 + c) 9)) 2 (σ (13 + tn (σ (53 + c) 9)) 2 + x)) (up τ (13 + tn (σ (53 + c) 9)) 2 (τ (13 + tn (σ (53 + c) 9)) 2 + x)) := ag_uu h (by rw [h.um hu 2 (by decide)])
    have e2 := h1.um hu 2 (by decide)
    by_cases c2 : (up σ (13 + tn (σ (53 + c) 9)) 2 (σ (13 + tn (σ (53 + c) 9)) 2 + x)) (13 + tn (σ (53 + c) 9)) 2 < nI 30
    · have a : s_X1_meetRain σ c x = up σ (13 + tn (σ (53 + c) 9)) 2 (σ (13 + tn (σ (53 + c) 9)) 2 + x) := (if_neg c1).trans (if_pos c2)
      have b : s_X1_meetRain τ c x = up τ (13 + tn (τ (53 + c) 9)) 2 (τ (13 + tn (τ (53 + c) 9)) 2 + x) := (if_neg c1').trans (if_pos (by rw [← e9, ← e2]; exact c2))
      rw [a, b, ← e9]; exact h1
    · have a : s_X1_meetRain σ c x = up (s_X3_stayAway (up σ (13 + tn (σ (53 + c) 9)) 2 (σ (13 + tn (σ (53 + c) 9)) 2 + x)) (tn (σ (53 + c) 9)) (nI 3) (nI 12)) (53 + c) 9 (-1 : Int32) := (if_neg c1).trans (if_neg c2)
      have b : s_X1_meetRain τ c x = up (s_X3_stayAway (up τ (13 + tn (τ (53 + c) 9)) 2 (τ (13 + tn (τ (53 + c) 9)) 2 + x)) (tn (τ (53 + c) 9)) (nI 3) (nI 12)) (53 + c) 9 (-1 : Int32) := (if_neg c1').trans (if_neg (by rw [← e9, ← e2]; exact c2))
      rw [a, b, ← e9]; exact ag_uc (ag_away h1 _ _ _) rfl
theorem ag_forgets (h : Agr nS nU nC σ τ) {c : Nat} (hc : c < nC) : s_X0_forgetsThisOne σ c = s_X0_forgetsThisOne τ c := by
  unfold s_X0_forgetsThisOne
  rw [h.ci hc 4 (by decide), h.ci hc 12 (by decide)]
theorem ag_arr (h : Agr nS nU nC σ τ) {c : Nat} (hc : c < nC) : Agr nS nU nC (s_X1_arrive σ c) (s_X1_arrive τ c) := by
  have h1 : Agr nS nU nC (up σ (53 + c) 6 (σ (53 + c) 7)) (up τ (53 + c) 6 (τ (53 + c) 7)) := ag_uc h (h.ci hc 7 (by decide))
  have e9 := h1.ci hc 9 (by decide)
  have h5 : Agr nS nU nC (arS σ c) (arS τ c) := ag_uc h1 rfl
  have e6 := h5.ci hc 6 (by decide)
  by_cases c1 : s_X1_isUmbrella (up σ (53 + c) 6 (σ (53 + c) 7)) (up σ (53 + c) 6 (σ (53 + c) 7) (53 + c) 9) = 0
  · have a : s_X1_arrive σ c = up σ (53 + c) 6 (σ (53 + c) 7) := if_pos c1
    have b : s_X1_arrive τ c = up τ (53 + c) 6 (τ (53 + c) 7) := if_pos (by rw [← ag_isUm h1, ← e9]; exact c1)
    rw [a, b]; exact h1
  · have c1' : ¬ s_X1_isUmbrella (up τ (53 + c) 6 (τ (53 + c) 7)) (up τ (53 + c) 6 (τ (53 + c) 7) (53 + c) 9) = 0 := by rw [← ag_isUm h1, ← e9]; exact c1
    have hu := um_rng h1 c1
    generalize hU : tn (up σ (53 + c) 6 (σ (53 + c) 7) (53 + c) 9) = U at hu
    have hU' : tn (up τ (53 + c) 6 (τ (53 + c) 7) (53 + c) 9) = U := by rw [← e9]; exact hU
    by_cases c2 : s_X0_forgetsThisOne (arS σ c) c = 0
    · have c2' : s_X0_forgetsThisOne (arS τ c) c = 0 := by rw [← ag_forgets h5 hc]; exact c2
      have a : s_X1_arrive σ c = s_X0_noteBroughtBack (s_X3_standIn (arS σ c) (tn (up σ (53 + c) 6 (σ (53 + c) 7) (53 + c) 9)) (arS σ c (53 + c) 6)) c := (if_neg c1).trans (if_pos c2)
      have b : s_X1_arrive τ c = s_X0_noteBroughtBack (s_X3_standIn (arS τ c) (tn (up τ (53 + c) 6 (τ (53 + c) 7) (53 + c) 9)) (arS τ c (53 + c) 6)) c := (if_neg c1').trans (if_pos c2')
      rw [a, b, hU, hU']
      exact ag_noteB (ag_stand h5 U e6) hc
    · have c2' : ¬ s_X0_forgetsThisOne (arS τ c) c = 0 := by rw [← ag_forgets h5 hc]; exact c2
      have h9 : Agr nS nU nC (s_X0_noteForgotten (s_X3_stayAway (arS σ c) U (nI 2) (nI 24)) c) (s_X0_noteForgotten (s_X3_stayAway (arS τ c) U (nI 2) (nI 24)) c) := ag_noteC (ag_away h5 U (nI 2) (nI 24)) hc
      have e5 := h9.um hu 5 (by decide)
      have gen : ∀ X : Sg, ¬ s_X1_isUmbrella (up X (53 + c) 6 (X (53 + c) 7)) (up X (53 + c) 6 (X (53 + c) 7) (53 + c) 9) = 0 → ¬ s_X0_forgetsThisOne (arS X c) c = 0 → s_X1_arrive X c = (fun V => if s_X1_isShelter (s_X0_noteForgotten (s_X3_stayAway (arS X c) V (nI 2) (nI 24)) c) (s_X0_noteForgotten (s_X3_stayAway (arS X c) V (nI 2) (nI 24)) c (13 + V) 5) = 0 then s_X0_noteForgotten (s_X3_stayAway (arS X c) V (nI 2) (nI 24)) c else s_X2_noteForgotten (s_X0_noteForgotten (s_X3_stayAway (arS X c) V (nI 2) (nI 24)) c) (tn (s_X0_noteForgotten (s_X3_stayAway (arS X c) V (nI 2) (nI 24)) c (13 + V) 5))) (tn (up X (53 + c) 6 (X (53 + c) 7) (53 + c) 9)) := fun X q1 q2 => (if_neg q1).trans (if_neg q2)
      rw [gen σ c1 c2, gen τ c1' c2', hU, hU']
      dsimp only
      refine ag_ite (by rw [ag_isSh h9, e5]) (fun _ => h9) (fun q => ?_)
      rw [← e5]
      exact ag_noteF h9 (sh_rng h9 q)
theorem ag_cart (h : Agr nS nU nC σ τ) : Agr nS nU nC (s_X1_driveCart σ) (s_X1_driveCart τ) := by
  have key : ∀ (n k : Nat) (fu em : Int32), lp_X1_driveCart_6 σ n k fu em = lp_X1_driveCart_6 τ n k fu em := by
    intro n
    induction n with
    | zero => intro k fu em; rfl
    | succ n ih =>
      intro k fu em
      unfold lp_X1_driveCart_6
      simp only [ltt]
      rw [ag_umIn h (nI k), ag_umIn h fu, ag_umIn h em, ih (k + 1) fu em, ih (k + 1) fu (nI k), ih (k + 1) (nI k) em, ih (k + 1) (nI k) (nI k)]
  have e0 : lp_X1_driveCart_6 σ (tn (σ 0 5) - 1) 1 (nI 0) (nI 0) = lp_X1_driveCart_6 τ (tn (τ 0 5) - 1) 1 (nI 0) (nI 0) := by rw [(ag_tn h).1.1, (ag_tn h).2.1]; exact key _ _ _ _
  have gen : ∀ X : Sg, s_X1_driveCart X = (fun q => if s_X1_isUmbrella X (s_X1_firstUmbrellaIn X q.1) = 0 then X else if s_X1_umbrellasIn X q.1 - s_X1_umbrellasIn X q.2 < nI 2 then X else up (s_X3_standIn X (tn (s_X1_firstUmbrellaIn X q.1)) q.2) 0 8 (s_X3_standIn X (tn (s_X1_firstUmbrellaIn X q.1)) q.2 0 8 + nI 1)) (lp_X1_driveCart_6 X (tn (X 0 5) - 1) 1 (nI 0) (nI 0)) := fun X => rfl
  rw [gen σ, gen τ, ← e0]
  dsimp only
  refine ag_ite (by rw [ag_isUm h, ag_first h]) (fun _ => h) (fun _ => ag_ite (by rw [ag_umIn h, ag_umIn h]) (fun _ => h) (fun _ => ?_))
  rw [← ag_first h]
  have h1 := ag_stand h (tn (s_X1_firstUmbrellaIn σ (lp_X1_driveCart_6 σ (tn (σ 0 5) - 1) 1 (nI 0) (nI 0)).1)) (x := (lp_X1_driveCart_6 σ (tn (σ 0 5) - 1) 1 (nI 0) (nI 0)).2) rfl
  exact ag_up h1 (Or.inr (Or.inr rfl)) (pl1 (h1.2.1 8 (by decide) (by decide)))
end AG
