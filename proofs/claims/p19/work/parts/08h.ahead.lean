section AL
variable {nS nU nC : Nat}
theorem ag_waits (a b : Sg) : ∀ (n k : Nat) (σ τ : Sg), k + n ≤ nU → Agr nS nU nC σ τ → Agr nS nU nC (lp_X1_letUmbrellasWait_2 a n k σ) (lp_X1_letUmbrellasWait_2 b n k τ) := by
  intro n
  induction n with
  | zero => intro k σ τ _ h; exact h
  | succ n ih => intro k σ τ hk h; exact ih (k + 1) _ _ (by omega) (ag_wait h (by omega))
theorem ag_ends (a b : Sg) : ∀ (n k : Nat) (σ τ : Sg), k + n ≤ nS → Agr nS nU nC σ τ → Agr nS nU nC (lp_X1_endDay_2 a n k σ) (lp_X1_endDay_2 b n k τ) := by
  intro n
  induction n with
  | zero => intro k σ τ _ h; exact h
  | succ n ih => intro k σ τ hk h; exact ih (k + 1) _ _ (by omega) (ag_endDay h (by omega))
theorem ag_walks (a b : Sg) (x : Int32) : ∀ (n k : Nat) (σ τ : Sg), k + n ≤ nC → Agr nS nU nC σ τ → Agr nS nU nC (lp_X1_letCitizensWalk_2 a x n k σ) (lp_X1_letCitizensWalk_2 b x n k τ) := by
  intro n
  induction n with
  | zero => intro k σ τ _ h; exact h
  | succ n ih =>
    intro k σ τ hk h
    have hc : k < nC := by omega
    have h1 := ag_rain h hc x
    have h2 := ag_uc (c := k) (k := 8) h1 (v := s_X1_meetRain σ k x (53 + k) 8 - nI 1) (w := s_X1_meetRain τ k x (53 + k) 8 - nI 1) (by rw [h1.ci hc 8 (by decide)])
    exact ag_ite (by rw [h.ci hc 8 (by decide)]) (fun _ => ih (k + 1) _ _ (by omega) h) (fun _ => ag_ite (by rw [h2.ci hc 8 (by decide)]) (fun _ => ih (k + 1) _ _ (by omega) (ag_arr h2 hc)) (fun _ => ih (k + 1) _ _ (by omega) h2))
theorem ap_ite {P Q : Prop} [Decidable P] [Decidable Q] {a b a' b' : Int32 × Sg} (e : P ↔ Q) (h1 : P → AgP nS nU nC a a') (h2 : ¬ P → AgP nS nU nC b b') : AgP nS nU nC (if P then a else b) (if Q then a' else b') := by
  by_cases q : P
  · rw [if_pos q, if_pos (e.mp q)]; exact h1 q
  · rw [if_neg q, if_neg (fun r => q (e.mpr r))]; exact h2 q
theorem ag_lvs (a b : Sg) (h : Nat) (wt : Int32) : ∀ (n k : Nat) (m : Int32) (σ τ : Sg), k + n ≤ nC → Agr nS nU nC σ τ → AgP nS nU nC (lp_X1_letCitizensLeave_36 a h wt n k m σ) (lp_X1_letCitizensLeave_36 b h wt n k m τ) := by
  intro n
  induction n with
  | zero => intro k m σ τ _ h; exact ⟨rfl, h⟩
  | succ n ih =>
    intro k m σ τ hk hA
    have hc : k < nC := by omega
    have ht := ag_take hA hc
    have ho := ag_setOut ht.2 hc
    exact ap_ite (by rw [ag_leaves hA hc]) (fun _ => ih (k + 1) m _ _ (by omega) hA) (fun _ => ap_ite Iff.rfl (fun _ => ih (k + 1) m _ _ (by omega) (ag_setOut hA hc)) (fun _ => ap_ite (by rw [ht.1]) (fun _ => ih (k + 1) m _ _ (by omega) ho) (fun _ => ih (k + 1) _ _ _ (by omega) ho)))
theorem ag_leave {σ τ : Sg} (hA : Agr nS nU nC σ τ) {h : Nat} (hh : h < 24) : AgP nS nU nC (s_X1_letCitizensLeave σ h) (s_X1_letCitizensLeave τ h) := by
  have hf := tn_fm (nI (h + 1))
  have key : ∀ wt : Int32, AgP nS nU nC (lp_X1_letCitizensLeave_36 σ h wt (tn (σ 0 7)) 0 (nI 0) σ) (lp_X1_letCitizensLeave_36 τ h wt (tn (τ 0 7)) 0 (nI 0) τ) := by
    intro wt
    rw [(ag_tn hA).1.2.2, (ag_tn hA).2.2.2]
    exact ag_lvs σ τ h wt nC 0 (nI 0) σ τ (by omega) hA
  exact ap_ite (by rw [hA.2.2.1 h hh]) (fun _ => key (nI 1)) (fun _ => ap_ite (by rw [hA.2.2.1 _ hf]) (fun _ => key (nI 0)) (fun _ => key (nI 1)))
theorem ag_go : ∀ (n k : Nat) (m : Int32) (σ τ : Sg), Agr nS nU nC σ τ → AgP nS nU nC (lp_X1_letGoBy_4 n k m σ) (lp_X1_letGoBy_4 n k m τ) := by
  intro n
  induction n with
  | zero => intro k m σ τ h; exact ⟨rfl, h⟩
  | succ n ih =>
    intro k m σ τ hA
    have hf := tn_fm (τ 0 4)
    have e4 : σ 0 4 = τ 0 4 := hA.2.1 4 (by decide) (by decide)
    have w1 : Agr nS nU nC (s_X1_letUmbrellasWait σ) (s_X1_letUmbrellasWait τ) := by
      have q := ag_waits (nS := nS) (nC := nC) σ τ nU 0 σ τ (by omega) hA
      have a : s_X1_letUmbrellasWait σ = lp_X1_letUmbrellasWait_2 σ nU 0 σ := by rw [← (ag_tn hA).1.2.1]; rfl
      have b : s_X1_letUmbrellasWait τ = lp_X1_letUmbrellasWait_2 τ nU 0 τ := by rw [← (ag_tn hA).2.2.1]; rfl
      rw [a, b]; exact q
    have l1 := ag_leave w1 hf
    generalize hr : tn (s_J9_floorMod_7cf53 (τ 0 4) (nI 24)) = r3 at hf l1
    have hr' : tn (s_J9_floorMod_7cf53 (σ 0 4) (nI 24)) = r3 := by rw [e4]; exact hr
    have er := l1.2.2.2.1 r3 hf
    have g1 : Agr nS nU nC (s_X1_letCitizensWalk (s_X1_letCitizensLeave (s_X1_letUmbrellasWait σ) r3).2 ((s_X1_letCitizensLeave (s_X1_letUmbrellasWait σ) r3).2 1 r3)) (s_X1_letCitizensWalk (s_X1_letCitizensLeave (s_X1_letUmbrellasWait τ) r3).2 ((s_X1_letCitizensLeave (s_X1_letUmbrellasWait τ) r3).2 1 r3)) := by
      have q := ag_walks (nS := nS) (nU := nU) (s_X1_letCitizensLeave (s_X1_letUmbrellasWait σ) r3).2 (s_X1_letCitizensLeave (s_X1_letUmbrellasWait τ) r3).2 ((s_X1_letCitizensLeave (s_X1_letUmbrellasWait τ) r3).2 1 r3) nC 0 _ _ (by omega) l1.2
      rw [er]
      have a : s_X1_letCitizensWalk (s_X1_letCitizensLeave (s_X1_letUmbrellasWait σ) r3).2 ((s_X1_letCitizensLeave (s_X1_letUmbrellasWait τ) r3).2 1 r3) = lp_X1_letCitizensWalk_2 (s_X1_letCitizensLeave (s_X1_letUmbrellasWait σ) r3).2 ((s_X1_letCitizensLeave (s_X1_letUmbrellasWait τ) r3).2 1 r3) nC 0 (s_X1_letCitizensLeave (s_X1_letUmbrellasWait σ) r3).2 := by rw [← (ag_tn l1.2).1.2.2]; rfl
      have b : s_X1_letCitizensWalk (s_X1_letCitizensLeave (s_X1_letUmbrellasWait τ) r3).2 ((s_X1_letCitizensLeave (s_X1_letUmbrellasWait τ) r3).2 1 r3) = lp_X1_letCitizensWalk_2 (s_X1_letCitizensLeave (s_X1_letUmbrellasWait τ) r3).2 ((s_X1_letCitizensLeave (s_X1_letUmbrellasWait τ) r3).2 1 r3) nC 0 (s_X1_letCitizensLeave (s_X1_letUmbrellasWait τ) r3).2 := by rw [← (ag_tn l1.2).2.2.2]; rfl
      rw [a, b]; exact q
    have ed : ∀ {X Y : Sg}, Agr nS nU nC X Y → Agr nS nU nC (s_X1_endDay X) (s_X1_endDay Y) := by
      intro X Y hXY
      have q := ag_ends (nU := nU) (nC := nC) X Y nS 0 X Y (by omega) hXY
      have a : s_X1_endDay X = lp_X1_endDay_2 X nS 0 X := by rw [← (ag_tn hXY).1.1]; rfl
      have b : s_X1_endDay Y = lp_X1_endDay_2 Y nS 0 Y := by rw [← (ag_tn hXY).2.1]; rfl
      rw [a, b]; exact q
    have go : ∀ {X Y : Sg}, Agr nS nU nC X Y → AgP nS nU nC (lp_X1_letGoBy_4 n (k + 1) (m + (s_X1_letCitizensLeave (s_X1_letUmbrellasWait σ) r3).1) (up X 0 4 (X 0 4 + nI 1))) (lp_X1_letGoBy_4 n (k + 1) (m + (s_X1_letCitizensLeave (s_X1_letUmbrellasWait τ) r3).1) (up Y 0 4 (Y 0 4 + nI 1))) := by
      intro X Y hXY
      rw [l1.1]
      exact ih (k + 1) _ _ _ (ag_up hXY (Or.inr (Or.inl rfl)) (pl1 (hXY.2.1 4 (by decide) (by decide))))
    have gen : ∀ X : Sg, lp_X1_letGoBy_4 (n + 1) k m X = (fun r => if nI r - nI r / nI 6 * nI 6 = 0 then (if nI r = nI 23 then lp_X1_letGoBy_4 n (k + 1) (m + (s_X1_letCitizensLeave (s_X1_letUmbrellasWait X) r).1) (up (s_X1_endDay (s_X1_driveCart (s_X1_letCitizensWalk (s_X1_letCitizensLeave (s_X1_letUmbrellasWait X) r).2 ((s_X1_letCitizensLeave (s_X1_letUmbrellasWait X) r).2 1 r)))) 0 4 ((s_X1_endDay (s_X1_driveCart (s_X1_letCitizensWalk (s_X1_letCitizensLeave (s_X1_letUmbrellasWait X) r).2 ((s_X1_letCitizensLeave (s_X1_letUmbrellasWait X) r).2 1 r)))) 0 4 + nI 1)) else lp_X1_letGoBy_4 n (k + 1) (m + (s_X1_letCitizensLeave (s_X1_letUmbrellasWait X) r).1) (up (s_X1_driveCart (s_X1_letCitizensWalk (s_X1_letCitizensLeave (s_X1_letUmbrellasWait X) r).2 ((s_X1_letCitizensLeave (s_X1_letUmbrellasWait X) r).2 1 r))) 0 4 ((s_X1_driveCart (s_X1_letCitizensWalk (s_X1_letCitizensLeave (s_X1_letUmbrellasWait X) r).2 ((s_X1_letCitizensLeave (s_X1_letUmbrellasWait X) r).2 1 r))) 0 4 + nI 1))) else (if nI r = nI 23 then lp_X1_letGoBy_4 n (k + 1) (m + (s_X1_letCitizensLeave (s_X1_letUmbrellasWait X) r).1) (up (s_X1_endDay (s_X1_letCitizensWalk (s_X1_letCitizensLeave (s_X1_letUmbrellasWait X) r).2 ((s_X1_letCitizensLeave (s_X1_letUmbrellasWait X) r).2 1 r))) 0 4 ((s_X1_endDay (s_X1_letCitizensWalk (s_X1_letCitizensLeave (s_X1_letUmbrellasWait X) r).2 ((s_X1_letCitizensLeave (s_X1_letUmbrellasWait X) r).2 1 r))) 0 4 + nI 1)) else lp_X1_letGoBy_4 n (k + 1) (m + (s_X1_letCitizensLeave (s_X1_letUmbrellasWait X) r).1) (up (s_X1_letCitizensWalk (s_X1_letCitizensLeave (s_X1_letUmbrellasWait X) r).2 ((s_X1_letCitizensLeave (s_X1_letUmbrellasWait X) r).2 1 r)) 0 4 ((s_X1_letCitizensWalk (s_X1_letCitizensLeave (s_X1_letUmbrellasWait X) r).2 ((s_X1_letCitizensLeave (s_X1_letUmbrellasWait X) r).2 1 r)) 0 4 + nI 1)))) (tn (s_J9_floorMod_7cf53 (X 0 4) (nI 24))) := fun X => rfl
    rw [gen σ, gen τ, hr, hr']
    dsimp only
    exact ap_ite Iff.rfl (fun _ => ap_ite Iff.rfl (fun _ => go (ed (ag_cart g1))) (fun _ => go (ag_cart g1))) (fun _ => ap_ite Iff.rfl (fun _ => go (ed g1)) (fun _ => go g1))
theorem ag_like {B : Nat} {σ : Sg} (a : Sg) (hI : Inv B nS nU nC σ) : Agr nS nU nC σ (s_X1_becomeLike (σ, a)).2 := by
  have ht := inv_tn hI
  obtain ⟨⟨n0, n1, n8, n40, n10, nB⟩, -⟩ := hI
  have hn : tn (σ 0 5) ≤ 8 ∧ tn (σ 0 6) ≤ 40 := by rw [ht.1, ht.2.1]; exact ⟨n8, n40⟩
  refine ⟨⟨n0, n8, n40, n10⟩, fun k h1 h2 => ?_, fun j hj => ?_, fun i hi k hk => ?_, fun u hu k hk => ?_, fun c hc k hk => ?_⟩
  · rw [bl_0 σ a hn 0 (by decide)]
    unfold blB
    have hx : k = 4 ∨ k = 5 ∨ k = 6 ∨ k = 7 ∨ k = 8 := by omega
    rcases hx with rfl | rfl | rfl | rfl | rfl <;> simp (disch := decide) only [up_s, up_neK]
  · rw [bl_0 σ a hn 1 (by decide)]
    unfold blB
    simp (disch := decide) only [up_row_ne, upr_row]
    unfold va_cpy
    rw [if_pos ⟨Nat.zero_le _, by omega⟩]
    simp
  · rw [bl_2 σ a hn i k (by rw [ht.1]; exact hi) hk]
  · rw [bl_3 σ a hn u k (by rw [ht.2.1]; exact hu) hk]
  · rw [bl_0c σ a c k (by rw [ht.2.2]; exact hc) hk]
/-- what is foreseen is what comes -/
theorem fore_ok {B : Nat} {σ : Sg} (a : Sg) (j : Nat) (hI : Inv B nS nU nC σ) : s_X1_wetOfAll (s_X1_letGoBy (s_X1_becomeLike (σ, a)).2 j).2 = s_X1_wetOfAll (s_X1_letGoBy σ j).2 ∧ ∀ x, s_X1_umbrellasThatAre (s_X1_letGoBy (s_X1_becomeLike (σ, a)).2 j).2 x = s_X1_umbrellasThatAre (s_X1_letGoBy σ j).2 x := by
  have h := ag_go j 0 (nI 0) _ _ (ag_like a hI)
  exact ⟨(ag_wet h.2).symm, fun x => (ag_that h.2 x).symm⟩
end AL
