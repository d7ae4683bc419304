/-! SUMS: what the counts tell -/
def kI (σ : Sg) (j u : Nat) : Int := if (σ (13 + u) 0).toInt = (j : Int) then 1 else 0
def wI (σ : Sg) (i u : Nat) : Int := if (σ (13 + u) 0).toInt = 0 ∧ (σ (13 + u) 1).toInt = (i : Int) then 1 else 0
def dI (σ : Sg) (c u : Nat) : Int := if (σ (13 + u) 0).toInt = 1 ∧ (σ (13 + u) 1).toInt = (c : Int) then 1 else 0
def cI (σ : Sg) (x : Int) (c : Nat) : Int := if (σ (53 + c) 6).toInt = x then 1 else 0
def tI (σ : Sg) (c : Nat) : Int := (σ (53 + c) 10).toInt
def eI (σ : Sg) (c : Nat) : Int := (σ (53 + c) 11).toInt
theorem ite01 (P : Prop) [Decidable P] : 0 ≤ (if P then (1 : Int) else 0) ∧ (if P then (1 : Int) else 0) ≤ 1 := by
  by_cases q : P
  · rw [if_pos q]; omega
  · rw [if_neg q]; omega
theorem cn_rg {f : Nat → Int} (b : Nat) : ∀ n, (∀ x, x < n → 0 ≤ f x ∧ f x ≤ b) → 0 ≤ cn f n ∧ cn f n ≤ (b : Int) * n := by
  intro n
  induction n with
  | zero => intro _; simp [cn]
  | succ n ih =>
    intro h
    have h1 := ih (fun x hx => h x (by omega))
    have h2 := h n (by omega)
    rw [show (b : Int) * ((n + 1 : Nat) : Int) = (b : Int) * (n : Int) + b by rw [Int.natCast_add, Int.mul_add]; simp]
    simp only [cn]
    omega
theorem cn_mon {f : Nat → Int} : ∀ n k, k ≤ n → (∀ x, x < n → 0 ≤ f x) → cn f k ≤ cn f n := by
  intro n
  induction n with
  | zero => intro k hk _; rw [show k = 0 by omega]; exact Int.le_refl _
  | succ n ih =>
    intro k hk h
    by_cases e : k = n + 1
    · rw [e]; exact Int.le_refl _
    · have h1 := ih k (by omega) (fun x hx => h x (by omega))
      have h2 := h n (by omega)
      simp only [cn]
      omega
theorem lp_sum (lp : Nat → Nat → Int32 → Int32) (f : Nat → Int) (N : Nat) (h0 : ∀ k a, lp 0 k a = a) (hs : ∀ n k a, k < N → a.toInt = cn f k → ∃ a', lp (n + 1) k a = lp n (k + 1) a' ∧ a'.toInt = cn f (k + 1)) : ∀ n k a, k + n ≤ N → a.toInt = cn f k → (lp n k a).toInt = cn f (k + n) := by
  intro n
  induction n with
  | zero => intro k a _ ha; rw [h0]; exact ha
  | succ n ih =>
    intro k a hk ha
    obtain ⟨a', e, ea⟩ := hs n k a (by omega) ha
    rw [e, show k + (n + 1) = k + 1 + n by omega]
    exact ih (k + 1) a' (by omega) ea
section SU
variable {B nS nU nC : Nat} {σ : Sg}
theorem sm_that (hI : Inv B nS nU nC σ) {j : Nat} (hj : j < 4) : (s_X1_umbrellasThatAre σ (nI j)).toInt = cn (kI σ j) nU := by
  have n40 := hI.1.2.2.2.1
  have e : s_X1_umbrellasThatAre σ (nI j) = lp_X1_umbrellasThatAre_4 σ (nI j) nU 0 (nI 0) := by rw [← (inv_tn hI).2.1]; rfl
  rw [e, lp_sum (lp_X1_umbrellasThatAre_4 σ (nI j)) (kI σ j) 40 (fun _ _ => rfl) (fun n k a hk ha => ?_) nU 0 (nI 0) (by omega) k_0, Nat.zero_add]
  have hb := cn_rg (f := kI σ j) 1 k (fun x _ => ite01 _)
  by_cases q : σ (13 + k) 0 = nI j
  · refine ⟨a + nI 1, if_pos q, ?_⟩
    have f1 : kI σ j k = 1 := if_pos ((te_n j (by omega)).mp q)
    rw [ti_inc (by omega), ha]
    simp only [cn]
    rw [f1]
  · refine ⟨a, if_neg q, ?_⟩
    have f1 : kI σ j k = 0 := if_neg (fun r => q ((te_n j (by omega)).mpr r))
    rw [ha]
    simp only [cn]
    rw [f1]; omega
theorem sm_in (hI : Inv B nS nU nC σ) {i : Nat} (hi : i < nS) : (s_X1_umbrellasIn σ (nI i)).toInt = cn (wI σ i) nU := by
  have n40 := hI.1.2.2.2.1
  have n8 := hI.1.2.2.1
  have e : s_X1_umbrellasIn σ (nI i) = lp_X1_umbrellasIn_4 σ (nI i) nU 0 (nI 0) := by rw [← (inv_tn hI).2.1]; rfl
  rw [e, lp_sum (lp_X1_umbrellasIn_4 σ (nI i)) (wI σ i) 40 (fun _ _ => rfl) (fun n k a hk ha => ?_) nU 0 (nI 0) (by omega) k_0, Nat.zero_add]
  have hb := cn_rg (f := wI σ i) 1 k (fun x _ => ite01 _)
  by_cases q : s_X3_standsIn σ k (nI i) = 0
  · refine ⟨a, if_pos q, ?_⟩
    have f1 : wI σ i k = 0 := if_neg (fun r => (stands_iff σ k (nI i)).mpr ⟨te_0.mpr r.1, (te_n i (by omega)).mpr r.2⟩ q)
    rw [ha]
    simp only [cn]
    rw [f1]; omega
  · refine ⟨a + nI 1, if_neg q, ?_⟩
    have r := (stands_iff σ k (nI i)).mp q
    have f1 : wI σ i k = 1 := if_pos ⟨te_0.mp r.1, (te_n i (by omega)).mp r.2⟩
    rw [ti_inc (by omega), ha]
    simp only [cn]
    rw [f1]
theorem sm_cit (hI : Inv B nS nU nC σ) {x : Int32} : (s_X1_citizensIn σ x).toInt = cn (cI σ x.toInt) nC := by
  have n10 := hI.1.2.2.2.2.1
  have e : s_X1_citizensIn σ x = lp_X1_citizensIn_4 σ x nC 0 (nI 0) := by rw [← (inv_tn hI).2.2]; rfl
  rw [e, lp_sum (lp_X1_citizensIn_4 σ x) (cI σ x.toInt) 10 (fun _ _ => rfl) (fun n k a hk ha => ?_) nC 0 (nI 0) (by omega) k_0, Nat.zero_add]
  have hb := cn_rg (f := cI σ x.toInt) 1 k (fun x _ => ite01 _)
  by_cases q : σ (53 + k) 6 = x
  · refine ⟨a + nI 1, if_pos q, ?_⟩
    have f1 : cI σ x.toInt k = 1 := if_pos (te.mp q)
    rw [ti_inc (by omega), ha]
    simp only [cn]
    rw [f1]
  · refine ⟨a, if_neg q, ?_⟩
    have f1 : cI σ x.toInt k = 0 := if_neg (fun r => q (te.mpr r))
    rw [ha]
    simp only [cn]
    rw [f1]; omega
theorem tI_b (hI : Inv B nS nU nC σ) {c : Nat} (hc : c < nC) : 0 ≤ tI σ c ∧ tI σ c ≤ (10 : Nat) := by
  have h := hI.2.2.2.2.1 c hc
  unfold CI at h
  unfold tI
  omega
theorem sm_trust (hI : Inv B nS nU nC σ) : (s_X1_trustOfAll σ).toInt = cn (tI σ) nC ∧ 0 ≤ cn (tI σ) nC ∧ cn (tI σ) nC ≤ 100 := by
  have n10 := hI.1.2.2.2.2.1
  have e : s_X1_trustOfAll σ = lp_X1_trustOfAll_4 σ nC 0 (nI 0) := by rw [← (inv_tn hI).2.2]; rfl
  have hb9 := cn_rg (f := tI σ) 10 nC (fun x hx => tI_b hI hx)
  refine ⟨?_, by omega, by omega⟩
  rw [e, lp_sum (lp_X1_trustOfAll_4 σ) (tI σ) nC (fun _ _ => rfl) (fun n k a hk ha => ?_) nC 0 (nI 0) (by omega) k_0, Nat.zero_add]
  have hb := cn_rg (f := tI σ) 10 k (fun x hx => tI_b hI (by omega))
  have hk1 := tI_b hI hk
  refine ⟨a + σ (53 + k) 10, rfl, ?_⟩
  unfold tI at hk1
  rw [ti_add (by omega), ha]
  rfl
theorem eI_b (hI : Inv B nS nU nC σ) {c : Nat} (hc : c < nC) : 0 ≤ eI σ c ∧ eI σ c ≤ (100000000 : Nat) := by
  have h := hI.2.2.2.2.1 c hc
  have hB := hI.1.2.2.2.2.2
  unfold CI at h
  unfold eI
  omega
theorem sm_wet (hI : Inv B nS nU nC σ) : (s_X1_wetOfAll σ).toInt = cn (eI σ) nC := by
  have n10 := hI.1.2.2.2.2.1
  have e : s_X1_wetOfAll σ = lp_X1_wetOfAll_4 σ nC 0 (nI 0) := by rw [← (inv_tn hI).2.2]; rfl
  have hb9 := cn_rg (f := eI σ) 100000000 nC (fun x hx => eI_b hI hx)
  rw [e, lp_sum (lp_X1_wetOfAll_4 σ) (eI σ) nC (fun _ _ => rfl) (fun n k a hk ha => ?_) nC 0 (nI 0) (by omega) k_0, Nat.zero_add]
  have hb := cn_rg (f := eI σ) 100000000 k (fun x hx => eI_b hI (by omega))
  have hk1 := eI_b hI hk
  refine ⟨a + σ (53 + k) 11, rfl, ?_⟩
  unfold eI at hk1
  rw [ti_add (by omega), ha]
  rfl
theorem cn_le {f g : Nat → Int} : ∀ n, (∀ x, x < n → f x ≤ g x) → cn f n ≤ cn g n := by
  intro n
  induction n with
  | zero => intro _; exact Int.le_refl _
  | succ n ih => intro h; have h1 := ih (fun x hx => h x (by omega)); have h2 := h n (by omega); simp only [cn]; omega
theorem cn_add {f g : Nat → Int} : ∀ n, cn (fun x => f x + g x) n = cn f n + cn g n := by
  intro n
  induction n with
  | zero => rfl
  | succ n ih => simp only [cn]; rw [ih]; omega
theorem cn_swap {g : Nat → Nat → Int} (m : Nat) : ∀ n, cn (fun i => cn (g i) m) n = cn (fun c => cn (fun i => g i c) n) m := by
  intro n
  induction n with
  | zero => exact (cn_z m (fun _ _ => rfl)).symm
  | succ n ih =>
    simp only [cn]
    rw [ih, cn_add]
theorem cn_one {f : Nat → Int} (u : Nat) : ∀ n, u < n → (∀ x, x < n → f x = if x = u then 1 else 0) → cn f n = 1 := by
  intro n hu h
  have h1 := cn_mod (f := fun _ => (0 : Int)) (g := f) (u := u) n (fun x hx hn => by rw [h x hx, if_neg hn])
  rw [h1, cn_z n (fun _ _ => rfl), if_pos hu, h u hu, if_pos rfl]
  rfl
/-- each citizen is in one shelter, or on the way -/
theorem sm_all (hI : Inv B nS nU nC σ) : cn (fun i => cn (cI σ (i : Int)) nC) nS + cn (cI σ (-1)) nC = nC := by
  rw [cn_swap (g := fun i c => cI σ (i : Int) c) nC nS, ← cn_add]
  have h : ∀ c, c < nC → cn (fun i : Nat => cI σ (i : Int) c) nS + cI σ (-1) c = 1 := by
    intro c hc
    have hC := hI.2.2.2.2.1 c hc
    unfold CI at hC
    by_cases q : (σ (53 + c) 6).toInt = -1
    · rw [cn_z (f := fun i : Nat => cI σ (i : Int) c) nS (fun i _ => if_neg (show ¬ (σ (53 + c) 6).toInt = (i : Int) by omega))]
      have e : cI σ (-1) c = 1 := if_pos q
      omega
    · obtain ⟨j, hj, -, ej⟩ := of_rng (x := σ (53 + c) 6) (n := nS) (by omega) (by omega)
      rw [cn_one j nS hj (fun i _ => by
        show (if (σ (53 + c) 6).toInt = (i : Int) then (1 : Int) else 0) = _
        by_cases r : i = j
        · rw [if_pos r, if_pos (by omega)]
        · rw [if_neg r, if_neg (by omega)])]
      have e : cI σ (-1) c = 0 := if_neg q
      omega
  rw [cn_cg (g := fun _ => 1) nC h]
  have one : ∀ n : Nat, cn (fun _ => (1 : Int)) n = n := by
    intro n
    induction n with
    | zero => rfl
    | succ n ih => simp only [cn]; rw [ih]; omega
  exact one nC
/-- who holds one: just one -/
theorem sm_hand (hI : Inv B nS nU nC σ) {c : Nat} (hc : c < nC) : cn (dI σ c) nU = if (σ (53 + c) 9).toInt < 0 then 0 else 1 := by
  have hC := hI.2.2.2.2.1 c hc
  have hh := fun u hu => hI.2.2.2.2.2 u hu c hc
  unfold CI at hC
  unfold HH at hh
  by_cases q : (σ (53 + c) 9).toInt < 0
  · rw [if_pos q]
    refine cn_z nU (fun u hu => if_neg (fun r => ?_))
    have h := (hh u hu).mp r
    omega
  · rw [if_neg q]
    obtain ⟨j, hj, -, ej⟩ := of_rng (x := σ (53 + c) 9) (n := nU) (by omega) (by omega)
    refine cn_one j nU hj (fun u hu => ?_)
    unfold dI
    by_cases r : u = j
    · rw [if_pos r, if_pos ((hh u hu).mpr (by omega))]
    · rw [if_neg r, if_neg (fun r2 => by have h := (hh u hu).mp r2; omega)]
/-- there is a first one where one stands -/
theorem lp_fst_n (σ : Sg) (x : Int32) : ∀ (n k : Nat) (f lw : Int32), k + n ≤ 40 → ¬ f = (-1 : Int32) → ¬ (lp_X1_firstUmbrellaIn_8 σ x n k f lw).1 = (-1 : Int32) := by
  intro n
  induction n with
  | zero => intro k f lw _ h; exact h
  | succ n ih =>
    intro k f lw hk h
    have hn : ¬ nI k = (-1 : Int32) := by rw [te_m1, ti_n (by omega)]; omega
    by_cases c1 : s_X3_standsIn σ k x = 0
    · have e : lp_X1_firstUmbrellaIn_8 σ x (n + 1) k f lw = lp_X1_firstUmbrellaIn_8 σ x n (k + 1) f lw := if_pos c1
      rw [e]; exact ih _ _ _ (by omega) h
    · by_cases c2 : lw ≤ σ (13 + k) 2
      · have e : lp_X1_firstUmbrellaIn_8 σ x (n + 1) k f lw = lp_X1_firstUmbrellaIn_8 σ x n (k + 1) f lw := (if_neg c1).trans (if_pos c2)
        rw [e]; exact ih _ _ _ (by omega) h
      · have e : lp_X1_firstUmbrellaIn_8 σ x (n + 1) k f lw = lp_X1_firstUmbrellaIn_8 σ x n (k + 1) (nI k) (σ (13 + k) 2) := (if_neg c1).trans (if_neg c2)
        rw [e]; exact ih _ _ _ (by omega) hn
theorem lp_fst_m (σ : Sg) (x : Int32) : ∀ (n k : Nat), k + n ≤ 40 → (∀ u, k ≤ u → u < k + n → ¬ s_X3_standsIn σ u x = 0 → (σ (13 + u) 2).toInt ≤ 29) → (lp_X1_firstUmbrellaIn_8 σ x n k (-1) (nI 30)).1 = (-1 : Int32) → ∀ u, k ≤ u → u < k + n → s_X3_standsIn σ u x = 0 := by
  intro n
  induction n with
  | zero => intro k _ _ _ u h1 h2; omega
  | succ n ih =>
    intro k hk hw hr u h1 h2
    have hn : ¬ nI k = (-1 : Int32) := by rw [te_m1, ti_n (by omega)]; omega
    by_cases c1 : s_X3_standsIn σ k x = 0
    · have e : lp_X1_firstUmbrellaIn_8 σ x (n + 1) k (-1) (nI 30) = lp_X1_firstUmbrellaIn_8 σ x n (k + 1) (-1) (nI 30) := if_pos c1
      rw [e] at hr
      by_cases q : u = k
      · rw [q]; exact c1
      · exact ih (k + 1) (by omega) (fun v a b => hw v (by omega) (by omega)) hr u (by omega) (by omega)
    · have c2 : ¬ nI 30 ≤ σ (13 + k) 2 := by rw [tle, k_30]; have := hw k (by omega) (by omega) c1; omega
      have e : lp_X1_firstUmbrellaIn_8 σ x (n + 1) k (-1) (nI 30) = lp_X1_firstUmbrellaIn_8 σ x n (k + 1) (nI k) (σ (13 + k) 2) := (if_neg c1).trans (if_neg c2)
      rw [e] at hr
      exact absurd hr (lp_fst_n σ x n (k + 1) (nI k) _ (by omega) hn)
theorem sm_first (hI : Inv B nS nU nC σ) {i : Nat} (hi : i < nS) : (s_X1_firstUmbrellaIn σ (nI i)).toInt < 0 ↔ cn (wI σ i) nU = 0 := by
  have n40 := hI.1.2.2.2.1
  have n8 := hI.1.2.2.1
  have hU := hI.2.2.2.1
  have e : s_X1_firstUmbrellaIn σ (nI i) = (lp_X1_firstUmbrellaIn_8 σ (nI i) nU 0 (-1) (nI 30)).1 := by rw [← (inv_tn hI).2.1]; rfl
  constructor
  · intro h
    rcases first_form hI (nI i) with q | ⟨u, hu, q, -⟩
    · rw [e] at q
      have hz := lp_fst_m σ (nI i) nU 0 (by omega) (fun u _ hu2 hst => by
        have h1 := hU u (by omega)
        have h2 := te_0.mp ((stands_iff σ u (nI i)).mp hst).1
        unfold UI at h1
        omega) q
      exact cn_z nU (fun u hu => if_neg (fun r => (stands_iff σ u (nI i)).mpr ⟨te_0.mpr r.1, (te_n i (by omega)).mpr r.2⟩ (hz u (by omega) (by omega))))
    · rw [q, ti_n (by omega)] at h
      omega
  · intro h
    rcases first_form hI (nI i) with q | ⟨u, hu, q, a0, a1⟩
    · rw [q, ti_m1]; omega
    · have h1 := cn_mod (f := fun x => if x = u then (0 : Int) else wI σ i x) (g := wI σ i) (u := u) nU (fun x hx hn => by rw [if_neg hn])
      have h2 := cn_nn (f := fun x => if x = u then (0 : Int) else wI σ i x) nU (fun x _ => by
        by_cases r : x = u
        · rw [if_pos r]; omega
        · rw [if_neg r]; exact (ite01 _).1)
      have f1 : wI σ i u = 1 := if_pos ⟨te_0.mp a0, (te_n i (by omega)).mp a1⟩
      rw [if_pos hu, if_pos rfl, f1] at h1
      omega
end SU
