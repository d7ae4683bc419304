/-! THE REPUBLIC'S INVARIANT: numbers in their bounds, places, hands, counters -/
theorem ti_n {n : Nat} (h : n < 2 ^ 31) : (nI n).toInt = (n : Int) := nI_toInt h
theorem ti_add {x y : Int32} (h : -2147483648 ≤ x.toInt + y.toInt ∧ x.toInt + y.toInt < 2147483648) : (x + y).toInt = x.toInt + y.toInt := by
  rw [Int32.toInt_add, Int.bmod_eq_of_le_mul_two (by omega) (by omega)]
theorem ti_sub {x y : Int32} (h : -2147483648 ≤ x.toInt - y.toInt ∧ x.toInt - y.toInt < 2147483648) : (x - y).toInt = x.toInt - y.toInt := by
  rw [Int32.toInt_sub, Int.bmod_eq_of_le_mul_two (by omega) (by omega)]
theorem ti_m1 : (-1 : Int32).toInt = -1 := by decide
theorem ti_0 : (0 : Int32).toInt = 0 := by decide
theorem te_n {x : Int32} (n : Nat) (hn : n < 2 ^ 31) : x = nI n ↔ x.toInt = (n : Int) := by
  rw [← Int32.toInt_inj, ti_n hn]
theorem te_0 {x : Int32} : x = 0 ↔ x.toInt = 0 := by rw [← Int32.toInt_inj, ti_0]
theorem te_m1 {x : Int32} : x = (-1 : Int32) ↔ x.toInt = -1 := by rw [← Int32.toInt_inj, ti_m1]
theorem te {x y : Int32} : x = y ↔ x.toInt = y.toInt := Int32.toInt_inj.symm
theorem tl {x y : Int32} : x < y ↔ x.toInt < y.toInt := Int32.lt_iff_toInt_lt
theorem tle {x y : Int32} : x ≤ y ↔ x.toInt ≤ y.toInt := Int32.le_iff_toInt_le
theorem tn_of {x : Int32} {n : Nat} (h : x.toInt = (n : Int)) : tn x = n := by
  have hb := Int32.toInt_lt x
  have e : x = nI n := (te_n n (by omega)).mpr h
  rw [e, tn_nI (by omega)]
theorem ti_tn {x : Int32} (h : 0 ≤ x.toInt) : x.toInt = (tn x : Int) := by
  obtain ⟨n, hn⟩ := Int.eq_ofNat_of_zero_le h
  rw [tn_of hn, hn]
theorem up_neK (σ : Sg) (p : Nat) {k b : Nat} (v : Int32) (a : Nat) (h : b ≠ k) : up σ p k v a b = σ a b := up_ne σ v (fun q => h q.2)
theorem up_get (σ : Sg) (p k : Nat) (v : Int32) (a b : Nat) : up σ p k v a b = if a = p ∧ b = k then v else σ a b := rfl
def cn (f : Nat → Int) : Nat → Int
  | 0 => 0
  | n + 1 => cn f n + f n
theorem cn_cg {f g : Nat → Int} : ∀ n, (∀ x, x < n → f x = g x) → cn f n = cn g n := by
  intro n
  induction n with
  | zero => intro _; rfl
  | succ n ih => intro h; simp only [cn]; rw [ih (fun x hx => h x (by omega)), h n (by omega)]
theorem cn_mod {f g : Nat → Int} {u : Nat} : ∀ n, (∀ x, x < n → x ≠ u → g x = f x) → cn g n = cn f n + (if u < n then g u - f u else 0) := by
  intro n
  induction n with
  | zero => intro _; rw [if_neg (by omega)]; rfl
  | succ n ih =>
    intro h
    simp only [cn]
    rw [ih (fun x hx hn => h x (by omega) hn)]
    by_cases e : u = n
    · subst e
      rw [if_neg (by omega), if_pos (by omega)]
      omega
    · rw [h n (by omega) (fun q => e q.symm)]
      by_cases e2 : u < n
      · rw [if_pos e2, if_pos (by omega)]; omega
      · rw [if_neg e2, if_neg (by omega)]; omega
theorem cn_nn {f : Nat → Int} : ∀ n, (∀ x, x < n → 0 ≤ f x) → 0 ≤ cn f n := by
  intro n
  induction n with
  | zero => intro _; exact Int.le_refl 0
  | succ n ih => intro h; have h1 := ih (fun x hx => h x (by omega)); have h2 := h n (by omega); simp only [cn]; omega
theorem cn_z {f : Nat → Int} : ∀ n, (∀ x, x < n → f x = 0) → cn f n = 0 := by
  intro n
  induction n with
  | zero => intro _; rfl
  | succ n ih => intro h; simp only [cn]; rw [ih (fun x hx => h x (by omega)), h n (by omega)]; rfl
def fH (σ : Sg) (i u : Nat) : Int := if (σ (13 + u) 0).toInt = 1 ∧ (σ (13 + u) 5).toInt = (i : Int) then 1 else 0
def UI (nS nC : Nat) (r : Nat → Int32) : Prop :=
  (0 ≤ (r 2).toInt ∧ (r 2).toInt ≤ 38) ∧ (((r 0).toInt = 0 ∧ 0 ≤ (r 1).toInt ∧ (r 1).toInt < nS ∧ (r 3).toInt = 0 ∧ (r 2).toInt ≤ 29) ∨ ((r 0).toInt = 1 ∧ 0 ≤ (r 1).toInt ∧ (r 1).toInt < nC ∧ (r 3).toInt = 0 ∧ (r 2).toInt ≤ 29 ∧ 0 ≤ (r 5).toInt ∧ (r 5).toInt < nS) ∨ ((r 0).toInt = 2 ∧ (r 1).toInt = -1 ∧ 1 ≤ (r 3).toInt ∧ (r 3).toInt ≤ 24 ∧ (r 2).toInt ≤ 29 ∧ 0 ≤ (r 5).toInt ∧ (r 5).toInt < nS) ∨ ((r 0).toInt = 3 ∧ (r 1).toInt = -1 ∧ 1 ≤ (r 3).toInt ∧ (r 3).toInt ≤ 24))
def CI (nS nU B : Nat) (r : Nat → Int32) : Prop :=
  (0 ≤ (r 0).toInt ∧ (r 0).toInt < nS ∧ 0 ≤ (r 1).toInt ∧ (r 1).toInt < nS ∧ 0 ≤ (r 7).toInt ∧ (r 7).toInt < nS) ∧ ((r 6).toInt = -1 ∨ (0 ≤ (r 6).toInt ∧ (r 6).toInt < nS ∧ (r 9).toInt = -1)) ∧ (0 ≤ (r 10).toInt ∧ (r 10).toInt ≤ 10) ∧ (0 ≤ (r 11).toInt ∧ (r 11).toInt ≤ B) ∧ (((r 9).toInt = -1 ∧ (r 13).toInt ≤ (r 12).toInt) ∨ (0 ≤ (r 9).toInt ∧ (r 9).toInt < nU ∧ (r 13).toInt + 1 ≤ (r 12).toInt)) ∧ (0 ≤ (r 13).toInt ∧ (r 12).toInt ≤ B)
def SI (B : Nat) (r : Nat → Int32) : Prop := (0 ≤ (r 1).toInt ∧ (r 1).toInt ≤ 10) ∧ 0 ≤ (r 3).toInt ∧ (r 2).toInt ≤ B
def HH (σ : Sg) (u c : Nat) : Prop := ((σ (13 + u) 0).toInt = 1 ∧ (σ (13 + u) 1).toInt = (c : Int)) ↔ (σ (53 + c) 9).toInt = (u : Int)
def N0 (B nS nU nC : Nat) (σ : Sg) : Prop := (σ 0 5 = nI nS ∧ σ 0 6 = nI nU ∧ σ 0 7 = nI nC) ∧ (nU = 0 ∨ 1 ≤ nS) ∧ nS ≤ 8 ∧ nU ≤ 40 ∧ nC ≤ 10 ∧ B ≤ 100000000
def Inv (B nS nU nC : Nat) (σ : Sg) : Prop :=
  N0 B nS nU nC σ ∧ (∀ j, j < 24 → 0 ≤ (σ 1 j).toInt ∧ (σ 1 j).toInt ≤ 9) ∧ (∀ i, i < nS → SI B (σ (5 + i)) ∧ (σ (5 + i) 3).toInt + cn (fH σ i) nU ≤ (σ (5 + i) 2).toInt) ∧ (∀ u, u < nU → UI nS nC (σ (13 + u))) ∧ (∀ c, c < nC → CI nS nU B (σ (53 + c))) ∧ (∀ u, u < nU → ∀ c, c < nC → HH σ u c)
theorem CI.mono {nS nU B B' : Nat} {r : Nat → Int32} (h : CI nS nU B r) (hB : B ≤ B') : CI nS nU B' r := by
  unfold CI at h ⊢
  omega
theorem SI.mono {B B' : Nat} {r : Nat → Int32} (h : SI B r) (hB : B ≤ B') : SI B' r := by
  unfold SI at h ⊢
  omega
/-- one umbrella, one citizen and the shelters' counters may have changed (u or c past the count: none) -/
theorem inv_mod {B B' nS nU nC u c : Nat} {σ σ' : Sg} (hI : Inv B nS nU nC σ) (hB : B ≤ B') (hB2 : B' ≤ 100000000)
    (e5 : σ' 0 5 = σ 0 5) (e6 : σ' 0 6 = σ 0 6) (e7 : σ' 0 7 = σ 0 7) (e1 : σ' 1 = σ 1)
    (eU : ∀ x, x < nU → x ≠ u → σ' (13 + x) = σ (13 + x)) (eC : ∀ x, x < nC → x ≠ c → σ' (53 + x) = σ (53 + x))
    (hUu : u < nU → UI nS nC (σ' (13 + u))) (hCc : c < nC → CI nS nU B' (σ' (53 + c)))
    (hHu : u < nU → ∀ x, x < nC → x ≠ c → HH σ' u x) (hHc : c < nC → ∀ x, x < nU → x ≠ u → HH σ' x c) (hHuc : u < nU → c < nC → HH σ' u c)
    (hS : ∀ i, i < nS → SI B' (σ' (5 + i)) ∧ (σ' (5 + i) 3).toInt + (if u < nU then fH σ' i u - fH σ i u else 0) + (σ (5 + i) 2).toInt ≤ (σ (5 + i) 3).toInt + (σ' (5 + i) 2).toInt) : Inv B' nS nU nC σ' := by
  obtain ⟨⟨⟨n5, n6, n7⟩, n1, n8, n40, n10, nB⟩, hr, hs, hu, hc, hh⟩ := hI
  refine ⟨⟨⟨e5.trans n5, e6.trans n6, e7.trans n7⟩, n1, n8, n40, n10, hB2⟩, ?_, fun i hi => ?_, fun x hx => ?_, fun x hx => ?_, fun x hx y hy => ?_⟩
  · rw [e1]; exact hr
  · obtain ⟨a1, a2⟩ := hS i hi
    refine ⟨a1, ?_⟩
    have hm := cn_mod (f := fH σ i) (g := fH σ' i) (u := u) nU (fun x hx hn => by unfold fH; rw [eU x hx hn])
    have h0 := (hs i hi).2
    rw [hm]
    omega
  · by_cases e : x = u
    · subst e; exact hUu hx
    · rw [eU x hx e]; exact hu x hx
  · by_cases e : x = c
    · subst e; exact hCc hx
    · rw [eC x hx e]; exact (hc x hx).mono hB
  · by_cases e : x = u
    · subst e
      by_cases f : y = c
      · subst f; exact hHuc hx hy
      · exact hHu hx y hy f
    · by_cases f : y = c
      · subst f; exact hHc hy x hx e
      · have h := hh x hx y hy
        unfold HH at h ⊢
        rw [eU x hx e, eC y hy f]
        exact h
theorem inv_mono {B B' nS nU nC : Nat} {σ : Sg} (hI : Inv B nS nU nC σ) (hB : B ≤ B') (hB2 : B' ≤ 100000000) : Inv B' nS nU nC σ := by
  obtain ⟨⟨n0, n1, n8, n40, n10, nB⟩, hr, hs, hu, hc, hh⟩ := hI
  exact ⟨⟨n0, n1, n8, n40, n10, hB2⟩, hr, fun i hi => ⟨(hs i hi).1.mono hB, (hs i hi).2⟩, hu, fun c h => (hc c h).mono hB, hh⟩
theorem inv_okR {B nS nU nC : Nat} {σ : Sg} (hI : Inv B nS nU nC σ) : OkR σ := by
  obtain ⟨⟨⟨n5, n6, n7⟩, n1, n8, n40, n10, nB⟩, -⟩ := hI
  unfold OkR
  rw [n5, n6, n7, tn_nI (by omega), tn_nI (by omega), tn_nI (by omega)]
  exact ⟨⟨rfl, n8⟩, ⟨rfl, n40⟩, rfl, n10⟩
theorem inv_tn {B nS nU nC : Nat} {σ : Sg} (hI : Inv B nS nU nC σ) : tn (σ 0 5) = nS ∧ tn (σ 0 6) = nU ∧ tn (σ 0 7) = nC := by
  obtain ⟨⟨⟨n5, n6, n7⟩, n1, n8, n40, n10, nB⟩, -⟩ := hI
  rw [n5, n6, n7, tn_nI (by omega), tn_nI (by omega), tn_nI (by omega)]
  exact ⟨rfl, rfl, rfl⟩
theorem fH_0 {σ : Sg} {i u : Nat} (h : ¬ (σ (13 + u) 0).toInt = 1) : fH σ i u = 0 := if_neg (fun q => h q.1)
theorem fH_nn (σ : Sg) (i u : Nat) : 0 ≤ fH σ i u ∧ fH σ i u ≤ 1 := by
  unfold fH
  by_cases q : (σ (13 + u) 0).toInt = 1 ∧ (σ (13 + u) 5).toInt = (i : Int)
  · rw [if_pos q]; omega
  · rw [if_neg q]; omega
/-- an umbrella changes that is in no hand, before and behind -/
theorem inv_um {B nS nU nC u : Nat} {σ σ' : Sg} (hI : Inv B nS nU nC σ) (hu : u < nU) (e : ∀ p, p ≠ 13 + u → p ≠ 0 → σ' p = σ p) (e5 : σ' 0 5 = σ 0 5) (e6 : σ' 0 6 = σ 0 6) (e7 : σ' 0 7 = σ 0 7)
    (k0 : ¬ (σ (13 + u) 0).toInt = 1) (k1 : ¬ (σ' (13 + u) 0).toInt = 1) (h : UI nS nC (σ' (13 + u))) : Inv B nS nU nC σ' := by
  have hI0 := hI
  obtain ⟨⟨n0, n1, n8, n40, n10, nB⟩, hr, hs, hU, hc, hh⟩ := hI
  refine inv_mod (u := u) (c := 99) hI0 (Nat.le_refl B) nB e5 e6 e7 (e 1 (by omega) (by omega)) (fun x hx hn => e _ (by omega) (by omega)) (fun x hx hn => e _ (by omega) (by omega)) (fun _ => h) (fun q => by omega) (fun _ x hx _ => ?_) (fun q => by omega) (fun _ q => by omega) (fun i hi => ?_)
  · have h1 := hh u hu x hx
    unfold HH at h1 ⊢
    rw [e (53 + x) (by omega) (by omega)]
    omega
  · rw [e (5 + i) (by omega) (by omega), if_pos hu, fH_0 k0, fH_0 k1]
    exact ⟨(hs i hi).1, by omega⟩
/-- a citizen changes, but not what is in the hand -/
theorem inv_ci {B B' nS nU nC c : Nat} {σ σ' : Sg} (hI : Inv B nS nU nC σ) (hB : B ≤ B') (hB2 : B' ≤ 100000000) (e : ∀ p, p ≠ 53 + c → σ' p = σ p) (e9 : σ' (53 + c) 9 = σ (53 + c) 9) (h : c < nC → CI nS nU B' (σ' (53 + c))) : Inv B' nS nU nC σ' := by
  have hI0 := hI
  obtain ⟨⟨n0, n1, n8, n40, n10, nB⟩, hr, hs, hU, hc, hh⟩ := hI
  have r0 := e 0 (by omega)
  refine inv_mod (u := 99) (c := c) hI0 hB hB2 (congrFun r0 5) (congrFun r0 6) (congrFun r0 7) (e 1 (by omega)) (fun x hx hn => e _ (by omega)) (fun x hx hn => e _ (by omega)) (fun q => by omega) h (fun q => by omega) (fun q x hx _ => ?_) (fun q => by omega) (fun i hi => ?_)
  · have h1 := hh x hx c q
    unfold HH at h1 ⊢
    rw [e (13 + x) (by omega), e9]
    exact h1
  · rw [e (5 + i) (by omega), if_neg (by omega)]
    exact ⟨(hs i hi).1.mono hB, by omega⟩
/-- a shelter changes, but not its counters of what was taken and forgotten -/
theorem inv_sh {B nS nU nC i : Nat} {σ σ' : Sg} (hI : Inv B nS nU nC σ) (hi9 : i < 8) (e : ∀ p, p ≠ 5 + i → σ' p = σ p) (e2 : σ' (5 + i) 2 = σ (5 + i) 2) (e3 : σ' (5 + i) 3 = σ (5 + i) 3) (h : i < nS → 0 ≤ (σ' (5 + i) 1).toInt ∧ (σ' (5 + i) 1).toInt ≤ 10) : Inv B nS nU nC σ' := by
  have hI0 := hI
  obtain ⟨⟨n0, n1, n8, n40, n10, nB⟩, hr, hs, hU, hc, hh⟩ := hI
  have r0 := e 0 (by omega)
  refine inv_mod (u := 99) (c := 99) hI0 (Nat.le_refl B) nB (congrFun r0 5) (congrFun r0 6) (congrFun r0 7) (e 1 (by omega)) (fun x hx hn => e _ (by omega)) (fun x hx hn => e _ (by omega)) (fun q => by omega) (fun q => by omega) (fun q => by omega) (fun q => by omega) (fun q => by omega) (fun j hj => ?_)
  rw [if_neg (by omega)]
  by_cases q : j = i
  · subst q
    have a := (hs j hj).1
    unfold SI at a ⊢
    have h1 := h hj
    rw [e2, e3]
    omega
  · rw [e (5 + j) (by omega)]
    exact ⟨(hs j hj).1, by omega⟩
