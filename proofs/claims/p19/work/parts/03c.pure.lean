/-! pure: rows that stay, indices that are tested -/
theorem up_um0 (σ : Sg) (i k : Nat) (v : Int32) : up σ (13 + i) k v 0 = σ 0 := up_row_ne σ k v (by omega)
theorem up_sh0 (σ : Sg) (i k : Nat) (v : Int32) : up σ (5 + i) k v 0 = σ 0 := up_row_ne σ k v (by omega)
theorem up_ci0 (σ : Sg) (i k : Nat) (v : Int32) : up σ (53 + i) k v 0 = σ 0 := up_row_ne σ k v (by omega)
theorem z_X3_standIn (σ : Sg) (i : Nat) (x : Int32) : (s_X3_standIn σ i x) 0 = σ 0 := by simp only [s_X3_standIn, ltt, up_um0]
theorem z_X3_beNewIn (σ : Sg) (i : Nat) (x : Int32) : (s_X3_beNewIn σ i x) 0 = σ 0 := by simp only [s_X3_beNewIn, ltt, up_um0, z_X3_standIn]
theorem z_X3_goWith (σ : Sg) (i : Nat) (x : Int32) : (s_X3_goWith σ i x) 0 = σ 0 := by simp only [s_X3_goWith, ltt, up_um0]
theorem z_X3_stayAway (σ : Sg) (i : Nat) (x y : Int32) : (s_X3_stayAway σ i x y) 0 = σ 0 := by simp only [s_X3_stayAway, ltt, up_um0]
theorem z_X3_waitAnHour (σ : Sg) (i : Nat) : (s_X3_waitAnHour σ i) 0 = σ 0 := by
  unfold s_X3_waitAnHour
  simp only [ltt]
  repeat' split
  all_goals simp only [up_um0, z_X3_standIn]
theorem z_X0_settle (σ : Sg) (i : Nat) (x y z : Int32) : (s_X0_settle σ i x y z) 0 = σ 0 := by simp only [s_X0_settle, ltt, up_ci0]
theorem z_X0_setOut (σ : Sg) (i : Nat) : (s_X0_setOut σ i) 0 = σ 0 := by
  unfold s_X0_setOut
  simp only [ltt]
  repeat' split
  all_goals simp only [up_ci0]
theorem z_X0_noteForgotten (σ : Sg) (i : Nat) : (s_X0_noteForgotten σ i) 0 = σ 0 := by simp only [s_X0_noteForgotten, ltt, up_ci0]
theorem z_X0_noteBroughtBack (σ : Sg) (i : Nat) : (s_X0_noteBroughtBack σ i) 0 = σ 0 := by simp only [s_X0_noteBroughtBack, ltt, up_ci0]
theorem z_X2_open (σ : Sg) (i : Nat) (x y : Int32) : (s_X2_open σ i x y) 0 = σ 0 := by simp only [s_X2_open, ltt, up_sh0]
theorem z_X2_noteRefusal (σ : Sg) (i : Nat) : (s_X2_noteRefusal σ i) 0 = σ 0 := by simp only [s_X2_noteRefusal, ltt, up_sh0]
theorem z_X2_noteForgotten (σ : Sg) (i : Nat) : (s_X2_noteForgotten σ i) 0 = σ 0 := by simp only [s_X2_noteForgotten, ltt, up_sh0]
theorem z_X2_endDay (σ : Sg) (i : Nat) : (s_X2_endDay σ i) 0 = σ 0 := by
  unfold s_X2_endDay
  simp only [ltt]
  repeat' split
  all_goals simp only [up_sh0]
theorem in_gen {x c : Int32} {N B : Nat} (hc : c = nI N) (hN : N ≤ B) (hB : B < 2 ^ 31) (h0 : ¬ x < 0) (h1 : ¬ c ≤ x) : vp_in x B := by
  rw [vp_in_iff]
  subst hc
  rw [Int32.lt_iff_toInt_lt] at h0
  rw [Int32.le_iff_toInt_le, nI_toInt (by omega)] at h1
  have z : (0 : Int32).toInt = 0 := by decide
  omega
theorem in_sh {σ : Sg} {x : Int32} (hI : OkR σ) (h : ¬ s_X1_isShelter σ x = 0) : vp_in x 8 := by
  unfold s_X1_isShelter at h
  by_cases h0 : x < 0
  · rw [if_pos h0] at h; exact absurd nI_0 h
  · rw [if_neg h0] at h
    by_cases h1 : σ 0 5 ≤ x
    · rw [if_pos h1] at h; exact absurd nI_0 h
    · exact in_gen hI.c5 hI.n5 (by decide) h0 h1
theorem in_um {σ : Sg} {x : Int32} (hI : OkR σ) (h : ¬ s_X1_isUmbrella σ x = 0) : vp_in x 40 := by
  unfold s_X1_isUmbrella at h
  by_cases h0 : x < 0
  · rw [if_pos h0] at h; exact absurd nI_0 h
  · rw [if_neg h0] at h
    by_cases h1 : σ 0 6 ≤ x
    · rw [if_pos h1] at h; exact absurd nI_0 h
    · exact in_gen hI.c6 hI.n6 (by decide) h0 h1
theorem in_ci {σ : Sg} {x : Int32} (hI : OkR σ) (h : ¬ s_X1_isCitizen σ x = 0) : vp_in x 10 := by
  unfold s_X1_isCitizen at h
  by_cases h0 : x < 0
  · rw [if_pos h0] at h; exact absurd nI_0 h
  · rw [if_neg h0] at h
    by_cases h1 : σ 0 7 ≤ x
    · rw [if_pos h1] at h; exact absurd nI_0 h
    · exact in_gen hI.c7 hI.n7 (by decide) h0 h1
theorem xor_nn {x y : Int32} (hy : 0 ≤ y.toInt) : (0 ≤ x ^^^ y) ↔ 0 ≤ x.toInt := by
  have key : (x ^^^ y).toBitVec.msb = x.toBitVec.msb := by
    rw [Int32.toBitVec_xor, BitVec.msb_xor, BitVec.msb_eq_toInt (x := y.toBitVec)]
    show (x.toBitVec.msb ^^ decide (y.toInt < 0)) = x.toBitVec.msb
    rw [decide_eq_false (by omega)]
    simp
  rw [BitVec.msb_eq_toInt, BitVec.msb_eq_toInt] at key
  rw [Int32.le_iff_toInt_le]
  have h1 : ((x ^^^ y).toInt < 0) ↔ (x.toInt < 0) := decide_eq_decide.mp key
  have z : (0 : Int32).toInt = 0 := by decide
  omega
theorem rem_24 (x : Int32) : (x - x / nI 24 * nI 24).toInt = x.toInt.tmod 24 := by
  have h24 : (nI 24).toInt = 24 := by decide
  have hd : (x / nI 24).toInt = x.toInt.tdiv 24 := by rw [Int32.toInt_div_of_ne_right _ _ (by decide), h24]
  have b1 := Int32.le_toInt x
  have b2 := Int32.toInt_lt x
  have e := Int.mul_tdiv_add_tmod x.toInt 24
  have t1 := Int.tmod_lt_of_pos x.toInt (b := 24) (by decide)
  have t2 := Int.lt_tmod_of_pos x.toInt (b := 24) (by decide)
  have t3 : (0 ≤ x.toInt ∧ 0 ≤ x.toInt.tmod 24) ∨ (x.toInt < 0 ∧ x.toInt.tmod 24 ≤ 0) := by
    by_cases h : 0 ≤ x.toInt
    · exact Or.inl ⟨h, Int.tmod_nonneg 24 h⟩
    · have t3 := Int.tmod_nonneg 24 (a := -x.toInt) (by omega)
      rw [Int.neg_tmod] at t3
      exact Or.inr ⟨by omega, by omega⟩
  have e1 : (x / nI 24 * nI 24).toInt = x.toInt - x.toInt.tmod 24 := by
    rw [Int32.toInt_mul, hd, h24, Int.bmod_eq_of_le_mul_two (by omega) (by omega)]
    omega
  rw [Int32.toInt_sub, e1, Int.bmod_eq_of_le_mul_two (by omega) (by omega)]
  omega
theorem fm_in (x : Int32) : vp_in (s_J9_floorMod_7cf53 x (nI 24)) 24 := by
  have h24 : (nI 24).toInt = 24 := by decide
  have hr := rem_24 x
  have t1 := Int.tmod_lt_of_pos x.toInt (b := 24) (by decide)
  have t2 := Int.lt_tmod_of_pos x.toInt (b := 24) (by decide)
  rw [vp_in_iff]
  unfold s_J9_floorMod_7cf53
  by_cases h : 0 ≤ x ^^^ nI 24
  · rw [if_pos h, hr]
    have h0 := (xor_nn (by rw [h24]; decide)).mp h
    have t3 := Int.tmod_nonneg 24 h0
    omega
  · rw [if_neg h]
    have h0 : ¬ 0 ≤ x.toInt := fun q => h ((xor_nn (by rw [h24]; decide)).mpr q)
    have t3 := Int.tmod_nonneg 24 (a := -x.toInt) (by omega)
    rw [Int.neg_tmod] at t3
    by_cases h2 : x - x / nI 24 * nI 24 = 0
    · rw [if_pos h2, h2]
      decide
    · rw [if_neg h2]
      have h3 : (x - x / nI 24 * nI 24).toInt ≠ 0 := fun q => h2 (Int32.toInt_inj.mp (by rw [q]; decide))
      rw [hr] at h3
      rw [Int32.toInt_add, hr, h24, Int.bmod_eq_of_le_mul_two (by omega) (by omega)]
      omega
