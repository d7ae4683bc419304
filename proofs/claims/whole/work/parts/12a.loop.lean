/-! THE LAW'S LOOP -/
theorem LI_mono : ∀ h h2 σ μ, h ≤ h2 → LI h σ μ → LI h2 σ μ := by
  rintro h h2 σ μ hh ⟨h0, nS, nU, nC, h1, hR⟩
  exact ⟨h0, nS, nU, nC, by omega, hR⟩
theorem law_loop {p : Program} {e : Env} {s : State} {m : MethodId} {below : List Frame} {meth : Method} {c : Code} {Q : State → Prop} (l : Launch) (D : va_G) (cy : Nat → ClassId) {b L : Nat} {xs : Nat → Int32} (C0 : LC p l s m c D cy b L xs) (ax ad ad2 : Nat → Nat) (ao : Nat) (am sd sd2 : Nat → Nat)
    (K : ∀ (k : Nat) (H : Heap) (locs : List Loc) (ls : Array Slot), 6 * k ≤ L → va_S (fun q : Nat => s.heap.size ≤ q) s.heap H locs → W p l e room_1 s m #[Value.ref b] below meth c H locs (164 + 420 * k) (2021 + 3100 * k) Q (F0 m 1140 ls [])) :
    ∀ (n k : Nat) (σ : Sg × Sg) (fo : Nat → Int64) (μ : MS) (H : Heap) (locs : List Loc) (ls : Array Slot), L < 6 * k + 6 * n → 6 * k ≤ L → LI (100 * k) σ μ → va_P D vwCl (TW cy ax ad ad2 ao am sd sd2 ((σ, fo), μ)) H → va_D (fun q : Nat => s.heap.size ≤ q) (TW cy ax ad ad2 ao am sd sd2 ((σ, fo), μ)) → va_S (fun q : Nat => s.heap.size ≤ q) s.heap H locs → lv_has ls 9 [(4, .int (nI (6 * k))), (0, .ref b), (1, .ref (ax 0)), (2, .ref (am 0)), (3, .ref ao)] → W p l e room_1 s m #[Value.ref b] below meth c H locs (164 + 420 * k) (2021 + 3100 * k) Q (F0 m 23 ls []) := by
  obtain ⟨hx, hb, hml, hown, hts, hX, hbl, hK, hst, htx, hnc, hnw, hl0, hL⟩ := id C0
  have hbA : ¬ (fun q : Nat => s.heap.size ≤ q) b := Nat.not_le.mpr hbl
  intro n
  induction n with
  | zero => intro k σ fo μ H locs ls h1 h2; omega
  | succ n ih =>
    intro k σ fo μ H locs ls h1 h2 hI hP hD hS hl
    refine lv_iload hx hb dL_law_23 (lv_at hl 0 rfl) ?_
    refine lv_aload_n hx hb dL_law_25 rfl (lv_at hl 1 rfl) ?_
    refine va_slen hx hb hX hbl hbA hS dL_law_26 ?_
    refine lv_bipush (v := nI 6) hx hb dL_law_27 (by decide) ?_
    refine lv_isub hx hb dL_law_29 ?_
    have e6 : (nI 6).toInt = 6 := by decide
    have eL := nI_toInt (n := L) (by omega)
    have ek := nI_toInt (n := 6 * k) (by omega)
    have ed : (nI L - nI 6).toInt = (L : Int) - 6 := by rw [Int32.toInt_sub, eL, e6, Int.bmod_eq_of_le_mul_two (by omega) (by omega)]
    refine lv_icmp_gt (tgt := 1140) hx hb dL_law_30 (by decide) (fun c1 => ?_) (fun c1 => ?_)
    · exact K k H locs ls h2 hS
    · have hk : 6 * k + 6 ≤ L := by
        have ed2 : (Int32.ofNat L - nI 6).toInt = (L : Int) - 6 := ed
        rw [Int32.lt_iff_toInt_lt, ed2, ek] at c1
        omega
      refine lv_aload_n hx hb dL_law_33 rfl (lv_at hl 1 rfl) ?_
      refine lv_iload hx hb dL_law_34 (lv_at hl 0 rfl) ?_
      refine va_sld hx hb hX hbl hbA hS (vp_in_nI (show 6 * k < L by omega) (by omega)) dL_law_36 ?_
      refine lv_bipush (v := nI 15) hx hb dL_law_37 (by decide) ?_
      refine lv_iand hx hb dL_law_39 ?_
      have next : ∀ (σ : Sg × Sg) (fo : Nat → Int64) (μ : MS) (H : Heap) (locs : List Loc) (ls : Array Slot), LI (100 * k + 100) σ μ → va_P D vwCl (TW cy ax ad ad2 ao am sd sd2 ((σ, fo), μ)) H → va_D (fun q : Nat => s.heap.size ≤ q) (TW cy ax ad ad2 ao am sd sd2 ((σ, fo), μ)) → va_S (fun q : Nat => s.heap.size ≤ q) s.heap H locs → lv_has ls 9 [(4, .int (nI (6 * k))), (0, .ref b), (1, .ref (ax 0)), (2, .ref (am 0)), (3, .ref ao)] → W p l e room_1 s m #[Value.ref b] below meth c H locs (164 + 420 * (k + 1)) (2021 + 3100 * (k + 1)) Q (F0 m 1134 ls []) := by
        intro σ fo μ H locs ls hI hP hD hS hl
        refine lv_iinc (v := nI (6 * (k + 1))) (k := 0) (lv' := [(4, .int (nI (6 * (k + 1)))), (0, .ref b), (1, .ref (ax 0)), (2, .ref (am 0)), (3, .ref ao)]) hx hb dL_law_1134 hl rfl ((show nI (6 * k) + Int32.ofInt 6 = nI (6 * k) + nI 6 from rfl).trans (nI_add (6 * k) 6)) (by decide) rfl (fun ls hl => ?_)
        refine lv_goto (tgt := 23) hx hb dL_law_1137 (by decide) ?_
        exact ih (k + 1) σ fo μ H locs ls (by omega) (by omega) (by rw [show 100 * (k + 1) = 100 * k + 100 by omega]; exact hI) hP hD hS hl
      have last : W p l e room_1 s m #[Value.ref b] below meth c H locs (164 + 420 * k) (2021 + 3100 * k) Q (F0 m 1134 ls []) := W.widen (by omega) (by omega) (next σ fo μ H locs ls (LI_mono _ _ _ _ (by omega) hI) hP hD hS hl)
      generalize hv : (xs (tn (nI (6 * k))) &&& nI 15) = v
      by_cases c2 : v = nI 0
      · subst c2
        refine lv_tableIn (off := 80) (tgt := 120) hx hb dL_law_40 (by decide) (by decide) rfl (by decide) ?_
        exact cs_build l D cy C0 IV LI LI_ok St_build_ ax ad ad2 ao am sd sd2 σ fo μ k hk hI H locs ls hP hD hS hl next
      by_cases c3 : v = nI 1
      · subst c3
        refine lv_tableIn (off := 148) (tgt := 188) hx hb dL_law_40 (by decide) (by decide) rfl (by decide) ?_
        exact cs_bring l D cy C0 IV LI LI_ok St_bring_ ax ad ad2 ao am sd sd2 σ fo μ k hk hI H locs ls hP hD hS hl next
      by_cases c4 : v = nI 2
      · subst c4
        refine lv_tableIn (off := 216) (tgt := 256) hx hb dL_law_40 (by decide) (by decide) rfl (by decide) ?_
        exact cs_addCitizen l D cy C0 IV LI LI_ok St_addCitizen_ ax ad ad2 ao am sd sd2 σ fo μ k hk hI H locs ls hP hD hS hl next
      by_cases c5 : v = nI 3
      · subst c5
        refine lv_tableIn (off := 320) (tgt := 360) hx hb dL_law_40 (by decide) (by decide) rfl (by decide) ?_
        exact cs_setRain l D cy C0 IV LI LI_ok St_setRain_ ax ad ad2 ao am sd sd2 σ fo μ k hk hI H locs ls hP hD hS hl next
      by_cases c6 : v = nI 4
      · subst c6
        refine lv_tableIn (off := 388) (tgt := 428) hx hb dL_law_40 (by decide) (by decide) rfl (by decide) ?_
        exact cs_setDemand l D cy C0 IV LI LI_ok St_setDemand_ ax ad ad2 ao am sd sd2 σ fo μ k hk hI H locs ls hP hD hS hl next
      by_cases c7 : v = nI 5
      · subst c7
        refine lv_tableIn (off := 456) (tgt := 496) hx hb dL_law_40 (by decide) (by decide) rfl (by decide) ?_
        exact cs_shelter l D cy C0 IV LI LI_ok St_shelter_ ax ad ad2 ao am sd sd2 σ fo μ k hk hI H locs ls hP hD hS hl next
      by_cases c8 : v = nI 6
      · subst c8
        refine lv_tableIn (off := 524) (tgt := 564) hx hb dL_law_40 (by decide) (by decide) rfl (by decide) ?_
        exact cs_umbrella l D cy C0 IV LI LI_ok St_umbrella_ ax ad ad2 ao am sd sd2 σ fo μ k hk hI H locs ls hP hD hS hl next
      by_cases c9 : v = nI 7
      · subst c9
        refine lv_tableIn (off := 592) (tgt := 632) hx hb dL_law_40 (by decide) (by decide) rfl (by decide) ?_
        exact cs_citizen l D cy C0 IV LI LI_ok St_citizen_ ax ad ad2 ao am sd sd2 σ fo μ k hk hI H locs ls hP hD hS hl next
      by_cases c10 : v = nI 8
      · subst c10
        refine lv_tableIn (off := 660) (tgt := 700) hx hb dL_law_40 (by decide) (by decide) rfl (by decide) ?_
        exact cs_count l D cy C0 IV LI LI_ok St_count_ ax ad ad2 ao am sd sd2 σ fo μ k hk hI H locs ls hP hD hS hl next
      by_cases c11 : v = nI 9
      · subst c11
        refine lv_tableIn (off := 716) (tgt := 756) hx hb dL_law_40 (by decide) (by decide) rfl (by decide) ?_
        exact cs_pass l D cy C0 IV LI LI_ok St_pass_ ax ad ad2 ao am sd sd2 σ fo μ k hk hI H locs ls hP hD hS hl next
      by_cases c12 : v = nI 10
      · subst c12
        refine lv_tableIn (off := 772) (tgt := 812) hx hb dL_law_40 (by decide) (by decide) rfl (by decide) ?_
        exact cs_foresee l D cy C0 IV LI LI_ok St_foresee_ ax ad ad2 ao am sd sd2 σ fo μ k hk hI H locs ls hP hD hS hl next
      by_cases c13 : v = nI 11
      · subst c13
        refine lv_tableIn (off := 840) (tgt := 880) hx hb dL_law_40 (by decide) (by decide) rfl (by decide) ?_
        exact cs_advise l D cy C0 IV LI LI_ok St_advise_ ax ad ad2 ao am sd sd2 σ fo μ k hk hI H locs ls hP hD hS hl next
      by_cases c14 : v = nI 12
      · subst c14
        refine lv_tableIn (off := 896) (tgt := 936) hx hb dL_law_40 (by decide) (by decide) rfl (by decide) ?_
        exact cs_wouldGet l D cy C0 IV LI LI_ok St_wouldGet_ ax ad ad2 ao am sd sd2 σ fo μ k hk hI H locs ls hP hD hS hl next
      by_cases c15 : v = nI 13
      · subst c15
        refine lv_tableIn (off := 971) (tgt := 1011) hx hb dL_law_40 (by decide) (by decide) rfl (by decide) ?_
        exact cs_lasts l D cy C0 IV LI LI_ok St_lasts_ ax ad ad2 ao am sd sd2 σ fo μ k hk hI H locs ls hP hD hS hl next
      by_cases c16 : v = nI 14
      · subst c16
        refine lv_tableIn (off := 1039) (tgt := 1079) hx hb dL_law_40 (by decide) (by decide) rfl (by decide) ?_
        exact cs_trust l D cy C0 IV LI LI_ok St_trust_ LI_mono ax ad ad2 ao am sd sd2 σ fo μ k hk hI H locs ls hP hD hS hl next
      by_cases c17 : v = nI 15
      · subst c17
        refine lv_tableIn (off := 1080) (tgt := 1120) hx hb dL_law_40 (by decide) (by decide) rfl (by decide) ?_
        exact cs_digest l D cy C0 IV LI LI_ok St_digest_ LI_mono ax ad ad2 ao am sd sd2 σ fo μ k hk hI H locs ls hP hD hS hl next
      refine lv_tableOut (tgt := 1134) hx hb dL_law_40 (ts_out 16 (by decide) v (fun j hj => ?_)) (by decide) last
      have hx2 : j = 0 ∨ j = 1 ∨ j = 2 ∨ j = 3 ∨ j = 4 ∨ j = 5 ∨ j = 6 ∨ j = 7 ∨ j = 8 ∨ j = 9 ∨ j = 10 ∨ j = 11 ∨ j = 12 ∨ j = 13 ∨ j = 14 ∨ j = 15 := by omega
      rcases hx2 with rfl | rfl | rfl | rfl | rfl | rfl | rfl | rfl | rfl | rfl | rfl | rfl | rfl | rfl | rfl | rfl <;> assumption
