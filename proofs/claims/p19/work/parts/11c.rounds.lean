set_option maxHeartbeats 4000000 in
set_option maxRecDepth 100000 in
theorem rnd {p : Program} {l : Launch} {e : Env} {s : State} {m : MethodId} {args : Array Value} {below : List Frame} {meth : Method} {c : Code} {Q : State → Prop} {A : Nat → Prop} {D : va_G} {cy : Nat → ClassId} {b L : Nat} {xs : Nat → Int32} {ax ad ad2 : Nat → Nat} (C0 : LCC p l s m c args A D cy b L xs cL_law 18 wsL_law) {B nS nU nC t : Nat} {σ : Sg × Sg} (ht : t < 60) (h1 : 1 ≤ nS) (h1C : 1 ≤ nC) (hB : B + 300 ≤ 100000000) (hI : Inv B nS nU nC σ.1) (cells slots : Nat) (hr : cells + 1100 ≤ room_1.cells ∧ slots + 7000 ≤ room_1.slots)
    (K : ∀ (τ : Sg × Sg) (nU2 : Nat) (H : Heap) (locs : List Loc) (ls : Array Slot), Inv (B + 300) nS nU2 nC τ.1 → va_P D vwCl (CW cy ax ad ad2 τ ++ ([] : va_W)) H → va_D A (CW cy ax ad ad2 τ ++ ([] : va_W)) → va_S A s.heap H locs → lv_has ls 18 [(0, .ref (b)), (1, .ref (ax 0)), (2, .int (nI nS)), (3, .int (nI (t + 1)))] → W p l e room_1 s m args below meth c H locs (cells + 1100) (slots + 7000) Q (F0 m 13 ls [])) :
    ∀ (H : Heap) (locs : List Loc) (ls : Array Slot), va_P D vwCl (CW cy ax ad ad2 σ ++ ([] : va_W)) H → va_D A (CW cy ax ad ad2 σ ++ ([] : va_W)) → va_S A s.heap H locs → lv_has ls 18 [(0, .ref (b)), (1, .ref (ax 0)), (2, .int (nI nS)), (3, .int (nI t))] → W p l e room_1 s m args below meth c H locs (cells) (slots) Q (F0 m 13 ls []) := by
  intro H locs ls hP hD hS hl
  have C9 := C0
  obtain ⟨hx, hb, hml, hown, hts, hK, hXX, hA, hst, htx, hl0⟩ := C9
  refine lv_iload_n hx hb dL_law_13 rfl (lv_at hl 3 rfl) ?_
  refine lv_bipush (v := nI 60) hx hb dL_law_14 (by decide) ?_
  refine lv_icmp_ge (tgt := 835) hx hb dL_law_16 (by decide) (fun c103 => False.elim (absurd ((nI_leI (by decide) (by omega)).mp c103) (by omega))) (fun c103 => ?_)
  refine bA1 C0 ht h1 hI cells slots ⟨by omega, by omega⟩ (fun x σ nU H locs ls hI hP hD hS hl => ?_) H locs ls hP hD hS hl
  refine bA2 C0 hI (cells + 3) (slots + 18) ⟨by omega, by omega⟩ (fun x σ nU H locs ls hI hP hD hS hl => ?_) H locs ls hP hD hS hl
  refine bA3 C0 h1 hI (cells + 5) (slots + 30) ⟨by omega, by omega⟩ (fun x σ nU H locs ls hI hP hD hS hl => ?_) H locs ls hP hD hS hl
  refine bB1 C0 ht hI (cells + 7) (slots + 42) ⟨by omega, by omega⟩ (fun hh hh9 z H locs ls hP hD hS hl => ?_) H locs ls hP hD hS hl
  refine bB2 C0 hI (cells + 14) (slots + 84) ⟨by omega, by omega⟩ (fun z H locs ls hP hD hS hl => ?_) H locs ls hP hD hS hl
  refine bB3 C0 hh9 hB hI (cells + 17) (slots + 102) ⟨by omega, by omega⟩ (fun σ H locs ls hI hP hD hS hl => ?_) H locs ls hP hD hS hl
  refine bC0 (nS := nS) C0 (cells + 22) (slots + 132) ⟨by omega, by omega⟩ (fun qa qb qc H locs ls hP hD hS hl => ?_) H locs ls hP hD hS hl
  refine bC C0 hI (cells + 25) (slots + 154) ⟨by omega, by omega⟩ (fun f g h H locs ls hAC hP hD hS hl => ?_) nU 0 _ _ _ H locs ls (by omega) (ac_0 _) hP hD hS hl
  refine lv_iconst (v := nI 0) hx hb dL_law_493 (by decide) ?_
  refine lv_istore (lv' := [(15, .int (nI 0)), (14, .ref (qc)), (13, .ref (qb)), (12, .ref (qa)), (0, .ref (b)), (1, .ref (ax 0)), (2, .int (nI nS)), (3, .int (nI t))]) hx hb dL_law_494 hl (by decide) rfl (fun ls hl => ?_)
  refine lv_iconst (v := nI 0) hx hb dL_law_496 (by decide) ?_
  refine lv_istore (lv' := [(16, .int (nI 0)), (15, .int (nI 0)), (14, .ref (qc)), (13, .ref (qb)), (12, .ref (qa)), (0, .ref (b)), (1, .ref (ax 0)), (2, .int (nI nS)), (3, .int (nI t))]) hx hb dL_law_497 hl (by decide) rfl (fun ls hl => ?_)
  refine bD C0 hI hAC (cells + 725) (slots + 4354) ⟨by omega, by omega⟩ (fun ts H locs ls hts9 hP hD hS hl => ?_) nC 0 (nI 0) H locs ls (by omega) k_0 hP hD hS (lv_sub hl [0, 1, 2, 3, 4, 5, 6, 7, 8] rfl)
  refine lv_iconst (v := nI 0) hx hb dL_law_624 (by decide) ?_
  refine lv_istore (lv' := [(16, .int (nI 0)), (15, .int (ts)), (14, .ref (qc)), (13, .ref (qb)), (12, .ref (qa)), (0, .ref (b)), (1, .ref (ax 0)), (2, .int (nI nS)), (3, .int (nI t))]) hx hb dL_law_625 hl (by decide) rfl (fun ls hl => ?_)
  refine lv_iconst (v := nI 0) hx hb dL_law_627 (by decide) ?_
  refine lv_istore (lv' := [(17, .int (nI 0)), (16, .int (nI 0)), (15, .int (ts)), (14, .ref (qc)), (13, .ref (qb)), (12, .ref (qa)), (0, .ref (b)), (1, .ref (ax 0)), (2, .int (nI nS)), (3, .int (nI t))]) hx hb dL_law_628 hl (by decide) rfl (fun ls hl => ?_)
  refine bE C0 hI hAC (cells + 925) (slots + 5554) ⟨by omega, by omega⟩ (fun hr9 H locs ls hrr hP hD hS hl => ?_) nS 0 (nI 0) H locs ls (by omega) k_0 hP hD hS (lv_sub hl [0, 1, 2, 3, 4, 5, 6, 7, 8, 9] rfl)
  refine bF C0 hI hAC h1C ht hts9 hrr (cells + 1075) (slots + 6454) ⟨by omega, by omega⟩ (fun H locs ls hP hD hS hl => ?_) H locs ls hP hD hS hl
  refine W.widen (k := cells + 1100) (n := slots + 7000) (by omega) (by omega) ?_
  exact K σ nU H locs ls hI hP hD hS hl
set_option maxHeartbeats 4000000 in
set_option maxRecDepth 100000 in
theorem rnds {p : Program} {l : Launch} {e : Env} {s : State} {m : MethodId} {args : Array Value} {below : List Frame} {meth : Method} {c : Code} {Q : State → Prop} {A : Nat → Prop} {D : va_G} {cy : Nat → ClassId} {b L : Nat} {xs : Nat → Int32} {ax ad ad2 : Nat → Nat} (C0 : LCC p l s m c args A D cy b L xs cL_law 18 wsL_law) {nS nC : Nat} (h1 : 1 ≤ nS) (h1C : 1 ≤ nC) (cells slots : Nat) (hr : cells + 66000 ≤ room_1.cells ∧ slots + 420000 ≤ room_1.slots)
    (K : ∀ (H : Heap) (locs : List Loc) (ls : Array Slot), va_S A s.heap H locs → W p l e room_1 s m args below meth c H locs (cells + 66000) (slots + 420000) Q (F0 m 835 ls [])) :
    ∀ (n t nU : Nat) (σ : Sg × Sg) (H : Heap) (locs : List Loc) (ls : Array Slot), t + n = 60 → Inv (300 * t) nS nU nC σ.1 → va_P D vwCl (CW cy ax ad ad2 σ ++ ([] : va_W)) H → va_D A (CW cy ax ad ad2 σ ++ ([] : va_W)) → va_S A s.heap H locs → lv_has ls 18 [(0, .ref (b)), (1, .ref (ax 0)), (2, .int (nI nS)), (3, .int (nI t))] → W p l e room_1 s m args below meth c H locs (cells + 1100 * t) (slots + 7000 * t) Q (F0 m 13 ls []) := by
  have C9 := C0
  obtain ⟨hx, hb, hml, hown, hts, hK, hXX, hA, hst, htx, hl0⟩ := C9
  intro n
  induction n with
  | zero =>
    intro t nU σ H locs ls ht hI hP hD hS hl
    refine lv_iload_n hx hb dL_law_13 rfl (lv_at hl 3 rfl) ?_
    refine lv_bipush (v := nI 60) hx hb dL_law_14 (by decide) ?_
    refine lv_icmp_ge (tgt := 835) hx hb dL_law_16 (by decide) (fun c104 => ?_) (fun c104 => False.elim (c104 ((nI_leI (by decide) (by omega)).mpr (by omega))))
    refine W.widen (k := cells + 66000) (n := slots + 420000) (by omega) (by omega) ?_
    exact K H locs ls hS
  | succ n ih =>
    intro t nU σ H locs ls ht hI hP hD hS hl
    refine rnd C0 (by omega) h1 h1C (by omega) hI (cells + 1100 * t) (slots + 7000 * t) ⟨by omega, by omega⟩ (fun τ nU2 H locs ls hI hP hD hS hl => ?_) H locs ls hP hD hS hl
    refine W.widen (k := cells + 1100 * (t + 1)) (n := slots + 7000 * (t + 1)) (by omega) (by omega) ?_
    exact ih (t + 1) nU2 τ H locs ls (by omega) (by rw [show 300 * (t + 1) = 300 * t + 300 by omega]; exact hI) hP hD hS hl
