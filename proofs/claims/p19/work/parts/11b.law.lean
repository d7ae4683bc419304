/-! THE REPUBLIC THAT THE CELLS CHOOSE; THE LAW'S ROUNDS -/
set_option maxHeartbeats 4000000 in
set_option maxRecDepth 100000 in
theorem c_L_republic (l : Launch) (hl0 : l.stackTraces = false) (D : va_G) (cy : Nat → ClassId) (b L sz : Nat) (xs : Nat → Int32) (hL : L ≤ 260) : Met l yL_republic wsL_republic rm_L_republic (va_Pc [.ref b] (fun U => (U.heap.size = sz ∧ b < U.heap.size ∧ va_X b L xs U U.heap ∧ va_K D vwCl (Ty cy) U) ∧ gSt (va_A [] sz) U U.heap ∧ gTx U ∧ gCw U)) (va_Qr (fun u : (Nat → Nat) × (Nat → Nat) × (Sg × Sg) => ∃ nS nU nC, 2 ≤ nS ∧ 1 ≤ nC ∧ Inv 0 nS nU nC u.2.2.1) (fun u a t => va_P D vwCl (CW cy (fun _ => a) u.1 u.2.1 u.2.2) t.heap ∧ va_D (va_A [] sz) (CW cy (fun _ => a) u.1 u.2.1 u.2.2)) (va_A [] sz)) 300 2000 (va_A [] sz) := by
  refine Met.ofW (cc := cL_republic) (maxL := 8) (ret := some (.object "UmbrellaLand")) (by decide) rfl ?_
  intro p e s m args below meth c s₁ B hml hv
  obtain ⟨rfl, ⟨hsz, hbl, hX, hK⟩, hst, htx, hcw⟩ := hv
  have hx := B.exec
  have hb := B.bytes
  have hr := B.returns
  have hlocks := B.notSynchronized
  have hts := atoms_spec (ws := wsL_republic) B.pre
  have hown : s.vm.findClass RL = some m.cls := findClass_of_methodNamed B.named
  subst hsz
  have hA : ∀ q : Nat, s.heap.size ≤ q → va_A [] s.heap.size q := fun q h => Or.inr h
  have hbA : ¬ va_A [] s.heap.size b := fun h => by
    rcases va_A_mem.mp h with q | q
    · simp at q
    · omega
  have hS : va_S (va_A [] s.heap.size) s.heap s.heap [] := va_S.rf
  generalize va_A [] s.heap.size = A at hA hbA hS hst ⊢
  have hP : va_P D vwCl [] s.heap := fun k q h => by simp at h
  have hD : va_D A [] := ⟨fun i j p q h => by simp at h, fun k q h => by simp at h⟩
  have hin4 : ∀ w ∈ wsX40, w ∈ wsL_republic := by decide +kernel
  have hl := lv_entry ([.ref b]) (n := 8) (Nat.le_of_ble_eq_true rfl)
  rw [lg_entry_eq]
  generalize (lg_sl ([.ref b]) ++ List.replicate (8 - (lg_sl ([.ref b])).length) Slot.unset).toArray = ls at hl ⊢
  have hl : lv_has ls 8 [(0, .ref b)] := hl
  have C0 : LCC p l s m c ([Value.ref b] : List Value).toArray A D cy b L xs cL_republic 8 wsL_republic := ⟨hx, hb, hml, hown, hts, hK, ⟨hX, hbl, hbA, hL⟩, hA, hst, htx, hl0⟩
  refine va_new (ci := 4) (fs := [.null, .null]) (C := RX4) (T := TX4) (N := 2) hx hb hts hin4 tyX4 tyX4_ok hown (hts (.classLink RL 9 RX4) (by decide +kernel)) (hts (.instantiable RX4 2) (by decide +kernel)) (hts (.initialized RX4) (by decide +kernel)) hK hP hD hS hA rfl (fun j hj => by rcases (show j = 0 ∨ j = 1 by omega) with rfl | rfl <;> rfl) (Nat.le_of_ble_eq_true rfl) (Nat.le_of_ble_eq_true rfl) dL_republic_0 (fun a H hP hD hS => ?_)
  have hP : va_P D vwCl [(a, .inr (4, [.null, .null]))] H := hP
  have hD : va_D A [(a, .inr (4, [.null, .null]))] := hD
  refine lv_dup hx hb dL_republic_3 rfl ?_
  refine g_callC (cells2 := 127) (slots2 := 1076) hcw hx hb hml hown hts hK hP hD hS hA hl.1 [(a, .inr (4, [.null, .null]))] [] (List.Perm.refl _) [] (c_X4_init l D cy a) (cwI 0 hts gL_republic_X4_init rfl rfl rfl (hts (.initialized RX4) (by decide +kernel)) (hts (.methodLink RL 11 yX4_init) (by decide +kernel)) (hts (.instanceMethod yX4_init) (by decide +kernel)) rfl (by decide +kernel) ⟨Nat.le_of_ble_eq_true rfl, Nat.le_of_ble_eq_true rfl⟩) rfl rfl (Nat.le_of_ble_eq_true rfl) dL_republic_4 ⟨Nat.le_of_ble_eq_true rfl, Nat.le_of_ble_eq_true rfl⟩ rfl rfl (fun u4 _ H locs hP hD hS => ?_)
  refine lv_astore_n (lv' := [(1, .ref a), (0, .ref b)]) hx hb dL_republic_7 rfl hl (by decide) rfl (fun ls hl => ?_)
  refine lv_iconst (v := nI 0) hx hb dL_republic_8 (by decide) ?_
  refine lv_istore_n (lv' := [(2, .int (nI 0)), (1, .ref a), (0, .ref b)]) hx hb dL_republic_9 rfl hl (by decide) rfl (fun ls hl => ?_)
  refine rAll (ax := fun _ => a) (ad := u4.1) (ad2 := u4.2) C0 127 1076 ⟨Nat.le_of_ble_eq_true rfl, Nat.le_of_ble_eq_true rfl⟩ (fun N nU M σ H locs ls h2 h1 hI hP hD hS hl => ?_) (zz, zz) H locs ls inv_zz fr_zz hP hD hS hl
  refine lv_aload_n hx hb dL_republic_316 rfl (lv_at hl 0 rfl) ?_
  refine W.widen (k := 300) (n := 2000) (by omega) (by omega) ?_
  rw [List.append_nil] at hP hD
  exact W.aret hx hb hr (Or.inl ⟨_, rfl⟩) (Or.inr ⟨_, rfl⟩) (fun t ht hW => ⟨⟨(u4.1, u4.2, σ), a, rfl, ⟨N, nU, M, h2, h1, hI⟩, by rw [ht]; exact hP, hD⟩, hS.F ht⟩) hS.2.2 dL_republic_317 hlocks
