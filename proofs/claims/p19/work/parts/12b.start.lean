/-! WHAT THE TABLES AND THE START SAY -/
theorem ar_int {s : State} {args : Array Value} (h : (Cond.arrayClass .int).before args s = true) : ∃ c : ClassId, ArrOfT s c .int ∧ va_RA s c .int := by
  obtain ⟨c, k, comp, h1, h2, h3⟩ := Cond.arrayClass_spec h
  exact ⟨c, fun n z => ⟨fun k h => (by cases h), k, h2, comp, h3⟩, h1⟩
theorem ar_obj {s : State} {args : Array Value} {C : String} (h : (Cond.arrayOver (.object C)).before args s = true) : ∃ c : ClassId, ArrOfT s c (.object C) ∧ va_RA s c (.object C) := by
  obtain ⟨comp, c, k, h1, h2, h3, h4, h5⟩ := Cond.arrayOver_spec h
  exact ⟨c, fun n z => ⟨fun k h => (by cases h), k, h3, comp, h4⟩, k, comp, h3, h4, h1, h5⟩
theorem st_K {s : State} {args : Array Value} (hts : ∀ w ∈ lw_tbl, w.before args s = true) : ∃ (D : va_G) (cy : Nat → ClassId), va_K D vwCl (Ty cy) s := by
  obtain ⟨c0, i0, h0⟩ := u_known (C := RX0) (T := TX0) (N := 15) (n := 15) hts (by decide +kernel) (hts (.instantiable RX0 15) (by decide +kernel))
  obtain ⟨c1, i1, h1⟩ := u_known (C := RX1) (T := TX1) (N := 9) (n := 9) hts (by decide +kernel) (hts (.instantiable RX1 9) (by decide +kernel))
  obtain ⟨c2, i2, h2⟩ := u_known (C := RX2) (T := TX2) (N := 7) (n := 7) hts (by decide +kernel) (hts (.instantiable RX2 7) (by decide +kernel))
  obtain ⟨c3, i3, h3⟩ := u_known (C := RX3) (T := TX3) (N := 6) (n := 6) hts (by decide +kernel) (hts (.instantiable RX3 6) (by decide +kernel))
  obtain ⟨c4, i4, h4⟩ := u_known (C := RX4) (T := TX4) (N := 2) (n := 2) hts (by decide +kernel) (hts (.instantiable RX4 2) (by decide +kernel))
  obtain ⟨a0, b0, d0⟩ := ar_int (hts (.arrayClass .int) (by decide +kernel))
  obtain ⟨a1, b1, d1⟩ := ar_obj (hts (.arrayOver (.object "UmbrellaLand$Shelter")) (by decide +kernel))
  obtain ⟨a2, b2, d2⟩ := ar_obj (hts (.arrayOver (.object "UmbrellaLand$Umbrella")) (by decide +kernel))
  obtain ⟨a3, b3, d3⟩ := ar_obj (hts (.arrayOver (.object "UmbrellaLand$Citizen")) (by decide +kernel))
  refine ⟨(fun k => if k = 0 then c0 else if k = 1 then c1 else if k = 2 then c2 else if k = 3 then c3 else c4, fun k => if k = 0 then i0 else if k = 1 then i1 else if k = 2 then i2 else if k = 3 then i3 else i4), fun k => if k = 0 then a0 else if k = 1 then a1 else if k = 2 then a2 else a3, ?_, ?_⟩
  · intro k q hq
    match k, hq with
    | 0, hq => cases hq; exact h0
    | 1, hq => cases hq; exact h1
    | 2, hq => cases hq; exact h2
    | 3, hq => cases hq; exact h3
    | 4, hq => cases hq; exact h4
    | k + 5, hq => simp [vwCl] at hq
  · intro k q hq
    match k, hq with
    | 0, hq => cases hq; exact ⟨b0, d0⟩
    | 1, hq => cases hq; exact ⟨b1, d1⟩
    | 2, hq => cases hq; exact ⟨b2, d2⟩
    | 3, hq => cases hq; exact ⟨b3, d3⟩
    | k + 4, hq => simp [Ty] at hq
theorem st_Tx {D : va_G} {cy : Nat → ClassId} {s : State} {args : Array Value} (hts : ∀ w ∈ lw_tbl, w.before args s = true) (hK : va_K D vwCl (Ty cy) s) : gTx s := by
  have hown : s.vm.findClass RX4 = some (D.1 4) := (hK.1 4 (RX4, TX4, 2) rfl).2.1
  have hin : ∀ q ∈ txs, Cond.stringRef RX4 q.1 q.2 ∈ lw_tbl := by decide +kernel
  have hin2 : ∀ E ∈ exs, Cond.castable E E ∈ lw_tbl := by decide +kernel
  have hin3 : ∀ E ∈ dcs, Cond.declares (Bundle.initS E) ∈ lw_tbl := by decide +kernel
  refine ⟨fun q hq => ?_, fun E hE => va_Nw.of rfl (hts _ (hin2 E hE)), fun E hE => va_Nw.of rfl (hts _ (hin3 E hE))⟩
  have h1 : (Cond.stringRef RX4 q.1 q.2).before args s = true := hts _ (hin q hq)
  obtain ⟨k, cf, i, a, -, -, -, -, -, hev⟩ := Cond.stringRef_spec hown h1
  exact ⟨a, vk_R.of h1 hev⟩
theorem st_Cw {s : State} {args : Array Value} (hts : ∀ w ∈ lw_tbl, w.before args s = true) : gCw s :=
  ⟨⟨va_AO.of (hts _ (by decide +kernel)), va_AO.of (hts _ (by decide +kernel)), va_AO.of (hts _ (by decide +kernel))⟩, ⟨va_Nw.of rfl (hts _ (by decide +kernel)), va_Nw.of rfl (hts _ (by decide +kernel)), va_Nw.of rfl (hts _ (by decide +kernel))⟩⟩
theorem st_St {s : State} {args : Array Value} (hts : ∀ w ∈ lw_tbl, w.before args s = true) (hgv : (Jvm.Cond.and given_1 narrow_1).before args s = true) : gSt (fun q : Nat => s.heap.size ≤ q) s s.heap := by
  have hs := flat_of_before _ hgv
  have hi : (Cond.initialized "java/lang/Throwable").before args s = true := hts _ (by decide +kernel)
  exact ⟨vx_Zqof (hts (.laysStatic "java/lang/Throwable" "UNASSIGNED_STACK" "[Ljava/lang/StackTraceElement;") (by decide +kernel)) hi (hs _ (by decide +kernel)) (fun a h q => absurd h (Nat.not_lt.mpr q)), vx_Zqof (hts (.laysStatic "java/lang/Throwable" "SUPPRESSED_SENTINEL" "Ljava/util/List;") (by decide +kernel)) hi (hs _ (by decide +kernel)) (fun a h q => absurd h (Nat.not_lt.mpr q))⟩
theorem st_l {l : Launch} (h : l.flags = flags0) : l.stackTraces = false := by
  unfold Launch.stackTraces
  rw [h]
  decide +kernel
