/-! a new array of ints beside the model; what must hold for hours to go by -/
abbrev MTW (cy : Nat → ClassId) (ax ad ad2 : Nat → Nat) (qA n : Nat) (u : (Sg × Sg × Sg) × (Nat → Int32)) : va_W := MW cy ax ad ad2 u.1 ++ [(qA, .inl (cy 0, n, .inl u.2))]
theorem MW_len (cy : Nat → ClassId) (ax ad ad2 : Nat → Nat) (u : Sg × Sg × Sg) : (MW cy ax ad ad2 u).length = 36 := by
  simp only [MW, List.length_append, WD_len]
theorem MT_get {cy : Nat → ClassId} {ax ad ad2 : Nat → Nat} {qA n : Nat} {u : (Sg × Sg × Sg) × (Nat → Int32)} : (MTW cy ax ad ad2 qA n u)[36]? = some (qA, .inl (cy 0, n, .inl u.2)) :=
  gx_r (p := 0) (MW_len cy ax ad ad2 u.1) rfl
theorem MT_set {cy : Nat → ClassId} {ax ad ad2 : Nat → Nat} {qA n : Nat} {u : Sg × Sg × Sg} {f g : Nat → Int32} : (MTW cy ax ad ad2 qA n (u, f)).set 36 (qA, .inl (cy 0, n, .inl g)) = MTW cy ax ad ad2 qA n (u, g) :=
  gx_setr (p := 0) (MW_len cy ax ad ad2 u) rfl
theorem pm_nT {X N B T : va_W} : ((X ++ (N ++ B)) ++ T).Perm (N ++ ((X ++ B) ++ T)) := by
  rw [← List.append_assoc N]
  exact List.Perm.append_right T pm_n
section GNW
variable {p : Program} {l : Launch} {e : Env} {R : Room} {s : State} {m : MethodId} {args : Array Value} {below : List Frame} {meth : Method} {c : Code} {H : Heap} {locs : List Loc} {cells slots : Nat} {Q : State → Prop}
variable {pc : Nat} {ls : Array Slot} {rest : List Value} {A : Nat → Prop} {H0 : Heap} {cc : ByteArray} {D : va_G}
theorem g_newi {cy : Nat → ClassId} {ws : va_W} {n : Nat} (hx : p.tables.exec = Jvm.exec) (hb : c.code = cc) (harr : (Cond.arrayClass .int).before args s = true) (hK : va_K D vwCl (Ty cy) s) (hP : va_P D vwCl ws H) (hD : va_D A ws) (hS : va_S A H0 H locs) (hA : ∀ q, H0.size ≤ q → A q)
    (hn : n < 1000) (hcells : cells + 1 ≤ R.cells) (hslots : slots + n ≤ R.slots) (hdg : decode cc pc = .ok (.newarray .int, 2))
    (kk : ∀ (q : Nat) (H1 : Heap), va_P D vwCl (ws ++ [(q, .inl (cy 0, n, .inl (fun _ => (0 : Int32))))]) H1 → va_D A (ws ++ [(q, .inl (cy 0, n, .inl (fun _ => (0 : Int32))))]) → va_S A H0 H1 locs →
      W p l e R s m args below meth c H1 locs (cells + 1) (slots + n) Q (F0 m (pc + 2) ls (.ref q :: rest))) : W p l e R s m args below meth c H locs cells slots Q (F0 m pc ls (.int (nI n) :: rest)) := by
  refine va_newa (atype := .int) (ty := .int) (N' := n) (a0 := (n, .inl (fun _ => (0 : Int32)))) hx hb harr rfl hK hP hD hS hA (fun cA => rfl) (nI_pos (by omega)) (nI_clamp (by omega)) ?_ hcells hslots hdg (fun q cA H1 hK1 hP1 hD1 hS1 => ?_)
  · show n * 4 ≤ 536870912
    omega
  · have h0 : va_RA s (cy 0) .int := (hK.2 0 (cy 0, .int) rfl).2
    have h1 : va_RA s cA .int := (hK1.2 (Ty cy).length (cA, .int) (by rw [List.getElem?_append_right (Nat.le_refl _)]; simp)).2
    have hc : cA = cy 0 := Option.some.inj (h1.symm.trans h0)
    subst hc
    exact kk q H1 hP1 hD1 hS1
end GNW
def QInv (IV : Nat → Sg × Sg → Prop) : Prop :=
  (∀ h, PInv (IV h)) ∧
  (∀ h τ, IV h τ → τ.1 0 0 = nI h) ∧
  (∀ h τ, IV h τ → h < 100000 → IV (h + 1) (s_X5_pass τ).2) ∧
  (∀ h a b ρ, IV h (a, ρ) → IV h ((s_X5_become (a, b)).2, ρ)) ∧
  (∀ h μ ρ x, IV h (μ, ρ) → tn (μ 0 5) < 40 → vp_in x (tn (μ 0 1)) → IV h (s_X5_bring μ x, ρ)) ∧
  (∀ h μ ρ v, IV h (μ, ρ) → IV h (μ, up ρ 0 0 v))
theorem z1_X5_become (σ : Sg × Sg) : (s_X5_become σ).1 = σ.1 := by
  unfold s_X5_become
  simp only [ltt, s_X5_copy]
theorem z_X5_become (σ : Sg × Sg) : (s_X5_become σ).1 0 = σ.1 0 := by rw [z1_X5_become]
theorem bring_5 (μ : Sg) (x : Int32) (h : OkN μ) (hb : tn (μ 0 5) < 40) : OkN (s_X5_bring μ x) ∧ tn (s_X5_bring μ x 0 5) = tn (μ 0 5) + 1 := by
  have e0 : ∀ k, k ≠ 5 → s_X5_bring μ x 0 k = μ 0 k := by
    intro k hk
    unfold s_X5_bring
    simp only [ltt, up]
    simp [hk]
  have e5 : s_X5_bring μ x 0 5 = nI (tn (μ 0 5) + 1) := by
    unfold s_X5_bring
    simp only [ltt, up]
    simp
  refine ⟨⟨?_, ?_, ?_⟩, ?_⟩
  · rw [e0 1 (by decide)]; exact h.1
  · rw [e5, tn_nI (by omega)]; exact ⟨rfl, by omega⟩
  · rw [e0 12 (by decide)]; exact h.2.2
  · rw [e5, tn_nI (by omega)]
