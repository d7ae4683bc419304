/-! THE LAW'S THREE ARRAYS: hands, where, kinds -/
theorem CW_len (cy : Nat → ClassId) (ax ad ad2 : Nat → Nat) (u : Sg × Sg) : (CW cy ax ad ad2 u).length = 127 := by
  simp only [CW, xoC, List.length_append, WD_len, List.length_cons, List.length_nil]
abbrev AW (cy : Nat → ClassId) (qa qb qc : Nat) (f g h : Nat → Int32) : va_W := [(qa, .inl (cy 0, 10, .inl f)), (qb, .inl (cy 0, 8, .inl g)), (qc, .inl (cy 0, 4, .inl h))]
theorem vP_app {D : va_G} {cl : List vw_C} {w a b : va_W} {H : Heap} (h : va_P D cl (w ++ a ++ b) H) : va_P D cl (w ++ (a ++ b)) H := by
  rw [← List.append_assoc]; exact h
theorem vD_app {A : Nat → Prop} {w a b : va_W} (h : va_D A (w ++ a ++ b)) : va_D A (w ++ (a ++ b)) := by
  rw [← List.append_assoc]; exact h
section LR2
variable {p : Program} {l : Launch} {e : Env} {R : Room} {s : State} {m : MethodId} {args : Array Value} {below : List Frame} {meth : Method} {c : Code} {H : Heap} {locs : List Loc} {cells slots : Nat} {Q : State → Prop}
variable {pc : Nat} {ls : Array Slot} {rest : List Value} {A : Nat → Prop} {cc : ByteArray} {D : va_G} {cy : Nat → ClassId} {b L nL : Nat} {xs : Nat → Int32} {Ts : List Cond} {ax ad ad2 : Nat → Nat} {X X' : va_W}
theorem lr_iald (C : LCC p l s m c args A D cy b L xs cc nL Ts) {σ : Sg × Sg} (hP : va_P D vwCl (CW cy ax ad ad2 σ ++ X) H) (q : Nat) {a n : Nat} {f : Nat → Int32} (hq : X[q]? = some (a, .inl (cy 0, n, .inl f))) {i : Int32} (j : Nat) (hj : tn i = j) (hin : vp_in i n) (hdg : decode cc pc = .ok (.iaload, 1))
    (kk : W p l e R s m args below meth c H locs cells slots Q (F0 m (pc + 1) ls (.int (f j) :: rest))) : W p l e R s m args below meth c H locs cells slots Q (F0 m pc ls (.int i :: .ref a :: rest)) := by
  obtain ⟨hx, hb, hml, hown, hts, hK, hX, hA, hst, htx, hl0⟩ := C
  exact g_iald hx hb hK hP (127 + q) 0 j (gx_r (CW_len cy ax ad ad2 σ) hq) rfl hj hin hdg kk
theorem lr_iast (C : LCC p l s m c args A D cy b L xs cc nL Ts) {σ : Sg × Sg} (hP : va_P D vwCl (CW cy ax ad ad2 σ ++ X) H) (hD : va_D A (CW cy ax ad ad2 σ ++ X)) (hS : va_S A s.heap H locs) (q : Nat) {a n : Nat} {f : Nat → Int32} (hq : X[q]? = some (a, .inl (cy 0, n, .inl f))) {i v : Int32} (j : Nat) (hj : tn i = j) (hin : vp_in i n) (hset : X.set q (a, .inl (cy 0, n, .inl (upd f j v))) = X') (hdg : decode cc pc = .ok (.iastore, 1))
    (kk : ∀ (H1 : Heap) (locs1 : List Loc), va_P D vwCl (CW cy ax ad ad2 σ ++ X') H1 → va_D A (CW cy ax ad ad2 σ ++ X') → va_S A s.heap H1 locs1 → W p l e R s m args below meth c H1 locs1 cells slots Q (F0 m (pc + 1) ls rest)) : W p l e R s m args below meth c H locs cells slots Q (F0 m pc ls (.int v :: .int i :: .ref a :: rest)) := by
  obtain ⟨hx, hb, hml, hown, hts, hK, hX, hA, hst, htx, hl0⟩ := C
  exact g_iast (wf := fun u : va_W => CW cy ax ad ad2 σ ++ u) (σ := X) (σ1 := X') hx hb hK hP hD hS (127 + q) 0 j (gx_r (CW_len cy ax ad ad2 σ) hq) rfl hj hin (gx_setr (CW_len cy ax ad ad2 σ) hset) hdg (fun u eu H1 locs1 hP hD hS => by subst eu; exact kk H1 locs1 hP hD hS)
end LR2
def AC (a : Sg) (u : Nat) (f g h : Nat → Int32) : Prop := (∀ j, j < 10 → (f j).toInt = cn (dI a j) u) ∧ (∀ j, j < 8 → (g j).toInt = cn (wI a j) u) ∧ ∀ j, j < 4 → (h j).toInt = cn (kI a j) u
theorem upd_at (f : Nat → Int32) (k : Nat) (v : Int32) : upd f k v k = v := by simp [upd]
theorem upd_o (f : Nat → Int32) {k j : Nat} (v : Int32) (h : j ≠ k) : upd f k v j = f j := by simp [upd, h]
theorem ac_one {F : Nat → Nat → Int} {f : Nat → Int32} {u N k : Nat} (hu : u < 40) (h01 : ∀ j x, 0 ≤ F j x ∧ F j x ≤ 1) (h : ∀ j, j < N → (f j).toInt = cn (F j) u) (hk : k < N) (h1 : ∀ j, j < N → F j u = if j = k then 1 else 0) : ∀ j, j < N → (upd f k (f k + nI 1) j).toInt = cn (F j) (u + 1) := by
  intro j hj
  have hb := cn_rg (f := F j) 1 u (fun x _ => h01 j x)
  simp only [cn]
  rw [h1 j hj]
  by_cases q : j = k
  · subst q
    rw [upd_at, if_pos rfl, ti_inc (by rw [h j hj]; omega), h j hj]
  · rw [upd_o f _ q, if_neg q, h j hj]; omega
theorem ac_nil {F : Nat → Nat → Int} {f : Nat → Int32} {u N : Nat} (h : ∀ j, j < N → (f j).toInt = cn (F j) u) (h1 : ∀ j, j < N → F j u = 0) : ∀ j, j < N → (f j).toInt = cn (F j) (u + 1) := by
  intro j hj
  simp only [cn]
  rw [h1 j hj, h j hj]; omega
section AS
variable {a : Sg} {u : Nat} {f g h : Nat → Int32}
theorem ac_k {k : Nat} (hk : k < 4) (e : (a (13 + u) 0).toInt = (k : Int)) : ∀ j, j < 4 → kI a j u = if j = k then 1 else 0 := by
  intro j _
  unfold kI
  by_cases q : j = k
  · rw [if_pos q, if_pos (by omega)]
  · rw [if_neg q, if_neg (by omega)]
theorem ac_step0 {i : Nat} (hA : AC a u f g h) (hu : u < 40) (hi : i < 8) (e0 : (a (13 + u) 0).toInt = 0) (e1 : (a (13 + u) 1).toInt = (i : Int)) : AC a (u + 1) f (upd g i (g i + nI 1)) (upd h 0 (h 0 + nI 1)) := by
  refine ⟨ac_nil hA.1 (fun j _ => if_neg (by omega)), ac_one hu (fun j x => ite01 _) hA.2.1 hi (fun j _ => ?_), ac_one hu (fun j x => ite01 _) hA.2.2 (by decide) (ac_k (by decide) e0)⟩
  unfold wI
  by_cases q : j = i
  · rw [if_pos q, if_pos (by omega)]
  · rw [if_neg q, if_neg (by omega)]
theorem ac_step1 {i : Nat} (hA : AC a u f g h) (hu : u < 40) (hi : i < 10) (e0 : (a (13 + u) 0).toInt = 1) (e1 : (a (13 + u) 1).toInt = (i : Int)) : AC a (u + 1) (upd f i (f i + nI 1)) g (upd h 1 (h 1 + nI 1)) := by
  refine ⟨ac_one hu (fun j x => ite01 _) hA.1 hi (fun j _ => ?_), ac_nil hA.2.1 (fun j _ => if_neg (by omega)), ac_one hu (fun j x => ite01 _) hA.2.2 (by decide) (ac_k (by decide) e0)⟩
  unfold dI
  by_cases q : j = i
  · rw [if_pos q, if_pos (by omega)]
  · rw [if_neg q, if_neg (by omega)]
theorem ac_step2 (hA : AC a u f g h) (hu : u < 40) (e0 : (a (13 + u) 0).toInt = 2) : AC a (u + 1) f g (upd h 2 (h 2 + nI 1)) :=
  ⟨ac_nil hA.1 (fun j _ => if_neg (by omega)), ac_nil hA.2.1 (fun j _ => if_neg (by omega)), ac_one hu (fun j x => ite01 _) hA.2.2 (by decide) (ac_k (by decide) e0)⟩
theorem ac_step3 (hA : AC a u f g h) (hu : u < 40) (e0 : (a (13 + u) 0).toInt = 3) : AC a (u + 1) f g (upd h 3 (h 3 + nI 1)) :=
  ⟨ac_nil hA.1 (fun j _ => if_neg (by omega)), ac_nil hA.2.1 (fun j _ => if_neg (by omega)), ac_one hu (fun j x => ite01 _) hA.2.2 (by decide) (ac_k (by decide) e0)⟩
theorem ac_0 (a : Sg) : AC a 0 (fun _ => 0) (fun _ => 0) (fun _ => 0) := ⟨fun _ _ => ti_0, fun _ _ => ti_0, fun _ _ => ti_0⟩
end AS
