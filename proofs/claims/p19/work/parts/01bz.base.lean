abbrev vwCl : List vw_C := [(RX0, TX0, 15), (RX1, TX1, 9), (RX2, TX2, 7), (RX3, TX3, 6), (RX4, TX4, 2)]
/-! STATES: Sg = place, index -> int. A world is a list of places, each an object or an array of ints or of references. -/
abbrev Sg : Type := Nat → Nat → Int32
def up (σ : Sg) (p k : Nat) (v : Int32) : Sg := fun a b => if a = p ∧ b = k then v else σ a b
def ltt {α β : Type} (a : α) (f : α → β) : β := f a
theorem ltt_r {α β : Type} {a x : α} {f : α → β} (h : x = a) : ltt a f = f x := by subst h; rfl
abbrev tn (x : Int32) : Nat := x.toNatClampNeg
theorem up_row (σ : Sg) (p k : Nat) (v : Int32) : (up σ p k v) p = upd (σ p) k v := by
  funext b; simp [up, upd]
theorem up_row_ne (σ : Sg) {p q : Nat} (k : Nat) (v : Int32) (h : q ≠ p) : (up σ p k v) q = σ q := by
  funext b; simp [up, h]
theorem up_s (σ : Sg) (p k : Nat) (v : Int32) : up σ p k v p k = v := by simp [up]
theorem up_ne (σ : Sg) {p k a b : Nat} (v : Int32) (h : ¬ (a = p ∧ b = k)) : up σ p k v a b = σ a b := by simp [up, h]
def WD (n : Nat) (rc : Nat → (Nat → Int32) → va_E) (ad : Nat → Nat) (σ : Sg) : va_W := (List.range n).map (fun p => (ad p, rc p (σ p)))
theorem WD_len (n : Nat) (rc : Nat → (Nat → Int32) → va_E) (ad : Nat → Nat) (σ : Sg) : (WD n rc ad σ).length = n := by simp [WD]
theorem WD_get {n p : Nat} {rc : Nat → (Nat → Int32) → va_E} {ad : Nat → Nat} {σ : Sg} {e : va_E} (hp : p < n) (he : rc p (σ p) = e) : (WD n rc ad σ)[p]? = some (ad p, e) := by
  subst he
  simp [WD, hp]
theorem WD_set {n p k : Nat} {rc : Nat → (Nat → Int32) → va_E} {ad : Nat → Nat} {σ : Sg} {v : Int32} {e : va_E} (he : rc p (upd (σ p) k v) = e) : (WD n rc ad σ).set p (ad p, e) = WD n rc ad (up σ p k v) := by
  apply List.ext_getElem?
  intro i
  rw [List.getElem?_set]
  simp only [WD, List.length_map, List.length_range, List.getElem?_map]
  by_cases hi : p = i
  · subst hi
    rw [if_pos rfl]
    by_cases hl : p < n
    · rw [if_pos hl, List.getElem?_range hl, Option.map_some, up_row, he]
    · rw [if_neg hl, List.getElem?_eq_none (by simpa using Nat.not_lt.mp hl)]
      rfl
  · rw [if_neg hi]
    cases h : (List.range n)[i]? with
    | none => rfl
    | some j =>
      have hj : j = i := by
        have h1 := List.getElem?_eq_some_iff.mp h
        obtain ⟨h2, h3⟩ := h1
        rw [List.getElem_range] at h3
        exact h3.symm
      rw [Option.map_some, Option.map_some, up_row_ne σ k v (fun h => hi (by rw [← h, hj]))]
/-! worlds side by side -/
theorem gx_l {w1 w2 : va_W} {p : Nat} {v : Nat × va_E} (h : w1[p]? = some v) : (w1 ++ w2)[p]? = some v := by
  rw [List.getElem?_append_left (List.getElem?_eq_some_iff.mp h).1]; exact h
theorem gx_r {w1 w2 : va_W} {p n : Nat} {v : Nat × va_E} (hn : w1.length = n) (h : w2[p]? = some v) : (w1 ++ w2)[n + p]? = some v := by
  rw [List.getElem?_append_right (by omega), show n + p - w1.length = p by omega]; exact h
theorem gx_setl {w1 w2 w1' : va_W} {p : Nat} {v : Nat × va_E} (hl : p < w1.length) (h : w1.set p v = w1') : (w1 ++ w2).set p v = w1' ++ w2 := by
  rw [List.set_append_left p v hl, h]
theorem gx_setr {w1 w2 w2' : va_W} {p n : Nat} {v : Nat × va_E} (hn : w1.length = n) (h : w2.set p v = w2') : (w1 ++ w2).set (n + p) v = w1 ++ w2' := by
  rw [List.set_append_right (n + p) v (by omega), show n + p - w1.length = p by omega, h]
/-! a world's order is of no weight -/
theorem va_P_iff {D : va_G} {cl : List vw_C} {ws : va_W} {H : Heap} : va_P D cl ws H ↔ ∀ q ∈ ws, va_at D cl q H := by
  constructor
  · intro h q hq
    obtain ⟨k, hk⟩ := List.getElem?_of_mem hq
    exact h k q hk
  · intro h k q hk
    exact h q (List.mem_of_getElem? hk)
theorem va_P_perm {D : va_G} {cl : List vw_C} {ws ws' : va_W} {H : Heap} (hp : ws.Perm ws') (h : va_P D cl ws H) : va_P D cl ws' H :=
  va_P_iff.mpr fun q hq => va_P_iff.mp h q (hp.mem_iff.mpr hq)
theorem va_D_iff {A : Nat → Prop} {ws : va_W} : va_D A ws ↔ (ws.map (·.1)).Nodup ∧ ∀ q ∈ ws, A q.1 := by
  constructor
  · rintro ⟨h1, h2⟩
    refine ⟨?_, fun q hq => ?_⟩
    · rw [List.nodup_iff_pairwise_ne, List.pairwise_iff_getElem]
      intro i j hi hj hij hne
      rw [List.length_map] at hi hj
      rw [List.getElem_map, List.getElem_map] at hne
      have := h1 i j _ _ (List.getElem?_eq_getElem hi) (List.getElem?_eq_getElem hj) hne
      omega
    · obtain ⟨k, hk⟩ := List.getElem?_of_mem hq
      exact h2 k q hk
  · rintro ⟨h1, h2⟩
    refine ⟨fun i j p q hi hj hpq => ?_, fun k q hk => h2 q (List.mem_of_getElem? hk)⟩
    rw [List.nodup_iff_pairwise_ne, List.pairwise_iff_getElem] at h1
    obtain ⟨hi', e1⟩ := List.getElem?_eq_some_iff.mp hi
    obtain ⟨hj', e2⟩ := List.getElem?_eq_some_iff.mp hj
    rcases Nat.lt_trichotomy i j with h | h | h
    · exact absurd (by rw [List.getElem_map, List.getElem_map, e1, e2]; exact hpq) (h1 i j (by simpa using hi') (by simpa using hj') h)
    · exact h
    · exact absurd (by rw [List.getElem_map, List.getElem_map, e1, e2]; exact hpq.symm) (h1 j i (by simpa using hj') (by simpa using hi') h)
theorem va_D_perm {A : Nat → Prop} {ws ws' : va_W} (hp : ws.Perm ws') (h : va_D A ws) : va_D A ws' := by
  rw [va_D_iff] at h ⊢
  exact ⟨(hp.map _).nodup_iff.mp h.1, fun q hq => h.2 q (hp.mem_iff.mpr hq)⟩
theorem va_P_l {D : va_G} {cl : List vw_C} {w1 w2 : va_W} {H : Heap} (h : va_P D cl (w1 ++ w2) H) : va_P D cl w1 H := va_P_iff.mpr fun q hq => va_P_iff.mp h q (List.mem_append_left _ hq)
theorem va_P_r {D : va_G} {cl : List vw_C} {w1 w2 : va_W} {H : Heap} (h : va_P D cl (w1 ++ w2) H) : va_P D cl w2 H := va_P_iff.mpr fun q hq => va_P_iff.mp h q (List.mem_append_right _ hq)
theorem va_D_l {A : Nat → Prop} {w1 w2 : va_W} (h : va_D A (w1 ++ w2)) : va_D A w1 := by
  rw [va_D_iff] at h ⊢
  rw [List.map_append] at h
  exact ⟨(List.nodup_append.mp h.1).1, fun q hq => h.2 q (List.mem_append_left _ hq)⟩
theorem va_D_r {A : Nat → Prop} {w1 w2 : va_W} (h : va_D A (w1 ++ w2)) : va_D A w2 := by
  rw [va_D_iff] at h ⊢
  rw [List.map_append] at h
  exact ⟨(List.nodup_append.mp h.1).2.1, fun q hq => h.2 q (List.mem_append_right _ hq)⟩
theorem va_A_mem {ws : va_W} {sz q : Nat} : va_A ws sz q ↔ q ∈ ws.map (·.1) ∨ sz ≤ q := by
  constructor
  · rintro (⟨k, e, h⟩ | h)
    · exact Or.inl (List.mem_map.mpr ⟨(q, e), List.mem_of_getElem? h, rfl⟩)
    · exact Or.inr h
  · rintro (h | h)
    · obtain ⟨x, hx, rfl⟩ := List.mem_map.mp h
      obtain ⟨k, hk⟩ := List.getElem?_of_mem hx
      exact Or.inl ⟨k, x.2, hk⟩
    · exact Or.inr h
/-- what a callee may change, a caller may -/
theorem g_free {A0 : Nat → Prop} {wc wr : va_W} {H0 H : Heap} {locs : List Loc} (hD : va_D A0 (wc ++ wr)) (hS : va_S A0 H0 H locs) (hA : ∀ q, H0.size ≤ q → A0 q) : ∀ q, va_A wc H.size q → A0 q := by
  intro q h
  rcases va_A_mem.mp h with h | h
  · obtain ⟨x, hx, rfl⟩ := List.mem_map.mp h
    exact (va_D_iff.mp hD).2 x (List.mem_append_left _ hx)
  · exact hA q (Nat.le_trans hS.1 h)
/-- behind a call: the callee's world anew, the rest as it was -/
theorem g_join {A0 : Nat → Prop} {D : va_G} {cl : List vw_C} {wc wr w1 : va_W} {H H1 : Heap} (hP : va_P D cl (wc ++ wr) H) (hD : va_D A0 (wc ++ wr))
    (hk : ∀ q : Nat, q < H.size → ¬ va_A wc H.size q → H1[q]? = H[q]?) (hF : ∀ q, va_A wc H.size q → A0 q) (hP1 : va_P D cl w1 H1) (hD1 : va_D (va_A wc H.size) w1) : va_P D cl (w1 ++ wr) H1 ∧ va_D A0 (w1 ++ wr) := by
  have hdis : ∀ q ∈ wr, ¬ va_A wc H.size q.1 := by
    intro q hq h
    have hlt : q.1 < H.size := (va_P_iff.mp hP q (List.mem_append_right _ hq)).lt
    rcases va_A_mem.mp h with h | h
    · have h1 := (va_D_iff.mp hD).1
      rw [List.map_append] at h1
      exact (List.nodup_append.mp h1).2.2 q.1 h q.1 (List.mem_map.mpr ⟨q, hq, rfl⟩) rfl
    · omega
  refine ⟨va_P_iff.mpr fun q hq => ?_, va_D_iff.mpr ⟨?_, fun q hq => ?_⟩⟩
  · rcases List.mem_append.mp hq with h | h
    · exact va_P_iff.mp hP1 q h
    · have h0 := va_P_iff.mp hP q (List.mem_append_right _ h)
      exact h0.kept (hk q.1 h0.lt (hdis q h))
  · rw [List.map_append]
    refine List.nodup_append.mpr ⟨(va_D_iff.mp hD1).1, (va_D_iff.mp (va_D_r hD)).1, ?_⟩
    intro a ha b hb hab
    subst hab
    obtain ⟨x, hx, rfl⟩ := List.mem_map.mp ha
    obtain ⟨y, hy, hxy⟩ := List.mem_map.mp hb
    exact hdis y hy (by rw [hxy]; exact (va_D_iff.mp hD1).2 x hx)
  · rcases List.mem_append.mp hq with h | h
    · exact hF _ ((va_D_iff.mp hD1).2 q h)
    · exact (va_D_iff.mp hD).2 q (List.mem_append_right _ h)
/-! CONTRACTS over a world wf of a state: g_v (void), g_i (int), g_l (long) -/
def gPre {S : Type} (D : va_G) (tys : List (ClassId × FieldType)) (wf : S → va_W) (σ : S) (sz : Nat) : State → Prop := fun U => U.heap.size = sz ∧ va_P D vwCl (wf σ) U.heap ∧ va_K D vwCl tys U ∧ va_D (fun _ => True) (wf σ)
def gPost {S : Type} (D : va_G) (wf : S → va_W) (A : Nat → Prop) : S → State → Prop := fun u t => va_P D vwCl (wf u) t.heap ∧ va_D A (wf u)
def gMv {S : Type} (l : Launch) (y : MethodName) (ws : List Cond) (rm : Room) (D : va_G) (tys : List (ClassId × FieldType)) (wf : S → va_W) (av : List Value) (σ f : S) (mc ms : Nat) : Prop :=
  ∀ sz : Nat, Met l y ws rm (va_Pc av (gPre D tys wf σ sz)) (va_Qv (fun u => u = f) (gPost D wf (va_A (wf σ) sz)) (va_A (wf σ) sz)) mc ms (va_A (wf σ) sz)
def gMi {S : Type} (l : Launch) (y : MethodName) (ws : List Cond) (rm : Room) (D : va_G) (tys : List (ClassId × FieldType)) (wf : S → va_W) (av : List Value) (σ : S) (f : Int32 × S) (mc ms : Nat) : Prop :=
  ∀ sz : Nat, Met l y ws rm (va_Pc av (gPre D tys wf σ sz)) (va_Qi (fun r u => (r, u) = f) (gPost D wf (va_A (wf σ) sz)) (va_A (wf σ) sz)) mc ms (va_A (wf σ) sz)
/-- an int is answered, the state stays -/
def gMr {S : Type} (l : Launch) (y : MethodName) (ws : List Cond) (rm : Room) (D : va_G) (tys : List (ClassId × FieldType)) (wf : S → va_W) (av : List Value) (σ : S) (r : Int32) (mc ms : Nat) : Prop :=
  gMi l y ws rm D tys wf av σ (r, σ) mc ms
theorem gPre_blind {S : Type} {D : va_G} {tys : List (ClassId × FieldType)} {wf : S → va_W} {σ : S} {sz : Nat} {av : List Value} : FrameBlind (va_Pc av (gPre D tys wf σ sz)) := by
  intro a U g mk h
  obtain ⟨h0, h1, h2, h3, h4⟩ := h
  exact ⟨h0, h1, h2, va_K.moved (u := U) (U := U.calling g mk a) (Vm.Alike.refl U.vm) h3, h4⟩
section GS
variable {S : Type} {l : Launch} {y : MethodName} {ws ws' : List Cond} {rm : Room} {D : va_G} {tys : List (ClassId × FieldType)} {wf : S → va_W} {av : List Value} {σ : S} {mc ms : Nat}
theorem gstartv {f : S} (cc : ByteArray) (maxL : Nat) (own : String) (hy : plainName y.cls = true) (hw : ws = Cond.code y cc maxL none :: ws') (hown0 : y.cls = own) (hn : (lg_sl av).length ≤ maxL)
    (body : ∀ (p : Program) (e : Env) (s : State) (m : MethodId) (below : List Frame) (meth : Method) (c : Code) (A : Nat → Prop) (ls : Array Slot), p.tables.exec = Jvm.exec → c.code = cc → c.maxLocals = maxL → s.vm.findClass own = some m.cls → (∀ w ∈ ws, w.before av.toArray s = true) → meth.sig.returnType = none → meth.locks = false → va_K D vwCl tys s → va_P D vwCl (wf σ) s.heap → va_D A (wf σ) → (∀ q : Nat, s.heap.size ≤ q → A q) → va_S A s.heap s.heap [] → lv_has ls maxL (lv_args 0 av) →
      W p l e rm s m av.toArray below meth c s.heap [] 0 0 (MQ below (va_Qv (fun u => u = f) (gPost D wf A) A) av.toArray s mc ms A) (F0 m 0 ls [])) : gMv l y ws rm D tys wf av σ f mc ms := by
  intro sz
  refine Met.ofW (cc := cc) (maxL := maxL) (ret := none) hy hw ?_
  intro p e s m args below meth c s₁ B hml hv
  obtain ⟨rfl, hsz, hP, hK, hD0⟩ := hv
  have hts := atoms_spec (ws := ws) B.pre
  have hown : s.vm.findClass own = some m.cls := by rw [← hown0]; exact findClass_of_methodNamed B.named
  subst hsz
  have hD := hD0.self (sz := s.heap.size)
  have hA : ∀ q : Nat, s.heap.size ≤ q → va_A (wf σ) s.heap.size q := fun q h => Or.inr h
  rw [lg_entry_eq]
  exact body p e s m below meth c _ _ B.exec B.bytes hml hown hts B.returns B.notSynchronized hK hP hD hA va_S.rf (lv_entry av hn)
theorem gstarti {f : Int32 × S} {rt : FieldType} (cc : ByteArray) (maxL : Nat) (own : String) (hy : plainName y.cls = true) (hw : ws = Cond.code y cc maxL (some rt) :: ws') (hown0 : y.cls = own) (hn : (lg_sl av).length ≤ maxL)
    (body : ∀ (p : Program) (e : Env) (s : State) (m : MethodId) (below : List Frame) (meth : Method) (c : Code) (A : Nat → Prop) (ls : Array Slot), p.tables.exec = Jvm.exec → c.code = cc → c.maxLocals = maxL → s.vm.findClass own = some m.cls → (∀ w ∈ ws, w.before av.toArray s = true) → meth.sig.returnType = some rt → meth.locks = false → va_K D vwCl tys s → va_P D vwCl (wf σ) s.heap → va_D A (wf σ) → (∀ q : Nat, s.heap.size ≤ q → A q) → va_S A s.heap s.heap [] → lv_has ls maxL (lv_args 0 av) →
      W p l e rm s m av.toArray below meth c s.heap [] 0 0 (MQ below (va_Qi (fun r u => (r, u) = f) (gPost D wf A) A) av.toArray s mc ms A) (F0 m 0 ls [])) : gMi l y ws rm D tys wf av σ f mc ms := by
  intro sz
  refine Met.ofW (cc := cc) (maxL := maxL) (ret := some rt) hy hw ?_
  intro p e s m args below meth c s₁ B hml hv
  obtain ⟨rfl, hsz, hP, hK, hD0⟩ := hv
  have hts := atoms_spec (ws := ws) B.pre
  have hown : s.vm.findClass own = some m.cls := by rw [← hown0]; exact findClass_of_methodNamed B.named
  subst hsz
  have hD := hD0.self (sz := s.heap.size)
  have hA : ∀ q : Nat, s.heap.size ≤ q → va_A (wf σ) s.heap.size q := fun q h => Or.inr h
  rw [lg_entry_eq]
  exact body p e s m below meth c _ _ B.exec B.bytes hml hown hts B.returns B.notSynchronized hK hP hD hA va_S.rf (lv_entry av hn)
end GS
section GR
variable {p : Program} {l : Launch} {e : Env} {R : Room} {s : State} {m : MethodId} {args : Array Value} {below : List Frame} {meth : Method} {c : Code} {H : Heap} {locs : List Loc} {cells slots : Nat} {Q : State → Prop}
variable {pc : Nat} {ls : Array Slot} {rest st0 : List Value} {A : Nat → Prop} {H0 : Heap} {cc : ByteArray} {D : va_G} {tys : List (ClassId × FieldType)} {ws : va_W} {a : Nat}
/-- a field is written: the world's new state has a name -/
theorem g_put {S : Type} {wf : S → va_W} {σ σ1 : S} {own C : String} {T : u_T} {N ci index : Nat} {Ts : List Cond} (hx : p.tables.exec = Jvm.exec) (hb : c.code = cc) (hts : ∀ w ∈ Ts, w.before args s = true) (hin : ∀ w ∈ u_ws C T N, w ∈ Ts) {ty0 : Nat → FieldType} (hty : ∀ k, k < N → parseFieldDescriptor (T k).2.2.1 = some (ty0 k)) (hnm : ∀ a, a < N → ∀ b, b < N → a ≠ b → (T a).2.1 ≠ (T b).2.1) (hown : s.vm.findClass own = some m.cls) (hK : va_K D vwCl tys s) (hP : va_P D vwCl (wf σ) H) (hD : va_D A (wf σ)) (hS0 : va_S A H0 H locs) (q0 : Nat) {fs : List Value} {v : Int32} (he : (wf σ)[q0]? = some (a, .inr (ci, fs))) (hc : vwCl[ci]? = some (C, T, N)) (k : Nat) (hk : k < N) (hlink : (Cond.fieldLink own index (T k).1 (T k).2.1 (T k).2.2.1).before args s = true) (hfin : (T k).2.2.2 = false) (hd : (T k).2.2.1 = "I") (hl : k < fs.length)
    (hset : (wf σ).set q0 (a, .inr (ci, fs.set k (.int v))) = wf σ1) (hdg : decode cc pc = .ok (.putfield index, 3))
    (kk : ∀ u : S, u = σ1 → ∀ (H1 : Heap) (locs1 : List Loc), va_P D vwCl (wf u) H1 → va_D A (wf u) → va_S A H0 H1 locs1 → W p l e R s m args below meth c H1 locs1 cells slots Q (F0 m (pc + 3) ls rest)) : W p l e R s m args below meth c H locs cells slots Q (F0 m pc ls (.int v :: .ref a :: rest)) := by
  refine va_put (ty := .int) hx hb hts hin ty0 hty hnm hown hK hP hD hS0 q0 he hc k hk hlink (fun _ h9 => h9) hfin (by rw [hd]; decide +kernel) rfl rfl hl hdg ?_
  rw [hset]
  exact fun H1 locs1 h1 h2 h3 => kk σ1 rfl H1 locs1 h1 h2 h3
/-- an int array's element is written -/
theorem g_iast {S : Type} {wf : S → va_W} {σ σ1 : S} (hx : p.tables.exec = Jvm.exec) (hb : c.code = cc) (hK : va_K D vwCl tys s) (hP : va_P D vwCl (wf σ) H) (hD : va_D A (wf σ)) (hS : va_S A H0 H locs) (q0 t0 : Nat) {cA : ClassId} {n : Nat} {f : Nat → Int32} {i x : Int32} (j : Nat) (he : (wf σ)[q0]? = some (a, .inl (cA, n, .inl f))) (ht : tys[t0]? = some (cA, .int)) (hj : i.toNatClampNeg = j) (hin : vp_in i n)
    (hset : (wf σ).set q0 (a, .inl (cA, n, .inl (upd f j x))) = wf σ1) (hdg : decode cc pc = .ok (.iastore, 1))
    (kk : ∀ u : S, u = σ1 → ∀ (H1 : Heap) (locs1 : List Loc), va_P D vwCl (wf u) H1 → va_D A (wf u) → va_S A H0 H1 locs1 → W p l e R s m args below meth c H1 locs1 cells slots Q (F0 m (pc + 1) ls rest)) : W p l e R s m args below meth c H locs cells slots Q (F0 m pc ls (.int x :: .int i :: .ref a :: rest)) := by
  subst hj
  refine va_iast hx hb hK hP hD hS q0 t0 he ht hin hdg ?_
  rw [hset]
  exact fun H1 locs1 h1 h2 h3 => kk σ1 rfl H1 locs1 h1 h2 h3
theorem g_iald (hx : p.tables.exec = Jvm.exec) (hb : c.code = cc) (hK : va_K D vwCl tys s) (hP : va_P D vwCl ws H) (q0 t0 : Nat) {cA : ClassId} {n : Nat} {f : Nat → Int32} {i : Int32} (j : Nat) (he : ws[q0]? = some (a, .inl (cA, n, .inl f))) (ht : tys[t0]? = some (cA, .int)) (hj : i.toNatClampNeg = j) (hin : vp_in i n) (hdg : decode cc pc = .ok (.iaload, 1))
    (kk : W p l e R s m args below meth c H locs cells slots Q (F0 m (pc + 1) ls (.int (f j) :: rest))) : W p l e R s m args below meth c H locs cells slots Q (F0 m pc ls (.int i :: .ref a :: rest)) := by
  subst hj
  exact va_iald hx hb hK hP q0 t0 he ht hin hdg kk
theorem g_aald (hx : p.tables.exec = Jvm.exec) (hb : c.code = cc) (hK : va_K D vwCl tys s) (hP : va_P D vwCl ws H) (q0 t0 : Nat) {cA : ClassId} {C : String} {n b : Nat} {f : Nat → Option Nat} {i : Int32} (j : Nat) (he : ws[q0]? = some (a, .inl (cA, n, .inr (.inr (.inr (.inr f)))))) (ht : tys[t0]? = some (cA, .object C)) (hj : i.toNatClampNeg = j) (hin : vp_in i n) (hfj : f j = some b) (hdg : decode cc pc = .ok (.aaload, 1))
    (kk : W p l e R s m args below meth c H locs cells slots Q (F0 m (pc + 1) ls (.ref b :: rest))) : W p l e R s m args below meth c H locs cells slots Q (F0 m pc ls (.int i :: .ref a :: rest)) := by
  subst hj
  refine va_aldq hx hb hK hP q0 t0 he ht hin hdg ?_
  rw [hfj]
  exact kk
theorem tn_in {i : Int32} {n : Nat} (h : vp_in i n) : i.toNatClampNeg < n := Nat.not_le.mp fun q => h (Or.inr q)
/-- an int on the stack has another name -/
theorem g_top {x y : Int32} (h : x = y) (k : W p l e R s m args below meth c H locs cells slots Q (F0 m pc ls (.int y :: rest))) : W p l e R s m args below meth c H locs cells slots Q (F0 m pc ls (.int x :: rest)) := by
  subst h; exact k
/-! ends -/
theorem g_endv {S : Type} {wf : S → va_W} {u f : S} {mc ms : Nat} (hx : p.tables.exec = Jvm.exec) (hb : c.code = cc) (hr : meth.sig.returnType = none) (hlocks : meth.locks = false) (hf : f = u) (hP : va_P D vwCl (wf u) H) (hD : va_D A (wf u)) (hS : va_S A s.heap H locs) (hc : cells ≤ mc) (hs : slots ≤ ms) (hdg : decode cc pc = .ok (.return_, 1)) :
    W p l e R s m args below meth c H locs cells slots (MQ below (va_Qv (fun u => u = f) (gPost D wf A) A) args s mc ms A) (F0 m pc ls []) := by
  refine W.widen hc hs ?_
  exact W.vret hx hb hr (fun t ht hW => ⟨⟨u, rfl, hf.symm, by rw [ht]; exact hP, hD⟩, hS.F ht⟩) hS.2.2 hdg hlocks
theorem g_endi {S : Type} {wf : S → va_W} {u : S} {v : Int32} {f : Int32 × S} {rt : FieldType} {mc ms : Nat} (hx : p.tables.exec = Jvm.exec) (hb : c.code = cc) (hr : meth.sig.returnType = some rt) (hlocks : meth.locks = false) (hn : narrow rt (.int v) = .int v) (hf : f = (v, u)) (hP : va_P D vwCl (wf u) H) (hD : va_D A (wf u)) (hS : va_S A s.heap H locs) (hc : cells ≤ mc) (hs : slots ≤ ms) (hdg : decode cc pc = .ok (.ireturn, 1)) :
    W p l e R s m args below meth c H locs cells slots (MQ below (va_Qi (fun r u => (r, u) = f) (gPost D wf A) A) args s mc ms A) (F0 m pc ls [.int v]) := by
  refine W.widen hc hs ?_
  exact W.zret hx hb hr hn (fun t ht hW => ⟨⟨v, u, rfl, hf.symm, by rw [ht]; exact hP, hD⟩, hS.F ht⟩) hS.2.2 hdg hlocks
/-! calls: of a method whose world is a part of the caller's -/
theorem g_callv {S Sc : Type} {wf : S → va_W} {σ : S} {wfc : Sc → va_W} {σc f : Sc} {y : MethodName} {bytes : ByteArray} {maxL nL mc ms n index cells2 slots2 : Nat} {wc : List Cond} {rm : Room} {Ts : List Cond} {own C : String} {ci q0 : Nat} {fs : List Value} {cl0 : vw_C}
    (hx : p.tables.exec = Jvm.exec) (hb : c.code = cc) (hml : c.maxLocals = nL) (hown : s.vm.findClass own = some m.cls) (hts : ∀ w ∈ Ts, w.before args s = true) (hK : va_K D vwCl tys s) (hP : va_P D vwCl (wf σ) H) (hD : va_D A (wf σ)) (hS : va_S A H0 H locs) (hA : ∀ q : Nat, H0.size ≤ q → A q) (hsz : ls.size = nL)
    (wr : va_W) (hp1 : (wf σ).Perm (wfc σc ++ wr)) (back : Sc → S) (hp2 : ∀ u, (wfc u ++ wr).Perm (wf (back u)))
    (As : List Value) (hM : gMv l y wc rm D tys wfc (.ref a :: As) σc f mc ms) (cw : CallW R s args own C index y bytes maxL none wc rm mc ms n) (he : (wf σ)[q0]? = some (a, .inr (ci, fs))) (hc : vwCl[ci]? = some cl0) (hC : cl0.1 = C) (hn : As.length = n) (hst : st0 = As.reverse ++ .ref a :: rest) (hW : (rest.map fun v => v.category).sum ≤ 8) (hdg : decode cc pc = .ok (.invokevirtual index, 3)) (hroom : cells + mc ≤ R.cells ∧ slots + ms ≤ R.slots) (hc2 : cells + mc = cells2) (hs2 : slots + ms = slots2)
    (kk : ∀ u : Sc, u = f → ∀ (H1 : Heap) (locs1 : List Loc), va_P D vwCl (wf (back u)) H1 → va_D A (wf (back u)) → va_S A H0 H1 locs1 → W p l e R s m args below meth c H1 locs1 cells2 slots2 Q (F0 m (pc + 3) ls rest)) : W p l e R s m args below meth c H locs cells slots Q (F0 m pc ls st0) := by
  subst hc2; subst hs2; subst hst
  have hP1 := va_P_perm hp1 hP
  have hD1 := va_D_perm hp1 hD
  have hF := g_free hD1 hS hA
  refine va_callv (va_runV (As := As) (rest := rest) ⟨hx, hb, hml, hown, hts⟩ (hM H.size) cw ⟨gPre_blind, ?_, fun U hU hW => ⟨rfl, by rw [hU], by rw [hU]; exact va_P_l hP1, va_K.moved hW.alike hK, (va_D_l hD1).weaken (fun _ _ _ _ => trivial)⟩⟩ rfl hn hsz rfl (lv_room hW) hdg hroom) hS (fun q _ h => hF q h) hF (fun u t H1 locs1 ht hvm hw hB hz1 hk1 hS1 => ?_)
  · obtain ⟨cell, h1, h2, h3⟩ := va_recv hK hP hc he
    exact ⟨cell, h1, h2, by rw [← hC]; exact h3⟩
  · obtain ⟨g1, g2⟩ := hB
    rw [ht] at g1
    obtain ⟨j1, j2⟩ := g_join hP1 hD1 hk1 hF g1 g2
    exact kk u hw H1 locs1 (va_P_perm (hp2 u) j1) (va_D_perm (hp2 u) j2) hS1
theorem g_calli {S Sc : Type} {wf : S → va_W} {σ : S} {wfc : Sc → va_W} {σc : Sc} {f : Int32 × Sc} {y : MethodName} {bytes : ByteArray} {maxL nL mc ms n index cells2 slots2 : Nat} {rt : FieldType} {wc : List Cond} {rm : Room} {Ts : List Cond} {own C : String} {ci q0 : Nat} {fs : List Value} {cl0 : vw_C}
    (hx : p.tables.exec = Jvm.exec) (hb : c.code = cc) (hml : c.maxLocals = nL) (hown : s.vm.findClass own = some m.cls) (hts : ∀ w ∈ Ts, w.before args s = true) (hK : va_K D vwCl tys s) (hP : va_P D vwCl (wf σ) H) (hD : va_D A (wf σ)) (hS : va_S A H0 H locs) (hA : ∀ q : Nat, H0.size ≤ q → A q) (hsz : ls.size = nL)
    (wr : va_W) (hp1 : (wf σ).Perm (wfc σc ++ wr)) (back : Sc → S) (hp2 : ∀ u, (wfc u ++ wr).Perm (wf (back u)))
    (As : List Value) (hM : gMi l y wc rm D tys wfc (.ref a :: As) σc f mc ms) (cw : CallW R s args own C index y bytes maxL (some rt) wc rm mc ms n) (he : (wf σ)[q0]? = some (a, .inr (ci, fs))) (hc : vwCl[ci]? = some cl0) (hC : cl0.1 = C) (hn : As.length = n) (hst : st0 = As.reverse ++ .ref a :: rest) (hW : (rest.map fun v => v.category).sum ≤ 8) (hdg : decode cc pc = .ok (.invokevirtual index, 3)) (hroom : cells + mc ≤ R.cells ∧ slots + ms ≤ R.slots) (hc2 : cells + mc = cells2) (hs2 : slots + ms = slots2)
    (kk : ∀ u : Int32 × Sc, u = f → ∀ (H1 : Heap) (locs1 : List Loc), va_P D vwCl (wf (back u.2)) H1 → va_D A (wf (back u.2)) → va_S A H0 H1 locs1 → W p l e R s m args below meth c H1 locs1 cells2 slots2 Q (F0 m (pc + 3) ls (.int u.1 :: rest))) : W p l e R s m args below meth c H locs cells slots Q (F0 m pc ls st0) := by
  subst hc2; subst hs2; subst hst
  have hP1 := va_P_perm hp1 hP
  have hD1 := va_D_perm hp1 hD
  have hF := g_free hD1 hS hA
  refine va_calli (va_runV (As := As) (rest := rest) ⟨hx, hb, hml, hown, hts⟩ (hM H.size) cw ⟨gPre_blind, ?_, fun U hU hW => ⟨rfl, by rw [hU], by rw [hU]; exact va_P_l hP1, va_K.moved hW.alike hK, (va_D_l hD1).weaken (fun _ _ _ _ => trivial)⟩⟩ rfl hn hsz rfl (lv_room hW) hdg hroom) hS (fun q _ h => hF q h) hF (fun r u t H1 locs1 ht hvm hw hB hz1 hk1 hS1 => ?_)
  · obtain ⟨cell, h1, h2, h3⟩ := va_recv hK hP hc he
    exact ⟨cell, h1, h2, by rw [← hC]; exact h3⟩
  · obtain ⟨g1, g2⟩ := hB
    rw [ht] at g1
    obtain ⟨j1, j2⟩ := g_join hP1 hD1 hk1 hF g1 g2
    exact kk (r, u) hw H1 locs1 (va_P_perm (hp2 u) j1) (va_D_perm (hp2 u) j2) hS1
/-- a static method that answers an int -/
theorem g_calls {S Sc : Type} {wf : S → va_W} {σ : S} {wfc : Sc → va_W} {σc : Sc} {f : Int32 × Sc} {y : MethodName} {bytes : ByteArray} {maxL nL mc ms n index cells2 slots2 : Nat} {rt : FieldType} {wc : List Cond} {rm : Room} {Ts : List Cond} {own : String}
    (hx : p.tables.exec = Jvm.exec) (hb : c.code = cc) (hml : c.maxLocals = nL) (hown : s.vm.findClass own = some m.cls) (hts : ∀ w ∈ Ts, w.before args s = true) (hK : va_K D vwCl tys s) (hP : va_P D vwCl (wf σ) H) (hD : va_D A (wf σ)) (hS : va_S A H0 H locs) (hA : ∀ q : Nat, H0.size ≤ q → A q) (hsz : ls.size = nL)
    (wr : va_W) (hp1 : (wf σ).Perm (wfc σc ++ wr)) (back : Sc → S) (hp2 : ∀ u, (wfc u ++ wr).Perm (wf (back u)))
    (As : List Value) (hM : gMi l y wc rm D tys wfc As σc f mc ms) (cw : CallB R s args own index y bytes maxL (some rt) wc rm mc ms n ∧ (Cond.static y).before args s = true) (hn : As.length = n) (hst : st0 = As.reverse ++ rest) (hW : (rest.map fun v => v.category).sum ≤ 8) (hdg : decode cc pc = .ok (.invokestatic index, 3)) (hroom : cells + mc ≤ R.cells ∧ slots + ms ≤ R.slots) (hc2 : cells + mc = cells2) (hs2 : slots + ms = slots2)
    (kk : ∀ u : Int32 × Sc, u = f → ∀ (H1 : Heap) (locs1 : List Loc), va_P D vwCl (wf (back u.2)) H1 → va_D A (wf (back u.2)) → va_S A H0 H1 locs1 → W p l e R s m args below meth c H1 locs1 cells2 slots2 Q (F0 m (pc + 3) ls (.int u.1 :: rest))) : W p l e R s m args below meth c H locs cells slots Q (F0 m pc ls st0) := by
  subst hc2; subst hs2; subst hst
  have hP1 := va_P_perm hp1 hP
  have hD1 := va_D_perm hp1 hD
  have hF := g_free hD1 hS hA
  refine va_calli (va_runS (As := As) (rest := rest) ⟨hx, hb, hml, hown, hts⟩ (hM H.size) cw ⟨gPre_blind, fun U hU hW => ⟨rfl, by rw [hU], by rw [hU]; exact va_P_l hP1, va_K.moved hW.alike hK, (va_D_l hD1).weaken (fun _ _ _ _ => trivial)⟩⟩ rfl hn hsz rfl (lv_room hW) hdg hroom) hS (fun q _ h => hF q h) hF (fun r u t H1 locs1 ht hvm hw hB hz1 hk1 hS1 => ?_)
  obtain ⟨g1, g2⟩ := hB
  rw [ht] at g1
  obtain ⟨j1, j2⟩ := g_join hP1 hD1 hk1 hF g1 g2
  exact kk (r, u) hw H1 locs1 (va_P_perm (hp2 u) j1) (va_D_perm (hp2 u) j2) hS1
/-- calls that answer and leave the state -/
theorem g_callr {S Sc : Type} {wf : S → va_W} {σ : S} {wfc : Sc → va_W} {σc : Sc} {f : Int32} {y : MethodName} {bytes : ByteArray} {maxL nL mc ms n index cells2 slots2 : Nat} {rt : FieldType} {wc : List Cond} {rm : Room} {Ts : List Cond} {own C : String} {ci q0 : Nat} {fs : List Value} {cl0 : vw_C}
    (hx : p.tables.exec = Jvm.exec) (hb : c.code = cc) (hml : c.maxLocals = nL) (hown : s.vm.findClass own = some m.cls) (hts : ∀ w ∈ Ts, w.before args s = true) (hK : va_K D vwCl tys s) (hP : va_P D vwCl (wf σ) H) (hD : va_D A (wf σ)) (hS : va_S A H0 H locs) (hA : ∀ q : Nat, H0.size ≤ q → A q) (hsz : ls.size = nL)
    (wr : va_W) (hp1 : (wf σ).Perm (wfc σc ++ wr))
    (As : List Value) (hM : gMr l y wc rm D tys wfc (.ref a :: As) σc f mc ms) (cw : CallW R s args own C index y bytes maxL (some rt) wc rm mc ms n) (he : (wf σ)[q0]? = some (a, .inr (ci, fs))) (hc : vwCl[ci]? = some cl0) (hC : cl0.1 = C) (hn : As.length = n) (hst : st0 = As.reverse ++ .ref a :: rest) (hW : (rest.map fun v => v.category).sum ≤ 8) (hdg : decode cc pc = .ok (.invokevirtual index, 3)) (hroom : cells + mc ≤ R.cells ∧ slots + ms ≤ R.slots) (hc2 : cells + mc = cells2) (hs2 : slots + ms = slots2)
    (kk : ∀ r : Int32, r = f → ∀ (H1 : Heap) (locs1 : List Loc), va_P D vwCl (wf σ) H1 → va_D A (wf σ) → va_S A H0 H1 locs1 → W p l e R s m args below meth c H1 locs1 cells2 slots2 Q (F0 m (pc + 3) ls (.int r :: rest))) : W p l e R s m args below meth c H locs cells slots Q (F0 m pc ls st0) := by
  subst hc2; subst hs2; subst hst
  have hP1 := va_P_perm hp1 hP
  have hD1 := va_D_perm hp1 hD
  have hF := g_free hD1 hS hA
  refine va_calli (va_runV (As := As) (rest := rest) ⟨hx, hb, hml, hown, hts⟩ (hM H.size) cw ⟨gPre_blind, ?_, fun U hU hW => ⟨rfl, by rw [hU], by rw [hU]; exact va_P_l hP1, va_K.moved hW.alike hK, (va_D_l hD1).weaken (fun _ _ _ _ => trivial)⟩⟩ rfl hn hsz rfl (lv_room hW) hdg hroom) hS (fun q _ h => hF q h) hF (fun r u t H1 locs1 ht hvm hw hB hz1 hk1 hS1 => ?_)
  · obtain ⟨cell, h1, h2, h3⟩ := va_recv hK hP hc he
    exact ⟨cell, h1, h2, by rw [← hC]; exact h3⟩
  · obtain ⟨g1, g2⟩ := hB
    rw [ht] at g1
    obtain ⟨j1, j2⟩ := g_join hP1 hD1 hk1 hF g1 g2
    obtain ⟨hr, hu⟩ := Prod.mk.inj hw
    subst hu
    exact kk r hr H1 locs1 (va_P_perm hp1.symm j1) (va_D_perm hp1.symm j2) hS1
theorem g_callsr {S Sc : Type} {wf : S → va_W} {σ : S} {wfc : Sc → va_W} {σc : Sc} {f : Int32} {y : MethodName} {bytes : ByteArray} {maxL nL mc ms n index cells2 slots2 : Nat} {rt : FieldType} {wc : List Cond} {rm : Room} {Ts : List Cond} {own : String}
    (hx : p.tables.exec = Jvm.exec) (hb : c.code = cc) (hml : c.maxLocals = nL) (hown : s.vm.findClass own = some m.cls) (hts : ∀ w ∈ Ts, w.before args s = true) (hK : va_K D vwCl tys s) (hP : va_P D vwCl (wf σ) H) (hD : va_D A (wf σ)) (hS : va_S A H0 H locs) (hA : ∀ q : Nat, H0.size ≤ q → A q) (hsz : ls.size = nL)
    (wr : va_W) (hp1 : (wf σ).Perm (wfc σc ++ wr))
    (As : List Value) (hM : gMr l y wc rm D tys wfc As σc f mc ms) (cw : CallB R s args own index y bytes maxL (some rt) wc rm mc ms n ∧ (Cond.static y).before args s = true) (hn : As.length = n) (hst : st0 = As.reverse ++ rest) (hW : (rest.map fun v => v.category).sum ≤ 8) (hdg : decode cc pc = .ok (.invokestatic index, 3)) (hroom : cells + mc ≤ R.cells ∧ slots + ms ≤ R.slots) (hc2 : cells + mc = cells2) (hs2 : slots + ms = slots2)
    (kk : ∀ r : Int32, r = f → ∀ (H1 : Heap) (locs1 : List Loc), va_P D vwCl (wf σ) H1 → va_D A (wf σ) → va_S A H0 H1 locs1 → W p l e R s m args below meth c H1 locs1 cells2 slots2 Q (F0 m (pc + 3) ls (.int r :: rest))) : W p l e R s m args below meth c H locs cells slots Q (F0 m pc ls st0) := by
  subst hc2; subst hs2; subst hst
  have hP1 := va_P_perm hp1 hP
  have hD1 := va_D_perm hp1 hD
  have hF := g_free hD1 hS hA
  refine va_calli (va_runS (As := As) (rest := rest) ⟨hx, hb, hml, hown, hts⟩ (hM H.size) cw ⟨gPre_blind, fun U hU hW => ⟨rfl, by rw [hU], by rw [hU]; exact va_P_l hP1, va_K.moved hW.alike hK, (va_D_l hD1).weaken (fun _ _ _ _ => trivial)⟩⟩ rfl hn hsz rfl (lv_room hW) hdg hroom) hS (fun q _ h => hF q h) hF (fun r u t H1 locs1 ht hvm hw hB hz1 hk1 hS1 => ?_)
  obtain ⟨g1, g2⟩ := hB
  rw [ht] at g1
  obtain ⟨j1, j2⟩ := g_join hP1 hD1 hk1 hF g1 g2
  obtain ⟨hr, hu⟩ := Prod.mk.inj hw
  subst hu
  exact kk r hr H1 locs1 (va_P_perm hp1.symm j1) (va_D_perm hp1.symm j2) hS1
end GR
/-! frames: the callee's world is the caller's, or a part of it -/
theorem pm_0 {w : va_W} : w.Perm (w ++ []) := by rw [List.append_nil]
theorem pm_0b {w : va_W} : (w ++ []).Perm w := by rw [List.append_nil]
/-! THE REPUBLIC: 63 places: 0 itself, 1 rain, 2 shelters, 3 umbrellas, 4 citizens, 5.. shelters, 13.. umbrellas, 53.. citizens -/
abbrev obF (ad : Nat → Nat) (f : Nat → Int32) : List Value := [.ref (ad 1), .ref (ad 2), .ref (ad 3), .ref (ad 4), .int (f 4), .int (f 5), .int (f 6), .int (f 7), .int (f 8)]
abbrev shF (f : Nat → Int32) : List Value := [.int (f 0), .int (f 1), .int (f 2), .int (f 3), .int (f 4), .int (f 5), .int (f 6)]
abbrev umF (f : Nat → Int32) : List Value := [.int (f 0), .int (f 1), .int (f 2), .int (f 3), .int (f 4), .int (f 5)]
abbrev ciF (f : Nat → Int32) : List Value := [.int (f 0), .int (f 1), .int (f 2), .int (f 3), .int (f 4), .int (f 5), .int (f 6), .int (f 7), .int (f 8), .int (f 9), .int (f 10), .int (f 11), .int (f 12), .int (f 13), .int (f 14)]
def RC (cy : Nat → ClassId) (ad : Nat → Nat) (p : Nat) (f : Nat → Int32) : va_E :=
  if p = 0 then .inr (1, obF ad f) else if p = 1 then .inl (cy 0, 24, .inl f)
  else if p = 2 then .inl (cy 1, 8, .inr (.inr (.inr (.inr (fun i => some (ad (5 + i)))))))
  else if p = 3 then .inl (cy 2, 40, .inr (.inr (.inr (.inr (fun i => some (ad (13 + i)))))))
  else if p = 4 then .inl (cy 3, 10, .inr (.inr (.inr (.inr (fun i => some (ad (53 + i)))))))
  else if p < 13 then .inr (2, shF f) else if p < 53 then .inr (3, umF f) else .inr (0, ciF f)
abbrev RW (cy : Nat → ClassId) (ad : Nat → Nat) (σ : Sg) : va_W := WD 63 (RC cy ad) ad σ
abbrev Ty (cy : Nat → ClassId) : List (ClassId × FieldType) := [(cy 0, .int), (cy 1, .object "UmbrellaLand$Shelter"), (cy 2, .object "UmbrellaLand$Umbrella"), (cy 3, .object "UmbrellaLand$Citizen")]
section RWR
variable (cy : Nat → ClassId) (ad : Nat → Nat) (σ : Sg)
theorem RW_ob : (RW cy ad σ)[0]? = some (ad 0, .inr (1, obF ad (σ 0))) := WD_get (by decide) rfl
theorem RW_rn : (RW cy ad σ)[1]? = some (ad 1, .inl (cy 0, 24, .inl (σ 1))) := WD_get (by decide) rfl
theorem RW_as : (RW cy ad σ)[2]? = some (ad 2, .inl (cy 1, 8, .inr (.inr (.inr (.inr (fun i => some (ad (5 + i)))))))) := WD_get (by decide) rfl
theorem RW_au : (RW cy ad σ)[3]? = some (ad 3, .inl (cy 2, 40, .inr (.inr (.inr (.inr (fun i => some (ad (13 + i)))))))) := WD_get (by decide) rfl
theorem RW_ac : (RW cy ad σ)[4]? = some (ad 4, .inl (cy 3, 10, .inr (.inr (.inr (.inr (fun i => some (ad (53 + i)))))))) := WD_get (by decide) rfl
theorem RC_sh {i : Nat} (hi : i < 8) (f : Nat → Int32) : RC cy ad (5 + i) f = .inr (2, shF f) := by
  unfold RC
  rw [if_neg (by omega), if_neg (by omega), if_neg (by omega), if_neg (by omega), if_neg (by omega), if_pos (by omega)]
theorem RC_um {i : Nat} (hi : i < 40) (f : Nat → Int32) : RC cy ad (13 + i) f = .inr (3, umF f) := by
  unfold RC
  rw [if_neg (by omega), if_neg (by omega), if_neg (by omega), if_neg (by omega), if_neg (by omega), if_neg (by omega), if_pos (by omega)]
theorem RC_ci {i : Nat} (hi : i < 10) (f : Nat → Int32) : RC cy ad (53 + i) f = .inr (0, ciF f) := by
  unfold RC
  rw [if_neg (by omega), if_neg (by omega), if_neg (by omega), if_neg (by omega), if_neg (by omega), if_neg (by omega), if_neg (by omega)]
theorem RW_sh {i : Nat} (hi : i < 8) : (RW cy ad σ)[5 + i]? = some (ad (5 + i), .inr (2, shF (σ (5 + i)))) := WD_get (by omega) (RC_sh cy ad hi _)
theorem RW_um {i : Nat} (hi : i < 40) : (RW cy ad σ)[13 + i]? = some (ad (13 + i), .inr (3, umF (σ (13 + i)))) := WD_get (by omega) (RC_um cy ad hi _)
theorem RW_ci {i : Nat} (hi : i < 10) : (RW cy ad σ)[53 + i]? = some (ad (53 + i), .inr (0, ciF (σ (53 + i)))) := WD_get (by omega) (RC_ci cy ad hi _)
end RWR
theorem shF_set (f : Nat → Int32) (v : Int32) : ∀ k, k < 7 → (shF f).set k (.int v) = shF (upd f k v)
  | 0, _ => rfl
  | 1, _ => rfl
  | 2, _ => rfl
  | 3, _ => rfl
  | 4, _ => rfl
  | 5, _ => rfl
  | 6, _ => rfl
  | k + 7, h => absurd h (by omega)
theorem umF_set (f : Nat → Int32) (v : Int32) : ∀ k, k < 6 → (umF f).set k (.int v) = umF (upd f k v)
  | 0, _ => rfl
  | 1, _ => rfl
  | 2, _ => rfl
  | 3, _ => rfl
  | 4, _ => rfl
  | 5, _ => rfl
  | k + 6, h => absurd h (by omega)
theorem ciF_set (f : Nat → Int32) (v : Int32) : ∀ k, k < 15 → (ciF f).set k (.int v) = ciF (upd f k v)
  | 0, _ => rfl
  | 1, _ => rfl
  | 2, _ => rfl
  | 3, _ => rfl
  | 4, _ => rfl
  | 5, _ => rfl
  | 6, _ => rfl
  | 7, _ => rfl
  | 8, _ => rfl
  | 9, _ => rfl
  | 10, _ => rfl
  | 11, _ => rfl
  | 12, _ => rfl
  | 13, _ => rfl
  | 14, _ => rfl
  | k + 15, h => absurd h (by omega)
theorem obF_set (ad : Nat → Nat) (f : Nat → Int32) (v : Int32) : ∀ k, 4 ≤ k → k < 9 → (obF ad f).set k (.int v) = obF ad (upd f k v)
  | 0, h, _ => absurd h (by omega)
  | 1, h, _ => absurd h (by omega)
  | 2, h, _ => absurd h (by omega)
  | 3, h, _ => absurd h (by omega)
  | 4, _, _ => rfl
  | 5, _, _ => rfl
  | 6, _, _ => rfl
  | 7, _, _ => rfl
  | 8, _, _ => rfl
  | k + 9, _, h => absurd h (by omega)
section RWS
variable (cy : Nat → ClassId) (ad : Nat → Nat) (σ : Sg)
theorem RW_ob_set (k : Nat) (h : 4 ≤ k ∧ k < 9) (v : Int32) : (RW cy ad σ).set 0 (ad 0, .inr (1, (obF ad (σ 0)).set k (.int v))) = RW cy ad (up σ 0 k v) := WD_set (by rw [obF_set _ _ _ k h.1 h.2]; rfl)
theorem RW_rn_set (k : Nat) (v : Int32) : (RW cy ad σ).set 1 (ad 1, .inl (cy 0, 24, .inl (upd (σ 1) k v))) = RW cy ad (up σ 1 k v) := WD_set rfl
theorem RW_sh_set {i : Nat} (hi : i < 8) (k : Nat) (h : k < 7) (v : Int32) : (RW cy ad σ).set (5 + i) (ad (5 + i), .inr (2, (shF (σ (5 + i))).set k (.int v))) = RW cy ad (up σ (5 + i) k v) := WD_set (by rw [shF_set _ _ k h]; exact RC_sh cy ad hi _)
theorem RW_um_set {i : Nat} (hi : i < 40) (k : Nat) (h : k < 6) (v : Int32) : (RW cy ad σ).set (13 + i) (ad (13 + i), .inr (3, (umF (σ (13 + i))).set k (.int v))) = RW cy ad (up σ (13 + i) k v) := WD_set (by rw [umF_set _ _ k h]; exact RC_um cy ad hi _)
theorem RW_ci_set {i : Nat} (hi : i < 10) (k : Nat) (h : k < 15) (v : Int32) : (RW cy ad σ).set (53 + i) (ad (53 + i), .inr (0, (ciF (σ (53 + i))).set k (.int v))) = RW cy ad (up σ (53 + i) k v) := WD_set (by rw [ciF_set _ _ k h]; exact RC_ci cy ad hi _)
end RWS
def w0 : Unit → va_W := fun _ => []
abbrev m_max (x y : Int32) : Int32 := if x < y then y else x
abbrev m_min (x y : Int32) : Int32 := if y < x then y else x
abbrev m_abs (x : Int32) : Int32 := if 0 ≤ x then x else 0 - x
theorem tn_nI {n : Nat} (h : n < 2 ^ 31) : tn (nI n) = n := nI_clamp h
theorem tn_eq {x : Int32} {n : Nat} (h : vp_in x n) (hn : n < 2 ^ 31) : x = nI (tn x) := by
  obtain ⟨j, hj, rfl⟩ := vp_in_of h hn
  rw [tn_nI (by omega)]
theorem ts_out (n : Nat) (hn : n < 2 ^ 31) (x : Int32) (h : ∀ j, j < n → ¬ x = nI j) : x.toInt < 0 ∨ (n : Int) - 1 < x.toInt := by
  by_cases h0 : x.toInt < 0
  · exact Or.inl h0
  · by_cases h1 : (n : Int) - 1 < x.toInt
    · exact Or.inr h1
    · obtain ⟨j, hj, e⟩ := vp_in_of (vp_in_iff.mpr ⟨by omega, by omega⟩ : vp_in x n) hn
      exact absurd e (h j hj)
/-! counts are in their bounds -/
def OkR (σ : Sg) : Prop := (σ 0 5 = nI (tn (σ 0 5)) ∧ tn (σ 0 5) ≤ 8) ∧ (σ 0 6 = nI (tn (σ 0 6)) ∧ tn (σ 0 6) ≤ 40) ∧ (σ 0 7 = nI (tn (σ 0 7)) ∧ tn (σ 0 7) ≤ 10)
theorem OkR.c5 {σ : Sg} (h : OkR σ) : σ 0 5 = nI (tn (σ 0 5)) := h.1.1
theorem OkR.n5 {σ : Sg} (h : OkR σ) : tn (σ 0 5) ≤ 8 := h.1.2
theorem OkR.c6 {σ : Sg} (h : OkR σ) : σ 0 6 = nI (tn (σ 0 6)) := h.2.1.1
theorem OkR.n6 {σ : Sg} (h : OkR σ) : tn (σ 0 6) ≤ 40 := h.2.1.2
theorem OkR.c7 {σ : Sg} (h : OkR σ) : σ 0 7 = nI (tn (σ 0 7)) := h.2.2.1
theorem OkR.n7 {σ : Sg} (h : OkR σ) : tn (σ 0 7) ≤ 10 := h.2.2.2
theorem OkR.mv {σ τ : Sg} (h : OkR σ) (hz : τ 0 = σ 0) : OkR τ := by unfold OkR; rw [hz]; exact h
theorem OkR_upn {σ u : Sg} {p k : Nat} {v : Int32} (e : u = up σ p k v) (hp : p ≠ 0) (h : OkR σ) : OkR u := h.mv (by rw [e]; exact up_row_ne σ k v (fun q => hp q.symm))
theorem OkR_up0 {σ u : Sg} {k : Nat} {v : Int32} (e : u = up σ 0 k v) (hk : k ≠ 5 ∧ k ≠ 6 ∧ k ≠ 7) (h : OkR σ) : OkR u := by
  have h5 : u 0 5 = σ 0 5 := by rw [e]; exact up_ne σ v (fun q => hk.1 q.2.symm)
  have h6 : u 0 6 = σ 0 6 := by rw [e]; exact up_ne σ v (fun q => hk.2.1 q.2.symm)
  have h7 : u 0 7 = σ 0 7 := by rw [e]; exact up_ne σ v (fun q => hk.2.2 q.2.symm)
  unfold OkR
  rw [h5, h6, h7]
  exact h
theorem z_up {σ u : Sg} {b : Nat → Int32} {p k : Nat} {v : Int32} (e : u = up σ p k v) (hp : p ≠ 0) (hz : σ 0 = b) : u 0 = b := by
  rw [e, up_row_ne σ k v (fun q => hp q.symm)]; exact hz
