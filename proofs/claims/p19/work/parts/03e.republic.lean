/-! a whole row is written -/
def upr (σ : Sg) (p : Nat) (g : Nat → Int32) : Sg := fun a b => if a = p then g b else σ a b
theorem upr_row (σ : Sg) (p : Nat) (g : Nat → Int32) : (upr σ p g) p = g := by funext b; simp [upr]
theorem upr_ne (σ : Sg) {p q : Nat} (g : Nat → Int32) (h : q ≠ p) : (upr σ p g) q = σ q := by funext b; simp [upr, h]
theorem WD_setr {n p : Nat} {rc : Nat → (Nat → Int32) → va_E} {ad : Nat → Nat} {σ : Sg} {g : Nat → Int32} {e : va_E} (he : rc p g = e) : (WD n rc ad σ).set p (ad p, e) = WD n rc ad (upr σ p g) := by
  apply List.ext_getElem?
  intro i
  rw [List.getElem?_set]
  simp only [WD, List.length_map, List.length_range, List.getElem?_map]
  by_cases hi : p = i
  · subst hi
    rw [if_pos rfl]
    by_cases hl : p < n
    · rw [if_pos hl, List.getElem?_range hl, Option.map_some, upr_row, he]
    · rw [if_neg hl, List.getElem?_eq_none (by simpa using Nat.not_lt.mp hl)]
      rfl
  · rw [if_neg hi]
    cases h : (List.range n)[i]? with
    | none => rfl
    | some j =>
      have hj : j = i := by
        have h1 := List.getElem?_eq_some_iff.mp h
        obtain ⟨h2, h3⟩ := h1
        rw [List.getElem_range] at h3
        exact h3.symm
      rw [Option.map_some, Option.map_some, upr_ne σ g (fun h => hi (by rw [← h, hj]))]
theorem RW_rn_setr (cy : Nat → ClassId) (ad : Nat → Nat) (σ : Sg) (g : Nat → Int32) : (RW cy ad σ).set 1 (ad 1, .inl (cy 0, 24, .inl g)) = RW cy ad (upr σ 1 g) := WD_setr rfl
abbrev RW2 (cy : Nat → ClassId) (ad ad2 : Nat → Nat) (u : Sg × Sg) : va_W := RW cy ad u.1 ++ RW cy ad2 u.2
section GCY
variable {p : Program} {l : Launch} {e : Env} {R : Room} {s : State} {m : MethodId} {args : Array Value} {below : List Frame} {meth : Method} {c : Code} {H : Heap} {locs : List Loc} {cells slots : Nat} {Q : State → Prop}
variable {pc : Nat} {ls : Array Slot} {rest st0 : List Value} {A : Nat → Prop} {H0 : Heap} {cc : ByteArray} {D : va_G} {tys : List (ClassId × FieldType)} {a : Nat}
theorem g_copyi {S : Type} {wf : S → va_W} {σ σ1 : S} (hx : p.tables.exec = Jvm.exec) (hb : c.code = cc) (hml : c.maxLocals = ls.size) {own : String} {index : Nat} (hown : s.vm.findClass own = some m.cls) (hlink : (Cond.methodLink own index arraycopyName).before args s = true) (hnat : (Cond.native arraycopyName).before args s = true) (hstat : (Cond.static arraycopyName).before args s = true) (hini : (Cond.initialized "java/lang/System").before args s = true)
    (hK : va_K D vwCl tys s) (hP : va_P D vwCl (wf σ) H) (hD : va_D A (wf σ)) (hS : va_S A H0 H locs) (q0 q1 t0 t1 : Nat) {a0 : Nat} {c0 c1 : ClassId} {n0 n1 : Nat} {f g : Nat → Int32} (ha0 : (wf σ)[q0]? = some (a0, .inl (c0, n0, .inl f))) (ha1 : (wf σ)[q1]? = some (a, .inl (c1, n1, .inl g))) (ht0 : tys[t0]? = some (c0, .int)) (ht1 : tys[t1]? = some (c1, .int))
    {sp dp n : Nat} (h4 : sp + n ≤ n0 ∧ n0 < 2 ^ 31) (h5 : dp + n ≤ n1 ∧ n1 < 2 ^ 31)
    (hframes : 1 ≤ R.frames) (hlocals : (rest.map fun v => v.category).sum + 18 ≤ R.locals) (hset : (wf σ).set q1 (a, .inl (c1, n1, .inl (va_cpy f g sp dp n))) = wf σ1) (hdg : decode cc pc = .ok (.invokestatic index, 3))
    (kk : ∀ u : S, u = σ1 → ∀ (H1 : Heap) (locs1 : List Loc), va_P D vwCl (wf u) H1 → va_D A (wf u) → va_S A H0 H1 locs1 → W p l e R s m args below meth c H1 locs1 cells slots Q (F0 m (pc + 3) ls rest)) : W p l e R s m args below meth c H locs cells slots Q (F0 m pc ls (.int (nI n) :: .int (nI dp) :: .ref a :: .int (nI sp) :: .ref a0 :: rest)) := by
  have e1 : (nI sp).toNatClampNeg = sp := nI_clamp (by omega)
  have e2 : (nI dp).toNatClampNeg = dp := nI_clamp (by omega)
  have e3 : (nI n).toNatClampNeg = n := nI_clamp (by omega)
  refine va_copyi (ty := .int) hx hb hml hown hlink hnat hstat hini hK hP hD hS q0 q1 t0 t1 ha0 ha1 ht0 ht1 rfl (nI_pos (by omega)) (nI_pos (by omega)) (nI_pos (by omega)) (by rw [e1, e3]; exact h4.1) (by rw [e2, e3]; exact h5.1) (fun _ _ => rfl) hframes hlocals hdg ?_
  rw [e1, e2, e3, hset]
  exact fun H1 locs1 h1 h2 h3 => kk σ1 rfl H1 locs1 h1 h2 h3
end GCY
def JB (σ τ : Sg × Sg) : Prop := τ.1 = σ.1 ∧ τ.2 0 5 = nI (tn (σ.1 0 5)) ∧ τ.2 0 6 = nI (tn (σ.1 0 6)) ∧ τ.2 0 7 = nI (tn (σ.1 0 7))
theorem JB_of {σ τ u : Sg × Sg} (h : JB σ τ) (z : u.1 = τ.1 ∧ u.2 0 = τ.2 0) : JB σ u := by
  unfold JB
  rw [z.1, z.2]
  exact h
def s_X3_tell (σ : Sg) (i : Nat) (x : Int32) : Int32 := if x = nI 0 then σ (13 + i) 0 else if x = nI 1 then σ (13 + i) 1 else if x = nI 2 then σ (13 + i) 2 else if x = nI 3 then σ (13 + i) 3 else if x = nI 4 then σ (13 + i) 4 else σ (13 + i) 5
abbrev rm_X3_tell : Room := { frames := 0, cells := 0, slots := 0, locals := 0 }
set_option maxHeartbeats 4000000 in
set_option maxRecDepth 100000 in
theorem c_X3_tell (l : Launch) (D : va_G) (cy : Nat → ClassId) (ad : Nat → Nat) (σ : Sg) (i : Nat) (x : Int32) (hi : i < 40) : gMr l yX3_tell wsX3_tell rm_X3_tell D (Ty cy) (RW cy ad) [.ref (ad (13 + i)), .int (x)] σ (s_X3_tell σ i x) 0 0 := by
  refine gstarti cX3_tell 2 RX3 (by decide) rfl rfl (Nat.le_of_ble_eq_true rfl) ?_
  intro p e s m below meth c A ls hx hb hml hown hts hr hlocks hK hP hD hA hS hl
  have hl : lv_has ls 2 [(0, .ref (ad (13 + i))), (1, .int (x))] := hl
  have hf : s_X3_tell σ i x = s_X3_tell σ i x := rfl
  have hin3 : ∀ w ∈ wsX30, w ∈ wsX3_tell := by decide +kernel
  have wd0 := hts (.fieldLink RX3 25 "UmbrellaLand$Umbrella" "state" "I") (by decide +kernel)
  have wd1 := hts (.fieldLink RX3 28 "UmbrellaLand$Umbrella" "holder" "I") (by decide +kernel)
  have wd2 := hts (.fieldLink RX3 9 "UmbrellaLand$Umbrella" "wear" "I") (by decide +kernel)
  have wd3 := hts (.fieldLink RX3 31 "UmbrellaLand$Umbrella" "waits" "I") (by decide +kernel)
  have wd4 := hts (.fieldLink RX3 15 "UmbrellaLand$Umbrella" "taken" "I") (by decide +kernel)
  have wd5 := hts (.fieldLink RX3 18 "UmbrellaLand$Umbrella" "takenFrom" "I") (by decide +kernel)
  refine lv_iload_n hx hb dX3_tell_0 rfl (lv_at hl 1 rfl) ?_
  by_cases c1 : x = nI 0
  · replace hf := hf.trans (if_pos c1)
    refine lv_tableIn (off := 35) (tgt := 36) hx hb dX3_tell_1 (by rw [c1]; decide) (by rw [c1]; decide) (by rw [c1]; rfl) (by decide) ?_
    refine lv_aload_n hx hb dX3_tell_36 rfl (lv_at hl 0 rfl) ?_
    refine va_get (D := D) (ci := 3) (v := .int (σ (13 + i) 0)) (C := RX3) (T := TX3) (N := 6) hx hb hts hin3 hown hK hP (13 + i) (RW_um cy ad σ hi) rfl 0 (by decide) wd0 (fun _ h9 => h9) rfl dX3_tell_37 ?_
    exact g_endi hx hb hr hlocks rfl (congrArg (fun r => (r, σ)) hf) hP hD hS (Nat.le_of_ble_eq_true rfl) (Nat.le_of_ble_eq_true rfl) dX3_tell_40
  replace hf := hf.trans (if_neg c1)
  by_cases c2 : x = nI 1
  · replace hf := hf.trans (if_pos c2)
    refine lv_tableIn (off := 40) (tgt := 41) hx hb dX3_tell_1 (by rw [c2]; decide) (by rw [c2]; decide) (by rw [c2]; rfl) (by decide) ?_
    refine lv_aload_n hx hb dX3_tell_41 rfl (lv_at hl 0 rfl) ?_
    refine va_get (D := D) (ci := 3) (v := .int (σ (13 + i) 1)) (C := RX3) (T := TX3) (N := 6) hx hb hts hin3 hown hK hP (13 + i) (RW_um cy ad σ hi) rfl 1 (by decide) wd1 (fun _ h9 => h9) rfl dX3_tell_42 ?_
    exact g_endi hx hb hr hlocks rfl (congrArg (fun r => (r, σ)) hf) hP hD hS (Nat.le_of_ble_eq_true rfl) (Nat.le_of_ble_eq_true rfl) dX3_tell_45
  replace hf := hf.trans (if_neg c2)
  by_cases c3 : x = nI 2
  · replace hf := hf.trans (if_pos c3)
    refine lv_tableIn (off := 45) (tgt := 46) hx hb dX3_tell_1 (by rw [c3]; decide) (by rw [c3]; decide) (by rw [c3]; rfl) (by decide) ?_
    refine lv_aload_n hx hb dX3_tell_46 rfl (lv_at hl 0 rfl) ?_
    refine va_get (D := D) (ci := 3) (v := .int (σ (13 + i) 2)) (C := RX3) (T := TX3) (N := 6) hx hb hts hin3 hown hK hP (13 + i) (RW_um cy ad σ hi) rfl 2 (by decide) wd2 (fun _ h9 => h9) rfl dX3_tell_47 ?_
    exact g_endi hx hb hr hlocks rfl (congrArg (fun r => (r, σ)) hf) hP hD hS (Nat.le_of_ble_eq_true rfl) (Nat.le_of_ble_eq_true rfl) dX3_tell_50
  replace hf := hf.trans (if_neg c3)
  by_cases c4 : x = nI 3
  · replace hf := hf.trans (if_pos c4)
    refine lv_tableIn (off := 50) (tgt := 51) hx hb dX3_tell_1 (by rw [c4]; decide) (by rw [c4]; decide) (by rw [c4]; rfl) (by decide) ?_
    refine lv_aload_n hx hb dX3_tell_51 rfl (lv_at hl 0 rfl) ?_
    refine va_get (D := D) (ci := 3) (v := .int (σ (13 + i) 3)) (C := RX3) (T := TX3) (N := 6) hx hb hts hin3 hown hK hP (13 + i) (RW_um cy ad σ hi) rfl 3 (by decide) wd3 (fun _ h9 => h9) rfl dX3_tell_52 ?_
    exact g_endi hx hb hr hlocks rfl (congrArg (fun r => (r, σ)) hf) hP hD hS (Nat.le_of_ble_eq_true rfl) (Nat.le_of_ble_eq_true rfl) dX3_tell_55
  replace hf := hf.trans (if_neg c4)
  by_cases c5 : x = nI 4
  · replace hf := hf.trans (if_pos c5)
    refine lv_tableIn (off := 55) (tgt := 56) hx hb dX3_tell_1 (by rw [c5]; decide) (by rw [c5]; decide) (by rw [c5]; rfl) (by decide) ?_
    refine lv_aload_n hx hb dX3_tell_56 rfl (lv_at hl 0 rfl) ?_
    refine va_get (D := D) (ci := 3) (v := .int (σ (13 + i) 4)) (C := RX3) (T := TX3) (N := 6) hx hb hts hin3 hown hK hP (13 + i) (RW_um cy ad σ hi) rfl 4 (by decide) wd4 (fun _ h9 => h9) rfl dX3_tell_57 ?_
    exact g_endi hx hb hr hlocks rfl (congrArg (fun r => (r, σ)) hf) hP hD hS (Nat.le_of_ble_eq_true rfl) (Nat.le_of_ble_eq_true rfl) dX3_tell_60
  replace hf := hf.trans (if_neg c5)
  refine lv_tableOut (tgt := 61) hx hb dX3_tell_1 (ts_out 5 (by decide) _ (lt_s (lt_s (lt_s (lt_s (lt_s lt_0 c1) c2) c3) c4) c5)) (by decide) ?_
  refine lv_aload_n hx hb dX3_tell_61 rfl (lv_at hl 0 rfl) ?_
  refine va_get (D := D) (ci := 3) (v := .int (σ (13 + i) 5)) (C := RX3) (T := TX3) (N := 6) hx hb hts hin3 hown hK hP (13 + i) (RW_um cy ad σ hi) rfl 5 (by decide) wd5 (fun _ h9 => h9) rfl dX3_tell_62 ?_
  exact g_endi hx hb hr hlocks rfl (congrArg (fun r => (r, σ)) hf) hP hD hS (Nat.le_of_ble_eq_true rfl) (Nat.le_of_ble_eq_true rfl) dX3_tell_65
def s_X0_tell (σ : Sg) (i : Nat) (x : Int32) : Int32 := if x = nI 0 then σ (53 + i) 0 else if x = nI 1 then σ (53 + i) 1 else if x = nI 2 then σ (53 + i) 6 else if x = nI 3 then σ (53 + i) 8 else if x = nI 4 then σ (53 + i) 9 else if x = nI 5 then σ (53 + i) 10 else if x = nI 6 then σ (53 + i) 11 else if x = nI 7 then σ (53 + i) 12 else if x = nI 8 then σ (53 + i) 13 else σ (53 + i) 14
abbrev rm_X0_tell : Room := { frames := 0, cells := 0, slots := 0, locals := 0 }
set_option maxHeartbeats 4000000 in
set_option maxRecDepth 100000 in
theorem c_X0_tell (l : Launch) (D : va_G) (cy : Nat → ClassId) (ad : Nat → Nat) (σ : Sg) (i : Nat) (x : Int32) (hi : i < 10) : gMr l yX0_tell wsX0_tell rm_X0_tell D (Ty cy) (RW cy ad) [.ref (ad (53 + i)), .int (x)] σ (s_X0_tell σ i x) 0 0 := by
  refine gstarti cX0_tell 2 RX0 (by decide) rfl rfl (Nat.le_of_ble_eq_true rfl) ?_
  intro p e s m below meth c A ls hx hb hml hown hts hr hlocks hK hP hD hA hS hl
  have hl : lv_has ls 2 [(0, .ref (ad (53 + i))), (1, .int (x))] := hl
  have hf : s_X0_tell σ i x = s_X0_tell σ i x := rfl
  have hin0 : ∀ w ∈ wsX00, w ∈ wsX0_tell := by decide +kernel
  have wd0 := hts (.fieldLink RX0 9 "UmbrellaLand$Citizen" "home" "I") (by decide +kernel)
  have wd1 := hts (.fieldLink RX0 15 "UmbrellaLand$Citizen" "work" "I") (by decide +kernel)
  have wd2 := hts (.fieldLink RX0 21 "UmbrellaLand$Citizen" "stays" "I") (by decide +kernel)
  have wd3 := hts (.fieldLink RX0 42 "UmbrellaLand$Citizen" "hoursToWalk" "I") (by decide +kernel)
  have wd4 := hts (.fieldLink RX0 27 "UmbrellaLand$Citizen" "inHand" "I") (by decide +kernel)
  have wd5 := hts (.fieldLink RX0 30 "UmbrellaLand$Citizen" "trust" "I") (by decide +kernel)
  have wd6 := hts (.fieldLink RX0 45 "UmbrellaLand$Citizen" "wet" "I") (by decide +kernel)
  have wd7 := hts (.fieldLink RX0 48 "UmbrellaLand$Citizen" "taken" "I") (by decide +kernel)
  have wd8 := hts (.fieldLink RX0 51 "UmbrellaLand$Citizen" "forgotten" "I") (by decide +kernel)
  have wd9 := hts (.fieldLink RX0 54 "UmbrellaLand$Citizen" "refused" "I") (by decide +kernel)
  refine lv_iload_n hx hb dX0_tell_0 rfl (lv_at hl 1 rfl) ?_
  by_cases c1 : x = nI 0
  · replace hf := hf.trans (if_pos c1)
    refine lv_tableIn (off := 51) (tgt := 52) hx hb dX0_tell_1 (by rw [c1]; decide) (by rw [c1]; decide) (by rw [c1]; rfl) (by decide) ?_
    refine lv_aload_n hx hb dX0_tell_52 rfl (lv_at hl 0 rfl) ?_
    refine va_get (D := D) (ci := 0) (v := .int (σ (53 + i) 0)) (C := RX0) (T := TX0) (N := 15) hx hb hts hin0 hown hK hP (53 + i) (RW_ci cy ad σ hi) rfl 0 (by decide) wd0 (fun _ h9 => h9) rfl dX0_tell_53 ?_
    exact g_endi hx hb hr hlocks rfl (congrArg (fun r => (r, σ)) hf) hP hD hS (Nat.le_of_ble_eq_true rfl) (Nat.le_of_ble_eq_true rfl) dX0_tell_56
  replace hf := hf.trans (if_neg c1)
  by_cases c2 : x = nI 1
  · replace hf := hf.trans (if_pos c2)
    refine lv_tableIn (off := 56) (tgt := 57) hx hb dX0_tell_1 (by rw [c2]; decide) (by rw [c2]; decide) (by rw [c2]; rfl) (by decide) ?_
    refine lv_aload_n hx hb dX0_tell_57 rfl (lv_at hl 0 rfl) ?_
    refine va_get (D := D) (ci := 0) (v := .int (σ (53 + i) 1)) (C := RX0) (T := TX0) (N := 15) hx hb hts hin0 hown hK hP (53 + i) (RW_ci cy ad σ hi) rfl 1 (by decide) wd1 (fun _ h9 => h9) rfl dX0_tell_58 ?_
    exact g_endi hx hb hr hlocks rfl (congrArg (fun r => (r, σ)) hf) hP hD hS (Nat.le_of_ble_eq_true rfl) (Nat.le_of_ble_eq_true rfl) dX0_tell_61
  replace hf := hf.trans (if_neg c2)
  by_cases c3 : x = nI 2
  · replace hf := hf.trans (if_pos c3)
    refine lv_tableIn (off := 61) (tgt := 62) hx hb dX0_tell_1 (by rw [c3]; decide) (by rw [c3]; decide) (by rw [c3]; rfl) (by decide) ?_
    refine lv_aload_n hx hb dX0_tell_62 rfl (lv_at hl 0 rfl) ?_
    refine va_get (D := D) (ci := 0) (v := .int (σ (53 + i) 6)) (C := RX0) (T := TX0) (N := 15) hx hb hts hin0 hown hK hP (53 + i) (RW_ci cy ad σ hi) rfl 6 (by decide) wd2 (fun _ h9 => h9) rfl dX0_tell_63 ?_
    exact g_endi hx hb hr hlocks rfl (congrArg (fun r => (r, σ)) hf) hP hD hS (Nat.le_of_ble_eq_true rfl) (Nat.le_of_ble_eq_true rfl) dX0_tell_66
  replace hf := hf.trans (if_neg c3)
  by_cases c4 : x = nI 3
  · replace hf := hf.trans (if_pos c4)
    refine lv_tableIn (off := 66) (tgt := 67) hx hb dX0_tell_1 (by rw [c4]; decide) (by rw [c4]; decide) (by rw [c4]; rfl) (by decide) ?_
    refine lv_aload_n hx hb dX0_tell_67 rfl (lv_at hl 0 rfl) ?_
    refine va_get (D := D) (ci := 0) (v := .int (σ (53 + i) 8)) (C := RX0) (T := TX0) (N := 15) hx hb hts hin0 hown hK hP (53 + i) (RW_ci cy ad σ hi) rfl 8 (by decide) wd3 (fun _ h9 => h9) rfl dX0_tell_68 ?_
    exact g_endi hx hb hr hlocks rfl (congrArg (fun r => (r, σ)) hf) hP hD hS (Nat.le_of_ble_eq_true rfl) (Nat.le_of_ble_eq_true rfl) dX0_tell_71
  replace hf := hf.trans (if_neg c4)
  by_cases c5 : x = nI 4
  · replace hf := hf.trans (if_pos c5)
    refine lv_tableIn (off := 71) (tgt := 72) hx hb dX0_tell_1 (by rw [c5]; decide) (by rw [c5]; decide) (by rw [c5]; rfl) (by decide) ?_
    refine lv_aload_n hx hb dX0_tell_72 rfl (lv_at hl 0 rfl) ?_
    refine va_get (D := D) (ci := 0) (v := .int (σ (53 + i) 9)) (C := RX0) (T := TX0) (N := 15) hx hb hts hin0 hown hK hP (53 + i) (RW_ci cy ad σ hi) rfl 9 (by decide) wd4 (fun _ h9 => h9) rfl dX0_tell_73 ?_
    exact g_endi hx hb hr hlocks rfl (congrArg (fun r => (r, σ)) hf) hP hD hS (Nat.le_of_ble_eq_true rfl) (Nat.le_of_ble_eq_true rfl) dX0_tell_76
  replace hf := hf.trans (if_neg c5)
  by_cases c6 : x = nI 5
  · replace hf := hf.trans (if_pos c6)
    refine lv_tableIn (off := 76) (tgt := 77) hx hb dX0_tell_1 (by rw [c6]; decide) (by rw [c6]; decide) (by rw [c6]; rfl) (by decide) ?_
    refine lv_aload_n hx hb dX0_tell_77 rfl (lv_at hl 0 rfl) ?_
    refine va_get (D := D) (ci := 0) (v := .int (σ (53 + i) 10)) (C := RX0) (T := TX0) (N := 15) hx hb hts hin0 hown hK hP (53 + i) (RW_ci cy ad σ hi) rfl 10 (by decide) wd5 (fun _ h9 => h9) rfl dX0_tell_78 ?_
    exact g_endi hx hb hr hlocks rfl (congrArg (fun r => (r, σ)) hf) hP hD hS (Nat.le_of_ble_eq_true rfl) (Nat.le_of_ble_eq_true rfl) dX0_tell_81
  replace hf := hf.trans (if_neg c6)
  by_cases c7 : x = nI 6
  · replace hf := hf.trans (if_pos c7)
    refine lv_tableIn (off := 81) (tgt := 82) hx hb dX0_tell_1 (by rw [c7]; decide) (by rw [c7]; decide) (by rw [c7]; rfl) (by decide) ?_
    refine lv_aload_n hx hb dX0_tell_82 rfl (lv_at hl 0 rfl) ?_
    refine va_get (D := D) (ci := 0) (v := .int (σ (53 + i) 11)) (C := RX0) (T := TX0) (N := 15) hx hb hts hin0 hown hK hP (53 + i) (RW_ci cy ad σ hi) rfl 11 (by decide) wd6 (fun _ h9 => h9) rfl dX0_tell_83 ?_
    exact g_endi hx hb hr hlocks rfl (congrArg (fun r => (r, σ)) hf) hP hD hS (Nat.le_of_ble_eq_true rfl) (Nat.le_of_ble_eq_true rfl) dX0_tell_86
  replace hf := hf.trans (if_neg c7)
  by_cases c8 : x = nI 7
  · replace hf := hf.trans (if_pos c8)
    refine lv_tableIn (off := 86) (tgt := 87) hx hb dX0_tell_1 (by rw [c8]; decide) (by rw [c8]; decide) (by rw [c8]; rfl) (by decide) ?_
    refine lv_aload_n hx hb dX0_tell_87 rfl (lv_at hl 0 rfl) ?_
    refine va_get (D := D) (ci := 0) (v := .int (σ (53 + i) 12)) (C := RX0) (T := TX0) (N := 15) hx hb hts hin0 hown hK hP (53 + i) (RW_ci cy ad σ hi) rfl 12 (by decide) wd7 (fun _ h9 => h9) rfl dX0_tell_88 ?_
    exact g_endi hx hb hr hlocks rfl (congrArg (fun r => (r, σ)) hf) hP hD hS (Nat.le_of_ble_eq_true rfl) (Nat.le_of_ble_eq_true rfl) dX0_tell_91
  replace hf := hf.trans (if_neg c8)
  by_cases c9 : x = nI 8
  · replace hf := hf.trans (if_pos c9)
    refine lv_tableIn (off := 91) (tgt := 92) hx hb dX0_tell_1 (by rw [c9]; decide) (by rw [c9]; decide) (by rw [c9]; rfl) (by decide) ?_
    refine lv_aload_n hx hb dX0_tell_92 rfl (lv_at hl 0 rfl) ?_
    refine va_get (D := D) (ci := 0) (v := .int (σ (53 + i) 13)) (C := RX0) (T := TX0) (N := 15) hx hb hts hin0 hown hK hP (53 + i) (RW_ci cy ad σ hi) rfl 13 (by decide) wd8 (fun _ h9 => h9) rfl dX0_tell_93 ?_
    exact g_endi hx hb hr hlocks rfl (congrArg (fun r => (r, σ)) hf) hP hD hS (Nat.le_of_ble_eq_true rfl) (Nat.le_of_ble_eq_true rfl) dX0_tell_96
  replace hf := hf.trans (if_neg c9)
  refine lv_tableOut (tgt := 97) hx hb dX0_tell_1 (ts_out 9 (by decide) _ (lt_s (lt_s (lt_s (lt_s (lt_s (lt_s (lt_s (lt_s (lt_s lt_0 c1) c2) c3) c4) c5) c6) c7) c8) c9)) (by decide) ?_
  refine lv_aload_n hx hb dX0_tell_97 rfl (lv_at hl 0 rfl) ?_
  refine va_get (D := D) (ci := 0) (v := .int (σ (53 + i) 14)) (C := RX0) (T := TX0) (N := 15) hx hb hts hin0 hown hK hP (53 + i) (RW_ci cy ad σ hi) rfl 14 (by decide) wd9 (fun _ h9 => h9) rfl dX0_tell_98 ?_
  exact g_endi hx hb hr hlocks rfl (congrArg (fun r => (r, σ)) hf) hP hD hS (Nat.le_of_ble_eq_true rfl) (Nat.le_of_ble_eq_true rfl) dX0_tell_101
def s_X1_tellShelter (σ : Sg) (x : Int32) (y : Int32) : Int32 := ltt (s_X1_isShelter σ x) (fun r1 => if r1 = 0 then (-1 : Int32) else if y = nI 0 then σ (5 + (tn x)) 0 else if y = nI 1 then σ (5 + (tn x)) 1 else if y = nI 2 then ltt (s_X1_umbrellasIn σ x) (fun r7 => r7) else if y = nI 3 then ltt (s_X1_citizensIn σ x) (fun r9 => r9) else if y = nI 4 then σ (5 + (tn x)) 2 else if y = nI 5 then σ (5 + (tn x)) 3 else if y = nI 6 then σ (5 + (tn x)) 4 else ltt (s_X1_firstUmbrellaIn σ x) (fun r13 => r13))
abbrev rm_X1_tellShelter : Room := { frames := 2, cells := 0, slots := 0, locals := 45 }
set_option maxHeartbeats 4000000 in
set_option maxRecDepth 100000 in
theorem c_X1_tellShelter (l : Launch) (D : va_G) (cy : Nat → ClassId) (ad : Nat → Nat) (σ : Sg) (x : Int32) (y : Int32) (hI : OkR σ) : gMr l yX1_tellShelter wsX1_tellShelter rm_X1_tellShelter D (Ty cy) (RW cy ad) [.ref (ad 0), .int (x), .int (y)] σ (s_X1_tellShelter σ x y) 0 0 := by
  refine gstarti cX1_tellShelter 4 RX1 (by decide) rfl rfl (Nat.le_of_ble_eq_true rfl) ?_
  intro p e s m below meth c A ls hx hb hml hown hts hr hlocks hK hP hD hA hS hl
  have hl : lv_has ls 4 [(0, .ref (ad 0)), (1, .int (x)), (2, .int (y))] := hl
  have hf : s_X1_tellShelter σ x y = s_X1_tellShelter σ x y := rfl
  have hin1 : ∀ w ∈ wsX10, w ∈ wsX1_tellShelter := by decide +kernel
  have hin2 : ∀ w ∈ wsX20, w ∈ wsX1_tellShelter := by decide +kernel
  have wd0 := hts (.fieldLink RX1 17 "UmbrellaLand$Republic" "shelters" "[LUmbrellaLand$Shelter;") (by decide +kernel)
  have wd1 := hts (.fieldLink RX1 68 "UmbrellaLand$Shelter" "place" "I") (by decide +kernel)
  have wd2 := hts (.fieldLink RX1 148 "UmbrellaLand$Shelter" "demand" "I") (by decide +kernel)
  have wd3 := hts (.fieldLink RX1 169 "UmbrellaLand$Shelter" "taken" "I") (by decide +kernel)
  have wd4 := hts (.fieldLink RX1 222 "UmbrellaLand$Shelter" "forgotten" "I") (by decide +kernel)
  have wd5 := hts (.fieldLink RX1 225 "UmbrellaLand$Shelter" "refused" "I") (by decide +kernel)
  refine lv_aload_n hx hb dX1_tellShelter_0 rfl (lv_at hl 0 rfl) ?_
  refine lv_iload_n hx hb dX1_tellShelter_1 rfl (lv_at hl 1 rfl) ?_
  refine g_callr (q0 := 0) (wf := (RW cy ad)) (σ := σ) (wfc := (RW cy ad)) (σc := σ) hx hb hml hown hts hK hP hD hS hA hl.1 [] pm_0 [.int (x)] (c_X1_isShelter l D cy ad σ x ) (cwV 1 hts gX1_tellShelter_X1_isShelter rfl rfl rfl (by decide +kernel) ⟨Nat.le_of_ble_eq_true rfl, Nat.le_of_ble_eq_true rfl⟩) (RW_ob cy ad σ) rfl rfl rfl rfl (Nat.le_of_ble_eq_true rfl) dX1_tellShelter_2 ⟨Nat.le_of_ble_eq_true rfl, Nat.le_of_ble_eq_true rfl⟩ rfl rfl ?_
  intro r1 er1 H locs hP hD hS
  replace hf := hf.trans (ltt_r er1)
  refine lv_if_ne (tgt := 10) hx hb dX1_tellShelter_5 (by decide) (fun c2 => ?_) (fun c2 => ?_)
  · replace hf := hf.trans (if_neg c2)
    refine lv_aload_n hx hb dX1_tellShelter_10 rfl (lv_at hl 0 rfl) ?_
    refine va_get (D := D) (ci := 1) (v := .ref (ad 2)) (C := RX1) (T := TX1) (N := 9) hx hb hts hin1 hown hK hP (0) (RW_ob cy ad σ) rfl 1 (by decide) wd0 (fun _ h9 => h9) rfl dX1_tellShelter_11 ?_
    refine lv_iload_n hx hb dX1_tellShelter_14 rfl (lv_at hl 1 rfl) ?_
    have h3 : vp_in (x) 8 := in_sh hI (fun h9 => c2 (er1.trans h9))
    have h3b : tn x < 8 := tn_in h3
    refine g_aald (b := ad (5 + (tn x))) hx hb hK hP (2) 1 (tn x) (RW_as cy ad σ) rfl rfl h3 rfl dX1_tellShelter_15 ?_
    refine lv_astore_n (lv' := [(3, .ref (ad (5 + (tn x)))), (0, .ref (ad 0)), (1, .int (x)), (2, .int (y))]) hx hb dX1_tellShelter_16 rfl hl (by decide) rfl (fun ls hl => ?_)
    refine lv_iload_n hx hb dX1_tellShelter_17 rfl (lv_at hl 3 rfl) ?_
    by_cases c4 : y = nI 0
    · replace hf := hf.trans (if_pos c4)
      refine lv_tableIn (off := 42) (tgt := 60) hx hb dX1_tellShelter_18 (by rw [c4]; decide) (by rw [c4]; decide) (by rw [c4]; rfl) (by decide) ?_
      refine lv_aload_n hx hb dX1_tellShelter_60 rfl (lv_at hl 0 rfl) ?_
      refine va_get (D := D) (ci := 2) (v := .int (σ (5 + (tn x)) 0)) (C := RX2) (T := TX2) (N := 7) hx hb hts hin2 hown hK hP (5 + (tn x)) (RW_sh cy ad σ h3b) rfl 0 (by decide) wd1 (fun _ h9 => h9) rfl dX1_tellShelter_61 ?_
      exact g_endi hx hb hr hlocks rfl (congrArg (fun r => (r, σ)) hf) hP hD hS (Nat.le_of_ble_eq_true rfl) (Nat.le_of_ble_eq_true rfl) dX1_tellShelter_64
    replace hf := hf.trans (if_neg c4)
    by_cases c5 : y = nI 1
    · replace hf := hf.trans (if_pos c5)
      refine lv_tableIn (off := 47) (tgt := 65) hx hb dX1_tellShelter_18 (by rw [c5]; decide) (by rw [c5]; decide) (by rw [c5]; rfl) (by decide) ?_
      refine lv_aload_n hx hb dX1_tellShelter_65 rfl (lv_at hl 0 rfl) ?_
      refine va_get (D := D) (ci := 2) (v := .int (σ (5 + (tn x)) 1)) (C := RX2) (T := TX2) (N := 7) hx hb hts hin2 hown hK hP (5 + (tn x)) (RW_sh cy ad σ h3b) rfl 1 (by decide) wd2 (fun _ h9 => h9) rfl dX1_tellShelter_66 ?_
      exact g_endi hx hb hr hlocks rfl (congrArg (fun r => (r, σ)) hf) hP hD hS (Nat.le_of_ble_eq_true rfl) (Nat.le_of_ble_eq_true rfl) dX1_tellShelter_69
    replace hf := hf.trans (if_neg c5)
    by_cases c6 : y = nI 2
    · replace hf := hf.trans (if_pos c6)
      refine lv_tableIn (off := 52) (tgt := 70) hx hb dX1_tellShelter_18 (by rw [c6]; decide) (by rw [c6]; decide) (by rw [c6]; rfl) (by decide) ?_
      refine lv_aload_n hx hb dX1_tellShelter_70 rfl (lv_at hl 1 rfl) ?_
      refine lv_iload_n hx hb dX1_tellShelter_71 rfl (lv_at hl 2 rfl) ?_
      refine g_callr (q0 := 0) (wf := (RW cy ad)) (σ := σ) (wfc := (RW cy ad)) (σc := σ) hx hb hml hown hts hK hP hD hS hA hl.1 [] pm_0 [.int (x)] (c_X1_umbrellasIn l D cy ad σ x hI) (cwV 1 hts gX1_tellShelter_X1_umbrellasIn rfl rfl rfl (by decide +kernel) ⟨Nat.le_of_ble_eq_true rfl, Nat.le_of_ble_eq_true rfl⟩) (RW_ob cy ad σ) rfl rfl rfl rfl (Nat.le_of_ble_eq_true rfl) dX1_tellShelter_72 ⟨Nat.le_of_ble_eq_true rfl, Nat.le_of_ble_eq_true rfl⟩ rfl rfl ?_
      intro r7 er7 H locs hP hD hS
      replace hf := hf.trans (ltt_r er7)
      exact g_endi hx hb hr hlocks rfl (congrArg (fun r => (r, σ)) hf) hP hD hS (Nat.le_of_ble_eq_true rfl) (Nat.le_of_ble_eq_true rfl) dX1_tellShelter_75
    replace hf := hf.trans (if_neg c6)
    by_cases c8 : y = nI 3
    · replace hf := hf.trans (if_pos c8)
      refine lv_tableIn (off := 58) (tgt := 76) hx hb dX1_tellShelter_18 (by rw [c8]; decide) (by rw [c8]; decide) (by rw [c8]; rfl) (by decide) ?_
      refine lv_aload_n hx hb dX1_tellShelter_76 rfl (lv_at hl 1 rfl) ?_
      refine lv_iload_n hx hb dX1_tellShelter_77 rfl (lv_at hl 2 rfl) ?_
      refine g_callr (q0 := 0) (wf := (RW cy ad)) (σ := σ) (wfc := (RW cy ad)) (σc := σ) hx hb hml hown hts hK hP hD hS hA hl.1 [] pm_0 [.int (x)] (c_X1_citizensIn l D cy ad σ x hI) (cwV 1 hts gX1_tellShelter_X1_citizensIn rfl rfl rfl (by decide +kernel) ⟨Nat.le_of_ble_eq_true rfl, Nat.le_of_ble_eq_true rfl⟩) (RW_ob cy ad σ) rfl rfl rfl rfl (Nat.le_of_ble_eq_true rfl) dX1_tellShelter_78 ⟨Nat.le_of_ble_eq_true rfl, Nat.le_of_ble_eq_true rfl⟩ rfl rfl ?_
      intro r9 er9 H locs hP hD hS
      replace hf := hf.trans (ltt_r er9)
      exact g_endi hx hb hr hlocks rfl (congrArg (fun r => (r, σ)) hf) hP hD hS (Nat.le_of_ble_eq_true rfl) (Nat.le_of_ble_eq_true rfl) dX1_tellShelter_81
    replace hf := hf.trans (if_neg c8)
    by_cases c10 : y = nI 4
    · replace hf := hf.trans (if_pos c10)
      refine lv_tableIn (off := 64) (tgt := 82) hx hb dX1_tellShelter_18 (by rw [c10]; decide) (by rw [c10]; decide) (by rw [c10]; rfl) (by decide) ?_
      refine lv_aload_n hx hb dX1_tellShelter_82 rfl (lv_at hl 0 rfl) ?_
      refine va_get (D := D) (ci := 2) (v := .int (σ (5 + (tn x)) 2)) (C := RX2) (T := TX2) (N := 7) hx hb hts hin2 hown hK hP (5 + (tn x)) (RW_sh cy ad σ h3b) rfl 2 (by decide) wd3 (fun _ h9 => h9) rfl dX1_tellShelter_83 ?_
      exact g_endi hx hb hr hlocks rfl (congrArg (fun r => (r, σ)) hf) hP hD hS (Nat.le_of_ble_eq_true rfl) (Nat.le_of_ble_eq_true rfl) dX1_tellShelter_86
    replace hf := hf.trans (if_neg c10)
    by_cases c11 : y = nI 5
    · replace hf := hf.trans (if_pos c11)
      refine lv_tableIn (off := 69) (tgt := 87) hx hb dX1_tellShelter_18 (by rw [c11]; decide) (by rw [c11]; decide) (by rw [c11]; rfl) (by decide) ?_
      refine lv_aload_n hx hb dX1_tellShelter_87 rfl (lv_at hl 0 rfl) ?_
      refine va_get (D := D) (ci := 2) (v := .int (σ (5 + (tn x)) 3)) (C := RX2) (T := TX2) (N := 7) hx hb hts hin2 hown hK hP (5 + (tn x)) (RW_sh cy ad σ h3b) rfl 3 (by decide) wd4 (fun _ h9 => h9) rfl dX1_tellShelter_88 ?_
      exact g_endi hx hb hr hlocks rfl (congrArg (fun r => (r, σ)) hf) hP hD hS (Nat.le_of_ble_eq_true rfl) (Nat.le_of_ble_eq_true rfl) dX1_tellShelter_91
    replace hf := hf.trans (if_neg c11)
    by_cases c12 : y = nI 6
    · replace hf := hf.trans (if_pos c12)
      refine lv_tableIn (off := 74) (tgt := 92) hx hb dX1_tellShelter_18 (by rw [c12]; decide) (by rw [c12]; decide) (by rw [c12]; rfl) (by decide) ?_
      refine lv_aload_n hx hb dX1_tellShelter_92 rfl (lv_at hl 0 rfl) ?_
      refine va_get (D := D) (ci := 2) (v := .int (σ (5 + (tn x)) 4)) (C := RX2) (T := TX2) (N := 7) hx hb hts hin2 hown hK hP (5 + (tn x)) (RW_sh cy ad σ h3b) rfl 4 (by decide) wd5 (fun _ h9 => h9) rfl dX1_tellShelter_93 ?_
      exact g_endi hx hb hr hlocks rfl (congrArg (fun r => (r, σ)) hf) hP hD hS (Nat.le_of_ble_eq_true rfl) (Nat.le_of_ble_eq_true rfl) dX1_tellShelter_96
    replace hf := hf.trans (if_neg c12)
    refine lv_tableOut (tgt := 97) hx hb dX1_tellShelter_18 (ts_out 7 (by decide) _ (lt_s (lt_s (lt_s (lt_s (lt_s (lt_s (lt_s lt_0 c4) c5) c6) c8) c10) c11) c12)) (by decide) ?_
    refine lv_aload_n hx hb dX1_tellShelter_97 rfl (lv_at hl 1 rfl) ?_
    refine lv_iload_n hx hb dX1_tellShelter_98 rfl (lv_at hl 2 rfl) ?_
    refine g_callr (q0 := 0) (wf := (RW cy ad)) (σ := σ) (wfc := (RW cy ad)) (σc := σ) hx hb hml hown hts hK hP hD hS hA hl.1 [] pm_0 [.int (x)] (c_X1_firstUmbrellaIn l D cy ad σ x hI) (cwV 1 hts gX1_tellShelter_X1_firstUmbrellaIn rfl rfl rfl (by decide +kernel) ⟨Nat.le_of_ble_eq_true rfl, Nat.le_of_ble_eq_true rfl⟩) (RW_ob cy ad σ) rfl rfl rfl rfl (Nat.le_of_ble_eq_true rfl) dX1_tellShelter_99 ⟨Nat.le_of_ble_eq_true rfl, Nat.le_of_ble_eq_true rfl⟩ rfl rfl ?_
    intro r13 er13 H locs hP hD hS
    replace hf := hf.trans (ltt_r er13)
    exact g_endi hx hb hr hlocks rfl (congrArg (fun r => (r, σ)) hf) hP hD hS (Nat.le_of_ble_eq_true rfl) (Nat.le_of_ble_eq_true rfl) dX1_tellShelter_102
  · replace hf := hf.trans (if_pos c2)
    refine lv_iconst (v := (-1 : Int32)) hx hb dX1_tellShelter_8 (by decide) ?_
    exact g_endi hx hb hr hlocks rfl (congrArg (fun r => (r, σ)) hf) hP hD hS (Nat.le_of_ble_eq_true rfl) (Nat.le_of_ble_eq_true rfl) dX1_tellShelter_9
def s_X1_tellAll (σ : Sg) (x : Int32) : Int32 := if x = nI 0 then σ 0 4 else if x = nI 1 then σ 0 5 else if x = nI 2 then σ 0 6 else if x = nI 3 then σ 0 7 else if x = nI 4 then ltt (s_X1_umbrellasThatAre σ (nI 0)) (fun r6 => r6) else if x = nI 5 then ltt (s_X1_umbrellasThatAre σ (nI 1)) (fun r8 => r8) else if x = nI 6 then ltt (s_X1_umbrellasThatAre σ (nI 2)) (fun r10 => r10) else if x = nI 7 then ltt (s_X1_umbrellasThatAre σ (nI 3)) (fun r12 => r12) else if x = nI 8 then ltt (s_X1_citizensIn σ (-1 : Int32)) (fun r14 => r14) else if x = nI 9 then ltt (s_X1_wetOfAll σ) (fun r16 => r16) else σ 0 8
abbrev rm_X1_tellAll : Room := { frames := 1, cells := 0, slots := 0, locals := 23 }
set_option maxHeartbeats 4000000 in
set_option maxRecDepth 100000 in
theorem c_X1_tellAll (l : Launch) (D : va_G) (cy : Nat → ClassId) (ad : Nat → Nat) (σ : Sg) (x : Int32) (hI : OkR σ) : gMr l yX1_tellAll wsX1_tellAll rm_X1_tellAll D (Ty cy) (RW cy ad) [.ref (ad 0), .int (x)] σ (s_X1_tellAll σ x) 0 0 := by
  refine gstarti cX1_tellAll 2 RX1 (by decide) rfl rfl (Nat.le_of_ble_eq_true rfl) ?_
  intro p e s m below meth c A ls hx hb hml hown hts hr hlocks hK hP hD hA hS hl
  have hl : lv_has ls 2 [(0, .ref (ad 0)), (1, .int (x))] := hl
  have hf : s_X1_tellAll σ x = s_X1_tellAll σ x := rfl
  have hin1 : ∀ w ∈ wsX10, w ∈ wsX1_tellAll := by decide +kernel
  have wd0 := hts (.fieldLink RX1 42 "UmbrellaLand$Republic" "hour" "I") (by decide +kernel)
  have wd1 := hts (.fieldLink RX1 46 "UmbrellaLand$Republic" "shelterCount" "I") (by decide +kernel)
  have wd2 := hts (.fieldLink RX1 49 "UmbrellaLand$Republic" "umbrellaCount" "I") (by decide +kernel)
  have wd3 := hts (.fieldLink RX1 52 "UmbrellaLand$Republic" "citizenCount" "I") (by decide +kernel)
  have wd4 := hts (.fieldLink RX1 55 "UmbrellaLand$Republic" "carried" "I") (by decide +kernel)
  refine lv_iload_n hx hb dX1_tellAll_0 rfl (lv_at hl 1 rfl) ?_
  by_cases c1 : x = nI 0
  · replace hf := hf.trans (if_pos c1)
    refine lv_tableIn (off := 55) (tgt := 56) hx hb dX1_tellAll_1 (by rw [c1]; decide) (by rw [c1]; decide) (by rw [c1]; rfl) (by decide) ?_
    refine lv_aload_n hx hb dX1_tellAll_56 rfl (lv_at hl 0 rfl) ?_
    refine va_get (D := D) (ci := 1) (v := .int (σ 0 4)) (C := RX1) (T := TX1) (N := 9) hx hb hts hin1 hown hK hP (0) (RW_ob cy ad σ) rfl 4 (by decide) wd0 (fun _ h9 => h9) rfl dX1_tellAll_57 ?_
    exact g_endi hx hb hr hlocks rfl (congrArg (fun r => (r, σ)) hf) hP hD hS (Nat.le_of_ble_eq_true rfl) (Nat.le_of_ble_eq_true rfl) dX1_tellAll_60
  replace hf := hf.trans (if_neg c1)
  by_cases c2 : x = nI 1
  · replace hf := hf.trans (if_pos c2)
    refine lv_tableIn (off := 60) (tgt := 61) hx hb dX1_tellAll_1 (by rw [c2]; decide) (by rw [c2]; decide) (by rw [c2]; rfl) (by decide) ?_
    refine lv_aload_n hx hb dX1_tellAll_61 rfl (lv_at hl 0 rfl) ?_
    refine va_get (D := D) (ci := 1) (v := .int (σ 0 5)) (C := RX1) (T := TX1) (N := 9) hx hb hts hin1 hown hK hP (0) (RW_ob cy ad σ) rfl 5 (by decide) wd1 (fun _ h9 => h9) rfl dX1_tellAll_62 ?_
    exact g_endi hx hb hr hlocks rfl (congrArg (fun r => (r, σ)) hf) hP hD hS (Nat.le_of_ble_eq_true rfl) (Nat.le_of_ble_eq_true rfl) dX1_tellAll_65
  replace hf := hf.trans (if_neg c2)
  by_cases c3 : x = nI 2
  · replace hf := hf.trans (if_pos c3)
    refine lv_tableIn (off := 65) (tgt := 66) hx hb dX1_tellAll_1 (by rw [c3]; decide) (by rw [c3]; decide) (by rw [c3]; rfl) (by decide) ?_
    refine lv_aload_n hx hb dX1_tellAll_66 rfl (lv_at hl 0 rfl) ?_
    refine va_get (D := D) (ci := 1) (v := .int (σ 0 6)) (C := RX1) (T := TX1) (N := 9) hx hb hts hin1 hown hK hP (0) (RW_ob cy ad σ) rfl 6 (by decide) wd2 (fun _ h9 => h9) rfl dX1_tellAll_67 ?_
    exact g_endi hx hb hr hlocks rfl (congrArg (fun r => (r, σ)) hf) hP hD hS (Nat.le_of_ble_eq_true rfl) (Nat.le_of_ble_eq_true rfl) dX1_tellAll_70
  replace hf := hf.trans (if_neg c3)
  by_cases c4 : x = nI 3
  · replace hf := hf.trans (if_pos c4)
    refine lv_tableIn (off := 70) (tgt := 71) hx hb dX1_tellAll_1 (by rw [c4]; decide) (by rw [c4]; decide) (by rw [c4]; rfl) (by decide) ?_
    refine lv_aload_n hx hb dX1_tellAll_71 rfl (lv_at hl 0 rfl) ?_
    refine va_get (D := D) (ci := 1) (v := .int (σ 0 7)) (C := RX1) (T := TX1) (N := 9) hx hb hts hin1 hown hK hP (0) (RW_ob cy ad σ) rfl 7 (by decide) wd3 (fun _ h9 => h9) rfl dX1_tellAll_72 ?_
    exact g_endi hx hb hr hlocks rfl (congrArg (fun r => (r, σ)) hf) hP hD hS (Nat.le_of_ble_eq_true rfl) (Nat.le_of_ble_eq_true rfl) dX1_tellAll_75
  replace hf := hf.trans (if_neg c4)
  by_cases c5 : x = nI 4
  · replace hf := hf.trans (if_pos c5)
    refine lv_tableIn (off := 75) (tgt := 76) hx hb dX1_tellAll_1 (by rw [c5]; decide) (by rw [c5]; decide) (by rw [c5]; rfl) (by decide) ?_
    refine lv_aload_n hx hb dX1_tellAll_76 rfl (lv_at hl 0 rfl) ?_
    refine lv_iconst (v := nI 0) hx hb dX1_tellAll_77 (by decide) ?_
    refine g_callr (q0 := 0) (wf := (RW cy ad)) (σ := σ) (wfc := (RW cy ad)) (σc := σ) hx hb hml hown hts hK hP hD hS hA hl.1 [] pm_0 [.int (nI 0)] (c_X1_umbrellasThatAre l D cy ad σ (nI 0) hI) (cwV 1 hts gX1_tellAll_X1_umbrellasThatAre rfl rfl rfl (by decide +kernel) ⟨Nat.le_of_ble_eq_true rfl, Nat.le_of_ble_eq_true rfl⟩) (RW_ob cy ad σ) rfl rfl rfl rfl (Nat.le_of_ble_eq_true rfl) dX1_tellAll_78 ⟨Nat.le_of_ble_eq_true rfl, Nat.le_of_ble_eq_true rfl⟩ rfl rfl ?_
    intro r6 er6 H locs hP hD hS
    replace hf := hf.trans (ltt_r er6)
    exact g_endi hx hb hr hlocks rfl (congrArg (fun r => (r, σ)) hf) hP hD hS (Nat.le_of_ble_eq_true rfl) (Nat.le_of_ble_eq_true rfl) dX1_tellAll_81
  replace hf := hf.trans (if_neg c5)
  by_cases c7 : x = nI 5
  · replace hf := hf.trans (if_pos c7)
    refine lv_tableIn (off := 81) (tgt := 82) hx hb dX1_tellAll_1 (by rw [c7]; decide) (by rw [c7]; decide) (by rw [c7]; rfl) (by decide) ?_
    refine lv_aload_n hx hb dX1_tellAll_82 rfl (lv_at hl 0 rfl) ?_
    refine lv_iconst (v := nI 1) hx hb dX1_tellAll_83 (by decide) ?_
    refine g_callr (q0 := 0) (wf := (RW cy ad)) (σ := σ) (wfc := (RW cy ad)) (σc := σ) hx hb hml hown hts hK hP hD hS hA hl.1 [] pm_0 [.int (nI 1)] (c_X1_umbrellasThatAre l D cy ad σ (nI 1) hI) (cwV 1 hts gX1_tellAll_X1_umbrellasThatAre rfl rfl rfl (by decide +kernel) ⟨Nat.le_of_ble_eq_true rfl, Nat.le_of_ble_eq_true rfl⟩) (RW_ob cy ad σ) rfl rfl rfl rfl (Nat.le_of_ble_eq_true rfl) dX1_tellAll_84 ⟨Nat.le_of_ble_eq_true rfl, Nat.le_of_ble_eq_true rfl⟩ rfl rfl ?_
    intro r8 er8 H locs hP hD hS
    replace hf := hf.trans (ltt_r er8)
    exact g_endi hx hb hr hlocks rfl (congrArg (fun r => (r, σ)) hf) hP hD hS (Nat.le_of_ble_eq_true rfl) (Nat.le_of_ble_eq_true rfl) dX1_tellAll_87
  replace hf := hf.trans (if_neg c7)
  by_cases c9 : x = nI 6
  · replace hf := hf.trans (if_pos c9)
    refine lv_tableIn (off := 87) (tgt := 88) hx hb dX1_tellAll_1 (by rw [c9]; decide) (by rw [c9]; decide) (by rw [c9]; rfl) (by decide) ?_
    refine lv_aload_n hx hb dX1_tellAll_88 rfl (lv_at hl 0 rfl) ?_
    refine lv_iconst (v := nI 2) hx hb dX1_tellAll_89 (by decide) ?_
    refine g_callr (q0 := 0) (wf := (RW cy ad)) (σ := σ) (wfc := (RW cy ad)) (σc := σ) hx hb hml hown hts hK hP hD hS hA hl.1 [] pm_0 [.int (nI 2)] (c_X1_umbrellasThatAre l D cy ad σ (nI 2) hI) (cwV 1 hts gX1_tellAll_X1_umbrellasThatAre rfl rfl rfl (by decide +kernel) ⟨Nat.le_of_ble_eq_true rfl, Nat.le_of_ble_eq_true rfl⟩) (RW_ob cy ad σ) rfl rfl rfl rfl (Nat.le_of_ble_eq_true rfl) dX1_tellAll_90 ⟨Nat.le_of_ble_eq_true rfl, Nat.le_of_ble_eq_true rfl⟩ rfl rfl ?_
    intro r10 er10 H locs hP hD hS
    replace hf := hf.trans (ltt_r er10)
    exact g_endi hx hb hr hlocks rfl (congrArg (fun r => (r, σ)) hf) hP hD hS (Nat.le_of_ble_eq_true rfl) (Nat.le_of_ble_eq_true rfl) dX1_tellAll_93
  replace hf := hf.trans (if_neg c9)
  by_cases c11 : x = nI 7
  · replace hf := hf.trans (if_pos c11)
    refine lv_tableIn (off := 93) (tgt := 94) hx hb dX1_tellAll_1 (by rw [c11]; decide) (by rw [c11]; decide) (by rw [c11]; rfl) (by decide) ?_
    refine lv_aload_n hx hb dX1_tellAll_94 rfl (lv_at hl 0 rfl) ?_
    refine lv_iconst (v := nI 3) hx hb dX1_tellAll_95 (by decide) ?_
    refine g_callr (q0 := 0) (wf := (RW cy ad)) (σ := σ) (wfc := (RW cy ad)) (σc := σ) hx hb hml hown hts hK hP hD hS hA hl.1 [] pm_0 [.int (nI 3)] (c_X1_umbrellasThatAre l D cy ad σ (nI 3) hI) (cwV 1 hts gX1_tellAll_X1_umbrellasThatAre rfl rfl rfl (by decide +kernel) ⟨Nat.le_of_ble_eq_true rfl, Nat.le_of_ble_eq_true rfl⟩) (RW_ob cy ad σ) rfl rfl rfl rfl (Nat.le_of_ble_eq_true rfl) dX1_tellAll_96 ⟨Nat.le_of_ble_eq_true rfl, Nat.le_of_ble_eq_true rfl⟩ rfl rfl ?_
    intro r12 er12 H locs hP hD hS
    replace hf := hf.trans (ltt_r er12)
    exact g_endi hx hb hr hlocks rfl (congrArg (fun r => (r, σ)) hf) hP hD hS (Nat.le_of_ble_eq_true rfl) (Nat.le_of_ble_eq_true rfl) dX1_tellAll_99
  replace hf := hf.trans (if_neg c11)
  by_cases c13 : x = nI 8
  · replace hf := hf.trans (if_pos c13)
    refine lv_tableIn (off := 99) (tgt := 100) hx hb dX1_tellAll_1 (by rw [c13]; decide) (by rw [c13]; decide) (by rw [c13]; rfl) (by decide) ?_
    refine lv_aload_n hx hb dX1_tellAll_100 rfl (lv_at hl 0 rfl) ?_
    refine lv_iconst (v := (-1 : Int32)) hx hb dX1_tellAll_101 (by decide) ?_
    refine g_callr (q0 := 0) (wf := (RW cy ad)) (σ := σ) (wfc := (RW cy ad)) (σc := σ) hx hb hml hown hts hK hP hD hS hA hl.1 [] pm_0 [.int ((-1 : Int32))] (c_X1_citizensIn l D cy ad σ (-1 : Int32) hI) (cwV 1 hts gX1_tellAll_X1_citizensIn rfl rfl rfl (by decide +kernel) ⟨Nat.le_of_ble_eq_true rfl, Nat.le_of_ble_eq_true rfl⟩) (RW_ob cy ad σ) rfl rfl rfl rfl (Nat.le_of_ble_eq_true rfl) dX1_tellAll_102 ⟨Nat.le_of_ble_eq_true rfl, Nat.le_of_ble_eq_true rfl⟩ rfl rfl ?_
    intro r14 er14 H locs hP hD hS
    replace hf := hf.trans (ltt_r er14)
    exact g_endi hx hb hr hlocks rfl (congrArg (fun r => (r, σ)) hf) hP hD hS (Nat.le_of_ble_eq_true rfl) (Nat.le_of_ble_eq_true rfl) dX1_tellAll_105
  replace hf := hf.trans (if_neg c13)
  by_cases c15 : x = nI 9
  · replace hf := hf.trans (if_pos c15)
    refine lv_tableIn (off := 105) (tgt := 106) hx hb dX1_tellAll_1 (by rw [c15]; decide) (by rw [c15]; decide) (by rw [c15]; rfl) (by decide) ?_
    refine lv_aload_n hx hb dX1_tellAll_106 rfl (lv_at hl 0 rfl) ?_
    refine g_callr (q0 := 0) (wf := (RW cy ad)) (σ := σ) (wfc := (RW cy ad)) (σc := σ) hx hb hml hown hts hK hP hD hS hA hl.1 [] pm_0 [] (c_X1_wetOfAll l D cy ad σ hI) (cwV 0 hts gX1_tellAll_X1_wetOfAll rfl rfl rfl (by decide +kernel) ⟨Nat.le_of_ble_eq_true rfl, Nat.le_of_ble_eq_true rfl⟩) (RW_ob cy ad σ) rfl rfl rfl rfl (Nat.le_of_ble_eq_true rfl) dX1_tellAll_107 ⟨Nat.le_of_ble_eq_true rfl, Nat.le_of_ble_eq_true rfl⟩ rfl rfl ?_
    intro r16 er16 H locs hP hD hS
    replace hf := hf.trans (ltt_r er16)
    exact g_endi hx hb hr hlocks rfl (congrArg (fun r => (r, σ)) hf) hP hD hS (Nat.le_of_ble_eq_true rfl) (Nat.le_of_ble_eq_true rfl) dX1_tellAll_110
  replace hf := hf.trans (if_neg c15)
  refine lv_tableOut (tgt := 111) hx hb dX1_tellAll_1 (ts_out 10 (by decide) _ (lt_s (lt_s (lt_s (lt_s (lt_s (lt_s (lt_s (lt_s (lt_s (lt_s lt_0 c1) c2) c3) c4) c5) c7) c9) c11) c13) c15)) (by decide) ?_
  refine lv_aload_n hx hb dX1_tellAll_111 rfl (lv_at hl 0 rfl) ?_
  refine va_get (D := D) (ci := 1) (v := .int (σ 0 8)) (C := RX1) (T := TX1) (N := 9) hx hb hts hin1 hown hK hP (0) (RW_ob cy ad σ) rfl 8 (by decide) wd4 (fun _ h9 => h9) rfl dX1_tellAll_112 ?_
  exact g_endi hx hb hr hlocks rfl (congrArg (fun r => (r, σ)) hf) hP hD hS (Nat.le_of_ble_eq_true rfl) (Nat.le_of_ble_eq_true rfl) dX1_tellAll_115
def s_X2_becomeLike (σ : Sg × Sg) (i : Nat) : Sg × Sg := ltt ((σ.1, up σ.2 (5 + i) 0 (σ.1 (5 + i) 0))) (fun u1 => ltt ((u1.1, up u1.2 (5 + i) 1 (u1.1 (5 + i) 1))) (fun u2 => ltt ((u2.1, up u2.2 (5 + i) 2 (u2.1 (5 + i) 2))) (fun u3 => ltt ((u3.1, up u3.2 (5 + i) 3 (u3.1 (5 + i) 3))) (fun u4 => ltt ((u4.1, up u4.2 (5 + i) 4 (u4.1 (5 + i) 4))) (fun u5 => ltt ((u5.1, up u5.2 (5 + i) 5 (u5.1 (5 + i) 5))) (fun u6 => ltt ((u6.1, up u6.2 (5 + i) 6 (u6.1 (5 + i) 6))) (fun u7 => u7)))))))
theorem z_X2_becomeLike (σ : Sg × Sg) (i : Nat) : (s_X2_becomeLike σ i).1 = σ.1 ∧ (s_X2_becomeLike σ i).2 0 = σ.2 0 := by
  unfold s_X2_becomeLike
  simp only [ltt, up_um0, up_sh0, up_ci0]
  exact ⟨trivial, trivial⟩
abbrev rm_X2_becomeLike : Room := { frames := 0, cells := 0, slots := 0, locals := 0 }
set_option maxHeartbeats 4000000 in
set_option maxRecDepth 100000 in
theorem c_X2_becomeLike (l : Launch) (D : va_G) (cy : Nat → ClassId) (ad ad2 : Nat → Nat) (σ : Sg × Sg) (i : Nat) (hi : i < 8) : gMv l yX2_becomeLike wsX2_becomeLike rm_X2_becomeLike D (Ty cy) (RW2 cy ad ad2) [.ref (ad2 (5 + i)), .ref (ad (5 + i))] σ (s_X2_becomeLike σ i) 0 0 := by
  refine gstartv cX2_becomeLike 2 RX2 (by decide) rfl rfl (Nat.le_of_ble_eq_true rfl) ?_
  intro p e s m below meth c A ls hx hb hml hown hts hr hlocks hK hP hD hA hS hl
  have hl : lv_has ls 2 [(0, .ref (ad2 (5 + i))), (1, .ref (ad (5 + i)))] := hl
  have hf : s_X2_becomeLike σ i = s_X2_becomeLike σ i := rfl
  have hin2 : ∀ w ∈ wsX20, w ∈ wsX2_becomeLike := by decide +kernel
  have wd0 := hts (.fieldLink RX2 9 "UmbrellaLand$Shelter" "place" "I") (by decide +kernel)
  have wd1 := hts (.fieldLink RX2 15 "UmbrellaLand$Shelter" "demand" "I") (by decide +kernel)
  have wd2 := hts (.fieldLink RX2 18 "UmbrellaLand$Shelter" "taken" "I") (by decide +kernel)
  have wd3 := hts (.fieldLink RX2 21 "UmbrellaLand$Shelter" "forgotten" "I") (by decide +kernel)
  have wd4 := hts (.fieldLink RX2 24 "UmbrellaLand$Shelter" "refused" "I") (by decide +kernel)
  have wd5 := hts (.fieldLink RX2 27 "UmbrellaLand$Shelter" "forgottenToday" "I") (by decide +kernel)
  have wd6 := hts (.fieldLink RX2 30 "UmbrellaLand$Shelter" "refusedToday" "I") (by decide +kernel)
  refine lv_aload_n hx hb dX2_becomeLike_0 rfl (lv_at hl 0 rfl) ?_
  refine lv_aload_n hx hb dX2_becomeLike_1 rfl (lv_at hl 1 rfl) ?_
  refine va_get (D := D) (ci := 2) (v := .int (σ.1 (5 + i) 0)) (C := RX2) (T := TX2) (N := 7) hx hb hts hin2 hown hK hP (5 + i) (gx_l (RW_sh cy ad σ.1 hi)) rfl 0 (by decide) wd0 (fun _ h9 => h9) rfl dX2_becomeLike_2 ?_
  refine g_put (σ1 := (σ.1, up σ.2 (5 + i) 0 (σ.1 (5 + i) 0))) (fs := shF (σ.2 (5 + i))) (C := RX2) (T := TX2) (N := 7) hx hb hts hin2 tyX2_ok nmX2 hown hK hP hD hS (63 + (5 + i)) (gx_r (WD_len _ _ _ _) (RW_sh cy ad2 σ.2 hi)) rfl 0 (by decide) wd0 rfl rfl (Nat.le_of_ble_eq_true rfl) (gx_setr (WD_len _ _ _ _) (RW_sh_set cy ad2 σ.2 hi 0 (by decide) _)) dX2_becomeLike_5 ?_
  intro u1 eu1 H locs hP hD hS
  replace hf := hf.trans (ltt_r eu1)
  refine lv_aload_n hx hb dX2_becomeLike_8 rfl (lv_at hl 0 rfl) ?_
  refine lv_aload_n hx hb dX2_becomeLike_9 rfl (lv_at hl 1 rfl) ?_
  refine va_get (D := D) (ci := 2) (v := .int (u1.1 (5 + i) 1)) (C := RX2) (T := TX2) (N := 7) hx hb hts hin2 hown hK hP (5 + i) (gx_l (RW_sh cy ad u1.1 hi)) rfl 1 (by decide) wd1 (fun _ h9 => h9) rfl dX2_becomeLike_10 ?_
  refine g_put (σ1 := (u1.1, up u1.2 (5 + i) 1 (u1.1 (5 + i) 1))) (fs := shF (u1.2 (5 + i))) (C := RX2) (T := TX2) (N := 7) hx hb hts hin2 tyX2_ok nmX2 hown hK hP hD hS (63 + (5 + i)) (gx_r (WD_len _ _ _ _) (RW_sh cy ad2 u1.2 hi)) rfl 1 (by decide) wd1 rfl rfl (Nat.le_of_ble_eq_true rfl) (gx_setr (WD_len _ _ _ _) (RW_sh_set cy ad2 u1.2 hi 1 (by decide) _)) dX2_becomeLike_13 ?_
  intro u2 eu2 H locs hP hD hS
  replace hf := hf.trans (ltt_r eu2)
  refine lv_aload_n hx hb dX2_becomeLike_16 rfl (lv_at hl 0 rfl) ?_
  refine lv_aload_n hx hb dX2_becomeLike_17 rfl (lv_at hl 1 rfl) ?_
  refine va_get (D := D) (ci := 2) (v := .int (u2.1 (5 + i) 2)) (C := RX2) (T := TX2) (N := 7) hx hb hts hin2 hown hK hP (5 + i) (gx_l (RW_sh cy ad u2.1 hi)) rfl 2 (by decide) wd2 (fun _ h9 => h9) rfl dX2_becomeLike_18 ?_
  refine g_put (σ1 := (u2.1, up u2.2 (5 + i) 2 (u2.1 (5 + i) 2))) (fs := shF (u2.2 (5 + i))) (C := RX2) (T := TX2) (N := 7) hx hb hts hin2 tyX2_ok nmX2 hown hK hP hD hS (63 + (5 + i)) (gx_r (WD_len _ _ _ _) (RW_sh cy ad2 u2.2 hi)) rfl 2 (by decide) wd2 rfl rfl (Nat.le_of_ble_eq_true rfl) (gx_setr (WD_len _ _ _ _) (RW_sh_set cy ad2 u2.2 hi 2 (by decide) _)) dX2_becomeLike_21 ?_
  intro u3 eu3 H locs hP hD hS
  replace hf := hf.trans (ltt_r eu3)
  refine lv_aload_n hx hb dX2_becomeLike_24 rfl (lv_at hl 0 rfl) ?_
  refine lv_aload_n hx hb dX2_becomeLike_25 rfl (lv_at hl 1 rfl) ?_
  refine va_get (D := D) (ci := 2) (v := .int (u3.1 (5 + i) 3)) (C := RX2) (T := TX2) (N := 7) hx hb hts hin2 hown hK hP (5 + i) (gx_l (RW_sh cy ad u3.1 hi)) rfl 3 (by decide) wd3 (fun _ h9 => h9) rfl dX2_becomeLike_26 ?_
  refine g_put (σ1 := (u3.1, up u3.2 (5 + i) 3 (u3.1 (5 + i) 3))) (fs := shF (u3.2 (5 + i))) (C := RX2) (T := TX2) (N := 7) hx hb hts hin2 tyX2_ok nmX2 hown hK hP hD hS (63 + (5 + i)) (gx_r (WD_len _ _ _ _) (RW_sh cy ad2 u3.2 hi)) rfl 3 (by decide) wd3 rfl rfl (Nat.le_of_ble_eq_true rfl) (gx_setr (WD_len _ _ _ _) (RW_sh_set cy ad2 u3.2 hi 3 (by decide) _)) dX2_becomeLike_29 ?_
  intro u4 eu4 H locs hP hD hS
  replace hf := hf.trans (ltt_r eu4)
  refine lv_aload_n hx hb dX2_becomeLike_32 rfl (lv_at hl 0 rfl) ?_
  refine lv_aload_n hx hb dX2_becomeLike_33 rfl (lv_at hl 1 rfl) ?_
  refine va_get (D := D) (ci := 2) (v := .int (u4.1 (5 + i) 4)) (C := RX2) (T := TX2) (N := 7) hx hb hts hin2 hown hK hP (5 + i) (gx_l (RW_sh cy ad u4.1 hi)) rfl 4 (by decide) wd4 (fun _ h9 => h9) rfl dX2_becomeLike_34 ?_
  refine g_put (σ1 := (u4.1, up u4.2 (5 + i) 4 (u4.1 (5 + i) 4))) (fs := shF (u4.2 (5 + i))) (C := RX2) (T := TX2) (N := 7) hx hb hts hin2 tyX2_ok nmX2 hown hK hP hD hS (63 + (5 + i)) (gx_r (WD_len _ _ _ _) (RW_sh cy ad2 u4.2 hi)) rfl 4 (by decide) wd4 rfl rfl (Nat.le_of_ble_eq_true rfl) (gx_setr (WD_len _ _ _ _) (RW_sh_set cy ad2 u4.2 hi 4 (by decide) _)) dX2_becomeLike_37 ?_
  intro u5 eu5 H locs hP hD hS
  replace hf := hf.trans (ltt_r eu5)
  refine lv_aload_n hx hb dX2_becomeLike_40 rfl (lv_at hl 0 rfl) ?_
  refine lv_aload_n hx hb dX2_becomeLike_41 rfl (lv_at hl 1 rfl) ?_
  refine va_get (D := D) (ci := 2) (v := .int (u5.1 (5 + i) 5)) (C := RX2) (T := TX2) (N := 7) hx hb hts hin2 hown hK hP (5 + i) (gx_l (RW_sh cy ad u5.1 hi)) rfl 5 (by decide) wd5 (fun _ h9 => h9) rfl dX2_becomeLike_42 ?_
  refine g_put (σ1 := (u5.1, up u5.2 (5 + i) 5 (u5.1 (5 + i) 5))) (fs := shF (u5.2 (5 + i))) (C := RX2) (T := TX2) (N := 7) hx hb hts hin2 tyX2_ok nmX2 hown hK hP hD hS (63 + (5 + i)) (gx_r (WD_len _ _ _ _) (RW_sh cy ad2 u5.2 hi)) rfl 5 (by decide) wd5 rfl rfl (Nat.le_of_ble_eq_true rfl) (gx_setr (WD_len _ _ _ _) (RW_sh_set cy ad2 u5.2 hi 5 (by decide) _)) dX2_becomeLike_45 ?_
  intro u6 eu6 H locs hP hD hS
  replace hf := hf.trans (ltt_r eu6)
  refine lv_aload_n hx hb dX2_becomeLike_48 rfl (lv_at hl 0 rfl) ?_
  refine lv_aload_n hx hb dX2_becomeLike_49 rfl (lv_at hl 1 rfl) ?_
  refine va_get (D := D) (ci := 2) (v := .int (u6.1 (5 + i) 6)) (C := RX2) (T := TX2) (N := 7) hx hb hts hin2 hown hK hP (5 + i) (gx_l (RW_sh cy ad u6.1 hi)) rfl 6 (by decide) wd6 (fun _ h9 => h9) rfl dX2_becomeLike_50 ?_
  refine g_put (σ1 := (u6.1, up u6.2 (5 + i) 6 (u6.1 (5 + i) 6))) (fs := shF (u6.2 (5 + i))) (C := RX2) (T := TX2) (N := 7) hx hb hts hin2 tyX2_ok nmX2 hown hK hP hD hS (63 + (5 + i)) (gx_r (WD_len _ _ _ _) (RW_sh cy ad2 u6.2 hi)) rfl 6 (by decide) wd6 rfl rfl (Nat.le_of_ble_eq_true rfl) (gx_setr (WD_len _ _ _ _) (RW_sh_set cy ad2 u6.2 hi 6 (by decide) _)) dX2_becomeLike_53 ?_
  intro u7 eu7 H locs hP hD hS
  replace hf := hf.trans (ltt_r eu7)
  exact g_endv hx hb hr hlocks hf hP hD hS (Nat.le_of_ble_eq_true rfl) (Nat.le_of_ble_eq_true rfl) dX2_becomeLike_56
def s_X3_becomeLike (σ : Sg × Sg) (i : Nat) : Sg × Sg := ltt ((σ.1, up σ.2 (13 + i) 0 (σ.1 (13 + i) 0))) (fun u1 => ltt ((u1.1, up u1.2 (13 + i) 1 (u1.1 (13 + i) 1))) (fun u2 => ltt ((u2.1, up u2.2 (13 + i) 2 (u2.1 (13 + i) 2))) (fun u3 => ltt ((u3.1, up u3.2 (13 + i) 3 (u3.1 (13 + i) 3))) (fun u4 => ltt ((u4.1, up u4.2 (13 + i) 4 (u4.1 (13 + i) 4))) (fun u5 => ltt ((u5.1, up u5.2 (13 + i) 5 (u5.1 (13 + i) 5))) (fun u6 => u6))))))
theorem z_X3_becomeLike (σ : Sg × Sg) (i : Nat) : (s_X3_becomeLike σ i).1 = σ.1 ∧ (s_X3_becomeLike σ i).2 0 = σ.2 0 := by
  unfold s_X3_becomeLike
  simp only [ltt, up_um0, up_sh0, up_ci0]
  exact ⟨trivial, trivial⟩
abbrev rm_X3_becomeLike : Room := { frames := 0, cells := 0, slots := 0, locals := 0 }
set_option maxHeartbeats 4000000 in
set_option maxRecDepth 100000 in
theorem c_X3_becomeLike (l : Launch) (D : va_G) (cy : Nat → ClassId) (ad ad2 : Nat → Nat) (σ : Sg × Sg) (i : Nat) (hi : i < 40) : gMv l yX3_becomeLike wsX3_becomeLike rm_X3_becomeLike D (Ty cy) (RW2 cy ad ad2) [.ref (ad2 (13 + i)), .ref (ad (13 + i))] σ (s_X3_becomeLike σ i) 0 0 := by
  refine gstartv cX3_becomeLike 2 RX3 (by decide) rfl rfl (Nat.le_of_ble_eq_true rfl) ?_
  intro p e s m below meth c A ls hx hb hml hown hts hr hlocks hK hP hD hA hS hl
  have hl : lv_has ls 2 [(0, .ref (ad2 (13 + i))), (1, .ref (ad (13 + i)))] := hl
  have hf : s_X3_becomeLike σ i = s_X3_becomeLike σ i := rfl
  have hin3 : ∀ w ∈ wsX30, w ∈ wsX3_becomeLike := by decide +kernel
  have wd0 := hts (.fieldLink RX3 25 "UmbrellaLand$Umbrella" "state" "I") (by decide +kernel)
  have wd1 := hts (.fieldLink RX3 28 "UmbrellaLand$Umbrella" "holder" "I") (by decide +kernel)
  have wd2 := hts (.fieldLink RX3 9 "UmbrellaLand$Umbrella" "wear" "I") (by decide +kernel)
  have wd3 := hts (.fieldLink RX3 31 "UmbrellaLand$Umbrella" "waits" "I") (by decide +kernel)
  have wd4 := hts (.fieldLink RX3 15 "UmbrellaLand$Umbrella" "taken" "I") (by decide +kernel)
  have wd5 := hts (.fieldLink RX3 18 "UmbrellaLand$Umbrella" "takenFrom" "I") (by decide +kernel)
  refine lv_aload_n hx hb dX3_becomeLike_0 rfl (lv_at hl 0 rfl) ?_
  refine lv_aload_n hx hb dX3_becomeLike_1 rfl (lv_at hl 1 rfl) ?_
  refine va_get (D := D) (ci := 3) (v := .int (σ.1 (13 + i) 0)) (C := RX3) (T := TX3) (N := 6) hx hb hts hin3 hown hK hP (13 + i) (gx_l (RW_um cy ad σ.1 hi)) rfl 0 (by decide) wd0 (fun _ h9 => h9) rfl dX3_becomeLike_2 ?_
  refine g_put (σ1 := (σ.1, up σ.2 (13 + i) 0 (σ.1 (13 + i) 0))) (fs := umF (σ.2 (13 + i))) (C := RX3) (T := TX3) (N := 6) hx hb hts hin3 tyX3_ok nmX3 hown hK hP hD hS (63 + (13 + i)) (gx_r (WD_len _ _ _ _) (RW_um cy ad2 σ.2 hi)) rfl 0 (by decide) wd0 rfl rfl (Nat.le_of_ble_eq_true rfl) (gx_setr (WD_len _ _ _ _) (RW_um_set cy ad2 σ.2 hi 0 (by decide) _)) dX3_becomeLike_5 ?_
  intro u1 eu1 H locs hP hD hS
  replace hf := hf.trans (ltt_r eu1)
  refine lv_aload_n hx hb dX3_becomeLike_8 rfl (lv_at hl 0 rfl) ?_
  refine lv_aload_n hx hb dX3_becomeLike_9 rfl (lv_at hl 1 rfl) ?_
  refine va_get (D := D) (ci := 3) (v := .int (u1.1 (13 + i) 1)) (C := RX3) (T := TX3) (N := 6) hx hb hts hin3 hown hK hP (13 + i) (gx_l (RW_um cy ad u1.1 hi)) rfl 1 (by decide) wd1 (fun _ h9 => h9) rfl dX3_becomeLike_10 ?_
  refine g_put (σ1 := (u1.1, up u1.2 (13 + i) 1 (u1.1 (13 + i) 1))) (fs := umF (u1.2 (13 + i))) (C := RX3) (T := TX3) (N := 6) hx hb hts hin3 tyX3_ok nmX3 hown hK hP hD hS (63 + (13 + i)) (gx_r (WD_len _ _ _ _) (RW_um cy ad2 u1.2 hi)) rfl 1 (by decide) wd1 rfl rfl (Nat.le_of_ble_eq_true rfl) (gx_setr (WD_len _ _ _ _) (RW_um_set cy ad2 u1.2 hi 1 (by decide) _)) dX3_becomeLike_13 ?_
  intro u2 eu2 H locs hP hD hS
  replace hf := hf.trans (ltt_r eu2)
  refine lv_aload_n hx hb dX3_becomeLike_16 rfl (lv_at hl 0 rfl) ?_
  refine lv_aload_n hx hb dX3_becomeLike_17 rfl (lv_at hl 1 rfl) ?_
  refine va_get (D := D) (ci := 3) (v := .int (u2.1 (13 + i) 2)) (C := RX3) (T := TX3) (N := 6) hx hb hts hin3 hown hK hP (13 + i) (gx_l (RW_um cy ad u2.1 hi)) rfl 2 (by decide) wd2 (fun _ h9 => h9) rfl dX3_becomeLike_18 ?_
  refine g_put (σ1 := (u2.1, up u2.2 (13 + i) 2 (u2.1 (13 + i) 2))) (fs := umF (u2.2 (13 + i))) (C := RX3) (T := TX3) (N := 6) hx hb hts hin3 tyX3_ok nmX3 hown hK hP hD hS (63 + (13 + i)) (gx_r (WD_len _ _ _ _) (RW_um cy ad2 u2.2 hi)) rfl 2 (by decide) wd2 rfl rfl (Nat.le_of_ble_eq_true rfl) (gx_setr (WD_len _ _ _ _) (RW_um_set cy ad2 u2.2 hi 2 (by decide) _)) dX3_becomeLike_21 ?_
  intro u3 eu3 H locs hP hD hS
  replace hf := hf.trans (ltt_r eu3)
  refine lv_aload_n hx hb dX3_becomeLike_24 rfl (lv_at hl 0 rfl) ?_
  refine lv_aload_n hx hb dX3_becomeLike_25 rfl (lv_at hl 1 rfl) ?_
  refine va_get (D := D) (ci := 3) (v := .int (u3.1 (13 + i) 3)) (C := RX3) (T := TX3) (N := 6) hx hb hts hin3 hown hK hP (13 + i) (gx_l (RW_um cy ad u3.1 hi)) rfl 3 (by decide) wd3 (fun _ h9 => h9) rfl dX3_becomeLike_26 ?_
  refine g_put (σ1 := (u3.1, up u3.2 (13 + i) 3 (u3.1 (13 + i) 3))) (fs := umF (u3.2 (13 + i))) (C := RX3) (T := TX3) (N := 6) hx hb hts hin3 tyX3_ok nmX3 hown hK hP hD hS (63 + (13 + i)) (gx_r (WD_len _ _ _ _) (RW_um cy ad2 u3.2 hi)) rfl 3 (by decide) wd3 rfl rfl (Nat.le_of_ble_eq_true rfl) (gx_setr (WD_len _ _ _ _) (RW_um_set cy ad2 u3.2 hi 3 (by decide) _)) dX3_becomeLike_29 ?_
  intro u4 eu4 H locs hP hD hS
  replace hf := hf.trans (ltt_r eu4)
  refine lv_aload_n hx hb dX3_becomeLike_32 rfl (lv_at hl 0 rfl) ?_
  refine lv_aload_n hx hb dX3_becomeLike_33 rfl (lv_at hl 1 rfl) ?_
  refine va_get (D := D) (ci := 3) (v := .int (u4.1 (13 + i) 4)) (C := RX3) (T := TX3) (N := 6) hx hb hts hin3 hown hK hP (13 + i) (gx_l (RW_um cy ad u4.1 hi)) rfl 4 (by decide) wd4 (fun _ h9 => h9) rfl dX3_becomeLike_34 ?_
  refine g_put (σ1 := (u4.1, up u4.2 (13 + i) 4 (u4.1 (13 + i) 4))) (fs := umF (u4.2 (13 + i))) (C := RX3) (T := TX3) (N := 6) hx hb hts hin3 tyX3_ok nmX3 hown hK hP hD hS (63 + (13 + i)) (gx_r (WD_len _ _ _ _) (RW_um cy ad2 u4.2 hi)) rfl 4 (by decide) wd4 rfl rfl (Nat.le_of_ble_eq_true rfl) (gx_setr (WD_len _ _ _ _) (RW_um_set cy ad2 u4.2 hi 4 (by decide) _)) dX3_becomeLike_37 ?_
  intro u5 eu5 H locs hP hD hS
  replace hf := hf.trans (ltt_r eu5)
  refine lv_aload_n hx hb dX3_becomeLike_40 rfl (lv_at hl 0 rfl) ?_
  refine lv_aload_n hx hb dX3_becomeLike_41 rfl (lv_at hl 1 rfl) ?_
  refine va_get (D := D) (ci := 3) (v := .int (u5.1 (13 + i) 5)) (C := RX3) (T := TX3) (N := 6) hx hb hts hin3 hown hK hP (13 + i) (gx_l (RW_um cy ad u5.1 hi)) rfl 5 (by decide) wd5 (fun _ h9 => h9) rfl dX3_becomeLike_42 ?_
  refine g_put (σ1 := (u5.1, up u5.2 (13 + i) 5 (u5.1 (13 + i) 5))) (fs := umF (u5.2 (13 + i))) (C := RX3) (T := TX3) (N := 6) hx hb hts hin3 tyX3_ok nmX3 hown hK hP hD hS (63 + (13 + i)) (gx_r (WD_len _ _ _ _) (RW_um cy ad2 u5.2 hi)) rfl 5 (by decide) wd5 rfl rfl (Nat.le_of_ble_eq_true rfl) (gx_setr (WD_len _ _ _ _) (RW_um_set cy ad2 u5.2 hi 5 (by decide) _)) dX3_becomeLike_45 ?_
  intro u6 eu6 H locs hP hD hS
  replace hf := hf.trans (ltt_r eu6)
  exact g_endv hx hb hr hlocks hf hP hD hS (Nat.le_of_ble_eq_true rfl) (Nat.le_of_ble_eq_true rfl) dX3_becomeLike_48
def s_X0_becomeLike (σ : Sg × Sg) (i : Nat) : Sg × Sg := ltt ((σ.1, up σ.2 (53 + i) 0 (σ.1 (53 + i) 0))) (fun u1 => ltt ((u1.1, up u1.2 (53 + i) 1 (u1.1 (53 + i) 1))) (fun u2 => ltt ((u2.1, up u2.2 (53 + i) 2 (u2.1 (53 + i) 2))) (fun u3 => ltt ((u3.1, up u3.2 (53 + i) 3 (u3.1 (53 + i) 3))) (fun u4 => ltt ((u4.1, up u4.2 (53 + i) 4 (u4.1 (53 + i) 4))) (fun u5 => ltt ((u5.1, up u5.2 (53 + i) 5 (u5.1 (53 + i) 5))) (fun u6 => ltt ((u6.1, up u6.2 (53 + i) 6 (u6.1 (53 + i) 6))) (fun u7 => ltt ((u7.1, up u7.2 (53 + i) 7 (u7.1 (53 + i) 7))) (fun u8 => ltt ((u8.1, up u8.2 (53 + i) 8 (u8.1 (53 + i) 8))) (fun u9 => ltt ((u9.1, up u9.2 (53 + i) 9 (u9.1 (53 + i) 9))) (fun u10 => ltt ((u10.1, up u10.2 (53 + i) 10 (u10.1 (53 + i) 10))) (fun u11 => ltt ((u11.1, up u11.2 (53 + i) 11 (u11.1 (53 + i) 11))) (fun u12 => ltt ((u12.1, up u12.2 (53 + i) 12 (u12.1 (53 + i) 12))) (fun u13 => ltt ((u13.1, up u13.2 (53 + i) 13 (u13.1 (53 + i) 13))) (fun u14 => ltt ((u14.1, up u14.2 (53 + i) 14 (u14.1 (53 + i) 14))) (fun u15 => u15)))))))))))))))
theorem z_X0_becomeLike (σ : Sg × Sg) (i : Nat) : (s_X0_becomeLike σ i).1 = σ.1 ∧ (s_X0_becomeLike σ i).2 0 = σ.2 0 := by
  unfold s_X0_becomeLike
  simp only [ltt, up_um0, up_sh0, up_ci0]
  exact ⟨trivial, trivial⟩
abbrev rm_X0_becomeLike : Room := { frames := 0, cells := 0, slots := 0, locals := 0 }
set_option maxHeartbeats 4000000 in
set_option maxRecDepth 100000 in
theorem c_X0_becomeLike (l : Launch) (D : va_G) (cy : Nat → ClassId) (ad ad2 : Nat → Nat) (σ : Sg × Sg) (i : Nat) (hi : i < 10) : gMv l yX0_becomeLike wsX0_becomeLike rm_X0_becomeLike D (Ty cy) (RW2 cy ad ad2) [.ref (ad2 (53 + i)), .ref (ad (53 + i))] σ (s_X0_becomeLike σ i) 0 0 := by
  refine gstartv cX0_becomeLike 2 RX0 (by decide) rfl rfl (Nat.le_of_ble_eq_true rfl) ?_
  intro p e s m below meth c A ls hx hb hml hown hts hr hlocks hK hP hD hA hS hl
  have hl : lv_has ls 2 [(0, .ref (ad2 (53 + i))), (1, .ref (ad (53 + i)))] := hl
  have hf : s_X0_becomeLike σ i = s_X0_becomeLike σ i := rfl
  have hin0 : ∀ w ∈ wsX00, w ∈ wsX0_becomeLike := by decide +kernel
  have wd0 := hts (.fieldLink RX0 9 "UmbrellaLand$Citizen" "home" "I") (by decide +kernel)
  have wd1 := hts (.fieldLink RX0 15 "UmbrellaLand$Citizen" "work" "I") (by decide +kernel)
  have wd2 := hts (.fieldLink RX0 33 "UmbrellaLand$Citizen" "leaves" "I") (by decide +kernel)
  have wd3 := hts (.fieldLink RX0 36 "UmbrellaLand$Citizen" "returns" "I") (by decide +kernel)
  have wd4 := hts (.fieldLink RX0 39 "UmbrellaLand$Citizen" "forgets" "I") (by decide +kernel)
  have wd5 := hts (.fieldLink RX0 18 "UmbrellaLand$Citizen" "hoursOfWalk" "I") (by decide +kernel)
  have wd6 := hts (.fieldLink RX0 21 "UmbrellaLand$Citizen" "stays" "I") (by decide +kernel)
  have wd7 := hts (.fieldLink RX0 24 "UmbrellaLand$Citizen" "goal" "I") (by decide +kernel)
  have wd8 := hts (.fieldLink RX0 42 "UmbrellaLand$Citizen" "hoursToWalk" "I") (by decide +kernel)
  have wd9 := hts (.fieldLink RX0 27 "UmbrellaLand$Citizen" "inHand" "I") (by decide +kernel)
  have wd10 := hts (.fieldLink RX0 30 "UmbrellaLand$Citizen" "trust" "I") (by decide +kernel)
  have wd11 := hts (.fieldLink RX0 45 "UmbrellaLand$Citizen" "wet" "I") (by decide +kernel)
  have wd12 := hts (.fieldLink RX0 48 "UmbrellaLand$Citizen" "taken" "I") (by decide +kernel)
  have wd13 := hts (.fieldLink RX0 51 "UmbrellaLand$Citizen" "forgotten" "I") (by decide +kernel)
  have wd14 := hts (.fieldLink RX0 54 "UmbrellaLand$Citizen" "refused" "I") (by decide +kernel)
  refine lv_aload_n hx hb dX0_becomeLike_0 rfl (lv_at hl 0 rfl) ?_
  refine lv_aload_n hx hb dX0_becomeLike_1 rfl (lv_at hl 1 rfl) ?_
  refine va_get (D := D) (ci := 0) (v := .int (σ.1 (53 + i) 0)) (C := RX0) (T := TX0) (N := 15) hx hb hts hin0 hown hK hP (53 + i) (gx_l (RW_ci cy ad σ.1 hi)) rfl 0 (by decide) wd0 (fun _ h9 => h9) rfl dX0_becomeLike_2 ?_
  refine g_put (σ1 := (σ.1, up σ.2 (53 + i) 0 (σ.1 (53 + i) 0))) (fs := ciF (σ.2 (53 + i))) (C := RX0) (T := TX0) (N := 15) hx hb hts hin0 tyX0_ok nmX0 hown hK hP hD hS (63 + (53 + i)) (gx_r (WD_len _ _ _ _) (RW_ci cy ad2 σ.2 hi)) rfl 0 (by decide) wd0 rfl rfl (Nat.le_of_ble_eq_true rfl) (gx_setr (WD_len _ _ _ _) (RW_ci_set cy ad2 σ.2 hi 0 (by decide) _)) dX0_becomeLike_5 ?_
  intro u1 eu1 H locs hP hD hS
  replace hf := hf.trans (ltt_r eu1)
  refine lv_aload_n hx hb dX0_becomeLike_8 rfl (lv_at hl 0 rfl) ?_
  refine lv_aload_n hx hb dX0_becomeLike_9 rfl (lv_at hl 1 rfl) ?_
  refine va_get (D := D) (ci := 0) (v := .int (u1.1 (53 + i) 1)) (C := RX0) (T := TX0) (N := 15) hx hb hts hin0 hown hK hP (53 + i) (gx_l (RW_ci cy ad u1.1 hi)) rfl 1 (by decide) wd1 (fun _ h9 => h9) rfl dX0_becomeLike_10 ?_
  refine g_put (σ1 := (u1.1, up u1.2 (53 + i) 1 (u1.1 (53 + i) 1))) (fs := ciF (u1.2 (53 + i))) (C := RX0) (T := TX0) (N := 15) hx hb hts hin0 tyX0_ok nmX0 hown hK hP hD hS (63 + (53 + i)) (gx_r (WD_len _ _ _ _) (RW_ci cy ad2 u1.2 hi)) rfl 1 (by decide) wd1 rfl rfl (Nat.le_of_ble_eq_true rfl) (gx_setr (WD_len _ _ _ _) (RW_ci_set cy ad2 u1.2 hi 1 (by decide) _)) dX0_becomeLike_13 ?_
  intro u2 eu2 H locs hP hD hS
  replace hf := hf.trans (ltt_r eu2)
  refine lv_aload_n hx hb dX0_becomeLike_16 rfl (lv_at hl 0 rfl) ?_
  refine lv_aload_n hx hb dX0_becomeLike_17 rfl (lv_at hl 1 rfl) ?_
  refine va_get (D := D) (ci := 0) (v := .int (u2.1 (53 + i) 2)) (C := RX0) (T := TX0) (N := 15) hx hb hts hin0 hown hK hP (53 + i) (gx_l (RW_ci cy ad u2.1 hi)) rfl 2 (by decide) wd2 (fun _ h9 => h9) rfl dX0_becomeLike_18 ?_
  refine g_put (σ1 := (u2.1, up u2.2 (53 + i) 2 (u2.1 (53 + i) 2))) (fs := ciF (u2.2 (53 + i))) (C := RX0) (T := TX0) (N := 15) hx hb hts hin0 tyX0_ok nmX0 hown hK hP hD hS (63 + (53 + i)) (gx_r (WD_len _ _ _ _) (RW_ci cy ad2 u2.2 hi)) rfl 2 (by decide) wd2 rfl rfl (Nat.le_of_ble_eq_true rfl) (gx_setr (WD_len _ _ _ _) (RW_ci_set cy ad2 u2.2 hi 2 (by decide) _)) dX0_becomeLike_21 ?_
  intro u3 eu3 H locs hP hD hS
  replace hf := hf.trans (ltt_r eu3)
  refine lv_aload_n hx hb dX0_becomeLike_24 rfl (lv_at hl 0 rfl) ?_
  refine lv_aload_n hx hb dX0_becomeLike_25 rfl (lv_at hl 1 rfl) ?_
  refine va_get (D := D) (ci := 0) (v := .int (u3.1 (53 + i) 3)) (C := RX0) (T := TX0) (N := 15) hx hb hts hin0 hown hK hP (53 + i) (gx_l (RW_ci cy ad u3.1 hi)) rfl 3 (by decide) wd3 (fun _ h9 => h9) rfl dX0_becomeLike_26 ?_
  refine g_put (σ1 := (u3.1, up u3.2 (53 + i) 3 (u3.1 (53 + i) 3))) (fs := ciF (u3.2 (53 + i))) (C := RX0) (T := TX0) (N := 15) hx hb hts hin0 tyX0_ok nmX0 hown hK hP hD hS (63 + (53 + i)) (gx_r (WD_len _ _ _ _) (RW_ci cy ad2 u3.2 hi)) rfl 3 (by decide) wd3 rfl rfl (Nat.le_of_ble_eq_true rfl) (gx_setr (WD_len _ _ _ _) (RW_ci_set cy ad2 u3.2 hi 3 (by decide) _)) dX0_becomeLike_29 ?_
  intro u4 eu4 H locs hP hD hS
  replace hf := hf.trans (ltt_r eu4)
  refine lv_aload_n hx hb dX0_becomeLike_32 rfl (lv_at hl 0 rfl) ?_
  refine lv_aload_n hx hb dX0_becomeLike_33 rfl (lv_at hl 1 rfl) ?_
  refine va_get (D := D) (ci := 0) (v := .int (u4.1 (53 + i) 4)) (C := RX0) (T := TX0) (N := 15) hx hb hts hin0 hown hK hP (53 + i) (gx_l (RW_ci cy ad u4.1 hi)) rfl 4 (by decide) wd4 (fun _ h9 => h9) rfl dX0_becomeLike_34 ?_
  refine g_put (σ1 := (u4.1, up u4.2 (53 + i) 4 (u4.1 (53 + i) 4))) (fs := ciF (u4.2 (53 + i))) (C := RX0) (T := TX0) (N := 15) hx hb hts hin0 tyX0_ok nmX0 hown hK hP hD hS (63 + (53 + i)) (gx_r (WD_len _ _ _ _) (RW_ci cy ad2 u4.2 hi)) rfl 4 (by decide) wd4 rfl rfl (Nat.le_of_ble_eq_true rfl) (gx_setr (WD_len _ _ _ _) (RW_ci_set cy ad2 u4.2 hi 4 (by decide) _)) dX0_becomeLike_37 ?_
  intro u5 eu5 H locs hP hD hS
  replace hf := hf.trans (ltt_r eu5)
  refine lv_aload_n hx hb dX0_becomeLike_40 rfl (lv_at hl 0 rfl) ?_
  refine lv_aload_n hx hb dX0_becomeLike_41 rfl (lv_at hl 1 rfl) ?_
  refine va_get (D := D) (ci := 0) (v := .int (u5.1 (53 + i) 5)) (C := RX0) (T := TX0) (N := 15) hx hb hts hin0 hown hK hP (53 + i) (gx_l (RW_ci cy ad u5.1 hi)) rfl 5 (by decide) wd5 (fun _ h9 => h9) rfl dX0_becomeLike_42 ?_
  refine g_put (σ1 := (u5.1, up u5.2 (53 + i) 5 (u5.1 (53 + i) 5))) (fs := ciF (u5.2 (53 + i))) (C := RX0) (T := TX0) (N := 15) hx hb hts hin0 tyX0_ok nmX0 hown hK hP hD hS (63 + (53 + i)) (gx_r (WD_len _ _ _ _) (RW_ci cy ad2 u5.2 hi)) rfl 5 (by decide) wd5 rfl rfl (Nat.le_of_ble_eq_true rfl) (gx_setr (WD_len _ _ _ _) (RW_ci_set cy ad2 u5.2 hi 5 (by decide) _)) dX0_becomeLike_45 ?_
  intro u6 eu6 H locs hP hD hS
  replace hf := hf.trans (ltt_r eu6)
  refine lv_aload_n hx hb dX0_becomeLike_48 rfl (lv_at hl 0 rfl) ?_
  refine lv_aload_n hx hb dX0_becomeLike_49 rfl (lv_at hl 1 rfl) ?_
  refine va_get (D := D) (ci := 0) (v := .int (u6.1 (53 + i) 6)) (C := RX0) (T := TX0) (N := 15) hx hb hts hin0 hown hK hP (53 + i) (gx_l (RW_ci cy ad u6.1 hi)) rfl 6 (by decide) wd6 (fun _ h9 => h9) rfl dX0_becomeLike_50 ?_
  refine g_put (σ1 := (u6.1, up u6.2 (53 + i) 6 (u6.1 (53 + i) 6))) (fs := ciF (u6.2 (53 + i))) (C := RX0) (T := TX0) (N := 15) hx hb hts hin0 tyX0_ok nmX0 hown hK hP hD hS (63 + (53 + i)) (gx_r (WD_len _ _ _ _) (RW_ci cy ad2 u6.2 hi)) rfl 6 (by decide) wd6 rfl rfl (Nat.le_of_ble_eq_true rfl) (gx_setr (WD_len _ _ _ _) (RW_ci_set cy ad2 u6.2 hi 6 (by decide) _)) dX0_becomeLike_53 ?_
  intro u7 eu7 H locs hP hD hS
  replace hf := hf.trans (ltt_r eu7)
  refine lv_aload_n hx hb dX0_becomeLike_56 rfl (lv_at hl 0 rfl) ?_
  refine lv_aload_n hx hb dX0_becomeLike_57 rfl (lv_at hl 1 rfl) ?_
  refine va_get (D := D) (ci := 0) (v := .int (u7.1 (53 + i) 7)) (C := RX0) (T := TX0) (N := 15) hx hb hts hin0 hown hK hP (53 + i) (gx_l (RW_ci cy ad u7.1 hi)) rfl 7 (by decide) wd7 (fun _ h9 => h9) rfl dX0_becomeLike_58 ?_
  refine g_put (σ1 := (u7.1, up u7.2 (53 + i) 7 (u7.1 (53 + i) 7))) (fs := ciF (u7.2 (53 + i))) (C := RX0) (T := TX0) (N := 15) hx hb hts hin0 tyX0_ok nmX0 hown hK hP hD hS (63 + (53 + i)) (gx_r (WD_len _ _ _ _) (RW_ci cy ad2 u7.2 hi)) rfl 7 (by decide) wd7 rfl rfl (Nat.le_of_ble_eq_true rfl) (gx_setr (WD_len _ _ _ _) (RW_ci_set cy ad2 u7.2 hi 7 (by decide) _)) dX0_becomeLike_61 ?_
  intro u8 eu8 H locs hP hD hS
  replace hf := hf.trans (ltt_r eu8)
  refine lv_aload_n hx hb dX0_becomeLike_64 rfl (lv_at hl 0 rfl) ?_
  refine lv_aload_n hx hb dX0_becomeLike_65 rfl (lv_at hl 1 rfl) ?_
  refine va_get (D := D) (ci := 0) (v := .int (u8.1 (53 + i) 8)) (C := RX0) (T := TX0) (N := 15) hx hb hts hin0 hown hK hP (53 + i) (gx_l (RW_ci cy ad u8.1 hi)) rfl 8 (by decide) wd8 (fun _ h9 => h9) rfl dX0_becomeLike_66 ?_
  refine g_put (σ1 := (u8.1, up u8.2 (53 + i) 8 (u8.1 (53 + i) 8))) (fs := ciF (u8.2 (53 + i))) (C := RX0) (T := TX0) (N := 15) hx hb hts hin0 tyX0_ok nmX0 hown hK hP hD hS (63 + (53 + i)) (gx_r (WD_len _ _ _ _) (RW_ci cy ad2 u8.2 hi)) rfl 8 (by decide) wd8 rfl rfl (Nat.le_of_ble_eq_true rfl) (gx_setr (WD_len _ _ _ _) (RW_ci_set cy ad2 u8.2 hi 8 (by decide) _)) dX0_becomeLike_69 ?_
  intro u9 eu9 H locs hP hD hS
  replace hf := hf.trans (ltt_r eu9)
  refine lv_aload_n hx hb dX0_becomeLike_72 rfl (lv_at hl 0 rfl) ?_
  refine lv_aload_n hx hb dX0_becomeLike_73 rfl (lv_at hl 1 rfl) ?_
  refine va_get (D := D) (ci := 0) (v := .int (u9.1 (53 + i) 9)) (C := RX0) (T := TX0) (N := 15) hx hb hts hin0 hown hK hP (53 + i) (gx_l (RW_ci cy ad u9.1 hi)) rfl 9 (by decide) wd9 (fun _ h9 => h9) rfl dX0_becomeLike_74 ?_
  refine g_put (σ1 := (u9.1, up u9.2 (53 + i) 9 (u9.1 (53 + i) 9))) (fs := ciF (u9.2 (53 + i))) (C := RX0) (T := TX0) (N := 15) hx hb hts hin0 tyX0_ok nmX0 hown hK hP hD hS (63 + (53 + i)) (gx_r (WD_len _ _ _ _) (RW_ci cy ad2 u9.2 hi)) rfl 9 (by decide) wd9 rfl rfl (Nat.le_of_ble_eq_true rfl) (gx_setr (WD_len _ _ _ _) (RW_ci_set cy ad2 u9.2 hi 9 (by decide) _)) dX0_becomeLike_77 ?_
  intro u10 eu10 H locs hP hD hS
  replace hf := hf.trans (ltt_r eu10)
  refine lv_aload_n hx hb dX0_becomeLike_80 rfl (lv_at hl 0 rfl) ?_
  refine lv_aload_n hx hb dX0_becomeLike_81 rfl (lv_at hl 1 rfl) ?_
  refine va_get (D := D) (ci := 0) (v := .int (u10.1 (53 + i) 10)) (C := RX0) (T := TX0) (N := 15) hx hb hts hin0 hown hK hP (53 + i) (gx_l (RW_ci cy ad u10.1 hi)) rfl 10 (by decide) wd10 (fun _ h9 => h9) rfl dX0_becomeLike_82 ?_
  refine g_put (σ1 := (u10.1, up u10.2 (53 + i) 10 (u10.1 (53 + i) 10))) (fs := ciF (u10.2 (53 + i))) (C := RX0) (T := TX0) (N := 15) hx hb hts hin0 tyX0_ok nmX0 hown hK hP hD hS (63 + (53 + i)) (gx_r (WD_len _ _ _ _) (RW_ci cy ad2 u10.2 hi)) rfl 10 (by decide) wd10 rfl rfl (Nat.le_of_ble_eq_true rfl) (gx_setr (WD_len _ _ _ _) (RW_ci_set cy ad2 u10.2 hi 10 (by decide) _)) dX0_becomeLike_85 ?_
  intro u11 eu11 H locs hP hD hS
  replace hf := hf.trans (ltt_r eu11)
  refine lv_aload_n hx hb dX0_becomeLike_88 rfl (lv_at hl 0 rfl) ?_
  refine lv_aload_n hx hb dX0_becomeLike_89 rfl (lv_at hl 1 rfl) ?_
  refine va_get (D := D) (ci := 0) (v := .int (u11.1 (53 + i) 11)) (C := RX0) (T := TX0) (N := 15) hx hb hts hin0 hown hK hP (53 + i) (gx_l (RW_ci cy ad u11.1 hi)) rfl 11 (by decide) wd11 (fun _ h9 => h9) rfl dX0_becomeLike_90 ?_
  refine g_put (σ1 := (u11.1, up u11.2 (53 + i) 11 (u11.1 (53 + i) 11))) (fs := ciF (u11.2 (53 + i))) (C := RX0) (T := TX0) (N := 15) hx hb hts hin0 tyX0_ok nmX0 hown hK hP hD hS (63 + (53 + i)) (gx_r (WD_len _ _ _ _) (RW_ci cy ad2 u11.2 hi)) rfl 11 (by decide) wd11 rfl rfl (Nat.le_of_ble_eq_true rfl) (gx_setr (WD_len _ _ _ _) (RW_ci_set cy ad2 u11.2 hi 11 (by decide) _)) dX0_becomeLike_93 ?_
  intro u12 eu12 H locs hP hD hS
  replace hf := hf.trans (ltt_r eu12)
  refine lv_aload_n hx hb dX0_becomeLike_96 rfl (lv_at hl 0 rfl) ?_
  refine lv_aload_n hx hb dX0_becomeLike_97 rfl (lv_at hl 1 rfl) ?_
  refine va_get (D := D) (ci := 0) (v := .int (u12.1 (53 + i) 12)) (C := RX0) (T := TX0) (N := 15) hx hb hts hin0 hown hK hP (53 + i) (gx_l (RW_ci cy ad u12.1 hi)) rfl 12 (by decide) wd12 (fun _ h9 => h9) rfl dX0_becomeLike_98 ?_
  refine g_put (σ1 := (u12.1, up u12.2 (53 + i) 12 (u12.1 (53 + i) 12))) (fs := ciF (u12.2 (53 + i))) (C := RX0) (T := TX0) (N := 15) hx hb hts hin0 tyX0_ok nmX0 hown hK hP hD hS (63 + (53 + i)) (gx_r (WD_len _ _ _ _) (RW_ci cy ad2 u12.2 hi)) rfl 12 (by decide) wd12 rfl rfl (Nat.le_of_ble_eq_true rfl) (gx_setr (WD_len _ _ _ _) (RW_ci_set cy ad2 u12.2 hi 12 (by decide) _)) dX0_becomeLike_101 ?_
  intro u13 eu13 H locs hP hD hS
  replace hf := hf.trans (ltt_r eu13)
  refine lv_aload_n hx hb dX0_becomeLike_104 rfl (lv_at hl 0 rfl) ?_
  refine lv_aload_n hx hb dX0_becomeLike_105 rfl (lv_at hl 1 rfl) ?_
  refine va_get (D := D) (ci := 0) (v := .int (u13.1 (53 + i) 13)) (C := RX0) (T := TX0) (N := 15) hx hb hts hin0 hown hK hP (53 + i) (gx_l (RW_ci cy ad u13.1 hi)) rfl 13 (by decide) wd13 (fun _ h9 => h9) rfl dX0_becomeLike_106 ?_
  refine g_put (σ1 := (u13.1, up u13.2 (53 + i) 13 (u13.1 (53 + i) 13))) (fs := ciF (u13.2 (53 + i))) (C := RX0) (T := TX0) (N := 15) hx hb hts hin0 tyX0_ok nmX0 hown hK hP hD hS (63 + (53 + i)) (gx_r (WD_len _ _ _ _) (RW_ci cy ad2 u13.2 hi)) rfl 13 (by decide) wd13 rfl rfl (Nat.le_of_ble_eq_true rfl) (gx_setr (WD_len _ _ _ _) (RW_ci_set cy ad2 u13.2 hi 13 (by decide) _)) dX0_becomeLike_109 ?_
  intro u14 eu14 H locs hP hD hS
  replace hf := hf.trans (ltt_r eu14)
  refine lv_aload_n hx hb dX0_becomeLike_112 rfl (lv_at hl 0 rfl) ?_
  refine lv_aload_n hx hb dX0_becomeLike_113 rfl (lv_at hl 1 rfl) ?_
  refine va_get (D := D) (ci := 0) (v := .int (u14.1 (53 + i) 14)) (C := RX0) (T := TX0) (N := 15) hx hb hts hin0 hown hK hP (53 + i) (gx_l (RW_ci cy ad u14.1 hi)) rfl 14 (by decide) wd14 (fun _ h9 => h9) rfl dX0_becomeLike_114 ?_
  refine g_put (σ1 := (u14.1, up u14.2 (53 + i) 14 (u14.1 (53 + i) 14))) (fs := ciF (u14.2 (53 + i))) (C := RX0) (T := TX0) (N := 15) hx hb hts hin0 tyX0_ok nmX0 hown hK hP hD hS (63 + (53 + i)) (gx_r (WD_len _ _ _ _) (RW_ci cy ad2 u14.2 hi)) rfl 14 (by decide) wd14 rfl rfl (Nat.le_of_ble_eq_true rfl) (gx_setr (WD_len _ _ _ _) (RW_ci_set cy ad2 u14.2 hi 14 (by decide) _)) dX0_becomeLike_117 ?_
  intro u15 eu15 H locs hP hD hS
  replace hf := hf.trans (ltt_r eu15)
  exact g_endv hx hb hr hlocks hf hP hD hS (Nat.le_of_ble_eq_true rfl) (Nat.le_of_ble_eq_true rfl) dX0_becomeLike_120
def lp_X1_becomeLike_57 (σ : Sg × Sg)  : Nat → Nat → Sg × Sg → (Sg × Sg)
  | 0, k, τ => τ
  | n + 1, k, τ => ltt (s_X2_becomeLike τ k) (fun u5 => lp_X1_becomeLike_57 σ n (k + 1) u5)
def lp_X1_becomeLike_88 (σ : Sg × Sg)  : Nat → Nat → Sg × Sg → (Sg × Sg)
  | 0, k, τ => τ
  | n + 1, k, τ => ltt (s_X3_becomeLike τ k) (fun u10 => lp_X1_becomeLike_88 σ n (k + 1) u10)
def lp_X1_becomeLike_119 (σ : Sg × Sg)  : Nat → Nat → Sg × Sg → (Sg × Sg)
  | 0, k, τ => τ
  | n + 1, k, τ => ltt (s_X0_becomeLike τ k) (fun u15 => lp_X1_becomeLike_119 σ n (k + 1) u15)
def s_X1_becomeLike (σ : Sg × Sg) : Sg × Sg := ltt ((σ.1, upr σ.2 1 (va_cpy (σ.1 1) (σ.2 1) 0 0 24))) (fun u16 => ltt ((u16.1, up u16.2 0 4 (u16.1 0 4))) (fun u17 => ltt ((u17.1, up u17.2 0 5 (u17.1 0 5))) (fun u18 => ltt ((u18.1, up u18.2 0 6 (u18.1 0 6))) (fun u19 => ltt ((u19.1, up u19.2 0 7 (u19.1 0 7))) (fun u20 => ltt ((u20.1, up u20.2 0 8 (u20.1 0 8))) (fun u21 => ltt (lp_X1_becomeLike_57 σ (tn (σ.1 0 5)) 0 u21) (fun q22 => ltt (lp_X1_becomeLike_88 σ (tn (σ.1 0 6)) 0 q22) (fun q23 => ltt (lp_X1_becomeLike_119 σ (tn (σ.1 0 7)) 0 q23) (fun q24 => q24)))))))))
theorem zl_X1_becomeLike_57 (σ : Sg × Sg) : ∀ (n k : Nat) (τ : Sg × Sg), (lp_X1_becomeLike_57 σ n k τ).1 = τ.1 ∧ (lp_X1_becomeLike_57 σ n k τ).2 0 = τ.2 0 := by
  intro n
  induction n with
  | zero => intro k τ; exact ⟨rfl, rfl⟩
  | succ n ih =>
    intro k τ
    have h1 := ih (k + 1) (s_X2_becomeLike τ k)
    have h2 := z_X2_becomeLike τ k
    exact ⟨h1.1.trans h2.1, h1.2.trans h2.2⟩
theorem zl_X1_becomeLike_88 (σ : Sg × Sg) : ∀ (n k : Nat) (τ : Sg × Sg), (lp_X1_becomeLike_88 σ n k τ).1 = τ.1 ∧ (lp_X1_becomeLike_88 σ n k τ).2 0 = τ.2 0 := by
  intro n
  induction n with
  | zero => intro k τ; exact ⟨rfl, rfl⟩
  | succ n ih =>
    intro k τ
    have h1 := ih (k + 1) (s_X3_becomeLike τ k)
    have h2 := z_X3_becomeLike τ k
    exact ⟨h1.1.trans h2.1, h1.2.trans h2.2⟩
theorem zl_X1_becomeLike_119 (σ : Sg × Sg) : ∀ (n k : Nat) (τ : Sg × Sg), (lp_X1_becomeLike_119 σ n k τ).1 = τ.1 ∧ (lp_X1_becomeLike_119 σ n k τ).2 0 = τ.2 0 := by
  intro n
  induction n with
  | zero => intro k τ; exact ⟨rfl, rfl⟩
  | succ n ih =>
    intro k τ
    have h1 := ih (k + 1) (s_X0_becomeLike τ k)
    have h2 := z_X0_becomeLike τ k
    exact ⟨h1.1.trans h2.1, h1.2.trans h2.2⟩
abbrev rm_X1_becomeLike : Room := { frames := 1, cells := 0, slots := 0, locals := 26 }
set_option maxHeartbeats 4000000 in
set_option maxRecDepth 100000 in
theorem c_X1_becomeLike (l : Launch) (D : va_G) (cy : Nat → ClassId) (ad ad2 : Nat → Nat) (σ : Sg × Sg) (hI : OkR σ.1) : gMv l yX1_becomeLike wsX1_becomeLike rm_X1_becomeLike D (Ty cy) (RW2 cy ad ad2) [.ref (ad2 0), .ref (ad 0)] σ (s_X1_becomeLike σ) 0 0 := by
  refine gstartv cX1_becomeLike 3 RX1 (by decide) rfl rfl (Nat.le_of_ble_eq_true rfl) ?_
  intro p e s m below meth c A ls hx hb hml hown hts hr hlocks hK hP hD hA hS hl
  have hl : lv_has ls 3 [(0, .ref (ad2 0)), (1, .ref (ad 0))] := hl
  have hf : s_X1_becomeLike σ = s_X1_becomeLike σ := rfl
  have hin1 : ∀ w ∈ wsX10, w ∈ wsX1_becomeLike := by decide +kernel
  have wd0 := hts (.fieldLink RX1 46 "UmbrellaLand$Republic" "shelterCount" "I") (by decide +kernel)
  have wd1 := hts (.fieldLink RX1 17 "UmbrellaLand$Republic" "shelters" "[LUmbrellaLand$Shelter;") (by decide +kernel)
  have wd2 := hts (.fieldLink RX1 49 "UmbrellaLand$Republic" "umbrellaCount" "I") (by decide +kernel)
  have wd3 := hts (.fieldLink RX1 23 "UmbrellaLand$Republic" "umbrellas" "[LUmbrellaLand$Umbrella;") (by decide +kernel)
  have wd4 := hts (.fieldLink RX1 52 "UmbrellaLand$Republic" "citizenCount" "I") (by decide +kernel)
  have wd5 := hts (.fieldLink RX1 29 "UmbrellaLand$Republic" "citizens" "[LUmbrellaLand$Citizen;") (by decide +kernel)
  have wd6 := hts (.fieldLink RX1 9 "UmbrellaLand$Republic" "rain" "[I") (by decide +kernel)
  have wd7 := hts (.methodLink RX1 36 arraycopyName) (by decide +kernel)
  have wd8 := hts (.native arraycopyName) (by decide +kernel)
  have wd9 := hts (.static arraycopyName) (by decide +kernel)
  have wd10 := hts (.initialized "java/lang/System") (by decide +kernel)
  have wd11 := hts (.fieldLink RX1 42 "UmbrellaLand$Republic" "hour" "I") (by decide +kernel)
  have wd12 := hts (.fieldLink RX1 55 "UmbrellaLand$Republic" "carried" "I") (by decide +kernel)
  have n5 := hI.n5
  have n6 := hI.n6
  have n7 := hI.n7
  have loop57 : ∀  (n k : Nat)  (τ : Sg × Sg) (H : Heap) (locs : List Loc) (ls : Array Slot), n = tn (σ.1 0 5) - k ∧ k ≤ tn (σ.1 0 5) + 1 → (JB σ τ) → va_P D vwCl ((RW2 cy ad ad2) τ) H → va_D A ((RW2 cy ad ad2) τ) → va_S A s.heap H locs → lv_has ls 3 [(0, .ref (ad2 0)), (1, .ref (ad 0)), (2, .int (nI k))] → (∀ u : (Sg × Sg), u = lp_X1_becomeLike_57 σ n k τ → ∀ (H : Heap) (locs : List Loc) (ls : Array Slot), va_P D vwCl ((RW2 cy ad ad2) u) H → va_D A ((RW2 cy ad ad2) u) → va_S A s.heap H locs → lv_has ls 3 [(0, .ref (ad2 0)), (1, .ref (ad 0))] → W p l e rm_X1_becomeLike s m [.ref (ad2 0), .ref (ad 0)].toArray below meth c H locs 0 0 (MQ below (va_Qv (fun u => u = s_X1_becomeLike σ) (gPost D (RW2 cy ad ad2) A) A) [.ref (ad2 0), .ref (ad 0)].toArray s 0 0 A) (F0 m 86 ls [])) → W p l e rm_X1_becomeLike s m [.ref (ad2 0), .ref (ad 0)].toArray below meth c H locs 0 0 (MQ below (va_Qv (fun u => u = s_X1_becomeLike σ) (gPost D (RW2 cy ad ad2) A) A) [.ref (ad2 0), .ref (ad 0)].toArray s 0 0 A) (F0 m 57 ls []) := by
    intro n
    induction n with
    | zero =>
      intro k τ H locs ls hN hi0 hP hD hS hl K
      have hf : lp_X1_becomeLike_57 σ 0 k τ = lp_X1_becomeLike_57 σ 0 k τ := rfl
      refine lv_iload_n hx hb dX1_becomeLike_57 rfl (lv_at hl 2 rfl) ?_
      refine lv_aload_n hx hb dX1_becomeLike_58 rfl (lv_at hl 0 rfl) ?_
      refine va_get (D := D) (ci := 1) (v := .int (τ.2 0 5)) (C := RX1) (T := TX1) (N := 9) hx hb hts hin1 hown hK hP (63 + (0)) (gx_r (WD_len _ _ _ _) (RW_ob cy ad2 τ.2)) rfl 5 (by decide) wd0 (fun _ h9 => h9) rfl dX1_becomeLike_59 ?_
      refine g_top (hi0.2.1) ?_
      refine lv_icmp_ge (tgt := 86) hx hb dX1_becomeLike_62 (by decide) (fun c1 => ?_) (fun c1 => absurd (nI_le (by omega) (by omega)) c1)
      exact K τ hf.symm _ _ _ hP hD hS (lv_sub hl [0, 1] rfl)
    | succ n ih =>
      intro k τ H locs ls hN hi0 hP hD hS hl K
      have hf : lp_X1_becomeLike_57 σ (n + 1) k τ = lp_X1_becomeLike_57 σ (n + 1) k τ := rfl
      refine lv_iload_n hx hb dX1_becomeLike_57 rfl (lv_at hl 2 rfl) ?_
      refine lv_aload_n hx hb dX1_becomeLike_58 rfl (lv_at hl 0 rfl) ?_
      refine va_get (D := D) (ci := 1) (v := .int (τ.2 0 5)) (C := RX1) (T := TX1) (N := 9) hx hb hts hin1 hown hK hP (63 + (0)) (gx_r (WD_len _ _ _ _) (RW_ob cy ad2 τ.2)) rfl 5 (by decide) wd0 (fun _ h9 => h9) rfl dX1_becomeLike_59 ?_
      refine g_top (hi0.2.1) ?_
      refine lv_icmp_ge (tgt := 86) hx hb dX1_becomeLike_62 (by decide) (fun c2 => absurd c2 (nI_ge (by omega) (by omega))) (fun c2 => ?_)
      refine lv_aload_n hx hb dX1_becomeLike_65 rfl (lv_at hl 0 rfl) ?_
      refine va_get (D := D) (ci := 1) (v := .ref (ad2 2)) (C := RX1) (T := TX1) (N := 9) hx hb hts hin1 hown hK hP (63 + (0)) (gx_r (WD_len _ _ _ _) (RW_ob cy ad2 τ.2)) rfl 1 (by decide) wd1 (fun _ h9 => h9) rfl dX1_becomeLike_66 ?_
      refine lv_iload_n hx hb dX1_becomeLike_69 rfl (lv_at hl 2 rfl) ?_
      have h3 : k < 8 := by omega
      refine g_aald (b := ad2 (5 + k)) hx hb hK hP (63 + (2)) 1 k (gx_r (WD_len _ _ _ _) (RW_as cy ad2 τ.2)) rfl (nI_clamp (by omega)) (vp_in_nI h3 (by decide)) rfl dX1_becomeLike_70 ?_
      refine lv_aload_n hx hb dX1_becomeLike_71 rfl (lv_at hl 1 rfl) ?_
      refine va_get (D := D) (ci := 1) (v := .ref (ad 2)) (C := RX1) (T := TX1) (N := 9) hx hb hts hin1 hown hK hP (0) (gx_l (RW_ob cy ad τ.1)) rfl 1 (by decide) wd1 (fun _ h9 => h9) rfl dX1_becomeLike_72 ?_
      refine lv_iload_n hx hb dX1_becomeLike_75 rfl (lv_at hl 2 rfl) ?_
      have h4 : k < 8 := by omega
      refine g_aald (b := ad (5 + k)) hx hb hK hP (2) 1 k (gx_l (RW_as cy ad τ.1)) rfl (nI_clamp (by omega)) (vp_in_nI h4 (by decide)) rfl dX1_becomeLike_76 ?_
      refine g_callv (q0 := 63 + (5 + k)) (wf := (RW2 cy ad ad2)) (σ := τ) (wfc := (RW2 cy ad ad2)) (σc := τ) hx hb hml hown hts hK hP hD hS hA hl.1 [] pm_0 (fun u => u) (fun _ => pm_0b) [.ref (ad (5 + k))] (c_X2_becomeLike l D cy ad ad2 τ k h3) (cwV 1 hts gX1_becomeLike_X2_becomeLike rfl rfl rfl (by decide +kernel) ⟨Nat.le_of_ble_eq_true rfl, Nat.le_of_ble_eq_true rfl⟩) (gx_r (WD_len _ _ _ _) (RW_sh cy ad2 τ.2 h3)) rfl rfl rfl rfl (Nat.le_of_ble_eq_true rfl) dX1_becomeLike_77 ⟨Nat.le_of_ble_eq_true rfl, Nat.le_of_ble_eq_true rfl⟩ rfl rfl ?_
      intro u5 eu5 H locs hP hD hS
      replace hf := hf.trans (ltt_r eu5)
      refine lv_iinc (v := nI (k + 1)) (lv' := [(2, .int (nI (k + 1))), (0, .ref (ad2 0)), (1, .ref (ad 0))]) hx hb dX1_becomeLike_80 hl (k := 2) rfl (nI_1 _) (by decide) rfl (fun ls hl => ?_)
      refine lv_goto (tgt := 57) hx hb dX1_becomeLike_83 (by decide) ?_
      exact ih (k + 1)  u5 _ _ _ (by omega) (by rw [eu5]; exact JB_of hi0 (z_X2_becomeLike _ _)) hP hD hS (lv_sub hl [1, 2, 0] rfl) (fun u eu => K u (eu.trans hf.symm))
  have loop88 : ∀  (n k : Nat)  (τ : Sg × Sg) (H : Heap) (locs : List Loc) (ls : Array Slot), n = tn (σ.1 0 6) - k ∧ k ≤ tn (σ.1 0 6) + 1 → (JB σ τ) → va_P D vwCl ((RW2 cy ad ad2) τ) H → va_D A ((RW2 cy ad ad2) τ) → va_S A s.heap H locs → lv_has ls 3 [(0, .ref (ad2 0)), (1, .ref (ad 0)), (2, .int (nI k))] → (∀ u : (Sg × Sg), u = lp_X1_becomeLike_88 σ n k τ → ∀ (H : Heap) (locs : List Loc) (ls : Array Slot), va_P D vwCl ((RW2 cy ad ad2) u) H → va_D A ((RW2 cy ad ad2) u) → va_S A s.heap H locs → lv_has ls 3 [(0, .ref (ad2 0)), (1, .ref (ad 0))] → W p l e rm_X1_becomeLike s m [.ref (ad2 0), .ref (ad 0)].toArray below meth c H locs 0 0 (MQ below (va_Qv (fun u => u = s_X1_becomeLike σ) (gPost D (RW2 cy ad ad2) A) A) [.ref (ad2 0), .ref (ad 0)].toArray s 0 0 A) (F0 m 117 ls [])) → W p l e rm_X1_becomeLike s m [.ref (ad2 0), .ref (ad 0)].toArray below meth c H locs 0 0 (MQ below (va_Qv (fun u => u = s_X1_becomeLike σ) (gPost D (RW2 cy ad ad2) A) A) [.ref (ad2 0), .ref (ad 0)].toArray s 0 0 A) (F0 m 88 ls []) := by
    intro n
    induction n with
    | zero =>
      intro k τ H locs ls hN hi0 hP hD hS hl K
      have hf : lp_X1_becomeLike_88 σ 0 k τ = lp_X1_becomeLike_88 σ 0 k τ := rfl
      refine lv_iload_n hx hb dX1_becomeLike_88 rfl (lv_at hl 2 rfl) ?_
      refine lv_aload_n hx hb dX1_becomeLike_89 rfl (lv_at hl 0 rfl) ?_
      refine va_get (D := D) (ci := 1) (v := .int (τ.2 0 6)) (C := RX1) (T := TX1) (N := 9) hx hb hts hin1 hown hK hP (63 + (0)) (gx_r (WD_len _ _ _ _) (RW_ob cy ad2 τ.2)) rfl 6 (by decide) wd2 (fun _ h9 => h9) rfl dX1_becomeLike_90 ?_
      refine g_top (hi0.2.2.1) ?_
      refine lv_icmp_ge (tgt := 117) hx hb dX1_becomeLike_93 (by decide) (fun c6 => ?_) (fun c6 => absurd (nI_le (by omega) (by omega)) c6)
      exact K τ hf.symm _ _ _ hP hD hS (lv_sub hl [0, 1] rfl)
    | succ n ih =>
      intro k τ H locs ls hN hi0 hP hD hS hl K
      have hf : lp_X1_becomeLike_88 σ (n + 1) k τ = lp_X1_becomeLike_88 σ (n + 1) k τ := rfl
      refine lv_iload_n hx hb dX1_becomeLike_88 rfl (lv_at hl 2 rfl) ?_
      refine lv_aload_n hx hb dX1_becomeLike_89 rfl (lv_at hl 0 rfl) ?_
      refine va_get (D := D) (ci := 1) (v := .int (τ.2 0 6)) (C := RX1) (T := TX1) (N := 9) hx hb hts hin1 hown hK hP (63 + (0)) (gx_r (WD_len _ _ _ _) (RW_ob cy ad2 τ.2)) rfl 6 (by decide) wd2 (fun _ h9 => h9) rfl dX1_becomeLike_90 ?_
      refine g_top (hi0.2.2.1) ?_
      refine lv_icmp_ge (tgt := 117) hx hb dX1_becomeLike_93 (by decide) (fun c7 => absurd c7 (nI_ge (by omega) (by omega))) (fun c7 => ?_)
      refine lv_aload_n hx hb dX1_becomeLike_96 rfl (lv_at hl 0 rfl) ?_
      refine va_get (D := D) (ci := 1) (v := .ref (ad2 3)) (C := RX1) (T := TX1) (N := 9) hx hb hts hin1 hown hK hP (63 + (0)) (gx_r (WD_len _ _ _ _) (RW_ob cy ad2 τ.2)) rfl 2 (by decide) wd3 (fun _ h9 => h9) rfl dX1_becomeLike_97 ?_
      refine lv_iload_n hx hb dX1_becomeLike_100 rfl (lv_at hl 2 rfl) ?_
      have h8 : k < 40 := by omega
      refine g_aald (b := ad2 (13 + k)) hx hb hK hP (63 + (3)) 2 k (gx_r (WD_len _ _ _ _) (RW_au cy ad2 τ.2)) rfl (nI_clamp (by omega)) (vp_in_nI h8 (by decide)) rfl dX1_becomeLike_101 ?_
      refine lv_aload_n hx hb dX1_becomeLike_102 rfl (lv_at hl 1 rfl) ?_
      refine va_get (D := D) (ci := 1) (v := .ref (ad 3)) (C := RX1) (T := TX1) (N := 9) hx hb hts hin1 hown hK hP (0) (gx_l (RW_ob cy ad τ.1)) rfl 2 (by decide) wd3 (fun _ h9 => h9) rfl dX1_becomeLike_103 ?_
      refine lv_iload_n hx hb dX1_becomeLike_106 rfl (lv_at hl 2 rfl) ?_
      have h9 : k < 40 := by omega
      refine g_aald (b := ad (13 + k)) hx hb hK hP (3) 2 k (gx_l (RW_au cy ad τ.1)) rfl (nI_clamp (by omega)) (vp_in_nI h9 (by decide)) rfl dX1_becomeLike_107 ?_
      refine g_callv (q0 := 63 + (13 + k)) (wf := (RW2 cy ad ad2)) (σ := τ) (wfc := (RW2 cy ad ad2)) (σc := τ) hx hb hml hown hts hK hP hD hS hA hl.1 [] pm_0 (fun u => u) (fun _ => pm_0b) [.ref (ad (13 + k))] (c_X3_becomeLike l D cy ad ad2 τ k h8) (cwV 1 hts gX1_becomeLike_X3_becomeLike rfl rfl rfl (by decide +kernel) ⟨Nat.le_of_ble_eq_true rfl, Nat.le_of_ble_eq_true rfl⟩) (gx_r (WD_len _ _ _ _) (RW_um cy ad2 τ.2 h8)) rfl rfl rfl rfl (Nat.le_of_ble_eq_true rfl) dX1_becomeLike_108 ⟨Nat.le_of_ble_eq_true rfl, Nat.le_of_ble_eq_true rfl⟩ rfl rfl ?_
      intro u10 eu10 H locs hP hD hS
      replace hf := hf.trans (ltt_r eu10)
      refine lv_iinc (v := nI (k + 1)) (lv' := [(2, .int (nI (k + 1))), (0, .ref (ad2 0)), (1, .ref (ad 0))]) hx hb dX1_becomeLike_111 hl (k := 2) rfl (nI_1 _) (by decide) rfl (fun ls hl => ?_)
      refine lv_goto (tgt := 88) hx hb dX1_becomeLike_114 (by decide) ?_
      exact ih (k + 1)  u10 _ _ _ (by omega) (by rw [eu10]; exact JB_of hi0 (z_X3_becomeLike _ _)) hP hD hS (lv_sub hl [1, 2, 0] rfl) (fun u eu => K u (eu.trans hf.symm))
  have loop119 : ∀  (n k : Nat)  (τ : Sg × Sg) (H : Heap) (locs : List Loc) (ls : Array Slot), n = tn (σ.1 0 7) - k ∧ k ≤ tn (σ.1 0 7) + 1 → (JB σ τ) → va_P D vwCl ((RW2 cy ad ad2) τ) H → va_D A ((RW2 cy ad ad2) τ) → va_S A s.heap H locs → lv_has ls 3 [(0, .ref (ad2 0)), (1, .ref (ad 0)), (2, .int (nI k))] → (∀ u : (Sg × Sg), u = lp_X1_becomeLike_119 σ n k τ → ∀ (H : Heap) (locs : List Loc) (ls : Array Slot), va_P D vwCl ((RW2 cy ad ad2) u) H → va_D A ((RW2 cy ad ad2) u) → va_S A s.heap H locs → lv_has ls 3 [(0, .ref (ad2 0)), (1, .ref (ad 0))] → W p l e rm_X1_becomeLike s m [.ref (ad2 0), .ref (ad 0)].toArray below meth c H locs 0 0 (MQ below (va_Qv (fun u => u = s_X1_becomeLike σ) (gPost D (RW2 cy ad ad2) A) A) [.ref (ad2 0), .ref (ad 0)].toArray s 0 0 A) (F0 m 148 ls [])) → W p l e rm_X1_becomeLike s m [.ref (ad2 0), .ref (ad 0)].toArray below meth c H locs 0 0 (MQ below (va_Qv (fun u => u = s_X1_becomeLike σ) (gPost D (RW2 cy ad ad2) A) A) [.ref (ad2 0), .ref (ad 0)].toArray s 0 0 A) (F0 m 119 ls []) := by
    intro n
    induction n with
    | zero =>
      intro k τ H locs ls hN hi0 hP hD hS hl K
      have hf : lp_X1_becomeLike_119 σ 0 k τ = lp_X1_becomeLike_119 σ 0 k τ := rfl
      refine lv_iload_n hx hb dX1_becomeLike_119 rfl (lv_at hl 2 rfl) ?_
      refine lv_aload_n hx hb dX1_becomeLike_120 rfl (lv_at hl 0 rfl) ?_
      refine va_get (D := D) (ci := 1) (v := .int (τ.2 0 7)) (C := RX1) (T := TX1) (N := 9) hx hb hts hin1 hown hK hP (63 + (0)) (gx_r (WD_len _ _ _ _) (RW_ob cy ad2 τ.2)) rfl 7 (by decide) wd4 (fun _ h9 => h9) rfl dX1_becomeLike_121 ?_
      refine g_top (hi0.2.2.2) ?_
      refine lv_icmp_ge (tgt := 148) hx hb dX1_becomeLike_124 (by decide) (fun c11 => ?_) (fun c11 => absurd (nI_le (by omega) (by omega)) c11)
      exact K τ hf.symm _ _ _ hP hD hS (lv_sub hl [0, 1] rfl)
    | succ n ih =>
      intro k τ H locs ls hN hi0 hP hD hS hl K
      have hf : lp_X1_becomeLike_119 σ (n + 1) k τ = lp_X1_becomeLike_119 σ (n + 1) k τ := rfl
      refine lv_iload_n hx hb dX1_becomeLike_119 rfl (lv_at hl 2 rfl) ?_
      refine lv_aload_n hx hb dX1_becomeLike_120 rfl (lv_at hl 0 rfl) ?_
      refine va_get (D := D) (ci := 1) (v := .int (τ.2 0 7)) (C := RX1) (T := TX1) (N := 9) hx hb hts hin1 hown hK hP (63 + (0)) (gx_r (WD_len _ _ _ _) (RW_ob cy ad2 τ.2)) rfl 7 (by decide) wd4 (fun _ h9 => h9) rfl dX1_becomeLike_121 ?_
      refine g_top (hi0.2.2.2) ?_
      refine lv_icmp_ge (tgt := 148) hx hb dX1_becomeLike_124 (by decide) (fun c12 => absurd c12 (nI_ge (by omega) (by omega))) (fun c12 => ?_)
      refine lv_aload_n hx hb dX1_becomeLike_127 rfl (lv_at hl 0 rfl) ?_
      refine va_get (D := D) (ci := 1) (v := .ref (ad2 4)) (C := RX1) (T := TX1) (N := 9) hx hb hts hin1 hown hK hP (63 + (0)) (gx_r (WD_len _ _ _ _) (RW_ob cy ad2 τ.2)) rfl 3 (by decide) wd5 (fun _ h9 => h9) rfl dX1_becomeLike_128 ?_
      refine lv_iload_n hx hb dX1_becomeLike_131 rfl (lv_at hl 2 rfl) ?_
      have h13 : k < 10 := by omega
      refine g_aald (b := ad2 (53 + k)) hx hb hK hP (63 + (4)) 3 k (gx_r (WD_len _ _ _ _) (RW_ac cy ad2 τ.2)) rfl (nI_clamp (by omega)) (vp_in_nI h13 (by decide)) rfl dX1_becomeLike_132 ?_
      refine lv_aload_n hx hb dX1_becomeLike_133 rfl (lv_at hl 1 rfl) ?_
      refine va_get (D := D) (ci := 1) (v := .ref (ad 4)) (C := RX1) (T := TX1) (N := 9) hx hb hts hin1 hown hK hP (0) (gx_l (RW_ob cy ad τ.1)) rfl 3 (by decide) wd5 (fun _ h9 => h9) rfl dX1_becomeLike_134 ?_
      refine lv_iload_n hx hb dX1_becomeLike_137 rfl (lv_at hl 2 rfl) ?_
      have h14 : k < 10 := by omega
      refine g_aald (b := ad (53 + k)) hx hb hK hP (4) 3 k (gx_l (RW_ac cy ad τ.1)) rfl (nI_clamp (by omega)) (vp_in_nI h14 (by decide)) rfl dX1_becomeLike_138 ?_
      refine g_callv (q0 := 63 + (53 + k)) (wf := (RW2 cy ad ad2)) (σ := τ) (wfc := (RW2 cy ad ad2)) (σc := τ) hx hb hml hown hts hK hP hD hS hA hl.1 [] pm_0 (fun u => u) (fun _ => pm_0b) [.ref (ad (53 + k))] (c_X0_becomeLike l D cy ad ad2 τ k h13) (cwV 1 hts gX1_becomeLike_X0_becomeLike rfl rfl rfl (by decide +kernel) ⟨Nat.le_of_ble_eq_true rfl, Nat.le_of_ble_eq_true rfl⟩) (gx_r (WD_len _ _ _ _) (RW_ci cy ad2 τ.2 h13)) rfl rfl rfl rfl (Nat.le_of_ble_eq_true rfl) dX1_becomeLike_139 ⟨Nat.le_of_ble_eq_true rfl, Nat.le_of_ble_eq_true rfl⟩ rfl rfl ?_
      intro u15 eu15 H locs hP hD hS
      replace hf := hf.trans (ltt_r eu15)
      refine lv_iinc (v := nI (k + 1)) (lv' := [(2, .int (nI (k + 1))), (0, .ref (ad2 0)), (1, .ref (ad 0))]) hx hb dX1_becomeLike_142 hl (k := 2) rfl (nI_1 _) (by decide) rfl (fun ls hl => ?_)
      refine lv_goto (tgt := 119) hx hb dX1_becomeLike_145 (by decide) ?_
      exact ih (k + 1)  u15 _ _ _ (by omega) (by rw [eu15]; exact JB_of hi0 (z_X0_becomeLike _ _)) hP hD hS (lv_sub hl [1, 2, 0] rfl) (fun u eu => K u (eu.trans hf.symm))
  refine lv_aload_n hx hb dX1_becomeLike_0 rfl (lv_at hl 1 rfl) ?_
  refine va_get (D := D) (ci := 1) (v := .ref (ad 1)) (C := RX1) (T := TX1) (N := 9) hx hb hts hin1 hown hK hP (0) (gx_l (RW_ob cy ad σ.1)) rfl 0 (by decide) wd6 (fun _ h9 => h9) rfl dX1_becomeLike_1 ?_
  refine lv_iconst (v := nI 0) hx hb dX1_becomeLike_4 (by decide) ?_
  refine lv_aload_n hx hb dX1_becomeLike_5 rfl (lv_at hl 0 rfl) ?_
  refine va_get (D := D) (ci := 1) (v := .ref (ad2 1)) (C := RX1) (T := TX1) (N := 9) hx hb hts hin1 hown hK hP (63 + (0)) (gx_r (WD_len _ _ _ _) (RW_ob cy ad2 σ.2)) rfl 0 (by decide) wd6 (fun _ h9 => h9) rfl dX1_becomeLike_6 ?_
  refine lv_iconst (v := nI 0) hx hb dX1_becomeLike_9 (by decide) ?_
  refine lv_bipush (v := nI 24) hx hb dX1_becomeLike_10 (by decide) ?_
  refine g_copyi (σ1 := (σ.1, upr σ.2 1 (va_cpy (σ.1 1) (σ.2 1) 0 0 24))) hx hb (hml.trans hl.1.symm) hown wd7 wd8 wd9 wd10 hK hP hD hS (1) (63 + (1)) 0 0 (gx_l (RW_rn cy ad σ.1)) (gx_r (WD_len _ _ _ _) (RW_rn cy ad2 σ.2)) rfl rfl ⟨by omega, by omega⟩ ⟨by omega, by omega⟩ (Nat.le_of_ble_eq_true rfl) (Nat.le_of_ble_eq_true rfl) (gx_setr (WD_len _ _ _ _) (RW_rn_setr cy ad2 σ.2 _)) dX1_becomeLike_12 ?_
  intro u16 eu16 H locs hP hD hS
  replace hf := hf.trans (ltt_r eu16)
  refine lv_aload_n hx hb dX1_becomeLike_15 rfl (lv_at hl 0 rfl) ?_
  refine lv_aload_n hx hb dX1_becomeLike_16 rfl (lv_at hl 1 rfl) ?_
  refine va_get (D := D) (ci := 1) (v := .int (u16.1 0 4)) (C := RX1) (T := TX1) (N := 9) hx hb hts hin1 hown hK hP (0) (gx_l (RW_ob cy ad u16.1)) rfl 4 (by decide) wd11 (fun _ h9 => h9) rfl dX1_becomeLike_17 ?_
  refine g_put (σ1 := (u16.1, up u16.2 0 4 (u16.1 0 4))) (fs := obF ad2 (u16.2 0)) (C := RX1) (T := TX1) (N := 9) hx hb hts hin1 tyX1_ok nmX1 hown hK hP hD hS (63 + (0)) (gx_r (WD_len _ _ _ _) (RW_ob cy ad2 u16.2)) rfl 4 (by decide) wd11 rfl rfl (Nat.le_of_ble_eq_true rfl) (gx_setr (WD_len _ _ _ _) (RW_ob_set cy ad2 u16.2 4 (by decide) _)) dX1_becomeLike_20 ?_
  intro u17 eu17 H locs hP hD hS
  replace hf := hf.trans (ltt_r eu17)
  refine lv_aload_n hx hb dX1_becomeLike_23 rfl (lv_at hl 0 rfl) ?_
  refine lv_aload_n hx hb dX1_becomeLike_24 rfl (lv_at hl 1 rfl) ?_
  refine va_get (D := D) (ci := 1) (v := .int (u17.1 0 5)) (C := RX1) (T := TX1) (N := 9) hx hb hts hin1 hown hK hP (0) (gx_l (RW_ob cy ad u17.1)) rfl 5 (by decide) wd0 (fun _ h9 => h9) rfl dX1_becomeLike_25 ?_
  refine g_put (σ1 := (u17.1, up u17.2 0 5 (u17.1 0 5))) (fs := obF ad2 (u17.2 0)) (C := RX1) (T := TX1) (N := 9) hx hb hts hin1 tyX1_ok nmX1 hown hK hP hD hS (63 + (0)) (gx_r (WD_len _ _ _ _) (RW_ob cy ad2 u17.2)) rfl 5 (by decide) wd0 rfl rfl (Nat.le_of_ble_eq_true rfl) (gx_setr (WD_len _ _ _ _) (RW_ob_set cy ad2 u17.2 5 (by decide) _)) dX1_becomeLike_28 ?_
  intro u18 eu18 H locs hP hD hS
  replace hf := hf.trans (ltt_r eu18)
  refine lv_aload_n hx hb dX1_becomeLike_31 rfl (lv_at hl 0 rfl) ?_
  refine lv_aload_n hx hb dX1_becomeLike_32 rfl (lv_at hl 1 rfl) ?_
  refine va_get (D := D) (ci := 1) (v := .int (u18.1 0 6)) (C := RX1) (T := TX1) (N := 9) hx hb hts hin1 hown hK hP (0) (gx_l (RW_ob cy ad u18.1)) rfl 6 (by decide) wd2 (fun _ h9 => h9) rfl dX1_becomeLike_33 ?_
  refine g_put (σ1 := (u18.1, up u18.2 0 6 (u18.1 0 6))) (fs := obF ad2 (u18.2 0)) (C := RX1) (T := TX1) (N := 9) hx hb hts hin1 tyX1_ok nmX1 hown hK hP hD hS (63 + (0)) (gx_r (WD_len _ _ _ _) (RW_ob cy ad2 u18.2)) rfl 6 (by decide) wd2 rfl rfl (Nat.le_of_ble_eq_true rfl) (gx_setr (WD_len _ _ _ _) (RW_ob_set cy ad2 u18.2 6 (by decide) _)) dX1_becomeLike_36 ?_
  intro u19 eu19 H locs hP hD hS
  replace hf := hf.trans (ltt_r eu19)
  refine lv_aload_n hx hb dX1_becomeLike_39 rfl (lv_at hl 0 rfl) ?_
  refine lv_aload_n hx hb dX1_becomeLike_40 rfl (lv_at hl 1 rfl) ?_
  refine va_get (D := D) (ci := 1) (v := .int (u19.1 0 7)) (C := RX1) (T := TX1) (N := 9) hx hb hts hin1 hown hK hP (0) (gx_l (RW_ob cy ad u19.1)) rfl 7 (by decide) wd4 (fun _ h9 => h9) rfl dX1_becomeLike_41 ?_
  refine g_put (σ1 := (u19.1, up u19.2 0 7 (u19.1 0 7))) (fs := obF ad2 (u19.2 0)) (C := RX1) (T := TX1) (N := 9) hx hb hts hin1 tyX1_ok nmX1 hown hK hP hD hS (63 + (0)) (gx_r (WD_len _ _ _ _) (RW_ob cy ad2 u19.2)) rfl 7 (by decide) wd4 rfl rfl (Nat.le_of_ble_eq_true rfl) (gx_setr (WD_len _ _ _ _) (RW_ob_set cy ad2 u19.2 7 (by decide) _)) dX1_becomeLike_44 ?_
  intro u20 eu20 H locs hP hD hS
  replace hf := hf.trans (ltt_r eu20)
  refine lv_aload_n hx hb dX1_becomeLike_47 rfl (lv_at hl 0 rfl) ?_
  refine lv_aload_n hx hb dX1_becomeLike_48 rfl (lv_at hl 1 rfl) ?_
  refine va_get (D := D) (ci := 1) (v := .int (u20.1 0 8)) (C := RX1) (T := TX1) (N := 9) hx hb hts hin1 hown hK hP (0) (gx_l (RW_ob cy ad u20.1)) rfl 8 (by decide) wd12 (fun _ h9 => h9) rfl dX1_becomeLike_49 ?_
  refine g_put (σ1 := (u20.1, up u20.2 0 8 (u20.1 0 8))) (fs := obF ad2 (u20.2 0)) (C := RX1) (T := TX1) (N := 9) hx hb hts hin1 tyX1_ok nmX1 hown hK hP hD hS (63 + (0)) (gx_r (WD_len _ _ _ _) (RW_ob cy ad2 u20.2)) rfl 8 (by decide) wd12 rfl rfl (Nat.le_of_ble_eq_true rfl) (gx_setr (WD_len _ _ _ _) (RW_ob_set cy ad2 u20.2 8 (by decide) _)) dX1_becomeLike_52 ?_
  intro u21 eu21 H locs hP hD hS
  replace hf := hf.trans (ltt_r eu21)
  refine lv_iconst (v := nI 0) hx hb dX1_becomeLike_55 (by decide) ?_
  refine lv_istore_n (lv' := [(2, .int (nI 0)), (0, .ref (ad2 0)), (1, .ref (ad 0))]) hx hb dX1_becomeLike_56 rfl hl (by decide) rfl (fun ls hl => ?_)
  have hJ : JB σ u21 := by subst_vars; exact ⟨rfl, hI.c5, hI.c6, hI.c7⟩
  refine loop57  (tn (σ.1 0 5)) 0  u21 _ _ _ (by omega) hJ hP hD hS (lv_sub hl [1, 2, 0] rfl) ?_
  intro q22 eq22 H locs ls hP hD hS hl
  replace hf := hf.trans (ltt_r eq22)
  refine lv_iconst (v := nI 0) hx hb dX1_becomeLike_86 (by decide) ?_
  refine lv_istore_n (lv' := [(2, .int (nI 0)), (0, .ref (ad2 0)), (1, .ref (ad 0))]) hx hb dX1_becomeLike_87 rfl hl (by decide) rfl (fun ls hl => ?_)
  have hJ : JB σ q22 := by rw [eq22]; exact JB_of hJ (zl_X1_becomeLike_57 _ _ _ _)
  refine loop88  (tn (σ.1 0 6)) 0  q22 _ _ _ (by omega) hJ hP hD hS (lv_sub hl [1, 2, 0] rfl) ?_
  intro q23 eq23 H locs ls hP hD hS hl
  replace hf := hf.trans (ltt_r eq23)
  refine lv_iconst (v := nI 0) hx hb dX1_becomeLike_117 (by decide) ?_
  refine lv_istore_n (lv' := [(2, .int (nI 0)), (0, .ref (ad2 0)), (1, .ref (ad 0))]) hx hb dX1_becomeLike_118 rfl hl (by decide) rfl (fun ls hl => ?_)
  have hJ : JB σ q23 := by rw [eq23]; exact JB_of hJ (zl_X1_becomeLike_88 _ _ _ _)
  refine loop119  (tn (σ.1 0 7)) 0  q23 _ _ _ (by omega) hJ hP hD hS (lv_sub hl [1, 2, 0] rfl) ?_
  intro q24 eq24 H locs ls hP hD hS hl
  replace hf := hf.trans (ltt_r eq24)
  exact g_endv hx hb hr hlocks hf hP hD hS (Nat.le_of_ble_eq_true rfl) (Nat.le_of_ble_eq_true rfl) dX1_becomeLike_148
