def s_J9_floorMod_7cf53 (x : Int32) (y : Int32) : Int32 := if 0 ≤ (x ^^^ y) then x - x / y * y else if (x - x / y * y) = 0 then x - x / y * y else (x - x / y * y) + y
abbrev rm_J9_floorMod_7cf53 : Room := { frames := 0, cells := 0, slots := 0, locals := 0 }
set_option maxHeartbeats 4000000 in
set_option maxRecDepth 100000 in
theorem c_J9_floorMod_7cf53 (l : Launch) (D : va_G) (cy : Nat → ClassId) (x : Int32) (y : Int32) (hy : ¬ y = 0) : gMr l yJ9_floorMod_7cf53 wsJ9_floorMod_7cf53 rm_J9_floorMod_7cf53 D (Ty cy) w0 [.int (x), .int (y)] () (s_J9_floorMod_7cf53 x y) 0 0 := by
  refine gstartiF cJ9_floorMod_7cf53 3 RJ9 (by decide +kernel) rfl rfl (Nat.le_of_ble_eq_true rfl) ?_
  intro p e s m below meth c A ls hx hb hml hown hts hr hlocks hK hP hD hA hS hl
  have hl : lv_has ls 3 [(0, .int (x)), (1, .int (y))] := hl
  have hf : s_J9_floorMod_7cf53 x y = s_J9_floorMod_7cf53 x y := rfl
  refine lv_iload_n hx hb dJ9_floorMod_7cf53_0 rfl (lv_at hl 0 rfl) ?_
  refine lv_iload_n hx hb dJ9_floorMod_7cf53_1 rfl (lv_at hl 1 rfl) ?_
  refine lv_irem hx hb dJ9_floorMod_7cf53_2 hy ?_
  refine lv_istore_n (lv' := [(2, .int (x - x / y * y)), (0, .int (x)), (1, .int (y))]) hx hb dJ9_floorMod_7cf53_3 rfl hl (by decide) rfl (fun ls hl => ?_)
  refine lv_iload_n hx hb dJ9_floorMod_7cf53_4 rfl (lv_at hl 1 rfl) ?_
  refine lv_iload_n hx hb dJ9_floorMod_7cf53_5 rfl (lv_at hl 2 rfl) ?_
  refine lv_ixor hx hb dJ9_floorMod_7cf53_6 ?_
  refine lv_if_ge (tgt := 18) hx hb dJ9_floorMod_7cf53_7 (by decide) (fun c1 => ?_) (fun c1 => ?_)
  · replace hf := hf.trans (if_pos c1)
    refine lv_iload_n hx hb dJ9_floorMod_7cf53_18 rfl (lv_at hl 0 rfl) ?_
    exact g_endi hx hb hr hlocks rfl (congrArg (fun r => (r, ())) hf) hP hD hS (Nat.le_of_ble_eq_true rfl) (Nat.le_of_ble_eq_true rfl) dJ9_floorMod_7cf53_19
  · replace hf := hf.trans (if_neg c1)
    refine lv_iload_n hx hb dJ9_floorMod_7cf53_10 rfl (lv_at hl 0 rfl) ?_
    refine lv_if_eq (tgt := 18) hx hb dJ9_floorMod_7cf53_11 (by decide) (fun c2 => ?_) (fun c2 => ?_)
    · replace hf := hf.trans (if_pos c2)
      refine lv_iload_n hx hb dJ9_floorMod_7cf53_18 rfl (lv_at hl 0 rfl) ?_
      exact g_endi hx hb hr hlocks rfl (congrArg (fun r => (r, ())) hf) hP hD hS (Nat.le_of_ble_eq_true rfl) (Nat.le_of_ble_eq_true rfl) dJ9_floorMod_7cf53_19
    · replace hf := hf.trans (if_neg c2)
      refine lv_iload_n hx hb dJ9_floorMod_7cf53_14 rfl (lv_at hl 0 rfl) ?_
      refine lv_iload_n hx hb dJ9_floorMod_7cf53_15 rfl (lv_at hl 2 rfl) ?_
      refine lv_iadd hx hb dJ9_floorMod_7cf53_16 ?_
      exact g_endi hx hb hr hlocks rfl (congrArg (fun r => (r, ())) hf) hP hD hS (Nat.le_of_ble_eq_true rfl) (Nat.le_of_ble_eq_true rfl) dJ9_floorMod_7cf53_17
def s_X1_isShelter (σ : Sg) (x : Int32) : Int32 := if x < 0 then nI 0 else if (σ 0 5) ≤ x then nI 0 else nI 1
abbrev rm_X1_isShelter : Room := { frames := 0, cells := 0, slots := 0, locals := 0 }
set_option maxHeartbeats 4000000 in
set_option maxRecDepth 100000 in
theorem c_X1_isShelter (l : Launch) (D : va_G) (cy : Nat → ClassId) (ad : Nat → Nat) (σ : Sg) (x : Int32)  : gMr l yX1_isShelter wsX1_isShelter rm_X1_isShelter D (Ty cy) (RW cy ad) [.ref (ad 0), .int (x)] σ (s_X1_isShelter σ x) 0 0 := by
  refine gstarti cX1_isShelter 2 RX1 (by decide) rfl rfl (Nat.le_of_ble_eq_true rfl) ?_
  intro p e s m below meth c A ls hx hb hml hown hts hr hlocks hK hP hD hA hS hl
  have hl : lv_has ls 2 [(0, .ref (ad 0)), (1, .int (x))] := hl
  have hf : s_X1_isShelter σ x = s_X1_isShelter σ x := rfl
  have hin1 : ∀ w ∈ wsX10, w ∈ wsX1_isShelter := by decide +kernel
  have wd0 := hts (.fieldLink RX1 46 "UmbrellaLand$Republic" "shelterCount" "I") (by decide +kernel)
  refine lv_iload_n hx hb dX1_isShelter_0 rfl (lv_at hl 1 rfl) ?_
  refine lv_if_lt (tgt := 16) hx hb dX1_isShelter_1 (by decide) (fun c1 => ?_) (fun c1 => ?_)
  · replace hf := hf.trans (if_pos c1)
    refine lv_iconst (v := nI 0) hx hb dX1_isShelter_16 (by decide) ?_
    exact g_endi hx hb hr hlocks rfl (congrArg (fun r => (r, σ)) hf) hP hD hS (Nat.le_of_ble_eq_true rfl) (Nat.le_of_ble_eq_true rfl) dX1_isShelter_17
  · replace hf := hf.trans (if_neg c1)
    refine lv_iload_n hx hb dX1_isShelter_4 rfl (lv_at hl 1 rfl) ?_
    refine lv_aload_n hx hb dX1_isShelter_5 rfl (lv_at hl 0 rfl) ?_
    refine va_get (D := D) (ci := 1) (v := .int (σ 0 5)) (C := RX1) (T := TX1) (N := 9) hx hb hts hin1 hown hK hP (0) (RW_ob cy ad σ) rfl 5 (by decide) wd0 (fun _ h9 => h9) rfl dX1_isShelter_6 ?_
    refine lv_icmp_ge (tgt := 16) hx hb dX1_isShelter_9 (by decide) (fun c2 => ?_) (fun c2 => ?_)
    · replace hf := hf.trans (if_pos c2)
      refine lv_iconst (v := nI 0) hx hb dX1_isShelter_16 (by decide) ?_
      exact g_endi hx hb hr hlocks rfl (congrArg (fun r => (r, σ)) hf) hP hD hS (Nat.le_of_ble_eq_true rfl) (Nat.le_of_ble_eq_true rfl) dX1_isShelter_17
    · replace hf := hf.trans (if_neg c2)
      refine lv_iconst (v := nI 1) hx hb dX1_isShelter_12 (by decide) ?_
      refine lv_goto (tgt := 17) hx hb dX1_isShelter_13 (by decide) ?_
      exact g_endi hx hb hr hlocks rfl (congrArg (fun r => (r, σ)) hf) hP hD hS (Nat.le_of_ble_eq_true rfl) (Nat.le_of_ble_eq_true rfl) dX1_isShelter_17
theorem b_X1_isShelter (σ : Sg) (x : Int32) : narrow .boolean (.int (s_X1_isShelter σ x)) = .int (s_X1_isShelter σ x) := by
  unfold s_X1_isShelter
  (try simp only [ltt])
  repeat' split
  all_goals rfl
def s_X1_isUmbrella (σ : Sg) (x : Int32) : Int32 := if x < 0 then nI 0 else if (σ 0 6) ≤ x then nI 0 else nI 1
abbrev rm_X1_isUmbrella : Room := { frames := 0, cells := 0, slots := 0, locals := 0 }
set_option maxHeartbeats 4000000 in
set_option maxRecDepth 100000 in
theorem c_X1_isUmbrella (l : Launch) (D : va_G) (cy : Nat → ClassId) (ad : Nat → Nat) (σ : Sg) (x : Int32)  : gMr l yX1_isUmbrella wsX1_isUmbrella rm_X1_isUmbrella D (Ty cy) (RW cy ad) [.ref (ad 0), .int (x)] σ (s_X1_isUmbrella σ x) 0 0 := by
  refine gstarti cX1_isUmbrella 2 RX1 (by decide) rfl rfl (Nat.le_of_ble_eq_true rfl) ?_
  intro p e s m below meth c A ls hx hb hml hown hts hr hlocks hK hP hD hA hS hl
  have hl : lv_has ls 2 [(0, .ref (ad 0)), (1, .int (x))] := hl
  have hf : s_X1_isUmbrella σ x = s_X1_isUmbrella σ x := rfl
  have hin1 : ∀ w ∈ wsX10, w ∈ wsX1_isUmbrella := by decide +kernel
  have wd0 := hts (.fieldLink RX1 49 "UmbrellaLand$Republic" "umbrellaCount" "I") (by decide +kernel)
  refine lv_iload_n hx hb dX1_isUmbrella_0 rfl (lv_at hl 1 rfl) ?_
  refine lv_if_lt (tgt := 16) hx hb dX1_isUmbrella_1 (by decide) (fun c1 => ?_) (fun c1 => ?_)
  · replace hf := hf.trans (if_pos c1)
    refine lv_iconst (v := nI 0) hx hb dX1_isUmbrella_16 (by decide) ?_
    exact g_endi hx hb hr hlocks rfl (congrArg (fun r => (r, σ)) hf) hP hD hS (Nat.le_of_ble_eq_true rfl) (Nat.le_of_ble_eq_true rfl) dX1_isUmbrella_17
  · replace hf := hf.trans (if_neg c1)
    refine lv_iload_n hx hb dX1_isUmbrella_4 rfl (lv_at hl 1 rfl) ?_
    refine lv_aload_n hx hb dX1_isUmbrella_5 rfl (lv_at hl 0 rfl) ?_
    refine va_get (D := D) (ci := 1) (v := .int (σ 0 6)) (C := RX1) (T := TX1) (N := 9) hx hb hts hin1 hown hK hP (0) (RW_ob cy ad σ) rfl 6 (by decide) wd0 (fun _ h9 => h9) rfl dX1_isUmbrella_6 ?_
    refine lv_icmp_ge (tgt := 16) hx hb dX1_isUmbrella_9 (by decide) (fun c2 => ?_) (fun c2 => ?_)
    · replace hf := hf.trans (if_pos c2)
      refine lv_iconst (v := nI 0) hx hb dX1_isUmbrella_16 (by decide) ?_
      exact g_endi hx hb hr hlocks rfl (congrArg (fun r => (r, σ)) hf) hP hD hS (Nat.le_of_ble_eq_true rfl) (Nat.le_of_ble_eq_true rfl) dX1_isUmbrella_17
    · replace hf := hf.trans (if_neg c2)
      refine lv_iconst (v := nI 1) hx hb dX1_isUmbrella_12 (by decide) ?_
      refine lv_goto (tgt := 17) hx hb dX1_isUmbrella_13 (by decide) ?_
      exact g_endi hx hb hr hlocks rfl (congrArg (fun r => (r, σ)) hf) hP hD hS (Nat.le_of_ble_eq_true rfl) (Nat.le_of_ble_eq_true rfl) dX1_isUmbrella_17
theorem b_X1_isUmbrella (σ : Sg) (x : Int32) : narrow .boolean (.int (s_X1_isUmbrella σ x)) = .int (s_X1_isUmbrella σ x) := by
  unfold s_X1_isUmbrella
  (try simp only [ltt])
  repeat' split
  all_goals rfl
def s_X1_isCitizen (σ : Sg) (x : Int32) : Int32 := if x < 0 then nI 0 else if (σ 0 7) ≤ x then nI 0 else nI 1
abbrev rm_X1_isCitizen : Room := { frames := 0, cells := 0, slots := 0, locals := 0 }
set_option maxHeartbeats 4000000 in
set_option maxRecDepth 100000 in
theorem c_X1_isCitizen (l : Launch) (D : va_G) (cy : Nat → ClassId) (ad : Nat → Nat) (σ : Sg) (x : Int32)  : gMr l yX1_isCitizen wsX1_isCitizen rm_X1_isCitizen D (Ty cy) (RW cy ad) [.ref (ad 0), .int (x)] σ (s_X1_isCitizen σ x) 0 0 := by
  refine gstarti cX1_isCitizen 2 RX1 (by decide) rfl rfl (Nat.le_of_ble_eq_true rfl) ?_
  intro p e s m below meth c A ls hx hb hml hown hts hr hlocks hK hP hD hA hS hl
  have hl : lv_has ls 2 [(0, .ref (ad 0)), (1, .int (x))] := hl
  have hf : s_X1_isCitizen σ x = s_X1_isCitizen σ x := rfl
  have hin1 : ∀ w ∈ wsX10, w ∈ wsX1_isCitizen := by decide +kernel
  have wd0 := hts (.fieldLink RX1 52 "UmbrellaLand$Republic" "citizenCount" "I") (by decide +kernel)
  refine lv_iload_n hx hb dX1_isCitizen_0 rfl (lv_at hl 1 rfl) ?_
  refine lv_if_lt (tgt := 16) hx hb dX1_isCitizen_1 (by decide) (fun c1 => ?_) (fun c1 => ?_)
  · replace hf := hf.trans (if_pos c1)
    refine lv_iconst (v := nI 0) hx hb dX1_isCitizen_16 (by decide) ?_
    exact g_endi hx hb hr hlocks rfl (congrArg (fun r => (r, σ)) hf) hP hD hS (Nat.le_of_ble_eq_true rfl) (Nat.le_of_ble_eq_true rfl) dX1_isCitizen_17
  · replace hf := hf.trans (if_neg c1)
    refine lv_iload_n hx hb dX1_isCitizen_4 rfl (lv_at hl 1 rfl) ?_
    refine lv_aload_n hx hb dX1_isCitizen_5 rfl (lv_at hl 0 rfl) ?_
    refine va_get (D := D) (ci := 1) (v := .int (σ 0 7)) (C := RX1) (T := TX1) (N := 9) hx hb hts hin1 hown hK hP (0) (RW_ob cy ad σ) rfl 7 (by decide) wd0 (fun _ h9 => h9) rfl dX1_isCitizen_6 ?_
    refine lv_icmp_ge (tgt := 16) hx hb dX1_isCitizen_9 (by decide) (fun c2 => ?_) (fun c2 => ?_)
    · replace hf := hf.trans (if_pos c2)
      refine lv_iconst (v := nI 0) hx hb dX1_isCitizen_16 (by decide) ?_
      exact g_endi hx hb hr hlocks rfl (congrArg (fun r => (r, σ)) hf) hP hD hS (Nat.le_of_ble_eq_true rfl) (Nat.le_of_ble_eq_true rfl) dX1_isCitizen_17
    · replace hf := hf.trans (if_neg c2)
      refine lv_iconst (v := nI 1) hx hb dX1_isCitizen_12 (by decide) ?_
      refine lv_goto (tgt := 17) hx hb dX1_isCitizen_13 (by decide) ?_
      exact g_endi hx hb hr hlocks rfl (congrArg (fun r => (r, σ)) hf) hP hD hS (Nat.le_of_ble_eq_true rfl) (Nat.le_of_ble_eq_true rfl) dX1_isCitizen_17
theorem b_X1_isCitizen (σ : Sg) (x : Int32) : narrow .boolean (.int (s_X1_isCitizen σ x)) = .int (s_X1_isCitizen σ x) := by
  unfold s_X1_isCitizen
  (try simp only [ltt])
  repeat' split
  all_goals rfl
def s_X0_forgetsThisOne (σ : Sg) (i : Nat) : Int32 := if (σ (53 + i) 4) ≤ 0 then nI 0 else if ((σ (53 + i) 12) - (σ (53 + i) 12) / (σ (53 + i) 4) * (σ (53 + i) 4)) = 0 then nI 1 else nI 0
abbrev rm_X0_forgetsThisOne : Room := { frames := 0, cells := 0, slots := 0, locals := 0 }
set_option maxHeartbeats 4000000 in
set_option maxRecDepth 100000 in
theorem c_X0_forgetsThisOne (l : Launch) (D : va_G) (cy : Nat → ClassId) (ad : Nat → Nat) (σ : Sg) (i : Nat) (hi : i < 10) : gMr l yX0_forgetsThisOne wsX0_forgetsThisOne rm_X0_forgetsThisOne D (Ty cy) (RW cy ad) [.ref (ad (53 + i))] σ (s_X0_forgetsThisOne σ i) 0 0 := by
  refine gstarti cX0_forgetsThisOne 1 RX0 (by decide) rfl rfl (Nat.le_of_ble_eq_true rfl) ?_
  intro p e s m below meth c A ls hx hb hml hown hts hr hlocks hK hP hD hA hS hl
  have hl : lv_has ls 1 [(0, .ref (ad (53 + i)))] := hl
  have hf : s_X0_forgetsThisOne σ i = s_X0_forgetsThisOne σ i := rfl
  have hin0 : ∀ w ∈ wsX00, w ∈ wsX0_forgetsThisOne := by decide +kernel
  have wd0 := hts (.fieldLink RX0 39 "UmbrellaLand$Citizen" "forgets" "I") (by decide +kernel)
  have wd1 := hts (.fieldLink RX0 48 "UmbrellaLand$Citizen" "taken" "I") (by decide +kernel)
  refine lv_aload_n hx hb dX0_forgetsThisOne_0 rfl (lv_at hl 0 rfl) ?_
  refine va_get (D := D) (ci := 0) (v := .int (σ (53 + i) 4)) (C := RX0) (T := TX0) (N := 15) hx hb hts hin0 hown hK hP (53 + i) (RW_ci cy ad σ hi) rfl 4 (by decide) wd0 (fun _ h9 => h9) rfl dX0_forgetsThisOne_1 ?_
  refine lv_if_le (tgt := 23) hx hb dX0_forgetsThisOne_4 (by decide) (fun c1 => ?_) (fun c1 => ?_)
  · replace hf := hf.trans (if_pos c1)
    refine lv_iconst (v := nI 0) hx hb dX0_forgetsThisOne_23 (by decide) ?_
    exact g_endi hx hb hr hlocks rfl (congrArg (fun r => (r, σ)) hf) hP hD hS (Nat.le_of_ble_eq_true rfl) (Nat.le_of_ble_eq_true rfl) dX0_forgetsThisOne_24
  · replace hf := hf.trans (if_neg c1)
    refine lv_aload_n hx hb dX0_forgetsThisOne_7 rfl (lv_at hl 0 rfl) ?_
    refine va_get (D := D) (ci := 0) (v := .int (σ (53 + i) 12)) (C := RX0) (T := TX0) (N := 15) hx hb hts hin0 hown hK hP (53 + i) (RW_ci cy ad σ hi) rfl 12 (by decide) wd1 (fun _ h9 => h9) rfl dX0_forgetsThisOne_8 ?_
    refine lv_aload_n hx hb dX0_forgetsThisOne_11 rfl (lv_at hl 0 rfl) ?_
    refine va_get (D := D) (ci := 0) (v := .int (σ (53 + i) 4)) (C := RX0) (T := TX0) (N := 15) hx hb hts hin0 hown hK hP (53 + i) (RW_ci cy ad σ hi) rfl 4 (by decide) wd0 (fun _ h9 => h9) rfl dX0_forgetsThisOne_12 ?_
    refine lv_irem hx hb dX0_forgetsThisOne_15 (fun h => c1 (by rw [h]; decide)) ?_
    refine lv_if_ne (tgt := 23) hx hb dX0_forgetsThisOne_16 (by decide) (fun c2 => ?_) (fun c2 => ?_)
    · replace hf := hf.trans (if_neg c2)
      refine lv_iconst (v := nI 0) hx hb dX0_forgetsThisOne_23 (by decide) ?_
      exact g_endi hx hb hr hlocks rfl (congrArg (fun r => (r, σ)) hf) hP hD hS (Nat.le_of_ble_eq_true rfl) (Nat.le_of_ble_eq_true rfl) dX0_forgetsThisOne_24
    · replace hf := hf.trans (if_pos c2)
      refine lv_iconst (v := nI 1) hx hb dX0_forgetsThisOne_19 (by decide) ?_
      refine lv_goto (tgt := 24) hx hb dX0_forgetsThisOne_20 (by decide) ?_
      exact g_endi hx hb hr hlocks rfl (congrArg (fun r => (r, σ)) hf) hP hD hS (Nat.le_of_ble_eq_true rfl) (Nat.le_of_ble_eq_true rfl) dX0_forgetsThisOne_24
theorem b_X0_forgetsThisOne (σ : Sg) (i : Nat) : narrow .boolean (.int (s_X0_forgetsThisOne σ i)) = .int (s_X0_forgetsThisOne σ i) := by
  unfold s_X0_forgetsThisOne
  (try simp only [ltt])
  repeat' split
  all_goals rfl
def lp_X1_umbrellasIn_4 (σ : Sg) (x : Int32)  : Nat → Nat → Int32 → Int32
  | 0, k, acc => acc
  | n + 1, k, acc => ltt (s_X3_standsIn σ k x) (fun r4 => if r4 = 0 then lp_X1_umbrellasIn_4 σ x n (k + 1) acc else lp_X1_umbrellasIn_4 σ x n (k + 1) (acc + 1))
def s_X1_umbrellasIn (σ : Sg) (x : Int32) : Int32 := ltt (lp_X1_umbrellasIn_4 σ x (tn (σ 0 6)) 0 (nI 0)) (fun q6 => q6)
abbrev rm_X1_umbrellasIn : Room := { frames := 1, cells := 0, slots := 0, locals := 21 }
set_option maxHeartbeats 4000000 in
set_option maxRecDepth 100000 in
theorem c_X1_umbrellasIn (l : Launch) (D : va_G) (cy : Nat → ClassId) (ad : Nat → Nat) (σ : Sg) (x : Int32) (hI : OkR σ) : gMr l yX1_umbrellasIn wsX1_umbrellasIn rm_X1_umbrellasIn D (Ty cy) (RW cy ad) [.ref (ad 0), .int (x)] σ (s_X1_umbrellasIn σ x) 0 0 := by
  refine gstarti cX1_umbrellasIn 4 RX1 (by decide) rfl rfl (Nat.le_of_ble_eq_true rfl) ?_
  intro p e s m below meth c A ls hx hb hml hown hts hr hlocks hK hP hD hA hS hl
  have hl : lv_has ls 4 [(0, .ref (ad 0)), (1, .int (x))] := hl
  have hf : s_X1_umbrellasIn σ x = s_X1_umbrellasIn σ x := rfl
  have hz : σ 0 = σ 0 := rfl
  have hin1 : ∀ w ∈ wsX10, w ∈ wsX1_umbrellasIn := by decide +kernel
  have wd0 := hts (.fieldLink RX1 49 "UmbrellaLand$Republic" "umbrellaCount" "I") (by decide +kernel)
  have wd1 := hts (.fieldLink RX1 23 "UmbrellaLand$Republic" "umbrellas" "[LUmbrellaLand$Umbrella;") (by decide +kernel)
  have n6 := hI.n6
  have loop4 : ∀  (n k : Nat) (acc : Int32) (H : Heap) (locs : List Loc) (ls : Array Slot), n = tn (σ 0 6) - k ∧ k ≤ tn (σ 0 6) + 1 → va_P D vwCl ((RW cy ad) σ) H → va_D A ((RW cy ad) σ) → va_S A s.heap H locs → lv_has ls 4 [(0, .ref (ad 0)), (1, .int (x)), (2, .int (acc)), (3, .int (nI k))] → (∀ u : Int32, u = lp_X1_umbrellasIn_4 σ x n k acc → ∀ (H : Heap) (locs : List Loc) (ls : Array Slot), va_P D vwCl ((RW cy ad) σ) H → va_D A ((RW cy ad) σ) → va_S A s.heap H locs → lv_has ls 4 [(0, .ref (ad 0)), (1, .int (x)), (2, .int (u))] → W p l e rm_X1_umbrellasIn s m [.ref (ad 0), .int (x)].toArray below meth c H locs 0 0 (MQ below (va_Qi (fun r u => (r, u) = (s_X1_umbrellasIn σ x, σ)) (gPost D (RW cy ad) A) A) [.ref (ad 0), .int (x)].toArray s 0 0 A) (F0 m 34 ls [])) → W p l e rm_X1_umbrellasIn s m [.ref (ad 0), .int (x)].toArray below meth c H locs 0 0 (MQ below (va_Qi (fun r u => (r, u) = (s_X1_umbrellasIn σ x, σ)) (gPost D (RW cy ad) A) A) [.ref (ad 0), .int (x)].toArray s 0 0 A) (F0 m 4 ls []) := by
    intro n
    induction n with
    | zero =>
      intro k acc H locs ls hN hP hD hS hl K
      have hf : lp_X1_umbrellasIn_4 σ x 0 k acc = lp_X1_umbrellasIn_4 σ x 0 k acc := rfl
      refine lv_iload_n hx hb dX1_umbrellasIn_4 rfl (lv_at hl 3 rfl) ?_
      refine lv_aload_n hx hb dX1_umbrellasIn_5 rfl (lv_at hl 0 rfl) ?_
      refine va_get (D := D) (ci := 1) (v := .int (σ 0 6)) (C := RX1) (T := TX1) (N := 9) hx hb hts hin1 hown hK hP (0) (RW_ob cy ad σ) rfl 6 (by decide) wd0 (fun _ h9 => h9) rfl dX1_umbrellasIn_6 ?_
      refine g_top ((congrFun hz 6).trans hI.c6) ?_
      refine lv_icmp_ge (tgt := 34) hx hb dX1_umbrellasIn_9 (by decide) (fun c1 => ?_) (fun c1 => absurd (nI_le (by omega) (by omega)) c1)
      exact K acc hf.symm _ _ _ hP hD hS (lv_sub hl [0, 1, 2] rfl)
    | succ n ih =>
      intro k acc H locs ls hN hP hD hS hl K
      have hf : lp_X1_umbrellasIn_4 σ x (n + 1) k acc = lp_X1_umbrellasIn_4 σ x (n + 1) k acc := rfl
      refine lv_iload_n hx hb dX1_umbrellasIn_4 rfl (lv_at hl 3 rfl) ?_
      refine lv_aload_n hx hb dX1_umbrellasIn_5 rfl (lv_at hl 0 rfl) ?_
      refine va_get (D := D) (ci := 1) (v := .int (σ 0 6)) (C := RX1) (T := TX1) (N := 9) hx hb hts hin1 hown hK hP (0) (RW_ob cy ad σ) rfl 6 (by decide) wd0 (fun _ h9 => h9) rfl dX1_umbrellasIn_6 ?_
      refine g_top ((congrFun hz 6).trans hI.c6) ?_
      refine lv_icmp_ge (tgt := 34) hx hb dX1_umbrellasIn_9 (by decide) (fun c2 => absurd c2 (nI_ge (by omega) (by omega))) (fun c2 => ?_)
      refine lv_aload_n hx hb dX1_umbrellasIn_12 rfl (lv_at hl 0 rfl) ?_
      refine va_get (D := D) (ci := 1) (v := .ref (ad 3)) (C := RX1) (T := TX1) (N := 9) hx hb hts hin1 hown hK hP (0) (RW_ob cy ad σ) rfl 2 (by decide) wd1 (fun _ h9 => h9) rfl dX1_umbrellasIn_13 ?_
      refine lv_iload_n hx hb dX1_umbrellasIn_16 rfl (lv_at hl 3 rfl) ?_
      have h3 : k < 40 := by omega
      refine g_aald (b := ad (13 + k)) hx hb hK hP (3) 2 k (RW_au cy ad σ) rfl (nI_clamp (by omega)) (vp_in_nI h3 (by decide)) rfl dX1_umbrellasIn_17 ?_
      refine lv_iload_n hx hb dX1_umbrellasIn_18 rfl (lv_at hl 1 rfl) ?_
      refine g_callr (q0 := 13 + k) (wf := (RW cy ad)) (σ := σ) (wfc := (RW cy ad)) (σc := σ) hx hb hml hown hts hK hP hD hS hA hl.1 [] pm_0 [.int (x)] (c_X3_standsIn l D cy ad σ k x h3) (cwV 1 hts gX1_umbrellasIn_X3_standsIn rfl rfl rfl (by decide +kernel) ⟨Nat.le_of_ble_eq_true rfl, Nat.le_of_ble_eq_true rfl⟩) (RW_um cy ad σ h3) rfl rfl rfl rfl (Nat.le_of_ble_eq_true rfl) dX1_umbrellasIn_19 ⟨Nat.le_of_ble_eq_true rfl, Nat.le_of_ble_eq_true rfl⟩ rfl rfl ?_
      intro r4 er4 H locs hP hD hS
      replace hf := hf.trans (ltt_r er4)
      refine lv_if_eq (tgt := 28) hx hb dX1_umbrellasIn_22 (by decide) (fun c5 => ?_) (fun c5 => ?_)
      · replace hf := hf.trans (if_pos c5)
        refine lv_iinc (v := nI (k + 1)) (lv' := [(3, .int (nI (k + 1))), (0, .ref (ad 0)), (1, .int (x)), (2, .int (acc))]) hx hb dX1_umbrellasIn_28 hl (k := 3) rfl (nI_1 _) (by decide) rfl (fun ls hl => ?_)
        refine lv_goto (tgt := 4) hx hb dX1_umbrellasIn_31 (by decide) ?_
        exact ih (k + 1) acc _ _ _ (by omega)  hP hD hS (lv_sub hl [1, 2, 3, 0] rfl) (fun u eu => K u (eu.trans hf.symm))
      · replace hf := hf.trans (if_neg c5)
        refine lv_iinc (v := acc + 1) (lv' := [(2, .int (acc + 1)), (0, .ref (ad 0)), (1, .int (x)), (3, .int (nI k))]) hx hb dX1_umbrellasIn_25 hl (k := 2) rfl rfl (by decide) rfl (fun ls hl => ?_)
        refine lv_iinc (v := nI (k + 1)) (lv' := [(3, .int (nI (k + 1))), (2, .int (acc + 1)), (0, .ref (ad 0)), (1, .int (x))]) hx hb dX1_umbrellasIn_28 hl (k := 3) rfl (nI_1 _) (by decide) rfl (fun ls hl => ?_)
        refine lv_goto (tgt := 4) hx hb dX1_umbrellasIn_31 (by decide) ?_
        exact ih (k + 1) (acc + 1) _ _ _ (by omega)  hP hD hS (lv_sub hl [2, 3, 1, 0] rfl) (fun u eu => K u (eu.trans hf.symm))
  refine lv_iconst (v := nI 0) hx hb dX1_umbrellasIn_0 (by decide) ?_
  refine lv_istore_n (lv' := [(2, .int (nI 0)), (0, .ref (ad 0)), (1, .int (x))]) hx hb dX1_umbrellasIn_1 rfl hl (by decide) rfl (fun ls hl => ?_)
  refine lv_iconst (v := nI 0) hx hb dX1_umbrellasIn_2 (by decide) ?_
  refine lv_istore_n (lv' := [(3, .int (nI 0)), (2, .int (nI 0)), (0, .ref (ad 0)), (1, .int (x))]) hx hb dX1_umbrellasIn_3 rfl hl (by decide) rfl (fun ls hl => ?_)
  refine loop4  (tn (σ 0 6)) 0 (nI 0) _ _ _ (by omega)  hP hD hS (lv_sub hl [2, 3, 1, 0] rfl) ?_
  intro q6 eq6 H locs ls hP hD hS hl
  replace hf := hf.trans (ltt_r eq6)
  refine lv_iload_n hx hb dX1_umbrellasIn_34 rfl (lv_at hl 2 rfl) ?_
  exact g_endi hx hb hr hlocks rfl (congrArg (fun r => (r, σ)) hf) hP hD hS (Nat.le_of_ble_eq_true rfl) (Nat.le_of_ble_eq_true rfl) dX1_umbrellasIn_35
def lp_X1_citizensIn_4 (σ : Sg) (x : Int32)  : Nat → Nat → Int32 → Int32
  | 0, k, acc => acc
  | n + 1, k, acc => if (σ (53 + k) 6) = x then lp_X1_citizensIn_4 σ x n (k + 1) (acc + 1) else lp_X1_citizensIn_4 σ x n (k + 1) acc
def s_X1_citizensIn (σ : Sg) (x : Int32) : Int32 := ltt (lp_X1_citizensIn_4 σ x (tn (σ 0 7)) 0 (nI 0)) (fun q5 => q5)
abbrev rm_X1_citizensIn : Room := { frames := 0, cells := 0, slots := 0, locals := 0 }
set_option maxHeartbeats 4000000 in
set_option maxRecDepth 100000 in
theorem c_X1_citizensIn (l : Launch) (D : va_G) (cy : Nat → ClassId) (ad : Nat → Nat) (σ : Sg) (x : Int32) (hI : OkR σ) : gMr l yX1_citizensIn wsX1_citizensIn rm_X1_citizensIn D (Ty cy) (RW cy ad) [.ref (ad 0), .int (x)] σ (s_X1_citizensIn σ x) 0 0 := by
  refine gstarti cX1_citizensIn 4 RX1 (by decide) rfl rfl (Nat.le_of_ble_eq_true rfl) ?_
  intro p e s m below meth c A ls hx hb hml hown hts hr hlocks hK hP hD hA hS hl
  have hl : lv_has ls 4 [(0, .ref (ad 0)), (1, .int (x))] := hl
  have hf : s_X1_citizensIn σ x = s_X1_citizensIn σ x := rfl
  have hz : σ 0 = σ 0 := rfl
  have hin1 : ∀ w ∈ wsX10, w ∈ wsX1_citizensIn := by decide +kernel
  have hin0 : ∀ w ∈ wsX00, w ∈ wsX1_citizensIn := by decide +kernel
  have wd0 := hts (.fieldLink RX1 52 "UmbrellaLand$Republic" "citizenCount" "I") (by decide +kernel)
  have wd1 := hts (.fieldLink RX1 29 "UmbrellaLand$Republic" "citizens" "[LUmbrellaLand$Citizen;") (by decide +kernel)
  have wd2 := hts (.fieldLink RX1 139 "UmbrellaLand$Citizen" "stays" "I") (by decide +kernel)
  have n7 := hI.n7
  have loop4 : ∀  (n k : Nat) (acc : Int32) (H : Heap) (locs : List Loc) (ls : Array Slot), n = tn (σ 0 7) - k ∧ k ≤ tn (σ 0 7) + 1 → va_P D vwCl ((RW cy ad) σ) H → va_D A ((RW cy ad) σ) → va_S A s.heap H locs → lv_has ls 4 [(0, .ref (ad 0)), (1, .int (x)), (2, .int (acc)), (3, .int (nI k))] → (∀ u : Int32, u = lp_X1_citizensIn_4 σ x n k acc → ∀ (H : Heap) (locs : List Loc) (ls : Array Slot), va_P D vwCl ((RW cy ad) σ) H → va_D A ((RW cy ad) σ) → va_S A s.heap H locs → lv_has ls 4 [(0, .ref (ad 0)), (1, .int (x)), (2, .int (u))] → W p l e rm_X1_citizensIn s m [.ref (ad 0), .int (x)].toArray below meth c H locs 0 0 (MQ below (va_Qi (fun r u => (r, u) = (s_X1_citizensIn σ x, σ)) (gPost D (RW cy ad) A) A) [.ref (ad 0), .int (x)].toArray s 0 0 A) (F0 m 34 ls [])) → W p l e rm_X1_citizensIn s m [.ref (ad 0), .int (x)].toArray below meth c H locs 0 0 (MQ below (va_Qi (fun r u => (r, u) = (s_X1_citizensIn σ x, σ)) (gPost D (RW cy ad) A) A) [.ref (ad 0), .int (x)].toArray s 0 0 A) (F0 m 4 ls []) := by
    intro n
    induction n with
    | zero =>
      intro k acc H locs ls hN hP hD hS hl K
      have hf : lp_X1_citizensIn_4 σ x 0 k acc = lp_X1_citizensIn_4 σ x 0 k acc := rfl
      refine lv_iload_n hx hb dX1_citizensIn_4 rfl (lv_at hl 3 rfl) ?_
      refine lv_aload_n hx hb dX1_citizensIn_5 rfl (lv_at hl 0 rfl) ?_
      refine va_get (D := D) (ci := 1) (v := .int (σ 0 7)) (C := RX1) (T := TX1) (N := 9) hx hb hts hin1 hown hK hP (0) (RW_ob cy ad σ) rfl 7 (by decide) wd0 (fun _ h9 => h9) rfl dX1_citizensIn_6 ?_
      refine g_top ((congrFun hz 7).trans hI.c7) ?_
      refine lv_icmp_ge (tgt := 34) hx hb dX1_citizensIn_9 (by decide) (fun c1 => ?_) (fun c1 => absurd (nI_le (by omega) (by omega)) c1)
      exact K acc hf.symm _ _ _ hP hD hS (lv_sub hl [0, 1, 2] rfl)
    | succ n ih =>
      intro k acc H locs ls hN hP hD hS hl K
      have hf : lp_X1_citizensIn_4 σ x (n + 1) k acc = lp_X1_citizensIn_4 σ x (n + 1) k acc := rfl
      refine lv_iload_n hx hb dX1_citizensIn_4 rfl (lv_at hl 3 rfl) ?_
      refine lv_aload_n hx hb dX1_citizensIn_5 rfl (lv_at hl 0 rfl) ?_
      refine va_get (D := D) (ci := 1) (v := .int (σ 0 7)) (C := RX1) (T := TX1) (N := 9) hx hb hts hin1 hown hK hP (0) (RW_ob cy ad σ) rfl 7 (by decide) wd0 (fun _ h9 => h9) rfl dX1_citizensIn_6 ?_
      refine g_top ((congrFun hz 7).trans hI.c7) ?_
      refine lv_icmp_ge (tgt := 34) hx hb dX1_citizensIn_9 (by decide) (fun c2 => absurd c2 (nI_ge (by omega) (by omega))) (fun c2 => ?_)
      refine lv_aload_n hx hb dX1_citizensIn_12 rfl (lv_at hl 0 rfl) ?_
      refine va_get (D := D) (ci := 1) (v := .ref (ad 4)) (C := RX1) (T := TX1) (N := 9) hx hb hts hin1 hown hK hP (0) (RW_ob cy ad σ) rfl 3 (by decide) wd1 (fun _ h9 => h9) rfl dX1_citizensIn_13 ?_
      refine lv_iload_n hx hb dX1_citizensIn_16 rfl (lv_at hl 3 rfl) ?_
      have h3 : k < 10 := by omega
      refine g_aald (b := ad (53 + k)) hx hb hK hP (4) 3 k (RW_ac cy ad σ) rfl (nI_clamp (by omega)) (vp_in_nI h3 (by decide)) rfl dX1_citizensIn_17 ?_
      refine va_get (D := D) (ci := 0) (v := .int (σ (53 + k) 6)) (C := RX0) (T := TX0) (N := 15) hx hb hts hin0 hown hK hP (53 + k) (RW_ci cy ad σ h3) rfl 6 (by decide) wd2 (fun _ h9 => h9) rfl dX1_citizensIn_18 ?_
      refine lv_iload_n hx hb dX1_citizensIn_21 rfl (lv_at hl 1 rfl) ?_
      refine lv_icmp_ne (tgt := 28) hx hb dX1_citizensIn_22 (by decide) (fun c4 => ?_) (fun c4 => ?_)
      · replace hf := hf.trans (if_neg c4)
        refine lv_iinc (v := nI (k + 1)) (lv' := [(3, .int (nI (k + 1))), (0, .ref (ad 0)), (1, .int (x)), (2, .int (acc))]) hx hb dX1_citizensIn_28 hl (k := 3) rfl (nI_1 _) (by decide) rfl (fun ls hl => ?_)
        refine lv_goto (tgt := 4) hx hb dX1_citizensIn_31 (by decide) ?_
        exact ih (k + 1) acc _ _ _ (by omega)  hP hD hS (lv_sub hl [1, 2, 3, 0] rfl) (fun u eu => K u (eu.trans hf.symm))
      · replace hf := hf.trans (if_pos c4)
        refine lv_iinc (v := acc + 1) (lv' := [(2, .int (acc + 1)), (0, .ref (ad 0)), (1, .int (x)), (3, .int (nI k))]) hx hb dX1_citizensIn_25 hl (k := 2) rfl rfl (by decide) rfl (fun ls hl => ?_)
        refine lv_iinc (v := nI (k + 1)) (lv' := [(3, .int (nI (k + 1))), (2, .int (acc + 1)), (0, .ref (ad 0)), (1, .int (x))]) hx hb dX1_citizensIn_28 hl (k := 3) rfl (nI_1 _) (by decide) rfl (fun ls hl => ?_)
        refine lv_goto (tgt := 4) hx hb dX1_citizensIn_31 (by decide) ?_
        exact ih (k + 1) (acc + 1) _ _ _ (by omega)  hP hD hS (lv_sub hl [2, 3, 1, 0] rfl) (fun u eu => K u (eu.trans hf.symm))
  refine lv_iconst (v := nI 0) hx hb dX1_citizensIn_0 (by decide) ?_
  refine lv_istore_n (lv' := [(2, .int (nI 0)), (0, .ref (ad 0)), (1, .int (x))]) hx hb dX1_citizensIn_1 rfl hl (by decide) rfl (fun ls hl => ?_)
  refine lv_iconst (v := nI 0) hx hb dX1_citizensIn_2 (by decide) ?_
  refine lv_istore_n (lv' := [(3, .int (nI 0)), (2, .int (nI 0)), (0, .ref (ad 0)), (1, .int (x))]) hx hb dX1_citizensIn_3 rfl hl (by decide) rfl (fun ls hl => ?_)
  refine loop4  (tn (σ 0 7)) 0 (nI 0) _ _ _ (by omega)  hP hD hS (lv_sub hl [2, 3, 1, 0] rfl) ?_
  intro q5 eq5 H locs ls hP hD hS hl
  replace hf := hf.trans (ltt_r eq5)
  refine lv_iload_n hx hb dX1_citizensIn_34 rfl (lv_at hl 2 rfl) ?_
  exact g_endi hx hb hr hlocks rfl (congrArg (fun r => (r, σ)) hf) hP hD hS (Nat.le_of_ble_eq_true rfl) (Nat.le_of_ble_eq_true rfl) dX1_citizensIn_35
def lp_X1_umbrellasThatAre_4 (σ : Sg) (x : Int32)  : Nat → Nat → Int32 → Int32
  | 0, k, acc => acc
  | n + 1, k, acc => if (σ (13 + k) 0) = x then lp_X1_umbrellasThatAre_4 σ x n (k + 1) (acc + 1) else lp_X1_umbrellasThatAre_4 σ x n (k + 1) acc
def s_X1_umbrellasThatAre (σ : Sg) (x : Int32) : Int32 := ltt (lp_X1_umbrellasThatAre_4 σ x (tn (σ 0 6)) 0 (nI 0)) (fun q5 => q5)
abbrev rm_X1_umbrellasThatAre : Room := { frames := 0, cells := 0, slots := 0, locals := 0 }
set_option maxHeartbeats 4000000 in
set_option maxRecDepth 100000 in
theorem c_X1_umbrellasThatAre (l : Launch) (D : va_G) (cy : Nat → ClassId) (ad : Nat → Nat) (σ : Sg) (x : Int32) (hI : OkR σ) : gMr l yX1_umbrellasThatAre wsX1_umbrellasThatAre rm_X1_umbrellasThatAre D (Ty cy) (RW cy ad) [.ref (ad 0), .int (x)] σ (s_X1_umbrellasThatAre σ x) 0 0 := by
  refine gstarti cX1_umbrellasThatAre 4 RX1 (by decide) rfl rfl (Nat.le_of_ble_eq_true rfl) ?_
  intro p e s m below meth c A ls hx hb hml hown hts hr hlocks hK hP hD hA hS hl
  have hl : lv_has ls 4 [(0, .ref (ad 0)), (1, .int (x))] := hl
  have hf : s_X1_umbrellasThatAre σ x = s_X1_umbrellasThatAre σ x := rfl
  have hz : σ 0 = σ 0 := rfl
  have hin1 : ∀ w ∈ wsX10, w ∈ wsX1_umbrellasThatAre := by decide +kernel
  have hin3 : ∀ w ∈ wsX30, w ∈ wsX1_umbrellasThatAre := by decide +kernel
  have wd0 := hts (.fieldLink RX1 49 "UmbrellaLand$Republic" "umbrellaCount" "I") (by decide +kernel)
  have wd1 := hts (.fieldLink RX1 23 "UmbrellaLand$Republic" "umbrellas" "[LUmbrellaLand$Umbrella;") (by decide +kernel)
  have wd2 := hts (.fieldLink RX1 216 "UmbrellaLand$Umbrella" "state" "I") (by decide +kernel)
  have n6 := hI.n6
  have loop4 : ∀  (n k : Nat) (acc : Int32) (H : Heap) (locs : List Loc) (ls : Array Slot), n = tn (σ 0 6) - k ∧ k ≤ tn (σ 0 6) + 1 → va_P D vwCl ((RW cy ad) σ) H → va_D A ((RW cy ad) σ) → va_S A s.heap H locs → lv_has ls 4 [(0, .ref (ad 0)), (1, .int (x)), (2, .int (acc)), (3, .int (nI k))] → (∀ u : Int32, u = lp_X1_umbrellasThatAre_4 σ x n k acc → ∀ (H : Heap) (locs : List Loc) (ls : Array Slot), va_P D vwCl ((RW cy ad) σ) H → va_D A ((RW cy ad) σ) → va_S A s.heap H locs → lv_has ls 4 [(0, .ref (ad 0)), (1, .int (x)), (2, .int (u))] → W p l e rm_X1_umbrellasThatAre s m [.ref (ad 0), .int (x)].toArray below meth c H locs 0 0 (MQ below (va_Qi (fun r u => (r, u) = (s_X1_umbrellasThatAre σ x, σ)) (gPost D (RW cy ad) A) A) [.ref (ad 0), .int (x)].toArray s 0 0 A) (F0 m 34 ls [])) → W p l e rm_X1_umbrellasThatAre s m [.ref (ad 0), .int (x)].toArray below meth c H locs 0 0 (MQ below (va_Qi (fun r u => (r, u) = (s_X1_umbrellasThatAre σ x, σ)) (gPost D (RW cy ad) A) A) [.ref (ad 0), .int (x)].toArray s 0 0 A) (F0 m 4 ls []) := by
    intro n
    induction n with
    | zero =>
      intro k acc H locs ls hN hP hD hS hl K
      have hf : lp_X1_umbrellasThatAre_4 σ x 0 k acc = lp_X1_umbrellasThatAre_4 σ x 0 k acc := rfl
      refine lv_iload_n hx hb dX1_umbrellasThatAre_4 rfl (lv_at hl 3 rfl) ?_
      refine lv_aload_n hx hb dX1_umbrellasThatAre_5 rfl (lv_at hl 0 rfl) ?_
      refine va_get (D := D) (ci := 1) (v := .int (σ 0 6)) (C := RX1) (T := TX1) (N := 9) hx hb hts hin1 hown hK hP (0) (RW_ob cy ad σ) rfl 6 (by decide) wd0 (fun _ h9 => h9) rfl dX1_umbrellasThatAre_6 ?_
      refine g_top ((congrFun hz 6).trans hI.c6) ?_
      refine lv_icmp_ge (tgt := 34) hx hb dX1_umbrellasThatAre_9 (by decide) (fun c1 => ?_) (fun c1 => absurd (nI_le (by omega) (by omega)) c1)
      exact K acc hf.symm _ _ _ hP hD hS (lv_sub hl [0, 1, 2] rfl)
    | succ n ih =>
      intro k acc H locs ls hN hP hD hS hl K
      have hf : lp_X1_umbrellasThatAre_4 σ x (n + 1) k acc = lp_X1_umbrellasThatAre_4 σ x (n + 1) k acc := rfl
      refine lv_iload_n hx hb dX1_umbrellasThatAre_4 rfl (lv_at hl 3 rfl) ?_
      refine lv_aload_n hx hb dX1_umbrellasThatAre_5 rfl (lv_at hl 0 rfl) ?_
      refine va_get (D := D) (ci := 1) (v := .int (σ 0 6)) (C := RX1) (T := TX1) (N := 9) hx hb hts hin1 hown hK hP (0) (RW_ob cy ad σ) rfl 6 (by decide) wd0 (fun _ h9 => h9) rfl dX1_umbrellasThatAre_6 ?_
      refine g_top ((congrFun hz 6).trans hI.c6) ?_
      refine lv_icmp_ge (tgt := 34) hx hb dX1_umbrellasThatAre_9 (by decide) (fun c2 => absurd c2 (nI_ge (by omega) (by omega))) (fun c2 => ?_)
      refine lv_aload_n hx hb dX1_umbrellasThatAre_12 rfl (lv_at hl 0 rfl) ?_
      refine va_get (D := D) (ci := 1) (v := .ref (ad 3)) (C := RX1) (T := TX1) (N := 9) hx hb hts hin1 hown hK hP (0) (RW_ob cy ad σ) rfl 2 (by decide) wd1 (fun _ h9 => h9) rfl dX1_umbrellasThatAre_13 ?_
      refine lv_iload_n hx hb dX1_umbrellasThatAre_16 rfl (lv_at hl 3 rfl) ?_
      have h3 : k < 40 := by omega
      refine g_aald (b := ad (13 + k)) hx hb hK hP (3) 2 k (RW_au cy ad σ) rfl (nI_clamp (by omega)) (vp_in_nI h3 (by decide)) rfl dX1_umbrellasThatAre_17 ?_
      refine va_get (D := D) (ci := 3) (v := .int (σ (13 + k) 0)) (C := RX3) (T := TX3) (N := 6) hx hb hts hin3 hown hK hP (13 + k) (RW_um cy ad σ h3) rfl 0 (by decide) wd2 (fun _ h9 => h9) rfl dX1_umbrellasThatAre_18 ?_
      refine lv_iload_n hx hb dX1_umbrellasThatAre_21 rfl (lv_at hl 1 rfl) ?_
      refine lv_icmp_ne (tgt := 28) hx hb dX1_umbrellasThatAre_22 (by decide) (fun c4 => ?_) (fun c4 => ?_)
      · replace hf := hf.trans (if_neg c4)
        refine lv_iinc (v := nI (k + 1)) (lv' := [(3, .int (nI (k + 1))), (0, .ref (ad 0)), (1, .int (x)), (2, .int (acc))]) hx hb dX1_umbrellasThatAre_28 hl (k := 3) rfl (nI_1 _) (by decide) rfl (fun ls hl => ?_)
        refine lv_goto (tgt := 4) hx hb dX1_umbrellasThatAre_31 (by decide) ?_
        exact ih (k + 1) acc _ _ _ (by omega)  hP hD hS (lv_sub hl [1, 2, 3, 0] rfl) (fun u eu => K u (eu.trans hf.symm))
      · replace hf := hf.trans (if_pos c4)
        refine lv_iinc (v := acc + 1) (lv' := [(2, .int (acc + 1)), (0, .ref (ad 0)), (1, .int (x)), (3, .int (nI k))]) hx hb dX1_umbrellasThatAre_25 hl (k := 2) rfl rfl (by decide) rfl (fun ls hl => ?_)
        refine lv_iinc (v := nI (k + 1)) (lv' := [(3, .int (nI (k + 1))), (2, .int (acc + 1)), (0, .ref (ad 0)), (1, .int (x))]) hx hb dX1_umbrellasThatAre_28 hl (k := 3) rfl (nI_1 _) (by decide) rfl (fun ls hl => ?_)
        refine lv_goto (tgt := 4) hx hb dX1_umbrellasThatAre_31 (by decide) ?_
        exact ih (k + 1) (acc + 1) _ _ _ (by omega)  hP hD hS (lv_sub hl [2, 3, 1, 0] rfl) (fun u eu => K u (eu.trans hf.symm))
  refine lv_iconst (v := nI 0) hx hb dX1_umbrellasThatAre_0 (by decide) ?_
  refine lv_istore_n (lv' := [(2, .int (nI 0)), (0, .ref (ad 0)), (1, .int (x))]) hx hb dX1_umbrellasThatAre_1 rfl hl (by decide) rfl (fun ls hl => ?_)
  refine lv_iconst (v := nI 0) hx hb dX1_umbrellasThatAre_2 (by decide) ?_
  refine lv_istore_n (lv' := [(3, .int (nI 0)), (2, .int (nI 0)), (0, .ref (ad 0)), (1, .int (x))]) hx hb dX1_umbrellasThatAre_3 rfl hl (by decide) rfl (fun ls hl => ?_)
  refine loop4  (tn (σ 0 6)) 0 (nI 0) _ _ _ (by omega)  hP hD hS (lv_sub hl [2, 3, 1, 0] rfl) ?_
  intro q5 eq5 H locs ls hP hD hS hl
  replace hf := hf.trans (ltt_r eq5)
  refine lv_iload_n hx hb dX1_umbrellasThatAre_34 rfl (lv_at hl 2 rfl) ?_
  exact g_endi hx hb hr hlocks rfl (congrArg (fun r => (r, σ)) hf) hP hD hS (Nat.le_of_ble_eq_true rfl) (Nat.le_of_ble_eq_true rfl) dX1_umbrellasThatAre_35
def lp_X1_wetOfAll_4 (σ : Sg)  : Nat → Nat → Int32 → Int32
  | 0, k, acc => acc
  | n + 1, k, acc => lp_X1_wetOfAll_4 σ n (k + 1) (acc + (σ (53 + k) 11))
def s_X1_wetOfAll (σ : Sg) : Int32 := ltt (lp_X1_wetOfAll_4 σ (tn (σ 0 7)) 0 (nI 0)) (fun q4 => q4)
abbrev rm_X1_wetOfAll : Room := { frames := 0, cells := 0, slots := 0, locals := 0 }
set_option maxHeartbeats 4000000 in
set_option maxRecDepth 100000 in
theorem c_X1_wetOfAll (l : Launch) (D : va_G) (cy : Nat → ClassId) (ad : Nat → Nat) (σ : Sg) (hI : OkR σ) : gMr l yX1_wetOfAll wsX1_wetOfAll rm_X1_wetOfAll D (Ty cy) (RW cy ad) [.ref (ad 0)] σ (s_X1_wetOfAll σ) 0 0 := by
  refine gstarti cX1_wetOfAll 3 RX1 (by decide) rfl rfl (Nat.le_of_ble_eq_true rfl) ?_
  intro p e s m below meth c A ls hx hb hml hown hts hr hlocks hK hP hD hA hS hl
  have hl : lv_has ls 3 [(0, .ref (ad 0))] := hl
  have hf : s_X1_wetOfAll σ = s_X1_wetOfAll σ := rfl
  have hz : σ 0 = σ 0 := rfl
  have hin1 : ∀ w ∈ wsX10, w ∈ wsX1_wetOfAll := by decide +kernel
  have hin0 : ∀ w ∈ wsX00, w ∈ wsX1_wetOfAll := by decide +kernel
  have wd0 := hts (.fieldLink RX1 52 "UmbrellaLand$Republic" "citizenCount" "I") (by decide +kernel)
  have wd1 := hts (.fieldLink RX1 29 "UmbrellaLand$Republic" "citizens" "[LUmbrellaLand$Citizen;") (by decide +kernel)
  have wd2 := hts (.fieldLink RX1 180 "UmbrellaLand$Citizen" "wet" "I") (by decide +kernel)
  have n7 := hI.n7
  have loop4 : ∀  (n k : Nat) (acc : Int32) (H : Heap) (locs : List Loc) (ls : Array Slot), n = tn (σ 0 7) - k ∧ k ≤ tn (σ 0 7) + 1 → va_P D vwCl ((RW cy ad) σ) H → va_D A ((RW cy ad) σ) → va_S A s.heap H locs → lv_has ls 3 [(0, .ref (ad 0)), (1, .int (acc)), (2, .int (nI k))] → (∀ u : Int32, u = lp_X1_wetOfAll_4 σ n k acc → ∀ (H : Heap) (locs : List Loc) (ls : Array Slot), va_P D vwCl ((RW cy ad) σ) H → va_D A ((RW cy ad) σ) → va_S A s.heap H locs → lv_has ls 3 [(0, .ref (ad 0)), (1, .int (u))] → W p l e rm_X1_wetOfAll s m [.ref (ad 0)].toArray below meth c H locs 0 0 (MQ below (va_Qi (fun r u => (r, u) = (s_X1_wetOfAll σ, σ)) (gPost D (RW cy ad) A) A) [.ref (ad 0)].toArray s 0 0 A) (F0 m 30 ls [])) → W p l e rm_X1_wetOfAll s m [.ref (ad 0)].toArray below meth c H locs 0 0 (MQ below (va_Qi (fun r u => (r, u) = (s_X1_wetOfAll σ, σ)) (gPost D (RW cy ad) A) A) [.ref (ad 0)].toArray s 0 0 A) (F0 m 4 ls []) := by
    intro n
    induction n with
    | zero =>
      intro k acc H locs ls hN hP hD hS hl K
      have hf : lp_X1_wetOfAll_4 σ 0 k acc = lp_X1_wetOfAll_4 σ 0 k acc := rfl
      refine lv_iload_n hx hb dX1_wetOfAll_4 rfl (lv_at hl 2 rfl) ?_
      refine lv_aload_n hx hb dX1_wetOfAll_5 rfl (lv_at hl 0 rfl) ?_
      refine va_get (D := D) (ci := 1) (v := .int (σ 0 7)) (C := RX1) (T := TX1) (N := 9) hx hb hts hin1 hown hK hP (0) (RW_ob cy ad σ) rfl 7 (by decide) wd0 (fun _ h9 => h9) rfl dX1_wetOfAll_6 ?_
      refine g_top ((congrFun hz 7).trans hI.c7) ?_
      refine lv_icmp_ge (tgt := 30) hx hb dX1_wetOfAll_9 (by decide) (fun c1 => ?_) (fun c1 => absurd (nI_le (by omega) (by omega)) c1)
      exact K acc hf.symm _ _ _ hP hD hS (lv_sub hl [0, 1] rfl)
    | succ n ih =>
      intro k acc H locs ls hN hP hD hS hl K
      have hf : lp_X1_wetOfAll_4 σ (n + 1) k acc = lp_X1_wetOfAll_4 σ (n + 1) k acc := rfl
      refine lv_iload_n hx hb dX1_wetOfAll_4 rfl (lv_at hl 2 rfl) ?_
      refine lv_aload_n hx hb dX1_wetOfAll_5 rfl (lv_at hl 0 rfl) ?_
      refine va_get (D := D) (ci := 1) (v := .int (σ 0 7)) (C := RX1) (T := TX1) (N := 9) hx hb hts hin1 hown hK hP (0) (RW_ob cy ad σ) rfl 7 (by decide) wd0 (fun _ h9 => h9) rfl dX1_wetOfAll_6 ?_
      refine g_top ((congrFun hz 7).trans hI.c7) ?_
      refine lv_icmp_ge (tgt := 30) hx hb dX1_wetOfAll_9 (by decide) (fun c2 => absurd c2 (nI_ge (by omega) (by omega))) (fun c2 => ?_)
      refine lv_iload_n hx hb dX1_wetOfAll_12 rfl (lv_at hl 1 rfl) ?_
      refine lv_aload_n hx hb dX1_wetOfAll_13 rfl (lv_at hl 0 rfl) ?_
      refine va_get (D := D) (ci := 1) (v := .ref (ad 4)) (C := RX1) (T := TX1) (N := 9) hx hb hts hin1 hown hK hP (0) (RW_ob cy ad σ) rfl 3 (by decide) wd1 (fun _ h9 => h9) rfl dX1_wetOfAll_14 ?_
      refine lv_iload_n hx hb dX1_wetOfAll_17 rfl (lv_at hl 2 rfl) ?_
      have h3 : k < 10 := by omega
      refine g_aald (b := ad (53 + k)) hx hb hK hP (4) 3 k (RW_ac cy ad σ) rfl (nI_clamp (by omega)) (vp_in_nI h3 (by decide)) rfl dX1_wetOfAll_18 ?_
      refine va_get (D := D) (ci := 0) (v := .int (σ (53 + k) 11)) (C := RX0) (T := TX0) (N := 15) hx hb hts hin0 hown hK hP (53 + k) (RW_ci cy ad σ h3) rfl 11 (by decide) wd2 (fun _ h9 => h9) rfl dX1_wetOfAll_19 ?_
      refine lv_iadd hx hb dX1_wetOfAll_22 ?_
      refine lv_istore_n (lv' := [(1, .int (acc + (σ (53 + k) 11))), (0, .ref (ad 0)), (2, .int (nI k))]) hx hb dX1_wetOfAll_23 rfl hl (by decide) rfl (fun ls hl => ?_)
      refine lv_iinc (v := nI (k + 1)) (lv' := [(2, .int (nI (k + 1))), (1, .int (acc + (σ (53 + k) 11))), (0, .ref (ad 0))]) hx hb dX1_wetOfAll_24 hl (k := 2) rfl (nI_1 _) (by decide) rfl (fun ls hl => ?_)
      refine lv_goto (tgt := 4) hx hb dX1_wetOfAll_27 (by decide) ?_
      exact ih (k + 1) (acc + (σ (53 + k) 11)) _ _ _ (by omega)  hP hD hS (lv_sub hl [2, 1, 0] rfl) (fun u eu => K u (eu.trans hf.symm))
  refine lv_iconst (v := nI 0) hx hb dX1_wetOfAll_0 (by decide) ?_
  refine lv_istore_n (lv' := [(1, .int (nI 0)), (0, .ref (ad 0))]) hx hb dX1_wetOfAll_1 rfl hl (by decide) rfl (fun ls hl => ?_)
  refine lv_iconst (v := nI 0) hx hb dX1_wetOfAll_2 (by decide) ?_
  refine lv_istore_n (lv' := [(2, .int (nI 0)), (1, .int (nI 0)), (0, .ref (ad 0))]) hx hb dX1_wetOfAll_3 rfl hl (by decide) rfl (fun ls hl => ?_)
  refine loop4  (tn (σ 0 7)) 0 (nI 0) _ _ _ (by omega)  hP hD hS (lv_sub hl [2, 1, 0] rfl) ?_
  intro q4 eq4 H locs ls hP hD hS hl
  replace hf := hf.trans (ltt_r eq4)
  refine lv_iload_n hx hb dX1_wetOfAll_30 rfl (lv_at hl 1 rfl) ?_
  exact g_endi hx hb hr hlocks rfl (congrArg (fun r => (r, σ)) hf) hP hD hS (Nat.le_of_ble_eq_true rfl) (Nat.le_of_ble_eq_true rfl) dX1_wetOfAll_31
def lp_X1_trustOfAll_4 (σ : Sg)  : Nat → Nat → Int32 → Int32
  | 0, k, acc => acc
  | n + 1, k, acc => lp_X1_trustOfAll_4 σ n (k + 1) (acc + (σ (53 + k) 10))
def s_X1_trustOfAll (σ : Sg) : Int32 := ltt (lp_X1_trustOfAll_4 σ (tn (σ 0 7)) 0 (nI 0)) (fun q4 => q4)
abbrev rm_X1_trustOfAll : Room := { frames := 0, cells := 0, slots := 0, locals := 0 }
set_option maxHeartbeats 4000000 in
set_option maxRecDepth 100000 in
theorem c_X1_trustOfAll (l : Launch) (D : va_G) (cy : Nat → ClassId) (ad : Nat → Nat) (σ : Sg) (hI : OkR σ) : gMr l yX1_trustOfAll wsX1_trustOfAll rm_X1_trustOfAll D (Ty cy) (RW cy ad) [.ref (ad 0)] σ (s_X1_trustOfAll σ) 0 0 := by
  refine gstarti cX1_trustOfAll 3 RX1 (by decide) rfl rfl (Nat.le_of_ble_eq_true rfl) ?_
  intro p e s m below meth c A ls hx hb hml hown hts hr hlocks hK hP hD hA hS hl
  have hl : lv_has ls 3 [(0, .ref (ad 0))] := hl
  have hf : s_X1_trustOfAll σ = s_X1_trustOfAll σ := rfl
  have hz : σ 0 = σ 0 := rfl
  have hin1 : ∀ w ∈ wsX10, w ∈ wsX1_trustOfAll := by decide +kernel
  have hin0 : ∀ w ∈ wsX00, w ∈ wsX1_trustOfAll := by decide +kernel
  have wd0 := hts (.fieldLink RX1 52 "UmbrellaLand$Republic" "citizenCount" "I") (by decide +kernel)
  have wd1 := hts (.fieldLink RX1 29 "UmbrellaLand$Republic" "citizens" "[LUmbrellaLand$Citizen;") (by decide +kernel)
  have wd2 := hts (.fieldLink RX1 145 "UmbrellaLand$Citizen" "trust" "I") (by decide +kernel)
  have n7 := hI.n7
  have loop4 : ∀  (n k : Nat) (acc : Int32) (H : Heap) (locs : List Loc) (ls : Array Slot), n = tn (σ 0 7) - k ∧ k ≤ tn (σ 0 7) + 1 → va_P D vwCl ((RW cy ad) σ) H → va_D A ((RW cy ad) σ) → va_S A s.heap H locs → lv_has ls 3 [(0, .ref (ad 0)), (1, .int (acc)), (2, .int (nI k))] → (∀ u : Int32, u = lp_X1_trustOfAll_4 σ n k acc → ∀ (H : Heap) (locs : List Loc) (ls : Array Slot), va_P D vwCl ((RW cy ad) σ) H → va_D A ((RW cy ad) σ) → va_S A s.heap H locs → lv_has ls 3 [(0, .ref (ad 0)), (1, .int (u))] → W p l e rm_X1_trustOfAll s m [.ref (ad 0)].toArray below meth c H locs 0 0 (MQ below (va_Qi (fun r u => (r, u) = (s_X1_trustOfAll σ, σ)) (gPost D (RW cy ad) A) A) [.ref (ad 0)].toArray s 0 0 A) (F0 m 30 ls [])) → W p l e rm_X1_trustOfAll s m [.ref (ad 0)].toArray below meth c H locs 0 0 (MQ below (va_Qi (fun r u => (r, u) = (s_X1_trustOfAll σ, σ)) (gPost D (RW cy ad) A) A) [.ref (ad 0)].toArray s 0 0 A) (F0 m 4 ls []) := by
    intro n
    induction n with
    | zero =>
      intro k acc H locs ls hN hP hD hS hl K
      have hf : lp_X1_trustOfAll_4 σ 0 k acc = lp_X1_trustOfAll_4 σ 0 k acc := rfl
      refine lv_iload_n hx hb dX1_trustOfAll_4 rfl (lv_at hl 2 rfl) ?_
      refine lv_aload_n hx hb dX1_trustOfAll_5 rfl (lv_at hl 0 rfl) ?_
      refine va_get (D := D) (ci := 1) (v := .int (σ 0 7)) (C := RX1) (T := TX1) (N := 9) hx hb hts hin1 hown hK hP (0) (RW_ob cy ad σ) rfl 7 (by decide) wd0 (fun _ h9 => h9) rfl dX1_trustOfAll_6 ?_
      refine g_top ((congrFun hz 7).trans hI.c7) ?_
      refine lv_icmp_ge (tgt := 30) hx hb dX1_trustOfAll_9 (by decide) (fun c1 => ?_) (fun c1 => absurd (nI_le (by omega) (by omega)) c1)
      exact K acc hf.symm _ _ _ hP hD hS (lv_sub hl [0, 1] rfl)
    | succ n ih =>
      intro k acc H locs ls hN hP hD hS hl K
      have hf : lp_X1_trustOfAll_4 σ (n + 1) k acc = lp_X1_trustOfAll_4 σ (n + 1) k acc := rfl
      refine lv_iload_n hx hb dX1_trustOfAll_4 rfl (lv_at hl 2 rfl) ?_
      refine lv_aload_n hx hb dX1_trustOfAll_5 rfl (lv_at hl 0 rfl) ?_
      refine va_get (D := D) (ci := 1) (v := .int (σ 0 7)) (C := RX1) (T := TX1) (N := 9) hx hb hts hin1 hown hK hP (0) (RW_ob cy ad σ) rfl 7 (by decide) wd0 (fun _ h9 => h9) rfl dX1_trustOfAll_6 ?_
      refine g_top ((congrFun hz 7).trans hI.c7) ?_
      refine lv_icmp_ge (tgt := 30) hx hb dX1_trustOfAll_9 (by decide) (fun c2 => absurd c2 (nI_ge (by omega) (by omega))) (fun c2 => ?_)
      refine lv_iload_n hx hb dX1_trustOfAll_12 rfl (lv_at hl 1 rfl) ?_
      refine lv_aload_n hx hb dX1_trustOfAll_13 rfl (lv_at hl 0 rfl) ?_
      refine va_get (D := D) (ci := 1) (v := .ref (ad 4)) (C := RX1) (T := TX1) (N := 9) hx hb hts hin1 hown hK hP (0) (RW_ob cy ad σ) rfl 3 (by decide) wd1 (fun _ h9 => h9) rfl dX1_trustOfAll_14 ?_
      refine lv_iload_n hx hb dX1_trustOfAll_17 rfl (lv_at hl 2 rfl) ?_
      have h3 : k < 10 := by omega
      refine g_aald (b := ad (53 + k)) hx hb hK hP (4) 3 k (RW_ac cy ad σ) rfl (nI_clamp (by omega)) (vp_in_nI h3 (by decide)) rfl dX1_trustOfAll_18 ?_
      refine va_get (D := D) (ci := 0) (v := .int (σ (53 + k) 10)) (C := RX0) (T := TX0) (N := 15) hx hb hts hin0 hown hK hP (53 + k) (RW_ci cy ad σ h3) rfl 10 (by decide) wd2 (fun _ h9 => h9) rfl dX1_trustOfAll_19 ?_
      refine lv_iadd hx hb dX1_trustOfAll_22 ?_
      refine lv_istore_n (lv' := [(1, .int (acc + (σ (53 + k) 10))), (0, .ref (ad 0)), (2, .int (nI k))]) hx hb dX1_trustOfAll_23 rfl hl (by decide) rfl (fun ls hl => ?_)
      refine lv_iinc (v := nI (k + 1)) (lv' := [(2, .int (nI (k + 1))), (1, .int (acc + (σ (53 + k) 10))), (0, .ref (ad 0))]) hx hb dX1_trustOfAll_24 hl (k := 2) rfl (nI_1 _) (by decide) rfl (fun ls hl => ?_)
      refine lv_goto (tgt := 4) hx hb dX1_trustOfAll_27 (by decide) ?_
      exact ih (k + 1) (acc + (σ (53 + k) 10)) _ _ _ (by omega)  hP hD hS (lv_sub hl [2, 1, 0] rfl) (fun u eu => K u (eu.trans hf.symm))
  refine lv_iconst (v := nI 0) hx hb dX1_trustOfAll_0 (by decide) ?_
  refine lv_istore_n (lv' := [(1, .int (nI 0)), (0, .ref (ad 0))]) hx hb dX1_trustOfAll_1 rfl hl (by decide) rfl (fun ls hl => ?_)
  refine lv_iconst (v := nI 0) hx hb dX1_trustOfAll_2 (by decide) ?_
  refine lv_istore_n (lv' := [(2, .int (nI 0)), (1, .int (nI 0)), (0, .ref (ad 0))]) hx hb dX1_trustOfAll_3 rfl hl (by decide) rfl (fun ls hl => ?_)
  refine loop4  (tn (σ 0 7)) 0 (nI 0) _ _ _ (by omega)  hP hD hS (lv_sub hl [2, 1, 0] rfl) ?_
  intro q4 eq4 H locs ls hP hD hS hl
  replace hf := hf.trans (ltt_r eq4)
  refine lv_iload_n hx hb dX1_trustOfAll_30 rfl (lv_at hl 1 rfl) ?_
  exact g_endi hx hb hr hlocks rfl (congrArg (fun r => (r, σ)) hf) hP hD hS (Nat.le_of_ble_eq_true rfl) (Nat.le_of_ble_eq_true rfl) dX1_trustOfAll_31
def lp_X1_firstUmbrellaIn_8 (σ : Sg) (x : Int32)  : Nat → Nat → Int32 → Int32 → Int32 × Int32
  | 0, k, fst, lw => (fst, lw)
  | n + 1, k, fst, lw => ltt (s_X3_standsIn σ k x) (fun r4 => if r4 = 0 then lp_X1_firstUmbrellaIn_8 σ x n (k + 1) fst lw else if lw ≤ (σ (13 + k) 2) then lp_X1_firstUmbrellaIn_8 σ x n (k + 1) fst lw else lp_X1_firstUmbrellaIn_8 σ x n (k + 1) (nI k) (σ (13 + k) 2))
def s_X1_firstUmbrellaIn (σ : Sg) (x : Int32) : Int32 := ltt (lp_X1_firstUmbrellaIn_8 σ x (tn (σ 0 6)) 0 ((-1 : Int32)) (nI 30)) (fun q9 => q9.1)
abbrev rm_X1_firstUmbrellaIn : Room := { frames := 1, cells := 0, slots := 0, locals := 21 }
set_option maxHeartbeats 4000000 in
set_option maxRecDepth 100000 in
theorem c_X1_firstUmbrellaIn (l : Launch) (D : va_G) (cy : Nat → ClassId) (ad : Nat → Nat) (σ : Sg) (x : Int32) (hI : OkR σ) : gMr l yX1_firstUmbrellaIn wsX1_firstUmbrellaIn rm_X1_firstUmbrellaIn D (Ty cy) (RW cy ad) [.ref (ad 0), .int (x)] σ (s_X1_firstUmbrellaIn σ x) 0 0 := by
  refine gstarti cX1_firstUmbrellaIn 5 RX1 (by decide) rfl rfl (Nat.le_of_ble_eq_true rfl) ?_
  intro p e s m below meth c A ls hx hb hml hown hts hr hlocks hK hP hD hA hS hl
  have hl : lv_has ls 5 [(0, .ref (ad 0)), (1, .int (x))] := hl
  have hf : s_X1_firstUmbrellaIn σ x = s_X1_firstUmbrellaIn σ x := rfl
  have hz : σ 0 = σ 0 := rfl
  have hin1 : ∀ w ∈ wsX10, w ∈ wsX1_firstUmbrellaIn := by decide +kernel
  have hin3 : ∀ w ∈ wsX30, w ∈ wsX1_firstUmbrellaIn := by decide +kernel
  have wd0 := hts (.fieldLink RX1 49 "UmbrellaLand$Republic" "umbrellaCount" "I") (by decide +kernel)
  have wd1 := hts (.fieldLink RX1 23 "UmbrellaLand$Republic" "umbrellas" "[LUmbrellaLand$Umbrella;") (by decide +kernel)
  have wd2 := hts (.fieldLink RX1 183 "UmbrellaLand$Umbrella" "wear" "I") (by decide +kernel)
  have n6 := hI.n6
  have loop8 : ∀  (n k : Nat) (fst : Int32) (lw : Int32) (H : Heap) (locs : List Loc) (ls : Array Slot), n = tn (σ 0 6) - k ∧ k ≤ tn (σ 0 6) + 1 → va_P D vwCl ((RW cy ad) σ) H → va_D A ((RW cy ad) σ) → va_S A s.heap H locs → lv_has ls 5 [(0, .ref (ad 0)), (1, .int (x)), (2, .int (fst)), (3, .int (lw)), (4, .int (nI k))] → (∀ u : Int32 × Int32, u = lp_X1_firstUmbrellaIn_8 σ x n k fst lw → ∀ (H : Heap) (locs : List Loc) (ls : Array Slot), va_P D vwCl ((RW cy ad) σ) H → va_D A ((RW cy ad) σ) → va_S A s.heap H locs → lv_has ls 5 [(0, .ref (ad 0)), (1, .int (x)), (2, .int (u.1)), (3, .int (u.2))] → W p l e rm_X1_firstUmbrellaIn s m [.ref (ad 0), .int (x)].toArray below meth c H locs 0 0 (MQ below (va_Qi (fun r u => (r, u) = (s_X1_firstUmbrellaIn σ x, σ)) (gPost D (RW cy ad) A) A) [.ref (ad 0), .int (x)].toArray s 0 0 A) (F0 m 65 ls [])) → W p l e rm_X1_firstUmbrellaIn s m [.ref (ad 0), .int (x)].toArray below meth c H locs 0 0 (MQ below (va_Qi (fun r u => (r, u) = (s_X1_firstUmbrellaIn σ x, σ)) (gPost D (RW cy ad) A) A) [.ref (ad 0), .int (x)].toArray s 0 0 A) (F0 m 8 ls []) := by
    intro n
    induction n with
    | zero =>
      intro k fst lw H locs ls hN hP hD hS hl K
      have hf : lp_X1_firstUmbrellaIn_8 σ x 0 k fst lw = lp_X1_firstUmbrellaIn_8 σ x 0 k fst lw := rfl
      refine lv_iload hx hb dX1_firstUmbrellaIn_8 (lv_at hl 4 rfl) ?_
      refine lv_aload_n hx hb dX1_firstUmbrellaIn_10 rfl (lv_at hl 0 rfl) ?_
      refine va_get (D := D) (ci := 1) (v := .int (σ 0 6)) (C := RX1) (T := TX1) (N := 9) hx hb hts hin1 hown hK hP (0) (RW_ob cy ad σ) rfl 6 (by decide) wd0 (fun _ h9 => h9) rfl dX1_firstUmbrellaIn_11 ?_
      refine g_top ((congrFun hz 6).trans hI.c6) ?_
      refine lv_icmp_ge (tgt := 65) hx hb dX1_firstUmbrellaIn_14 (by decide) (fun c1 => ?_) (fun c1 => absurd (nI_le (by omega) (by omega)) c1)
      exact K (fst, lw) hf.symm _ _ _ hP hD hS (lv_sub hl [0, 1, 2, 3] rfl)
    | succ n ih =>
      intro k fst lw H locs ls hN hP hD hS hl K
      have hf : lp_X1_firstUmbrellaIn_8 σ x (n + 1) k fst lw = lp_X1_firstUmbrellaIn_8 σ x (n + 1) k fst lw := rfl
      refine lv_iload hx hb dX1_firstUmbrellaIn_8 (lv_at hl 4 rfl) ?_
      refine lv_aload_n hx hb dX1_firstUmbrellaIn_10 rfl (lv_at hl 0 rfl) ?_
      refine va_get (D := D) (ci := 1) (v := .int (σ 0 6)) (C := RX1) (T := TX1) (N := 9) hx hb hts hin1 hown hK hP (0) (RW_ob cy ad σ) rfl 6 (by decide) wd0 (fun _ h9 => h9) rfl dX1_firstUmbrellaIn_11 ?_
      refine g_top ((congrFun hz 6).trans hI.c6) ?_
      refine lv_icmp_ge (tgt := 65) hx hb dX1_firstUmbrellaIn_14 (by decide) (fun c2 => absurd c2 (nI_ge (by omega) (by omega))) (fun c2 => ?_)
      refine lv_aload_n hx hb dX1_firstUmbrellaIn_17 rfl (lv_at hl 0 rfl) ?_
      refine va_get (D := D) (ci := 1) (v := .ref (ad 3)) (C := RX1) (T := TX1) (N := 9) hx hb hts hin1 hown hK hP (0) (RW_ob cy ad σ) rfl 2 (by decide) wd1 (fun _ h9 => h9) rfl dX1_firstUmbrellaIn_18 ?_
      refine lv_iload hx hb dX1_firstUmbrellaIn_21 (lv_at hl 4 rfl) ?_
      have h3 : k < 40 := by omega
      refine g_aald (b := ad (13 + k)) hx hb hK hP (3) 2 k (RW_au cy ad σ) rfl (nI_clamp (by omega)) (vp_in_nI h3 (by decide)) rfl dX1_firstUmbrellaIn_23 ?_
      refine lv_iload_n hx hb dX1_firstUmbrellaIn_24 rfl (lv_at hl 1 rfl) ?_
      refine g_callr (q0 := 13 + k) (wf := (RW cy ad)) (σ := σ) (wfc := (RW cy ad)) (σc := σ) hx hb hml hown hts hK hP hD hS hA hl.1 [] pm_0 [.int (x)] (c_X3_standsIn l D cy ad σ k x h3) (cwV 1 hts gX1_firstUmbrellaIn_X3_standsIn rfl rfl rfl (by decide +kernel) ⟨Nat.le_of_ble_eq_true rfl, Nat.le_of_ble_eq_true rfl⟩) (RW_um cy ad σ h3) rfl rfl rfl rfl (Nat.le_of_ble_eq_true rfl) dX1_firstUmbrellaIn_25 ⟨Nat.le_of_ble_eq_true rfl, Nat.le_of_ble_eq_true rfl⟩ rfl rfl ?_
      intro r4 er4 H locs hP hD hS
      replace hf := hf.trans (ltt_r er4)
      refine lv_if_eq (tgt := 59) hx hb dX1_firstUmbrellaIn_28 (by decide) (fun c5 => ?_) (fun c5 => ?_)
      · replace hf := hf.trans (if_pos c5)
        refine lv_iinc (v := nI (k + 1)) (lv' := [(4, .int (nI (k + 1))), (0, .ref (ad 0)), (1, .int (x)), (2, .int (fst)), (3, .int (lw))]) hx hb dX1_firstUmbrellaIn_59 hl (k := 4) rfl (nI_1 _) (by decide) rfl (fun ls hl => ?_)
        refine lv_goto (tgt := 8) hx hb dX1_firstUmbrellaIn_62 (by decide) ?_
        exact ih (k + 1) fst lw _ _ _ (by omega)  hP hD hS (lv_sub hl [1, 2, 3, 4, 0] rfl) (fun u eu => K u (eu.trans hf.symm))
      · replace hf := hf.trans (if_neg c5)
        refine lv_aload_n hx hb dX1_firstUmbrellaIn_31 rfl (lv_at hl 0 rfl) ?_
        refine va_get (D := D) (ci := 1) (v := .ref (ad 3)) (C := RX1) (T := TX1) (N := 9) hx hb hts hin1 hown hK hP (0) (RW_ob cy ad σ) rfl 2 (by decide) wd1 (fun _ h9 => h9) rfl dX1_firstUmbrellaIn_32 ?_
        refine lv_iload hx hb dX1_firstUmbrellaIn_35 (lv_at hl 4 rfl) ?_
        have h6 : k < 40 := by omega
        refine g_aald (b := ad (13 + k)) hx hb hK hP (3) 2 k (RW_au cy ad σ) rfl (nI_clamp (by omega)) (vp_in_nI h6 (by decide)) rfl dX1_firstUmbrellaIn_37 ?_
        refine va_get (D := D) (ci := 3) (v := .int (σ (13 + k) 2)) (C := RX3) (T := TX3) (N := 6) hx hb hts hin3 hown hK hP (13 + k) (RW_um cy ad σ h6) rfl 2 (by decide) wd2 (fun _ h9 => h9) rfl dX1_firstUmbrellaIn_38 ?_
        refine lv_iload_n hx hb dX1_firstUmbrellaIn_41 rfl (lv_at hl 3 rfl) ?_
        refine lv_icmp_ge (tgt := 59) hx hb dX1_firstUmbrellaIn_42 (by decide) (fun c7 => ?_) (fun c7 => ?_)
        · replace hf := hf.trans (if_pos c7)
          refine lv_iinc (v := nI (k + 1)) (lv' := [(4, .int (nI (k + 1))), (0, .ref (ad 0)), (1, .int (x)), (2, .int (fst)), (3, .int (lw))]) hx hb dX1_firstUmbrellaIn_59 hl (k := 4) rfl (nI_1 _) (by decide) rfl (fun ls hl => ?_)
          refine lv_goto (tgt := 8) hx hb dX1_firstUmbrellaIn_62 (by decide) ?_
          exact ih (k + 1) fst lw _ _ _ (by omega)  hP hD hS (lv_sub hl [1, 2, 3, 4, 0] rfl) (fun u eu => K u (eu.trans hf.symm))
        · replace hf := hf.trans (if_neg c7)
          refine lv_iload hx hb dX1_firstUmbrellaIn_45 (lv_at hl 4 rfl) ?_
          refine lv_istore_n (lv' := [(2, .int (nI k)), (0, .ref (ad 0)), (1, .int (x)), (3, .int (lw)), (4, .int (nI k))]) hx hb dX1_firstUmbrellaIn_47 rfl hl (by decide) rfl (fun ls hl => ?_)
          refine lv_aload_n hx hb dX1_firstUmbrellaIn_48 rfl (lv_at hl 1 rfl) ?_
          refine va_get (D := D) (ci := 1) (v := .ref (ad 3)) (C := RX1) (T := TX1) (N := 9) hx hb hts hin1 hown hK hP (0) (RW_ob cy ad σ) rfl 2 (by decide) wd1 (fun _ h9 => h9) rfl dX1_firstUmbrellaIn_49 ?_
          refine lv_iload hx hb dX1_firstUmbrellaIn_52 (lv_at hl 4 rfl) ?_
          have h8 : k < 40 := by omega
          refine g_aald (b := ad (13 + k)) hx hb hK hP (3) 2 k (RW_au cy ad σ) rfl (nI_clamp (by omega)) (vp_in_nI h8 (by decide)) rfl dX1_firstUmbrellaIn_54 ?_
          refine va_get (D := D) (ci := 3) (v := .int (σ (13 + k) 2)) (C := RX3) (T := TX3) (N := 6) hx hb hts hin3 hown hK hP (13 + k) (RW_um cy ad σ h8) rfl 2 (by decide) wd2 (fun _ h9 => h9) rfl dX1_firstUmbrellaIn_55 ?_
          refine lv_istore_n (lv' := [(3, .int (σ (13 + k) 2)), (2, .int (nI k)), (0, .ref (ad 0)), (1, .int (x)), (4, .int (nI k))]) hx hb dX1_firstUmbrellaIn_58 rfl hl (by decide) rfl (fun ls hl => ?_)
          refine lv_iinc (v := nI (k + 1)) (lv' := [(4, .int (nI (k + 1))), (3, .int (σ (13 + k) 2)), (2, .int (nI k)), (0, .ref (ad 0)), (1, .int (x))]) hx hb dX1_firstUmbrellaIn_59 hl (k := 4) rfl (nI_1 _) (by decide) rfl (fun ls hl => ?_)
          refine lv_goto (tgt := 8) hx hb dX1_firstUmbrellaIn_62 (by decide) ?_
          exact ih (k + 1) (nI k) (σ (13 + k) 2) _ _ _ (by omega)  hP hD hS (lv_sub hl [3, 4, 2, 1, 0] rfl) (fun u eu => K u (eu.trans hf.symm))
  refine lv_iconst (v := (-1 : Int32)) hx hb dX1_firstUmbrellaIn_0 (by decide) ?_
  refine lv_istore_n (lv' := [(2, .int ((-1 : Int32))), (0, .ref (ad 0)), (1, .int (x))]) hx hb dX1_firstUmbrellaIn_1 rfl hl (by decide) rfl (fun ls hl => ?_)
  refine lv_bipush (v := nI 30) hx hb dX1_firstUmbrellaIn_2 (by decide) ?_
  refine lv_istore_n (lv' := [(3, .int (nI 30)), (2, .int ((-1 : Int32))), (0, .ref (ad 0)), (1, .int (x))]) hx hb dX1_firstUmbrellaIn_4 rfl hl (by decide) rfl (fun ls hl => ?_)
  refine lv_iconst (v := nI 0) hx hb dX1_firstUmbrellaIn_5 (by decide) ?_
  refine lv_istore (lv' := [(4, .int (nI 0)), (3, .int (nI 30)), (2, .int ((-1 : Int32))), (0, .ref (ad 0)), (1, .int (x))]) hx hb dX1_firstUmbrellaIn_6 hl (by decide) rfl (fun ls hl => ?_)
  refine loop8  (tn (σ 0 6)) 0 ((-1 : Int32)) (nI 30) _ _ _ (by omega)  hP hD hS (lv_sub hl [3, 4, 2, 1, 0] rfl) ?_
  intro q9 eq9 H locs ls hP hD hS hl
  replace hf := hf.trans (ltt_r eq9)
  refine lv_iload_n hx hb dX1_firstUmbrellaIn_65 rfl (lv_at hl 2 rfl) ?_
  exact g_endi hx hb hr hlocks rfl (congrArg (fun r => (r, σ)) hf) hP hD hS (Nat.le_of_ble_eq_true rfl) (Nat.le_of_ble_eq_true rfl) dX1_firstUmbrellaIn_66
def lp_X1_isBuiltOn_2 (σ : Sg) (x : Int32)  : Nat → Nat → Int32
  | 0, k => nI 0
  | n + 1, k => if (σ (5 + k) 0) = x then nI 1 else lp_X1_isBuiltOn_2 σ x n (k + 1) 
def s_X1_isBuiltOn (σ : Sg) (x : Int32) : Int32 := lp_X1_isBuiltOn_2 σ x (tn (σ 0 5)) 0 
abbrev rm_X1_isBuiltOn : Room := { frames := 0, cells := 0, slots := 0, locals := 0 }
set_option maxHeartbeats 4000000 in
set_option maxRecDepth 100000 in
theorem c_X1_isBuiltOn (l : Launch) (D : va_G) (cy : Nat → ClassId) (ad : Nat → Nat) (σ : Sg) (x : Int32) (hI : OkR σ) : gMr l yX1_isBuiltOn wsX1_isBuiltOn rm_X1_isBuiltOn D (Ty cy) (RW cy ad) [.ref (ad 0), .int (x)] σ (s_X1_isBuiltOn σ x) 0 0 := by
  refine gstarti cX1_isBuiltOn 3 RX1 (by decide) rfl rfl (Nat.le_of_ble_eq_true rfl) ?_
  intro p e s m below meth c A ls hx hb hml hown hts hr hlocks hK hP hD hA hS hl
  have hl : lv_has ls 3 [(0, .ref (ad 0)), (1, .int (x))] := hl
  have hf : s_X1_isBuiltOn σ x = s_X1_isBuiltOn σ x := rfl
  have hz : σ 0 = σ 0 := rfl
  have hin1 : ∀ w ∈ wsX10, w ∈ wsX1_isBuiltOn := by decide +kernel
  have hin2 : ∀ w ∈ wsX20, w ∈ wsX1_isBuiltOn := by decide +kernel
  have wd0 := hts (.fieldLink RX1 46 "UmbrellaLand$Republic" "shelterCount" "I") (by decide +kernel)
  have wd1 := hts (.fieldLink RX1 17 "UmbrellaLand$Republic" "shelters" "[LUmbrellaLand$Shelter;") (by decide +kernel)
  have wd2 := hts (.fieldLink RX1 68 "UmbrellaLand$Shelter" "place" "I") (by decide +kernel)
  have n5 := hI.n5
  have loop2 : ∀  (n k : Nat)  (H : Heap) (locs : List Loc) (ls : Array Slot), n = tn (σ 0 5) - k ∧ k ≤ tn (σ 0 5) + 1 → (s_X1_isBuiltOn σ x = lp_X1_isBuiltOn_2 σ x n k ) → va_P D vwCl ((RW cy ad) σ) H → va_D A ((RW cy ad) σ) → va_S A s.heap H locs → lv_has ls 3 [(0, .ref (ad 0)), (1, .int (x)), (2, .int (nI k))] → W p l e rm_X1_isBuiltOn s m [.ref (ad 0), .int (x)].toArray below meth c H locs 0 0 (MQ below (va_Qi (fun r u => (r, u) = (s_X1_isBuiltOn σ x, σ)) (gPost D (RW cy ad) A) A) [.ref (ad 0), .int (x)].toArray s 0 0 A) (F0 m 2 ls []) := by
    intro n
    induction n with
    | zero =>
      intro k H locs ls hN hf hP hD hS hl
      refine lv_iload_n hx hb dX1_isBuiltOn_2 rfl (lv_at hl 2 rfl) ?_
      refine lv_aload_n hx hb dX1_isBuiltOn_3 rfl (lv_at hl 0 rfl) ?_
      refine va_get (D := D) (ci := 1) (v := .int (σ 0 5)) (C := RX1) (T := TX1) (N := 9) hx hb hts hin1 hown hK hP (0) (RW_ob cy ad σ) rfl 5 (by decide) wd0 (fun _ h9 => h9) rfl dX1_isBuiltOn_4 ?_
      refine g_top ((congrFun hz 5).trans hI.c5) ?_
      refine lv_icmp_ge (tgt := 31) hx hb dX1_isBuiltOn_7 (by decide) (fun c1 => ?_) (fun c1 => absurd (nI_le (by omega) (by omega)) c1)
      refine lv_iconst (v := nI 0) hx hb dX1_isBuiltOn_31 (by decide) ?_
      exact g_endi hx hb hr hlocks rfl (congrArg (fun r => (r, σ)) hf) hP hD hS (Nat.le_of_ble_eq_true rfl) (Nat.le_of_ble_eq_true rfl) dX1_isBuiltOn_32
    | succ n ih =>
      intro k H locs ls hN hf hP hD hS hl
      refine lv_iload_n hx hb dX1_isBuiltOn_2 rfl (lv_at hl 2 rfl) ?_
      refine lv_aload_n hx hb dX1_isBuiltOn_3 rfl (lv_at hl 0 rfl) ?_
      refine va_get (D := D) (ci := 1) (v := .int (σ 0 5)) (C := RX1) (T := TX1) (N := 9) hx hb hts hin1 hown hK hP (0) (RW_ob cy ad σ) rfl 5 (by decide) wd0 (fun _ h9 => h9) rfl dX1_isBuiltOn_4 ?_
      refine g_top ((congrFun hz 5).trans hI.c5) ?_
      refine lv_icmp_ge (tgt := 31) hx hb dX1_isBuiltOn_7 (by decide) (fun c2 => absurd c2 (nI_ge (by omega) (by omega))) (fun c2 => ?_)
      refine lv_aload_n hx hb dX1_isBuiltOn_10 rfl (lv_at hl 0 rfl) ?_
      refine va_get (D := D) (ci := 1) (v := .ref (ad 2)) (C := RX1) (T := TX1) (N := 9) hx hb hts hin1 hown hK hP (0) (RW_ob cy ad σ) rfl 1 (by decide) wd1 (fun _ h9 => h9) rfl dX1_isBuiltOn_11 ?_
      refine lv_iload_n hx hb dX1_isBuiltOn_14 rfl (lv_at hl 2 rfl) ?_
      have h3 : k < 8 := by omega
      refine g_aald (b := ad (5 + k)) hx hb hK hP (2) 1 k (RW_as cy ad σ) rfl (nI_clamp (by omega)) (vp_in_nI h3 (by decide)) rfl dX1_isBuiltOn_15 ?_
      refine va_get (D := D) (ci := 2) (v := .int (σ (5 + k) 0)) (C := RX2) (T := TX2) (N := 7) hx hb hts hin2 hown hK hP (5 + k) (RW_sh cy ad σ h3) rfl 0 (by decide) wd2 (fun _ h9 => h9) rfl dX1_isBuiltOn_16 ?_
      refine lv_iload_n hx hb dX1_isBuiltOn_19 rfl (lv_at hl 1 rfl) ?_
      refine lv_icmp_ne (tgt := 25) hx hb dX1_isBuiltOn_20 (by decide) (fun c4 => ?_) (fun c4 => ?_)
      · replace hf := hf.trans (if_neg c4)
        refine lv_iinc (v := nI (k + 1)) (lv' := [(2, .int (nI (k + 1))), (0, .ref (ad 0)), (1, .int (x))]) hx hb dX1_isBuiltOn_25 hl (k := 2) rfl (nI_1 _) (by decide) rfl (fun ls hl => ?_)
        refine lv_goto (tgt := 2) hx hb dX1_isBuiltOn_28 (by decide) ?_
        exact ih (k + 1)  _ _ _ (by omega)  hf hP hD hS (lv_sub hl [1, 2, 0] rfl)
      · replace hf := hf.trans (if_pos c4)
        refine lv_iconst (v := nI 1) hx hb dX1_isBuiltOn_23 (by decide) ?_
        exact g_endi hx hb hr hlocks rfl (congrArg (fun r => (r, σ)) hf) hP hD hS (Nat.le_of_ble_eq_true rfl) (Nat.le_of_ble_eq_true rfl) dX1_isBuiltOn_24
  refine lv_iconst (v := nI 0) hx hb dX1_isBuiltOn_0 (by decide) ?_
  refine lv_istore_n (lv' := [(2, .int (nI 0)), (0, .ref (ad 0)), (1, .int (x))]) hx hb dX1_isBuiltOn_1 rfl hl (by decide) rfl (fun ls hl => ?_)
  exact loop2  (tn (σ 0 5)) 0  _ _ _ (by omega)  hf hP hD hS (lv_sub hl [1, 2, 0] rfl)
