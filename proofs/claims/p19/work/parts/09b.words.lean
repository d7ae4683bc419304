abbrev rm_L_republic : Room := { frames := 8, cells := 300, slots := 2000, locals := 140 }
set_option maxRecDepth 100000 in
theorem cw_L_law_count {s : State} {args : Array Value} (hts : ∀ w ∈ wsL_law, w.before args s = true) : CallW room_1 s args RL RX4 39 yX4_count cX4_count 2 (some .int) wsX4_count rm_X4_count 1 6 1 := cwV 1 hts gL_law_X4_count rfl rfl rfl (by decide +kernel) ⟨Nat.le_of_ble_eq_true rfl, Nat.le_of_ble_eq_true rfl⟩
set_option maxRecDepth 100000 in
theorem cw_L_law_umbrella {s : State} {args : Array Value} (hts : ∀ w ∈ wsL_law, w.before args s = true) : CallW room_1 s args RL RX4 62 yX4_umbrella cX4_umbrella 3 (some .int) wsX4_umbrella rm_X4_umbrella 2 12 2 := cwV 2 hts gL_law_X4_umbrella rfl rfl rfl (by decide +kernel) ⟨Nat.le_of_ble_eq_true rfl, Nat.le_of_ble_eq_true rfl⟩
set_option maxRecDepth 100000 in
theorem cw_L_law_citizen {s : State} {args : Array Value} (hts : ∀ w ∈ wsL_law, w.before args s = true) : CallW room_1 s args RL RX4 65 yX4_citizen cX4_citizen 3 (some .int) wsX4_citizen rm_X4_citizen 2 12 2 := cwV 2 hts gL_law_X4_citizen rfl rfl rfl (by decide +kernel) ⟨Nat.le_of_ble_eq_true rfl, Nat.le_of_ble_eq_true rfl⟩
set_option maxRecDepth 100000 in
theorem cw_L_law_shelter {s : State} {args : Array Value} (hts : ∀ w ∈ wsL_law, w.before args s = true) : CallW room_1 s args RL RX4 68 yX4_shelter cX4_shelter 3 (some .int) wsX4_shelter rm_X4_shelter 2 12 2 := cwV 2 hts gL_law_X4_shelter rfl rfl rfl (by decide +kernel) ⟨Nat.le_of_ble_eq_true rfl, Nat.le_of_ble_eq_true rfl⟩
set_option maxRecDepth 100000 in
theorem cw_L_law_bring {s : State} {args : Array Value} (hts : ∀ w ∈ wsL_law, w.before args s = true) : CallW room_1 s args RL RX4 28 yX4_bring cX4_bring 4 (some .int) wsX4_bring rm_X4_bring 2 12 2 := cwV 2 hts gL_law_X4_bring rfl rfl rfl (by decide +kernel) ⟨Nat.le_of_ble_eq_true rfl, Nat.le_of_ble_eq_true rfl⟩
set_option maxRecDepth 100000 in
theorem cw_L_law_setRain {s : State} {args : Array Value} (hts : ∀ w ∈ wsL_law, w.before args s = true) : CallW room_1 s args RL RX4 22 yX4_setRain cX4_setRain 4 (some .int) wsX4_setRain rm_X4_setRain 2 12 2 := cwV 2 hts gL_law_X4_setRain rfl rfl rfl (by decide +kernel) ⟨Nat.le_of_ble_eq_true rfl, Nat.le_of_ble_eq_true rfl⟩
set_option maxRecDepth 100000 in
theorem cw_L_law_setDemand {s : State} {args : Array Value} (hts : ∀ w ∈ wsL_law, w.before args s = true) : CallW room_1 s args RL RX4 43 yX4_setDemand cX4_setDemand 4 (some .int) wsX4_setDemand rm_X4_setDemand 2 12 2 := cwV 2 hts gL_law_X4_setDemand rfl rfl rfl (by decide +kernel) ⟨Nat.le_of_ble_eq_true rfl, Nat.le_of_ble_eq_true rfl⟩
set_option maxRecDepth 100000 in
theorem cw_L_law_pass {s : State} {args : Array Value} (hts : ∀ w ∈ wsL_law, w.before args s = true) : CallW room_1 s args RL RX4 59 yX4_pass cX4_pass 2 (some .int) wsX4_pass rm_X4_pass 1 6 1 := cwV 1 hts gL_law_X4_pass rfl rfl rfl (by decide +kernel) ⟨Nat.le_of_ble_eq_true rfl, Nat.le_of_ble_eq_true rfl⟩
set_option maxRecDepth 100000 in
theorem cw_L_law_foresee {s : State} {args : Array Value} (hts : ∀ w ∈ wsL_law, w.before args s = true) : CallW room_1 s args RL RX4 50 yX4_foresee cX4_foresee 3 (some .int) wsX4_foresee rm_X4_foresee 2 12 2 := cwV 2 hts gL_law_X4_foresee rfl rfl rfl (by decide +kernel) ⟨Nat.le_of_ble_eq_true rfl, Nat.le_of_ble_eq_true rfl⟩
set_option maxRecDepth 100000 in
theorem cw_L_law_advise {s : State} {args : Array Value} (hts : ∀ w ∈ wsL_law, w.before args s = true) : CallW room_1 s args RL RX4 53 yX4_advise cX4_advise 6 (some .int) wsX4_advise rm_X4_advise 2 12 1 := cwV 1 hts gL_law_X4_advise rfl rfl rfl (by decide +kernel) ⟨Nat.le_of_ble_eq_true rfl, Nat.le_of_ble_eq_true rfl⟩
set_option maxRecDepth 100000 in
theorem cw_L_law_lasts {s : State} {args : Array Value} (hts : ∀ w ∈ wsL_law, w.before args s = true) : CallW room_1 s args RL RX4 56 yX4_lasts cX4_lasts 5 (some .int) wsX4_lasts rm_X4_lasts 2 12 2 := cwV 2 hts gL_law_X4_lasts rfl rfl rfl (by decide +kernel) ⟨Nat.le_of_ble_eq_true rfl, Nat.le_of_ble_eq_true rfl⟩
set_option maxRecDepth 100000 in
theorem cw_L_law_digest {s : State} {args : Array Value} (hts : ∀ w ∈ wsL_law, w.before args s = true) : CallW room_1 s args RL RX4 46 yX4_digest cX4_digest 5 (some .long) wsX4_digest rm_X4_digest 0 0 0 := cwV 0 hts gL_law_X4_digest rfl rfl rfl (by decide +kernel) ⟨Nat.le_of_ble_eq_true rfl, Nat.le_of_ble_eq_true rfl⟩
set_option maxRecDepth 100000 in
theorem cw_L_law_trust {s : State} {args : Array Value} (hts : ∀ w ∈ wsL_law, w.before args s = true) : CallW room_1 s args RL RX4 71 yX4_trust cX4_trust 1 (some .double) wsX4_trust rm_X4_trust 0 0 0 := cwV 0 hts gL_law_X4_trust rfl rfl rfl (by decide +kernel) ⟨Nat.le_of_ble_eq_true rfl, Nat.le_of_ble_eq_true rfl⟩
set_option maxRecDepth 100000 in
theorem cwb_L_law {s : State} {args : Array Value} (hts : ∀ w ∈ wsL_law, w.before args s = true) : CallB room_1 s args RL 18 yL_below cL_below 2 (some .int) wsL_below rm_L0 0 0 2 ∧ (Cond.static yL_below).before args s = true := va_cwS 2 hts gL_law_L_below rfl rfl rfl (by decide +kernel) ⟨Nat.le_of_ble_eq_true rfl, Nat.le_of_ble_eq_true rfl⟩
set_option maxRecDepth 100000 in
theorem cwc_L_law {s : State} {args : Array Value} (hts : ∀ w ∈ wsL_law, w.before args s = true) : CallB room_1 s args RL 12 yL_cell cL_cell 2 (some .int) wsL_cell rm_L0 0 0 2 ∧ (Cond.static yL_cell).before args s = true := va_cwS 2 hts gL_law_L_cell rfl rfl rfl (by decide +kernel) ⟨Nat.le_of_ble_eq_true rfl, Nat.le_of_ble_eq_true rfl⟩
set_option maxRecDepth 100000 in
theorem cw_L_republic_setRain {s : State} {args : Array Value} (hts : ∀ w ∈ wsL_republic, w.before args s = true) : CallW rm_L_republic s args RL RX4 22 yX4_setRain cX4_setRain 4 (some .int) wsX4_setRain rm_X4_setRain 2 12 2 := cwV 2 hts gL_republic_X4_setRain rfl rfl rfl (by decide +kernel) ⟨Nat.le_of_ble_eq_true rfl, Nat.le_of_ble_eq_true rfl⟩
set_option maxRecDepth 100000 in
theorem cw_L_republic_build {s : State} {args : Array Value} (hts : ∀ w ∈ wsL_republic, w.before args s = true) : CallW rm_L_republic s args RL RX4 25 yX4_build cX4_build 3 (some .int) wsX4_build rm_X4_build 1 6 2 := cwV 2 hts gL_republic_X4_build rfl rfl rfl (by decide +kernel) ⟨Nat.le_of_ble_eq_true rfl, Nat.le_of_ble_eq_true rfl⟩
set_option maxRecDepth 100000 in
theorem cw_L_republic_bring {s : State} {args : Array Value} (hts : ∀ w ∈ wsL_republic, w.before args s = true) : CallW rm_L_republic s args RL RX4 28 yX4_bring cX4_bring 4 (some .int) wsX4_bring rm_X4_bring 2 12 2 := cwV 2 hts gL_republic_X4_bring rfl rfl rfl (by decide +kernel) ⟨Nat.le_of_ble_eq_true rfl, Nat.le_of_ble_eq_true rfl⟩
set_option maxRecDepth 100000 in
theorem cw_L_republic_addCitizen {s : State} {args : Array Value} (hts : ∀ w ∈ wsL_republic, w.before args s = true) : CallW rm_L_republic s args RL RX4 31 yX4_addCitizen cX4_addCitizen 6 (some .int) wsX4_addCitizen rm_X4_addCitizen 3 18 5 := cwV 5 hts gL_republic_X4_addCitizen rfl rfl rfl (by decide +kernel) ⟨Nat.le_of_ble_eq_true rfl, Nat.le_of_ble_eq_true rfl⟩
set_option maxRecDepth 100000 in
theorem cwb_L_republic {s : State} {args : Array Value} (hts : ∀ w ∈ wsL_republic, w.before args s = true) : CallB rm_L_republic s args RL 18 yL_below cL_below 2 (some .int) wsL_below rm_L0 0 0 2 ∧ (Cond.static yL_below).before args s = true := va_cwS 2 hts gL_republic_L_below rfl rfl rfl (by decide +kernel) ⟨Nat.le_of_ble_eq_true rfl, Nat.le_of_ble_eq_true rfl⟩
set_option maxRecDepth 100000 in
theorem cwc_L_republic {s : State} {args : Array Value} (hts : ∀ w ∈ wsL_republic, w.before args s = true) : CallB rm_L_republic s args RL 12 yL_cell cL_cell 2 (some .int) wsL_cell rm_L0 0 0 2 ∧ (Cond.static yL_cell).before args s = true := va_cwS 2 hts gL_republic_L_cell rfl rfl rfl (by decide +kernel) ⟨Nat.le_of_ble_eq_true rfl, Nat.le_of_ble_eq_true rfl⟩
theorem nI_rem2 (a b : Nat) (ha : a < 2 ^ 31) (hb : 0 < b) (hb2 : b < 2 ^ 31) : nI a - nI a / nI b * nI b = nI (a % b) := by
  have h1 : (nI a).toInt = (a : Int) := ti_n ha
  have h2 : (nI b).toInt = (b : Int) := ti_n hb2
  have h3 : a % b < b := Nat.mod_lt _ hb
  rw [te, rem_n (by rw [h1]; omega) (by rw [h2]; omega), h1, h2, ti_n (by omega)]
  rfl
