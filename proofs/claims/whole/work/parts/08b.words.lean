set_option maxRecDepth 20000 in
theorem wL_r11 : ∀ w ∈ wsL_law0_r11, w ∈ lw_tbl := fun w h => (goodIn_p wsL_law0_r11 [850, 492, 854, 500, 503] rfl (by decide +kernel) w h).1
set_option maxRecDepth 20000 in
theorem wL_r12 : ∀ w ∈ wsL_law0_r12, w ∈ lw_tbl := fun w h => (goodIn_p wsL_law0_r12 [267, 275, 279, 259] rfl (by decide +kernel) w h).1
set_option maxRecDepth 20000 in
theorem wL_r13 : ∀ w ∈ wsL_law0_r13, w ∈ lw_tbl := fun w h => (goodIn_p wsL_law0_r13 [283, 858, 862, 866, 870] rfl (by decide +kernel) w h).1
set_option maxRecDepth 20000 in
theorem wL_r14 : ∀ w ∈ wsL_law0_r14, w ∈ lw_tbl := fun w h => (goodIn_p wsL_law0_r14 [511, 515, 519, 287, 874, 878] rfl (by decide +kernel) w h).1
set_option maxRecDepth 20000 in
theorem wL_r15 : ∀ w ∈ wsL_law0_r15, w ∈ lw_tbl := fun w h => (goodIn_p wsL_law0_r15 [527, 531, 535, 291] rfl (by decide +kernel) w h).1
set_option maxRecDepth 20000 in
theorem wL_r16 : ∀ w ∈ wsL_law0_r16, w ∈ lw_tbl := fun w h => (goodIn_p wsL_law0_r16 [882, 886, 890, 543, 251] rfl (by decide +kernel) w h).1
set_option maxRecDepth 20000 in
theorem wL_r17 : ∀ w ∈ wsL_law0_r17, w ∈ lw_tbl := fun w h => (goodIn_p wsL_law0_r17 [255, 263, 894, 898, 902] rfl (by decide +kernel) w h).1
set_option maxRecDepth 20000 in
theorem wL_r18 : ∀ w ∈ wsL_law0_r18, w ∈ lw_tbl := fun w h => (goodIn_p wsL_law0_r18 [906, 550, 553, 558, 561] rfl (by decide +kernel) w h).1
set_option maxRecDepth 20000 in
theorem wL_r19 : ∀ w ∈ wsL_law0_r19, w ∈ lw_tbl := fun w h => (goodIn_p wsL_law0_r19 [565, 569, 573, 577, 581] rfl (by decide +kernel) w h).1
set_option maxRecDepth 20000 in
theorem wL_r20 : ∀ w ∈ wsL_law0_r20, w ∈ lw_tbl := fun w h => (goodIn_p wsL_law0_r20 [586, 590, 594, 598, 602] rfl (by decide +kernel) w h).1
