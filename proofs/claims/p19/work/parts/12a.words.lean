set_option maxRecDepth 20000 in
theorem wL_r1 : ∀ w ∈ wsL_law0_r1, w ∈ lw_tbl := fun w h => (goodIn_p wsL_law0_r1 [421, 425, 70, 430] rfl (by decide +kernel) w h).1
set_option maxRecDepth 20000 in
theorem wL_r2 : ∀ w ∈ wsL_law0_r2, w ∈ lw_tbl := fun w h => (goodIn_p wsL_law0_r2 [441, 475, 504, 417] rfl (by decide +kernel) w h).1
set_option maxRecDepth 20000 in
theorem wL_r3 : ∀ w ∈ wsL_law0_r3, w ∈ lw_tbl := fun w h => (goodIn_p wsL_law0_r3 [413, 163, 166, 169, 115] rfl (by decide +kernel) w h).1
set_option maxRecDepth 20000 in
theorem wL_r4 : ∀ w ∈ wsL_law0_r4, w ∈ lw_tbl := fun w h => (goodIn_p wsL_law0_r4 [608, 613, 618, 622] rfl (by decide +kernel) w h).1
set_option maxRecDepth 20000 in
theorem wL_r5 : ∀ w ∈ wsL_law0_r5, w ∈ lw_tbl := fun w h => (goodIn_p wsL_law0_r5 [33, 38, 42, 151, 155] rfl (by decide +kernel) w h).1
set_option maxRecDepth 20000 in
theorem wL_r6 : ∀ w ∈ wsL_law0_r6, w ∈ lw_tbl := fun w h => (goodIn_p wsL_law0_r6 [159, 626, 633, 637] rfl (by decide +kernel) w h).1
set_option maxRecDepth 20000 in
theorem wL_r7 : ∀ w ∈ wsL_law0_r7, w ∈ lw_tbl := fun w h => (goodIn_p wsL_law0_r7 [640, 339, 645, 244] rfl (by decide +kernel) w h).1
set_option maxRecDepth 20000 in
theorem wL_r8 : ∀ w ∈ wsL_law0_r8, w ∈ lw_tbl := fun w h => (goodIn_p wsL_law0_r8 [183, 248, 252, 202, 256] rfl (by decide +kernel) w h).1
set_option maxRecDepth 20000 in
theorem wL_r9 : ∀ w ∈ wsL_law0_r9, w ∈ lw_tbl := fun w h => (goodIn_p wsL_law0_r9 [175, 408, 188, 194] rfl (by decide +kernel) w h).1
set_option maxRecDepth 20000 in
theorem wL_r10 : ∀ w ∈ wsL_law0_r10, w ∈ lw_tbl := fun w h => (goodIn_p wsL_law0_r10 [198, 206, 223, 240] rfl (by decide +kernel) w h).1
set_option maxRecDepth 20000 in
theorem wL_r11 : ∀ w ∈ wsL_law0_r11, w ∈ lw_tbl := fun w h => (goodIn_p wsL_law0_r11 [361, 263, 365, 372] rfl (by decide +kernel) w h).1
set_option maxRecDepth 20000 in
theorem wL_r12 : ∀ w ∈ wsL_law0_r12, w ∈ lw_tbl := fun w h => (goodIn_p wsL_law0_r12 [376, 380, 268, 271, 275] rfl (by decide +kernel) w h).1
set_option maxRecDepth 20000 in
theorem wL_r13 : ∀ w ∈ wsL_law0_r13, w ∈ lw_tbl := fun w h => (goodIn_p wsL_law0_r13 [279, 283, 287, 291, 218] rfl (by decide +kernel) w h).1
set_option maxRecDepth 20000 in
theorem wL_r14 : ∀ w ∈ wsL_law0_r14, w ∈ lw_tbl := fun w h => (goodIn_p wsL_law0_r14 [296, 300, 304, 308, 312, 316] rfl (by decide +kernel) w h).1
set_option maxRecDepth 20000 in
theorem wL_r15 : ∀ w ∈ wsL_law0_r15, w ∈ lw_tbl := fun w h => (goodIn_p wsL_law0_r15 [320, 324, 329, 332, 336] rfl (by decide +kernel) w h).1
set_option maxRecDepth 20000 in
theorem wL_r16 : ∀ w ∈ wsL_law0_r16, w ∈ lw_tbl := fun w h => (goodIn_p wsL_law0_r16 [343, 347, 351, 355, 386] rfl (by decide +kernel) w h).1
set_option maxRecDepth 20000 in
theorem wL_r17 : ∀ w ∈ wsL_law0_r17, w ∈ lw_tbl := fun w h => (goodIn_p wsL_law0_r17 [390, 395, 399, 214, 260] rfl (by decide +kernel) w h).1
set_option maxRecDepth 20000 in
theorem wL_r18 : ∀ w ∈ wsL_law0_r18, w ∈ lw_tbl := fun w h => (goodIn_p wsL_law0_r18 [210, 227, 231, 235, 180, 404] rfl (by decide +kernel) w h).1
set_option maxRecDepth 20000 in
theorem wL_X4 : ∀ w ∈ wsX40, w ∈ lw_tbl := by decide +kernel
set_option maxRecDepth 20000 in
theorem wL_X1 : ∀ w ∈ wsX10, w ∈ lw_tbl := by decide +kernel
set_option maxRecDepth 20000 in
theorem wL_X2 : ∀ w ∈ wsX20, w ∈ lw_tbl := by decide +kernel
set_option maxRecDepth 20000 in
theorem wL_X3 : ∀ w ∈ wsX30, w ∈ lw_tbl := by decide +kernel
set_option maxRecDepth 20000 in
theorem wL_X0 : ∀ w ∈ wsX00, w ∈ lw_tbl := by decide +kernel
theorem wsL_law_in0 : ∀ w ∈ wsL_law0, w ∈ lw_tbl := List.forall_mem_append.mpr ⟨(List.forall_mem_append.mpr ⟨(List.forall_mem_append.mpr ⟨(List.forall_mem_append.mpr ⟨(List.forall_mem_append.mpr ⟨(List.forall_mem_append.mpr ⟨(List.forall_mem_append.mpr ⟨wL_r1, (List.forall_mem_append.mpr ⟨wL_r2, (List.forall_mem_append.mpr ⟨wL_r3, (List.forall_mem_append.mpr ⟨wL_r4, (List.forall_mem_append.mpr ⟨wL_r5, (List.forall_mem_append.mpr ⟨wL_r6, (List.forall_mem_append.mpr ⟨wL_r7, (List.forall_mem_append.mpr ⟨wL_r8, (List.forall_mem_append.mpr ⟨wL_r9, (List.forall_mem_append.mpr ⟨wL_r10, (List.forall_mem_append.mpr ⟨wL_r11, (List.forall_mem_append.mpr ⟨wL_r12, (List.forall_mem_append.mpr ⟨wL_r13, (List.forall_mem_append.mpr ⟨wL_r14, (List.forall_mem_append.mpr ⟨wL_r15, (List.forall_mem_append.mpr ⟨wL_r16, (List.forall_mem_append.mpr ⟨wL_r17, wL_r18⟩)⟩)⟩)⟩)⟩)⟩)⟩)⟩)⟩)⟩)⟩)⟩)⟩)⟩)⟩)⟩)⟩), wL_X4⟩), wL_X1⟩), wL_X2⟩), wL_X3⟩), wL_X0⟩), fun _ h => absurd h List.not_mem_nil⟩
theorem wsL_law_x0 : ∀ w ∈ (vx_atS RX4 27 "java/lang/IllegalArgumentException" ["java/lang/RuntimeException", "java/lang/Exception"]).filter goodWord, w ∈ lw_tbl := by decide +kernel
theorem wsL_law_x1 : ∀ w ∈ (vx_atS RX4 183 "java/lang/IndexOutOfBoundsException" ["java/lang/RuntimeException", "java/lang/Exception"]).filter goodWord, w ∈ lw_tbl := by decide +kernel
theorem wsL_law_x2 : ∀ w ∈ (vx_atS RX4 42 "java/lang/IllegalStateException" ["java/lang/RuntimeException", "java/lang/Exception"]).filter goodWord, w ∈ lw_tbl := by decide +kernel
theorem wsL_law_in : ∀ w ∈ wsL_law, w ∈ lw_tbl := fun w h => (List.mem_append.mp h).elim (fun h => (List.mem_append.mp h).elim (fun h => (List.mem_append.mp h).elim (fun h => wsL_law_in0 w h) (fun h => wsL_law_x0 w h)) (fun h => wsL_law_x1 w h)) (fun h => wsL_law_x2 w h)
