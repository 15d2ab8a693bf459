set_option maxRecDepth 20000 in
theorem z_in_1 : ∀ w ∈ wsL_law_0_r1, w ∈ lw_tbl := by decide +kernel
set_option maxRecDepth 20000 in
theorem z_in_2 : ∀ w ∈ wsL_law_0_r2, w ∈ lw_tbl := by decide +kernel
set_option maxRecDepth 20000 in
theorem z_in_3 : ∀ w ∈ wsL_law_0_r3, w ∈ lw_tbl := by decide +kernel
set_option maxRecDepth 20000 in
theorem z_in_4 : ∀ w ∈ wsL_law_0_r4, w ∈ lw_tbl := by decide +kernel
set_option maxRecDepth 20000 in
theorem z_in_5 : ∀ w ∈ wsL_law_0_r5, w ∈ lw_tbl := by decide +kernel
set_option maxRecDepth 20000 in
theorem z_in_6 : ∀ w ∈ wsL_law_0_r6, w ∈ lw_tbl := by decide +kernel
set_option maxRecDepth 20000 in
theorem z_in_7 : ∀ w ∈ wsL_law_0_r7, w ∈ lw_tbl := by decide +kernel
set_option maxRecDepth 20000 in
theorem z_in_8 : ∀ w ∈ wsL_law_0_r8, w ∈ lw_tbl := by decide +kernel
set_option maxRecDepth 20000 in
theorem z_in_9 : ∀ w ∈ wsL_law_0_r9, w ∈ lw_tbl := by decide +kernel
set_option maxRecDepth 20000 in
theorem z_in_10 : ∀ w ∈ wsL_law_0_r10, w ∈ lw_tbl := by decide +kernel
set_option maxRecDepth 20000 in
theorem z_in_11 : ∀ w ∈ wsL_law_0_r11, w ∈ lw_tbl := by decide +kernel
