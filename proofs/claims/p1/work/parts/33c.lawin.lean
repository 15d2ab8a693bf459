set_option maxRecDepth 20000 in
theorem z_in_23 : ∀ w ∈ wsL_law_0_r23, w ∈ lw_tbl := by decide +kernel
set_option maxRecDepth 20000 in
theorem z_in_24 : ∀ w ∈ wsL_law_0_r24, w ∈ lw_tbl := by decide +kernel
set_option maxRecDepth 20000 in
theorem z_in_25 : ∀ w ∈ wsL_law_0_r25, w ∈ lw_tbl := by decide +kernel
set_option maxRecDepth 20000 in
theorem z_in_26 : ∀ w ∈ wsL_law_0_r26, w ∈ lw_tbl := by decide +kernel
set_option maxRecDepth 20000 in
theorem z_in_27 : ∀ w ∈ wsL_law_0_r27, w ∈ lw_tbl := by decide +kernel
set_option maxRecDepth 20000 in
theorem z_in_28 : ∀ w ∈ wsL_law_0_r28, w ∈ lw_tbl := by decide +kernel
set_option maxRecDepth 20000 in
theorem z_in_29 : ∀ w ∈ wsL_law_0_r29, w ∈ lw_tbl := by decide +kernel
set_option maxRecDepth 20000 in
theorem z_in_30 : ∀ w ∈ wsL_law_0_r30, w ∈ lw_tbl := by decide +kernel
set_option maxRecDepth 20000 in
theorem z_in_31 : ∀ w ∈ wsL_law_0_r31, w ∈ lw_tbl := by decide +kernel
set_option maxRecDepth 20000 in
theorem z_in_32 : ∀ w ∈ wsL_law_0_r32, w ∈ lw_tbl := by decide +kernel
set_option maxRecDepth 20000 in
theorem z_in_33 : ∀ w ∈ wsL_law_0_r33, w ∈ lw_tbl := by decide +kernel
