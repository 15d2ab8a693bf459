set_option maxRecDepth 20000 in
theorem z_in_12 : ∀ w ∈ wsL_law_0_r12, w ∈ lw_tbl := by decide +kernel
set_option maxRecDepth 20000 in
theorem z_in_13 : ∀ w ∈ wsL_law_0_r13, w ∈ lw_tbl := by decide +kernel
set_option maxRecDepth 20000 in
theorem z_in_14 : ∀ w ∈ wsL_law_0_r14, w ∈ lw_tbl := by decide +kernel
set_option maxRecDepth 20000 in
theorem z_in_15 : ∀ w ∈ wsL_law_0_r15, w ∈ lw_tbl := by decide +kernel
set_option maxRecDepth 20000 in
theorem z_in_16 : ∀ w ∈ wsL_law_0_r16, w ∈ lw_tbl := by decide +kernel
set_option maxRecDepth 20000 in
theorem z_in_17 : ∀ w ∈ wsL_law_0_r17, w ∈ lw_tbl := by decide +kernel
set_option maxRecDepth 20000 in
theorem z_in_18 : ∀ w ∈ wsL_law_0_r18, w ∈ lw_tbl := by decide +kernel
set_option maxRecDepth 20000 in
theorem z_in_19 : ∀ w ∈ wsL_law_0_r19, w ∈ lw_tbl := by decide +kernel
set_option maxRecDepth 20000 in
theorem z_in_20 : ∀ w ∈ wsL_law_0_r20, w ∈ lw_tbl := by decide +kernel
set_option maxRecDepth 20000 in
theorem z_in_21 : ∀ w ∈ wsL_law_0_r21, w ∈ lw_tbl := by decide +kernel
set_option maxRecDepth 20000 in
theorem z_in_22 : ∀ w ∈ wsL_law_0_r22, w ∈ lw_tbl := by decide +kernel
