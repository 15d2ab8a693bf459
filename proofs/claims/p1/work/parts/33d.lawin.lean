set_option maxRecDepth 20000 in
theorem z_in_34 : ∀ w ∈ wsL_law_0_r34, w ∈ lw_tbl := by decide +kernel
set_option maxRecDepth 20000 in
theorem z_in_35 : ∀ w ∈ wsL_law_0_r35, w ∈ lw_tbl := by decide +kernel
set_option maxRecDepth 20000 in
theorem z_in_36 : ∀ w ∈ wsL_law_0_r36, w ∈ lw_tbl := by decide +kernel
set_option maxRecDepth 20000 in
theorem z_in_37 : ∀ w ∈ wsL_law_0_r37, w ∈ lw_tbl := by decide +kernel
set_option maxRecDepth 20000 in
theorem z_in_38 : ∀ w ∈ wsL_law_0_r38, w ∈ lw_tbl := by decide +kernel
set_option maxRecDepth 20000 in
theorem z_in_39 : ∀ w ∈ wsL_law_0_r39, w ∈ lw_tbl := by decide +kernel
set_option maxRecDepth 20000 in
theorem z_in_40 : ∀ w ∈ wsL_law_0_r40, w ∈ lw_tbl := by decide +kernel
set_option maxRecDepth 20000 in
theorem z_in_41 : ∀ w ∈ wsL_law_0_r41, w ∈ lw_tbl := by decide +kernel
set_option maxRecDepth 20000 in
theorem z_in_42 : ∀ w ∈ wsL_law_0_r42, w ∈ lw_tbl := by decide +kernel
set_option maxRecDepth 20000 in
theorem z_in_43 : ∀ w ∈ wsL_law_0_r43, w ∈ lw_tbl := by decide +kernel
set_option maxRecDepth 20000 in
theorem z_in_44 : ∀ w ∈ wsL_law_0_r44, w ∈ lw_tbl := by decide +kernel
