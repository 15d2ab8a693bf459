set_option maxRecDepth 20000 in
theorem z_in_45 : ∀ w ∈ wsL_law_0_r45, w ∈ lw_tbl := by decide +kernel
set_option maxRecDepth 20000 in
theorem z_in_46 : ∀ w ∈ wsL_law_0_r46, w ∈ lw_tbl := by decide +kernel
set_option maxRecDepth 20000 in
theorem z_in_47 : ∀ w ∈ wsL_law_0_r47, w ∈ lw_tbl := by decide +kernel
set_option maxRecDepth 20000 in
theorem z_in_48 : ∀ w ∈ wsL_law_0_r48, w ∈ lw_tbl := by decide +kernel
set_option maxRecDepth 20000 in
theorem z_in_49 : ∀ w ∈ wsL_law_0_r49, w ∈ lw_tbl := by decide +kernel
set_option maxRecDepth 20000 in
theorem z_in_50 : ∀ w ∈ wsL_law_0_r50, w ∈ lw_tbl := by decide +kernel
set_option maxRecDepth 20000 in
theorem z_in_51 : ∀ w ∈ wsL_law_0_r51, w ∈ lw_tbl := by decide +kernel
set_option maxRecDepth 20000 in
theorem z_in_52 : ∀ w ∈ wsL_law_0_r52, w ∈ lw_tbl := by decide +kernel
set_option maxRecDepth 20000 in
theorem z_in_53 : ∀ w ∈ wsL_law_0_r53, w ∈ lw_tbl := by decide +kernel
set_option maxRecDepth 20000 in
theorem z_in_54 : ∀ w ∈ wsL_law_0_r54, w ∈ lw_tbl := by decide +kernel
set_option maxRecDepth 20000 in
theorem z_in_55 : ∀ w ∈ wsL_law_0_r55, w ∈ lw_tbl := by decide +kernel
