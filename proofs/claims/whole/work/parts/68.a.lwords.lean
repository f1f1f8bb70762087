set_option maxRecDepth 100000 in
theorem wl_1 : ∀ w ∈ wsL_law0_r1, w ∈ lw_tbl := by decide +kernel
set_option maxRecDepth 100000 in
theorem wl_2 : ∀ w ∈ wsL_law0_r2, w ∈ lw_tbl := by decide +kernel
set_option maxRecDepth 100000 in
theorem wl_3 : ∀ w ∈ wsL_law0_r3, w ∈ lw_tbl := by decide +kernel
set_option maxRecDepth 100000 in
theorem wl_4 : ∀ w ∈ wsL_law0_r4, w ∈ lw_tbl := by decide +kernel
set_option maxRecDepth 100000 in
theorem wl_5 : ∀ w ∈ wsL_law0_r5, w ∈ lw_tbl := by decide +kernel
