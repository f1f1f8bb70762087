set_option maxRecDepth 100000 in
theorem wl_16 : ∀ w ∈ wsL_law0_r16, w ∈ lw_tbl := by decide +kernel
set_option maxRecDepth 100000 in
theorem wl_17 : ∀ w ∈ wsL_law0_r17, w ∈ lw_tbl := by decide +kernel
set_option maxRecDepth 100000 in
theorem wl_18 : ∀ w ∈ wsL_law0_r18, w ∈ lw_tbl := by decide +kernel
set_option maxRecDepth 100000 in
theorem wl_19 : ∀ w ∈ wsL_law0_r19, w ∈ lw_tbl := by decide +kernel
set_option maxRecDepth 100000 in
theorem wl_20 : ∀ w ∈ wsL_law0_r20, w ∈ lw_tbl := by decide +kernel
