/-! the law's words are the tables' -/
theorem wi_r1 : ∀ w ∈ wsL_law_r1, w ∈ lw_tbl := by decide +kernel
theorem wi_r2 : ∀ w ∈ wsL_law_r2, w ∈ lw_tbl := by decide +kernel
theorem wi_r3 : ∀ w ∈ wsL_law_r3, w ∈ lw_tbl := by decide +kernel
theorem wi_r4 : ∀ w ∈ wsL_law_r4, w ∈ lw_tbl := by decide +kernel
theorem wi_r5 : ∀ w ∈ wsL_law_r5, w ∈ lw_tbl := by decide +kernel
theorem wi_r6 : ∀ w ∈ wsL_law_r6, w ∈ lw_tbl := by decide +kernel
theorem wi_r7 : ∀ w ∈ wsL_law_r7, w ∈ lw_tbl := by decide +kernel
theorem wi_r8 : ∀ w ∈ wsL_law_r8, w ∈ lw_tbl := by decide +kernel
