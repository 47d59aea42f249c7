set_option maxRecDepth 100000 in
theorem wl_wsL_law_r1 : ∀ x ∈ wsL_law_r1, x ∈ lw_tbl := by decide +kernel
set_option maxRecDepth 100000 in
theorem wl_wsL_law_r2 : ∀ x ∈ wsL_law_r2, x ∈ lw_tbl := by decide +kernel
set_option maxRecDepth 100000 in
theorem wl_wsL_law_r3 : ∀ x ∈ wsL_law_r3, x ∈ lw_tbl := by decide +kernel
set_option maxRecDepth 100000 in
theorem wl_wsL_law_r4 : ∀ x ∈ wsL_law_r4, x ∈ lw_tbl := by decide +kernel
set_option maxRecDepth 100000 in
theorem wl_wsL_law_r5 : ∀ x ∈ wsL_law_r5, x ∈ lw_tbl := by decide +kernel
set_option maxRecDepth 100000 in
theorem wl_wsL_law_r6 : ∀ x ∈ wsL_law_r6, x ∈ lw_tbl := by decide +kernel
set_option maxRecDepth 100000 in
theorem wl_wsL_law_r7 : ∀ x ∈ wsL_law_r7, x ∈ lw_tbl := by decide +kernel
set_option maxRecDepth 100000 in
theorem wl_wsL_law_r8 : ∀ x ∈ wsL_law_r8, x ∈ lw_tbl := by decide +kernel
set_option maxRecDepth 100000 in
theorem wl_wsL_law_r9 : ∀ x ∈ wsL_law_r9, x ∈ lw_tbl := by decide +kernel
set_option maxRecDepth 100000 in
theorem wl_wsL_law_r10 : ∀ x ∈ wsL_law_r10, x ∈ lw_tbl := by decide +kernel
set_option maxRecDepth 100000 in
theorem wl_wsL_law_r11 : ∀ x ∈ wsL_law_r11, x ∈ lw_tbl := by decide +kernel
set_option maxRecDepth 100000 in
theorem wl_wsL_law_r12 : ∀ x ∈ wsL_law_r12, x ∈ lw_tbl := by decide +kernel
set_option maxRecDepth 100000 in
theorem wl_wsL_law_r13 : ∀ x ∈ wsL_law_r13, x ∈ lw_tbl := by decide +kernel
set_option maxRecDepth 100000 in
theorem wl_wsL_law_r14 : ∀ x ∈ wsL_law_r14, x ∈ lw_tbl := by decide +kernel
set_option maxRecDepth 100000 in
theorem wl_wsL_law_r15 : ∀ x ∈ wsL_law_r15, x ∈ lw_tbl := by decide +kernel
set_option maxRecDepth 100000 in
theorem wl_wsL_law_r16 : ∀ x ∈ wsL_law_r16, x ∈ lw_tbl := by decide +kernel
set_option maxRecDepth 100000 in
theorem wl_wsL_law_r17 : ∀ x ∈ wsL_law_r17, x ∈ lw_tbl := by decide +kernel
set_option maxRecDepth 100000 in
theorem wl_wsL_law_r18 : ∀ x ∈ wsL_law_r18, x ∈ lw_tbl := by decide +kernel
set_option maxRecDepth 100000 in
theorem wl_wsL_law_r19 : ∀ x ∈ wsL_law_r19, x ∈ lw_tbl := by decide +kernel
set_option maxRecDepth 100000 in
theorem wl_wsL_law_r20 : ∀ x ∈ wsL_law_r20, x ∈ lw_tbl := by decide +kernel
set_option maxRecDepth 100000 in
theorem wl_wsL_law_r21 : ∀ x ∈ wsL_law_r21, x ∈ lw_tbl := by decide +kernel
set_option maxRecDepth 100000 in
theorem wl_wsL_law_r22 : ∀ x ∈ wsL_law_r22, x ∈ lw_tbl := by decide +kernel
set_option maxRecDepth 100000 in
theorem wl_wsL_law_r23 : ∀ x ∈ wsL_law_r23, x ∈ lw_tbl := by decide +kernel
set_option maxRecDepth 100000 in
theorem wl_wsL_law_r24 : ∀ x ∈ wsL_law_r24, x ∈ lw_tbl := by decide +kernel
set_option maxRecDepth 100000 in
theorem wl_wsL_law_r25 : ∀ x ∈ wsL_law_r25, x ∈ lw_tbl := by decide +kernel
set_option maxRecDepth 100000 in
theorem wl_wsL_law_r26 : ∀ x ∈ wsL_law_r26, x ∈ lw_tbl := by decide +kernel
set_option maxRecDepth 100000 in
theorem wl_wsL_law_r27 : ∀ x ∈ wsL_law_r27, x ∈ lw_tbl := by decide +kernel
set_option maxRecDepth 100000 in
theorem wl_wsL_law_r28 : ∀ x ∈ wsL_law_r28, x ∈ lw_tbl := by decide +kernel
set_option maxRecDepth 100000 in
theorem wl_wsL_law_r29 : ∀ x ∈ wsL_law_r29, x ∈ lw_tbl := by decide +kernel
set_option maxRecDepth 100000 in
theorem wl_wsL_law_r30 : ∀ x ∈ wsL_law_r30, x ∈ lw_tbl := by decide +kernel
set_option maxRecDepth 100000 in
theorem wl_wsL_law_r31 : ∀ x ∈ wsL_law_r31, x ∈ lw_tbl := by decide +kernel
set_option maxRecDepth 100000 in
theorem wl_wsL_law_r32 : ∀ x ∈ wsL_law_r32, x ∈ lw_tbl := by decide +kernel
set_option maxRecDepth 100000 in
theorem wl_wsL_law_r33 : ∀ x ∈ wsL_law_r33, x ∈ lw_tbl := by decide +kernel
set_option maxRecDepth 100000 in
theorem wl_wsL_law_r34 : ∀ x ∈ wsL_law_r34, x ∈ lw_tbl := by decide +kernel
set_option maxRecDepth 100000 in
theorem wl_wsL_law_r35 : ∀ x ∈ wsL_law_r35, x ∈ lw_tbl := by decide +kernel
set_option maxRecDepth 100000 in
theorem wl_wsL_law_r36 : ∀ x ∈ wsL_law_r36, x ∈ lw_tbl := by decide +kernel
set_option maxRecDepth 100000 in
theorem wl_wsL_law_r37 : ∀ x ∈ wsL_law_r37, x ∈ lw_tbl := by decide +kernel
set_option maxRecDepth 100000 in
theorem wl_wsL_law_r38 : ∀ x ∈ wsL_law_r38, x ∈ lw_tbl := by decide +kernel
set_option maxRecDepth 100000 in
theorem wl_wsL_law_r39 : ∀ x ∈ wsL_law_r39, x ∈ lw_tbl := by decide +kernel
set_option maxRecDepth 100000 in
theorem wl_wsX90 : ∀ x ∈ wsX90, x ∈ lw_tbl := by decide +kernel
set_option maxRecDepth 100000 in
theorem wl_wsX100 : ∀ x ∈ wsX100, x ∈ lw_tbl := by decide +kernel
set_option maxRecDepth 100000 in
theorem wl_wsX40 : ∀ x ∈ wsX40, x ∈ lw_tbl := by decide +kernel
set_option maxRecDepth 100000 in
theorem wl_wsX80 : ∀ x ∈ wsX80, x ∈ lw_tbl := by decide +kernel
set_option maxRecDepth 100000 in
theorem wl_wsX30 : ∀ x ∈ wsX30, x ∈ lw_tbl := by decide +kernel
set_option maxRecDepth 100000 in
theorem wl_wsX60 : ∀ x ∈ wsX60, x ∈ lw_tbl := by decide +kernel
set_option maxRecDepth 100000 in
theorem wl_wsX10 : ∀ x ∈ wsX10, x ∈ lw_tbl := by decide +kernel
set_option maxRecDepth 100000 in
theorem wl_wsX00 : ∀ x ∈ wsX00, x ∈ lw_tbl := by decide +kernel
set_option maxRecDepth 100000 in
theorem wl_wsX20 : ∀ x ∈ wsX20, x ∈ lw_tbl := by decide +kernel
set_option maxRecDepth 100000 in
theorem wl_wsX50 : ∀ x ∈ wsX50, x ∈ lw_tbl := by decide +kernel
set_option maxRecDepth 100000 in
theorem wl_wsX70 : ∀ x ∈ wsX70, x ∈ lw_tbl := by decide +kernel
