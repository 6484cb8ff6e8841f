set_option maxHeartbeats 4000000 in
set_option maxRecDepth 100000 in
theorem jt_10 : ∀ w ∈ (wsL_law0_r11), w ∈ lw_tbl := by decide +kernel
set_option maxHeartbeats 4000000 in
set_option maxRecDepth 100000 in
theorem jt_11 : ∀ w ∈ (wsL_law0_r12), w ∈ lw_tbl := by decide +kernel
set_option maxHeartbeats 4000000 in
set_option maxRecDepth 100000 in
theorem jt_12 : ∀ w ∈ (wsL_law0_r13), w ∈ lw_tbl := by decide +kernel
set_option maxHeartbeats 4000000 in
set_option maxRecDepth 100000 in
theorem jt_13 : ∀ w ∈ (wsL_law0_r14), w ∈ lw_tbl := by decide +kernel
set_option maxHeartbeats 4000000 in
set_option maxRecDepth 100000 in
theorem jt_14 : ∀ w ∈ (wsL_law0_r15), w ∈ lw_tbl := by decide +kernel
set_option maxHeartbeats 4000000 in
set_option maxRecDepth 100000 in
theorem jt_15 : ∀ w ∈ (wsL_law0_r16), w ∈ lw_tbl := by decide +kernel
set_option maxHeartbeats 4000000 in
set_option maxRecDepth 100000 in
theorem jt_16 : ∀ w ∈ (wsL_law0_r17), w ∈ lw_tbl := by decide +kernel
set_option maxHeartbeats 4000000 in
set_option maxRecDepth 100000 in
theorem jt_17 : ∀ w ∈ (wsL_law0_r18), w ∈ lw_tbl := by decide +kernel
set_option maxHeartbeats 4000000 in
set_option maxRecDepth 100000 in
theorem jt_18 : ∀ w ∈ (wsL_law0_r19), w ∈ lw_tbl := by decide +kernel
set_option maxHeartbeats 4000000 in
set_option maxRecDepth 100000 in
theorem jt_19 : ∀ w ∈ (wsL_law0_r20), w ∈ lw_tbl := by decide +kernel
