set_option maxHeartbeats 4000000 in
set_option maxRecDepth 100000 in
theorem jt_0 : ∀ w ∈ (wsL_law0_r1), w ∈ lw_tbl := by decide +kernel
set_option maxHeartbeats 4000000 in
set_option maxRecDepth 100000 in
theorem jt_1 : ∀ w ∈ (wsL_law0_r2), w ∈ lw_tbl := by decide +kernel
set_option maxHeartbeats 4000000 in
set_option maxRecDepth 100000 in
theorem jt_2 : ∀ w ∈ (wsL_law0_r3), w ∈ lw_tbl := by decide +kernel
set_option maxHeartbeats 4000000 in
set_option maxRecDepth 100000 in
theorem jt_3 : ∀ w ∈ (wsL_law0_r4), w ∈ lw_tbl := by decide +kernel
set_option maxHeartbeats 4000000 in
set_option maxRecDepth 100000 in
theorem jt_4 : ∀ w ∈ (wsL_law0_r5), w ∈ lw_tbl := by decide +kernel
set_option maxHeartbeats 4000000 in
set_option maxRecDepth 100000 in
theorem jt_5 : ∀ w ∈ (wsL_law0_r6), w ∈ lw_tbl := by decide +kernel
set_option maxHeartbeats 4000000 in
set_option maxRecDepth 100000 in
theorem jt_6 : ∀ w ∈ (wsL_law0_r7), w ∈ lw_tbl := by decide +kernel
set_option maxHeartbeats 4000000 in
set_option maxRecDepth 100000 in
theorem jt_7 : ∀ w ∈ (wsL_law0_r8), w ∈ lw_tbl := by decide +kernel
set_option maxHeartbeats 4000000 in
set_option maxRecDepth 100000 in
theorem jt_8 : ∀ w ∈ (wsL_law0_r9), w ∈ lw_tbl := by decide +kernel
set_option maxHeartbeats 4000000 in
set_option maxRecDepth 100000 in
theorem jt_9 : ∀ w ∈ (wsL_law0_r10), w ∈ lw_tbl := by decide +kernel
