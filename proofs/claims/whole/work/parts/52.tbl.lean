set_option maxHeartbeats 4000000 in
set_option maxRecDepth 100000 in
theorem jt_36 : ∀ w ∈ (wsL_law0_r37), w ∈ lw_tbl := by decide +kernel
set_option maxHeartbeats 4000000 in
set_option maxRecDepth 100000 in
theorem jt_37 : ∀ w ∈ (wsL_law0_r38), w ∈ lw_tbl := by decide +kernel
set_option maxHeartbeats 4000000 in
set_option maxRecDepth 100000 in
theorem jt_38 : ∀ w ∈ (wsL_law0_r39), w ∈ lw_tbl := by decide +kernel
set_option maxHeartbeats 4000000 in
set_option maxRecDepth 100000 in
theorem jt_39 : ∀ w ∈ (wsL_law0_r40), w ∈ lw_tbl := by decide +kernel
set_option maxHeartbeats 4000000 in
set_option maxRecDepth 100000 in
theorem jt_40 : ∀ w ∈ (wsL_law0_r41), w ∈ lw_tbl := by decide +kernel
set_option maxHeartbeats 4000000 in
set_option maxRecDepth 100000 in
theorem jt_41 : ∀ w ∈ (wsL_law0_r42), w ∈ lw_tbl := by decide +kernel
set_option maxHeartbeats 4000000 in
set_option maxRecDepth 100000 in
theorem jt_42 : ∀ w ∈ (wsL_law0_r43), w ∈ lw_tbl := by decide +kernel
set_option maxHeartbeats 4000000 in
set_option maxRecDepth 100000 in
theorem jt_43 : ∀ w ∈ (wsL_law0_r44), w ∈ lw_tbl := by decide +kernel
set_option maxHeartbeats 4000000 in
set_option maxRecDepth 100000 in
theorem jt_44 : ∀ w ∈ (wsL_law0_r45), w ∈ lw_tbl := by decide +kernel
set_option maxHeartbeats 4000000 in
set_option maxRecDepth 100000 in
theorem jt_45 : ∀ w ∈ (wsL_law0_r46), w ∈ lw_tbl := by decide +kernel
set_option maxHeartbeats 4000000 in
set_option maxRecDepth 100000 in
theorem jt_46 : ∀ w ∈ (wsL_law0_r47), w ∈ lw_tbl := by decide +kernel
set_option maxHeartbeats 4000000 in
set_option maxRecDepth 100000 in
theorem jt_47 : ∀ w ∈ (wsL_law0_r48), w ∈ lw_tbl := by decide +kernel
set_option maxHeartbeats 4000000 in
set_option maxRecDepth 100000 in
theorem jt_48 : ∀ w ∈ (wsL_law0_r49), w ∈ lw_tbl := by decide +kernel
set_option maxHeartbeats 4000000 in
set_option maxRecDepth 100000 in
theorem jt_49 : ∀ w ∈ (wsL_law0_r50), w ∈ lw_tbl := by decide +kernel
set_option maxHeartbeats 4000000 in
set_option maxRecDepth 100000 in
theorem jt_50 : ∀ w ∈ (wsL_law0_r51), w ∈ lw_tbl := by decide +kernel
set_option maxHeartbeats 4000000 in
set_option maxRecDepth 100000 in
theorem jt_51 : ∀ w ∈ (wsL_law0_r52), w ∈ lw_tbl := by decide +kernel
set_option maxHeartbeats 4000000 in
set_option maxRecDepth 100000 in
theorem jt_52 : ∀ w ∈ (wsX80), w ∈ lw_tbl := by decide +kernel
set_option maxHeartbeats 4000000 in
set_option maxRecDepth 100000 in
theorem jt_53 : ∀ w ∈ (wsX90), w ∈ lw_tbl := by decide +kernel
