set_option maxHeartbeats 4000000 in
set_option maxRecDepth 100000 in
theorem jt_20 : ∀ w ∈ (wsL_law0_r21), w ∈ lw_tbl := by decide +kernel
set_option maxHeartbeats 4000000 in
set_option maxRecDepth 100000 in
theorem jt_21 : ∀ w ∈ (wsL_law0_r22), w ∈ lw_tbl := by decide +kernel
set_option maxHeartbeats 4000000 in
set_option maxRecDepth 100000 in
theorem jt_22 : ∀ w ∈ (wsX80), w ∈ lw_tbl := by decide +kernel
set_option maxHeartbeats 4000000 in
set_option maxRecDepth 100000 in
theorem jt_23 : ∀ w ∈ (wsX60), w ∈ lw_tbl := by decide +kernel
set_option maxHeartbeats 4000000 in
set_option maxRecDepth 100000 in
theorem jt_24 : ∀ w ∈ (wsX00), w ∈ lw_tbl := by decide +kernel
set_option maxHeartbeats 4000000 in
set_option maxRecDepth 100000 in
theorem jt_25 : ∀ w ∈ (wsX10), w ∈ lw_tbl := by decide +kernel
set_option maxHeartbeats 4000000 in
set_option maxRecDepth 100000 in
theorem jt_26 : ∀ w ∈ (wsX50), w ∈ lw_tbl := by decide +kernel
set_option maxHeartbeats 4000000 in
set_option maxRecDepth 100000 in
theorem jt_27 : ∀ w ∈ (wsX30), w ∈ lw_tbl := by decide +kernel
set_option maxHeartbeats 4000000 in
set_option maxRecDepth 100000 in
theorem jt_28 : ∀ w ∈ (wsX20), w ∈ lw_tbl := by decide +kernel
set_option maxHeartbeats 4000000 in
set_option maxRecDepth 100000 in
theorem jt_29 : ∀ w ∈ (wsX70), w ∈ lw_tbl := by decide +kernel
