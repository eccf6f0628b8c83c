set_option maxHeartbeats 8000000 in
set_option maxRecDepth 200000 in
theorem wsL_law_in0_6 : ∀ w ∈ wsL_law0_r6, w ∈ lw_tbl := fun w h => (goodIn_p wsL_law0_r6 [284, 288, 292, 295, 299, 303, 535] rfl (by decide +kernel) w h).1
