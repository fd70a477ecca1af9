theorem mem_p {big : List Cond} (ws : List Cond) (ps : List Nat) (hp : ws.filter k2_isCode = ps.filterMap (fun i => big[i]?)) (h : (ws.filter (fun w => !k2_isCode w)).all (fun w => decide (w ∈ big)) = true) : ∀ w ∈ ws, w ∈ big := by
  intro w hw
  by_cases hc : k2_isCode w = true
  · have h1 : w ∈ ws.filter k2_isCode := List.mem_filter.mpr ⟨hw, hc⟩
    rw [hp] at h1
    obtain ⟨i, -, hi⟩ := List.mem_filterMap.mp h1
    exact List.mem_of_getElem? hi
  · have h1 : w ∈ ws.filter (fun w => !k2_isCode w) := List.mem_filter.mpr ⟨hw, by simp [hc]⟩
    exact of_decide_eq_true (List.all_eq_true.mp h w h1)
set_option maxRecDepth 20000 in
theorem lwr_1 : ∀ w ∈ wsL_law0_r1, w ∈ lw_tbl := mem_p _ [40, 43] (by decide +kernel) (by decide +kernel)
set_option maxRecDepth 20000 in
theorem lwr_2 : ∀ w ∈ wsL_law0_r2, w ∈ lw_tbl := mem_p _ [48, 71, 93] (by decide +kernel) (by decide +kernel)
set_option maxRecDepth 20000 in
theorem lwr_3 : ∀ w ∈ wsL_law0_r3, w ∈ lw_tbl := mem_p _ [123, 266, 271] (by decide +kernel) (by decide +kernel)
set_option maxRecDepth 20000 in
theorem lwr_4 : ∀ w ∈ wsL_law0_r4, w ∈ lw_tbl := mem_p _ [476, 480, 167, 171, 483, 488] (by decide +kernel) (by decide +kernel)
set_option maxRecDepth 20000 in
theorem lwr_5 : ∀ w ∈ wsL_law0_r5, w ∈ lw_tbl := mem_p _ [492, 360, 364, 372, 376, 380, 384, 458] (by decide +kernel) (by decide +kernel)
set_option maxRecDepth 20000 in
theorem lwr_6 : ∀ w ∈ wsL_law0_r6, w ∈ lw_tbl := mem_p _ [323, 327, 347, 352, 356, 368] (by decide +kernel) (by decide +kernel)
set_option maxRecDepth 20000 in
theorem lwr_7 : ∀ w ∈ wsL_law0_r7, w ∈ lw_tbl := mem_p _ [388, 392, 397, 247, 402] (by decide +kernel) (by decide +kernel)
set_option maxRecDepth 20000 in
theorem lwr_8 : ∀ w ∈ wsL_law0_r8, w ∈ lw_tbl := mem_p _ [409, 406, 311, 315, 461, 465] (by decide +kernel) (by decide +kernel)
set_option maxRecDepth 20000 in
theorem lwr_9 : ∀ w ∈ wsL_law0_r9, w ∈ lw_tbl := mem_p _ [469, 473, 164, 243, 275, 278, 281] (by decide +kernel) (by decide +kernel)
set_option maxRecDepth 20000 in
theorem lwr_10 : ∀ w ∈ wsL_law0_r10, w ∈ lw_tbl := mem_p _ [284, 287, 291, 295, 299, 303] (by decide +kernel) (by decide +kernel)
set_option maxRecDepth 20000 in
theorem lwr_11 : ∀ w ∈ wsL_law0_r11, w ∈ lw_tbl := mem_p _ [307, 412, 415, 419, 423, 427, 430] (by decide +kernel) (by decide +kernel)
set_option maxRecDepth 20000 in
theorem lwr_12 : ∀ w ∈ wsL_law0_r12, w ∈ lw_tbl := mem_p _ [436, 439, 443, 447, 451, 455] (by decide +kernel) (by decide +kernel)
theorem lwr_X4 : ∀ w ∈ wsX40, w ∈ lw_tbl := by decide +kernel
theorem lwr_X0 : ∀ w ∈ wsX00, w ∈ lw_tbl := by decide +kernel
theorem lwr_X3 : ∀ w ∈ wsX30, w ∈ lw_tbl := by decide +kernel
theorem lwr_X2 : ∀ w ∈ wsX20, w ∈ lw_tbl := by decide +kernel
theorem lwr_X1 : ∀ w ∈ wsX10, w ∈ lw_tbl := by decide +kernel
theorem mem_ap {a b big : List Cond} (h1 : ∀ w ∈ a, w ∈ big) (h2 : ∀ w ∈ b, w ∈ big) : ∀ w ∈ a ++ b, w ∈ big := fun w h => (List.mem_append.mp h).elim (h1 w) (h2 w)
theorem wsL_law_in0 : ∀ w ∈ wsL_law0, w ∈ lw_tbl := mem_ap (mem_ap (mem_ap (mem_ap (mem_ap (mem_ap (mem_ap lwr_1 (mem_ap lwr_2 (mem_ap lwr_3 (mem_ap lwr_4 (mem_ap lwr_5 (mem_ap lwr_6 (mem_ap lwr_7 (mem_ap lwr_8 (mem_ap lwr_9 (mem_ap lwr_10 (mem_ap lwr_11 lwr_12))))))))))) lwr_X4) lwr_X0) lwr_X3) lwr_X2) lwr_X1) (fun _ h => nomatch h)
theorem wsL_law_x0 : ∀ w ∈ (vx_atS RX4 61 "java/lang/IllegalStateException" ["java/lang/RuntimeException", "java/lang/Exception"]).filter goodWord, w ∈ lw_tbl := by decide +kernel
theorem wsL_law_x1 : ∀ w ∈ (vx_atS RX4 161 "java/lang/IllegalArgumentException" ["java/lang/RuntimeException", "java/lang/Exception"]).filter goodWord, w ∈ lw_tbl := by decide +kernel
theorem wsL_law_x2 : ∀ w ∈ (vx_atS RX4 166 "java/lang/IndexOutOfBoundsException" ["java/lang/RuntimeException", "java/lang/Exception"]).filter goodWord, w ∈ lw_tbl := by decide +kernel
theorem wsL_law_in : ∀ w ∈ wsL_law, w ∈ lw_tbl := fun w h => (List.mem_append.mp h).elim (fun h => (List.mem_append.mp h).elim (fun h => (List.mem_append.mp h).elim (fun h => wsL_law_in0 w h) (fun h => wsL_law_x0 w h)) (fun h => wsL_law_x1 w h)) (fun h => wsL_law_x2 w h)
