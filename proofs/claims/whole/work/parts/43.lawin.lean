theorem mem_p {big : List Cond} (ws : List Cond) (ps : List Nat) (hp : ws.filter k2_isCode = ps.filterMap (fun i => big[i]?)) (h : (ws.filter (fun w => !k2_isCode w)).all (fun w => decide (w ∈ big)) = true) : ∀ w ∈ ws, w ∈ big := by
  intro w hw
  by_cases hc : k2_isCode w = true
  · have h1 : w ∈ ws.filter k2_isCode := List.mem_filter.mpr ⟨hw, hc⟩
    rw [hp] at h1
    obtain ⟨i, -, hi⟩ := List.mem_filterMap.mp h1
    exact List.mem_of_getElem? hi
  · have h1 : w ∈ ws.filter (fun w => !k2_isCode w) := List.mem_filter.mpr ⟨hw, by simp [hc]⟩
    exact of_decide_eq_true (List.all_eq_true.mp h w h1)
theorem lwr_1 : ∀ w ∈ wsL_law0_r1, w ∈ lw_tbl := mem_p _ [51, 54] (by decide +kernel) (by decide +kernel)
theorem lwr_2 : ∀ w ∈ wsL_law0_r2, w ∈ lw_tbl := mem_p _ [59, 82] (by decide +kernel) (by decide +kernel)
theorem lwr_3 : ∀ w ∈ wsL_law0_r3, w ∈ lw_tbl := mem_p _ [104, 134, 515] (by decide +kernel) (by decide +kernel)
theorem lwr_4 : ∀ w ∈ wsL_law0_r4, w ∈ lw_tbl := mem_p _ [192] (by decide +kernel) (by decide +kernel)
theorem lwr_5 : ∀ w ∈ wsL_law0_r5, w ∈ lw_tbl := mem_p _ [195, 198, 270, 290, 295, 299, 303] (by decide +kernel) (by decide +kernel)
theorem lwr_6 : ∀ w ∈ wsL_law0_r6, w ∈ lw_tbl := mem_p _ [307, 311, 315, 319, 323, 327] (by decide +kernel) (by decide +kernel)
theorem lwr_7 : ∀ w ∈ wsL_law0_r7, w ∈ lw_tbl := mem_p _ [579, 582, 585, 588, 591, 595, 575] (by decide +kernel) (by decide +kernel)
theorem lwr_8 : ∀ w ∈ wsL_law0_r8, w ∈ lw_tbl := mem_p _ [334, 599, 341, 345, 603] (by decide +kernel) (by decide +kernel)
theorem lwr_9 : ∀ w ∈ wsL_law0_r9, w ∈ lw_tbl := mem_p _ [607, 353, 611, 360, 363] (by decide +kernel) (by decide +kernel)
theorem lwr_10 : ∀ w ∈ wsL_law0_r10, w ∈ lw_tbl := mem_p _ [368, 372, 615, 618, 175, 622] (by decide +kernel) (by decide +kernel)
theorem lwr_11 : ∀ w ∈ wsL_law0_r11, w ∈ lw_tbl := mem_p _ [382, 386, 626, 630, 634] (by decide +kernel) (by decide +kernel)
theorem lwr_12 : ∀ w ∈ wsL_law0_r12, w ∈ lw_tbl := mem_p _ [409, 638, 642, 646] (by decide +kernel) (by decide +kernel)
theorem lwr_13 : ∀ w ∈ wsL_law0_r13, w ∈ lw_tbl := mem_p _ [416, 650, 654, 658, 179, 183] (by decide +kernel) (by decide +kernel)
theorem lwr_14 : ∀ w ∈ wsL_law0_r14, w ∈ lw_tbl := mem_p _ [662, 423, 427, 431, 666] (by decide +kernel) (by decide +kernel)
theorem lwr_15 : ∀ w ∈ wsL_law0_r15, w ∈ lw_tbl := mem_p _ [438, 670, 446, 675] (by decide +kernel) (by decide +kernel)
theorem lwr_16 : ∀ w ∈ wsL_law0_r16, w ∈ lw_tbl := mem_p _ [453, 457, 679, 683, 464] (by decide +kernel) (by decide +kernel)
theorem lwr_17 : ∀ w ∈ wsL_law0_r17, w ∈ lw_tbl := mem_p _ [468, 471, 687, 691, 481] (by decide +kernel) (by decide +kernel)
theorem lwr_18 : ∀ w ∈ wsL_law0_r18, w ∈ lw_tbl := mem_p _ [695, 488, 699, 495] (by decide +kernel) (by decide +kernel)
theorem lwr_19 : ∀ w ∈ wsL_law0_r19, w ∈ lw_tbl := mem_p _ [703, 502, 507, 510, 707] (by decide +kernel) (by decide +kernel)
theorem lwr_X4 : ∀ w ∈ wsX40, w ∈ lw_tbl := by decide +kernel
theorem lwr_X5 : ∀ w ∈ wsX50, w ∈ lw_tbl := by decide +kernel
theorem lwr_X0 : ∀ w ∈ wsX00, w ∈ lw_tbl := by decide +kernel
theorem lwr_X3 : ∀ w ∈ wsX30, w ∈ lw_tbl := by decide +kernel
theorem lwr_X2 : ∀ w ∈ wsX20, w ∈ lw_tbl := by decide +kernel
theorem lwr_X1 : ∀ w ∈ wsX10, w ∈ lw_tbl := by decide +kernel
theorem mem_ap {a b big : List Cond} (h1 : ∀ w ∈ a, w ∈ big) (h2 : ∀ w ∈ b, w ∈ big) : ∀ w ∈ a ++ b, w ∈ big := fun w h => (List.mem_append.mp h).elim (h1 w) (h2 w)
theorem wsL_law_in0 : ∀ w ∈ wsL_law0, w ∈ lw_tbl := (mem_ap (mem_ap (mem_ap (mem_ap (mem_ap (mem_ap (mem_ap (mem_ap lwr_1 (mem_ap lwr_2 (mem_ap lwr_3 (mem_ap lwr_4 (mem_ap lwr_5 (mem_ap lwr_6 (mem_ap lwr_7 (mem_ap lwr_8 (mem_ap lwr_9 (mem_ap lwr_10 (mem_ap lwr_11 (mem_ap lwr_12 (mem_ap lwr_13 (mem_ap lwr_14 (mem_ap lwr_15 (mem_ap lwr_16 (mem_ap lwr_17 (mem_ap lwr_18 lwr_19)))))))))))))))))) lwr_X4) lwr_X5) lwr_X0) lwr_X3) lwr_X2) lwr_X1) (fun w h => absurd h List.not_mem_nil))
theorem wsL_law_x0 : ∀ w ∈ (vx_atS RX4 61 "java/lang/IllegalStateException" ["java/lang/RuntimeException", "java/lang/Exception"]).filter goodWord, w ∈ lw_tbl := by decide +kernel
theorem wsL_law_x1 : ∀ w ∈ (vx_atS RX4 161 "java/lang/IllegalArgumentException" ["java/lang/RuntimeException", "java/lang/Exception"]).filter goodWord, w ∈ lw_tbl := by decide +kernel
theorem wsL_law_x2 : ∀ w ∈ (vx_atS RX4 166 "java/lang/IndexOutOfBoundsException" ["java/lang/RuntimeException", "java/lang/Exception"]).filter goodWord, w ∈ lw_tbl := by decide +kernel
theorem wsL_law_in : ∀ w ∈ wsL_law, w ∈ lw_tbl := fun w h => (List.mem_append.mp h).elim (fun h => (List.mem_append.mp h).elim (fun h => (List.mem_append.mp h).elim (fun h => wsL_law_in0 w h) (fun h => wsL_law_x0 w h)) (fun h => wsL_law_x1 w h)) (fun h => wsL_law_x2 w h)
