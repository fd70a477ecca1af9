theorem goodIn_cons {big a : List Cond} {c : Cond} (h : GoodIn big [c]) (ha : GoodIn big a) : GoodIn big (c :: a) := fun w hw => (List.mem_cons.mp hw).elim (fun e => h w (by rw [e]; exact List.mem_singleton.mpr rfl)) (fun h2 => ha w h2)
theorem inlX0 : ∀ w ∈ wsX00, w ∈ wsL_law := fun _ h => List.mem_append_left _ (List.mem_append_left _ (List.mem_append_left _ (List.mem_append_left _ (List.mem_append_left _ (List.mem_append_left _ (List.mem_append_left _ (List.mem_append_right _ h)))))))
theorem inlX1 : ∀ w ∈ wsX10, w ∈ wsL_law := fun _ h => List.mem_append_left _ (List.mem_append_left _ (List.mem_append_left _ (List.mem_append_left _ (List.mem_append_right _ h))))
theorem inlX2 : ∀ w ∈ wsX20, w ∈ wsL_law := fun _ h => List.mem_append_left _ (List.mem_append_left _ (List.mem_append_left _ (List.mem_append_left _ (List.mem_append_left _ (List.mem_append_right _ h)))))
theorem inlX3 : ∀ w ∈ wsX30, w ∈ wsL_law := fun _ h => List.mem_append_left _ (List.mem_append_left _ (List.mem_append_left _ (List.mem_append_left _ (List.mem_append_left _ (List.mem_append_left _ (List.mem_append_right _ h))))))
theorem inlX4 : ∀ w ∈ wsX40, w ∈ wsL_law := fun _ h => List.mem_append_left _ (List.mem_append_left _ (List.mem_append_left _ (List.mem_append_left _ (List.mem_append_left _ (List.mem_append_left _ (List.mem_append_left _ (List.mem_append_left _ (List.mem_append_right _ h))))))))
set_option maxRecDepth 20000 in
theorem gis_0 : GoodIn wsL_law [.code yL_isSo cL_isSo 17 (some .boolean)] := goodIn_r _ [208] (by decide +kernel) (by decide +kernel)
set_option maxRecDepth 20000 in
theorem gis_1 : GoodIn wsL_law wsL_isSo_r1 := goodIn_r _ [209, 210, 63, 211, 212, 213, 214, 215, 216, 217, 218, 219, 220, 221, 222, 223, 2, 224, 22, 225, 226, 227, 228, 26] (by decide +kernel) (by decide +kernel)
set_option maxRecDepth 20000 in
theorem gis_2 : GoodIn wsL_law wsL_isSo_r2 := goodIn_r _ [156, 157, 158, 159, 160, 161, 80, 81, 82, 83, 84, 85, 86, 87, 229, 230, 231, 232, 233, 234, 235, 236, 237, 238] (by decide +kernel) (by decide +kernel)
set_option maxRecDepth 20000 in
theorem gis_3 : GoodIn wsL_law wsL_isSo_r3 := goodIn_r _ [239, 240, 174, 175, 176, 177, 178, 179, 180, 181, 120, 121, 122, 123, 124, 125, 126, 127, 78, 79, 14, 18, 128, 13] (by decide +kernel) (by decide +kernel)
set_option maxRecDepth 20000 in
theorem gis_4 : GoodIn wsL_law wsL_isSo_r4 := goodIn_r _ [129, 130, 32, 131, 132, 133, 34, 35, 134, 135, 136, 36, 137, 25, 138, 139, 140, 97, 98, 99, 57, 100, 101, 102] (by decide +kernel) (by decide +kernel)
set_option maxRecDepth 20000 in
theorem gis_5 : GoodIn wsL_law wsL_isSo_r5 := goodIn_r _ [141, 142, 143, 144, 103, 104, 105, 59, 60, 106, 107, 108, 109, 58, 110, 17, 111, 112, 42, 113, 114, 115, 116, 145] (by decide +kernel) (by decide +kernel)
set_option maxRecDepth 20000 in
theorem gis_6 : GoodIn wsL_law wsL_isSo_r6 := goodIn_r _ [146, 147, 148, 149, 150, 151, 152, 153, 154, 155, 27, 162, 163, 164, 165, 166, 167, 168, 169, 170, 171, 172, 173, 241] (by decide +kernel) (by decide +kernel)
set_option maxRecDepth 20000 in
theorem gis_7 : GoodIn wsL_law wsL_isSo_r7 := goodIn_r _ [242, 243, 244, 245, 246, 247, 248, 249, 250, 251, 252, 253, 254, 255, 256, 257, 258, 259, 260, 261, 262, 263, 264, 265] (by decide +kernel) (by decide +kernel)
set_option maxRecDepth 20000 in
theorem gis_8 : GoodIn wsL_law wsL_isSo_r8 := goodIn_r _ [266, 267, 268, 269, 270, 271, 272, 273, 274, 275, 28, 276, 277, 278, 279, 280, 281, 282, 283, 284, 285, 286] (by decide +kernel) (by decide +kernel)
theorem gis_X4 : GoodIn wsL_law wsX40 := goodIn_sub inlX4 (by decide +kernel)
theorem gis_X2 : GoodIn wsL_law wsX20 := goodIn_sub inlX2 (by decide +kernel)
theorem gis_X1 : GoodIn wsL_law wsX10 := goodIn_sub inlX1 (by decide +kernel)
theorem gis_X0 : GoodIn wsL_law wsX00 := goodIn_sub inlX0 (by decide +kernel)
theorem gis_X3 : GoodIn wsL_law wsX30 := goodIn_sub inlX3 (by decide +kernel)
set_option maxRecDepth 20000 in
theorem ggL_law_L_isSo : GoodIn wsL_law wsL_isSo := goodIn_cons gis_0 (goodIn_app (goodIn_app (goodIn_app (goodIn_app (goodIn_app (goodIn_app (goodIn_app (goodIn_app (goodIn_app gis_1 (goodIn_app gis_2 (goodIn_app gis_3 (goodIn_app gis_4 (goodIn_app gis_5 (goodIn_app gis_6 (goodIn_app gis_7 gis_8))))))) gis_X4) gis_X2) gis_X1) gis_X0) gis_X3) (goodIn_sub (fun _ h => List.mem_append_right _ h) (by decide +kernel))) (goodIn_sub (fun _ h => List.mem_append_left _ (List.mem_append_right _ h)) (by decide +kernel))) (goodIn_sub (fun _ h => List.mem_append_left _ (List.mem_append_left _ (List.mem_append_right _ h))) (by decide +kernel)))
set_option maxRecDepth 20000 in
theorem gL_law_L_isSo : GoodIn wsL_law (va_wsS RL 130 yL_isSo wsL_isSo) := goodIn_app (goodIn_of _ (by decide +kernel)) ggL_law_L_isSo
