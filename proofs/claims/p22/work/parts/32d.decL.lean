set_option maxRecDepth 20000 in
theorem ggL_law_X4_init : GoodIn wsL_law wsX4_init := goodIn_r _ [7, 8, 9, 10, 11, 12, 13, 14, 15, 16, 17, 18, 19, 20, 21, 22, 23, 24, 25, 26, 3, 27, 28, 29, 30, 31, 32, 33, 34, 35, 36, 37, 38, 39, 40, 41, 42, 43, 44, 45, 46, 47, 48, 49, 50, 51, 52, 53, 54, 55, 56, 57, 58, 59, 60, 293, 294, 295, 296, 287, 288, 289, 290, 291, 292, 297, 298, 299, 300, 301, 302, 303, 304, 305, 306, 307, 308] (by decide +kernel) (by decide +kernel)
set_option maxRecDepth 20000 in
theorem gL_law_X4_init : GoodIn wsL_law (wsX4_init) := ggL_law_X4_init
set_option maxRecDepth 20000 in
theorem ggL_law_L_cell : GoodIn wsL_law wsL_cell := goodIn_r _ [64, 65, 66] (by decide +kernel) (by decide +kernel)
set_option maxRecDepth 20000 in
theorem gL_law_L_cell : GoodIn wsL_law (va_wsS RL 109 yL_cell wsL_cell) := goodIn_app (goodIn_of _ (by decide +kernel)) ggL_law_L_cell
set_option maxRecDepth 20000 in
theorem ggL_law_L_low : GoodIn wsL_law wsL_low := goodIn_r _ [69, 70] (by decide +kernel) (by decide +kernel)
set_option maxRecDepth 20000 in
theorem gL_law_L_low : GoodIn wsL_law (va_wsS RL 91 yL_low wsL_low) := goodIn_app (goodIn_of _ (by decide +kernel)) ggL_law_L_low
set_option maxRecDepth 20000 in
theorem ggL_law_L_report : GoodIn wsL_law wsL_report := goodIn_ca (goodIn_ca (goodIn_r _ [73, 67, 68, 63, 69, 70, 74, 75, 76, 2, 77, 78, 79, 22, 26, 14, 18, 80, 81, 82, 83, 84, 85, 86, 87, 88, 89, 90, 91, 21, 92, 93, 47, 48, 49, 52, 94, 95, 96, 51, 97, 25, 98, 99, 57, 100, 13, 101, 102, 32, 34, 35, 36, 103, 104, 105, 59, 60, 106, 107, 108, 109, 58, 110, 17, 111, 112, 42, 113, 114, 115, 116, 287, 288, 289, 290, 291, 292, 300, 301, 302, 303, 304, 305, 306, 307, 308, 293, 294, 295, 296, 297, 298, 299] (by decide +kernel) (by decide +kernel)) (goodIn_sub (fun _ h => List.mem_append_left _ (List.mem_append_left _ (List.mem_append_right _ h))) (by decide +kernel))) (goodIn_sub (fun _ h => List.mem_append_left _ (List.mem_append_right _ h)) (by decide +kernel))
set_option maxRecDepth 20000 in
theorem gL_law_L_report : GoodIn wsL_law (va_wsS RL 113 yL_report wsL_report) := goodIn_app (goodIn_of _ (by decide +kernel)) ggL_law_L_report
set_option maxRecDepth 20000 in
theorem ggL_law_L_ranges : GoodIn wsL_law wsL_ranges := goodIn_ca (goodIn_ca (goodIn_ca (goodIn_r _ [119, 67, 68, 63, 69, 70, 120, 121, 122, 123, 124, 125, 126, 2, 127, 78, 79, 14, 26, 22, 18, 80, 81, 82, 83, 84, 85, 86, 87, 128, 13, 129, 130, 32, 131, 132, 133, 34, 35, 134, 135, 136, 36, 137, 25, 138, 139, 140, 97, 98, 99, 57, 100, 101, 102, 141, 142, 143, 144, 103, 104, 105, 59, 60, 106, 107, 108, 109, 58, 110, 17, 111, 112, 42, 113, 114, 115, 116, 145, 146, 147, 148, 149, 150, 151, 152, 153, 154, 155, 27, 156, 157, 158, 159, 160, 161, 162, 163, 164, 165, 166, 167, 168, 169, 170, 171, 172, 173, 174, 175, 176, 177, 178, 179, 180, 181, 287, 288, 289, 290, 291, 292, 293, 294, 295, 296, 300, 301, 302, 303, 304, 305, 306, 307, 308, 297, 298, 299] (by decide +kernel) (by decide +kernel)) (goodIn_sub (fun _ h => List.mem_append_left _ (List.mem_append_left _ (List.mem_append_right _ h))) (by decide +kernel))) (goodIn_sub (fun _ h => List.mem_append_left _ (List.mem_append_right _ h)) (by decide +kernel))) (goodIn_sub (fun _ h => List.mem_append_right _ h) (by decide +kernel))
set_option maxRecDepth 20000 in
theorem gL_law_L_ranges : GoodIn wsL_law (va_wsS RL 115 yL_ranges wsL_ranges) := goodIn_app (goodIn_of _ (by decide +kernel)) ggL_law_L_ranges
set_option maxRecDepth 20000 in
theorem ggL_law_L_rules : GoodIn wsL_law wsL_rules := goodIn_ca (goodIn_ca (goodIn_ca (goodIn_r _ [184, 67, 68, 63, 69, 70, 185, 186, 187, 2, 188, 18, 26, 22, 80, 81, 82, 83, 84, 85, 86, 87, 141, 25, 142, 143, 144, 103, 104, 105, 59, 60, 106, 107, 108, 109, 57, 58, 110, 17, 111, 112, 42, 113, 114, 115, 116, 120, 121, 122, 123, 124, 125, 126, 127, 78, 79, 14, 128, 13, 129, 130, 32, 131, 132, 133, 34, 35, 134, 135, 136, 36, 137, 138, 139, 140, 97, 98, 99, 100, 101, 102, 145, 146, 147, 148, 149, 150, 151, 152, 153, 154, 155, 27, 156, 157, 158, 159, 160, 161, 162, 163, 164, 165, 166, 167, 168, 169, 170, 171, 172, 173, 174, 175, 176, 177, 178, 179, 180, 181, 189, 190, 191, 192, 193, 194, 195, 196, 28, 287, 288, 289, 290, 291, 292, 297, 298, 299, 300, 301, 302, 303, 304, 305, 306, 307, 308, 293, 294, 295, 296] (by decide +kernel) (by decide +kernel)) (goodIn_sub (fun _ h => List.mem_append_left _ (List.mem_append_right _ h)) (by decide +kernel))) (goodIn_sub (fun _ h => List.mem_append_left _ (List.mem_append_left _ (List.mem_append_right _ h))) (by decide +kernel))) (goodIn_sub (fun _ h => List.mem_append_right _ h) (by decide +kernel))
set_option maxRecDepth 20000 in
theorem gL_law_L_rules : GoodIn wsL_law (va_wsS RL 119 yL_rules wsL_rules) := goodIn_app (goodIn_of _ (by decide +kernel)) ggL_law_L_rules
set_option maxRecDepth 20000 in
theorem ggL_law_X4_setSessions : GoodIn wsL_law wsX4_setSessions := goodIn_ca (goodIn_r _ [200, 201, 27, 80, 81, 2, 82, 83, 84, 85, 86, 87, 287, 288, 289, 290, 291, 292] (by decide +kernel) (by decide +kernel)) (goodIn_sub (fun _ h => List.mem_append_left _ (List.mem_append_right _ h)) (by decide +kernel))
set_option maxRecDepth 20000 in
theorem gL_law_X4_setSessions : GoodIn wsL_law (wsV RL 124 RX4 yX4_setSessions wsX4_setSessions) := goodIn_app (goodIn_of _ (by decide +kernel)) ggL_law_X4_setSessions
set_option maxRecDepth 20000 in
theorem ggL_law_X4_fix : GoodIn wsL_law wsX4_fix := goodIn_ca (goodIn_ca (goodIn_r _ [205, 22, 156, 157, 158, 2, 159, 160, 161, 80, 81, 82, 83, 84, 85, 86, 87, 287, 288, 289, 290, 291, 292, 300, 301, 302, 303, 304] (by decide +kernel) (by decide +kernel)) (goodIn_sub (fun _ h => List.mem_append_right _ h) (by decide +kernel))) (goodIn_sub (fun _ h => List.mem_append_left _ (List.mem_append_right _ h)) (by decide +kernel))
set_option maxRecDepth 20000 in
theorem gL_law_X4_fix : GoodIn wsL_law (wsV RL 127 RX4 yX4_fix wsX4_fix) := goodIn_app (goodIn_of _ (by decide +kernel)) ggL_law_X4_fix
