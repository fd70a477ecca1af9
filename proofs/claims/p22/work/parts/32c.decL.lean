set_option maxRecDepth 20000 in
theorem ggL_calls_X4_addRange : GoodIn wsL_calls wsX4_addRange := goodIn_ca (goodIn_ca (goodIn_r _ [6, 7, 8, 9, 10, 11, 12, 13, 14, 5, 15, 16, 17, 18, 19, 20, 21, 22, 23, 24, 25, 26, 27, 28, 29, 30, 31, 32, 33, 34, 35, 36, 37, 38, 39, 40, 41, 42, 43, 44, 45, 46, 47, 48, 49, 50, 51, 52, 53, 54, 55, 56, 57, 58, 59, 60, 61, 62, 63, 64, 65, 66, 67, 68, 69, 108, 109, 110, 111, 112, 113, 114, 115, 116, 117, 118, 119, 120, 121, 122, 123, 124, 125, 126, 127, 128, 129] (by decide +kernel) (by decide +kernel)) (goodIn_sub (fun _ h => List.mem_cons_of_mem _ (List.mem_append_left _ (List.mem_append_left _ (List.mem_append_right _ h)))) (by decide +kernel))) (goodIn_sub (fun _ h => List.mem_cons_of_mem _ (List.mem_append_left _ (List.mem_append_right _ h))) (by decide +kernel))
set_option maxRecDepth 20000 in
theorem gL_calls_X4_addRange : GoodIn wsL_calls (wsV RL 10 RX4 yX4_addRange wsX4_addRange) := goodIn_app (goodIn_of _ (by decide +kernel)) ggL_calls_X4_addRange
set_option maxRecDepth 20000 in
theorem ggL_calls_X4_standFor : GoodIn wsL_calls wsX4_standFor := goodIn_ca (goodIn_ca (goodIn_r _ [73, 7, 8, 12, 10, 11, 13, 14, 5, 15, 16, 17, 18, 19, 20, 74, 62, 75, 76, 65, 47, 36, 48, 49, 50, 51, 52, 53, 54, 55, 56, 57, 58, 59, 43, 60, 61, 63, 64, 66, 67, 68, 69, 108, 109, 110, 111, 112, 113, 127, 128, 129, 118, 119, 120, 121, 122, 123, 124, 125, 126] (by decide +kernel) (by decide +kernel)) (goodIn_sub (fun _ h => List.mem_cons_of_mem _ (List.mem_append_left _ (List.mem_append_left _ (List.mem_append_right _ h)))) (by decide +kernel))) (goodIn_sub (fun _ h => List.mem_cons_of_mem _ (List.mem_append_left _ (List.mem_append_right _ h))) (by decide +kernel))
set_option maxRecDepth 20000 in
theorem gL_calls_X4_standFor : GoodIn wsL_calls (wsV RL 16 RX4 yX4_standFor wsX4_standFor) := goodIn_app (goodIn_of _ (by decide +kernel)) ggL_calls_X4_standFor
set_option maxRecDepth 20000 in
theorem ggL_calls_X4_holds : GoodIn wsL_calls wsX4_holds := goodIn_ca (goodIn_ca (goodIn_r _ [80, 7, 8, 11, 10, 81, 82, 83, 84, 5, 85, 86, 87, 13, 14, 15, 88, 89, 90, 91, 92, 93, 94, 95, 96, 97, 98, 99, 100, 101, 102, 103, 104, 105, 106, 107, 108, 109, 110, 111, 112, 113, 118, 119, 120, 121, 122, 123, 124, 125, 126] (by decide +kernel) (by decide +kernel)) (goodIn_sub (fun _ h => List.mem_cons_of_mem _ (List.mem_append_left _ (List.mem_append_left _ (List.mem_append_right _ h)))) (by decide +kernel))) (goodIn_sub (fun _ h => List.mem_cons_of_mem _ (List.mem_append_right _ h)) (by decide +kernel))
set_option maxRecDepth 20000 in
theorem gL_calls_X4_holds : GoodIn wsL_calls (wsV RL 20 RX4 yX4_holds wsX4_holds) := goodIn_app (goodIn_of _ (by decide +kernel)) ggL_calls_X4_holds
set_option maxRecDepth 20000 in
theorem ggL_number_L_frame : GoodIn wsL_number wsL_frame := goodIn_r _ [4] (by decide +kernel) (by decide +kernel)
set_option maxRecDepth 20000 in
theorem gL_number_L_frame : GoodIn wsL_number (va_wsS RL 26 yL_frame wsL_frame) := goodIn_app (goodIn_of _ (by decide +kernel)) ggL_number_L_frame
set_option maxRecDepth 20000 in
theorem ggL_number_L_ends : GoodIn wsL_number wsL_ends := goodIn_r _ [7] (by decide +kernel) (by decide +kernel)
set_option maxRecDepth 20000 in
theorem gL_number_L_ends : GoodIn wsL_number (va_wsS RL 32 yL_ends wsL_ends) := goodIn_app (goodIn_of _ (by decide +kernel)) ggL_number_L_ends
set_option maxRecDepth 20000 in
theorem ggL_names_L_number : GoodIn wsL_names wsL_number := goodIn_r _ [4, 5, 6, 3, 7, 8, 9, 10] (by decide +kernel) (by decide +kernel)
set_option maxRecDepth 20000 in
theorem gL_names_L_number : GoodIn wsL_names (va_wsS RL 36 yL_number wsL_number) := goodIn_app (goodIn_of _ (by decide +kernel)) ggL_names_L_number
set_option maxRecDepth 20000 in
theorem ggL_version_L_rate : GoodIn wsL_version wsL_rate := goodIn_r _ [4] (by decide +kernel) (by decide +kernel)
set_option maxRecDepth 20000 in
theorem gL_version_L_rate : GoodIn wsL_version (va_wsS RL 40 yL_rate wsL_rate) := goodIn_app (goodIn_of _ (by decide +kernel)) ggL_version_L_rate
set_option maxRecDepth 20000 in
theorem ggL_version_L_users : GoodIn wsL_version wsL_users := goodIn_r _ [7] (by decide +kernel) (by decide +kernel)
set_option maxRecDepth 20000 in
theorem gL_version_L_users : GoodIn wsL_version (va_wsS RL 44 yL_users wsL_users) := goodIn_app (goodIn_of _ (by decide +kernel)) ggL_version_L_users
set_option maxRecDepth 20000 in
theorem ggL_version_X4_gate : GoodIn wsL_version wsX4_gate := goodIn_ca (goodIn_r _ [12, 13, 14, 15, 16, 17, 18, 11, 19, 20, 21, 22, 23, 24, 25, 26, 27, 28, 29, 30, 31, 32, 33, 34, 35, 36, 37, 38, 39, 40, 41, 42, 43, 44, 45, 46, 47, 48, 49, 50, 51, 52, 57, 58, 59, 60, 61, 62, 63, 64, 65, 66, 67, 68, 69, 70, 71] (by decide +kernel) (by decide +kernel)) (goodIn_sub (fun _ h => List.mem_cons_of_mem _ (List.mem_append_right _ h)) (by decide +kernel))
set_option maxRecDepth 20000 in
theorem gL_version_X4_gate : GoodIn wsL_version (wsV RL 47 RX4 yX4_gate wsX4_gate) := goodIn_app (goodIn_of _ (by decide +kernel)) ggL_version_X4_gate
set_option maxRecDepth 20000 in
theorem ggL_version_X4_worst : GoodIn wsL_version wsX4_worst := goodIn_ca (goodIn_r _ [56, 14, 15, 17, 18, 11, 19, 20, 21, 22, 23, 24, 25, 26, 27, 28, 29, 30, 31, 32, 33, 13, 34, 35, 36, 37, 38, 39, 40, 41, 57, 58, 59, 60, 61, 62, 63, 64, 65, 66, 67, 68, 69, 70, 71] (by decide +kernel) (by decide +kernel)) (goodIn_sub (fun _ h => List.mem_cons_of_mem _ (List.mem_append_right _ h)) (by decide +kernel))
set_option maxRecDepth 20000 in
theorem gL_version_X4_worst : GoodIn wsL_version (wsV RL 51 RX4 yX4_worst wsX4_worst) := goodIn_app (goodIn_of _ (by decide +kernel)) ggL_version_X4_worst
set_option maxRecDepth 20000 in
theorem ggL_holds_L_rate : GoodIn wsL_holds wsL_rate := goodIn_r _ [4] (by decide +kernel) (by decide +kernel)
set_option maxRecDepth 20000 in
theorem gL_holds_L_rate : GoodIn wsL_holds (va_wsS RL 40 yL_rate wsL_rate) := goodIn_app (goodIn_of _ (by decide +kernel)) ggL_holds_L_rate
set_option maxRecDepth 20000 in
theorem ggL_isSo_L_names : GoodIn wsL_isSo wsL_names := goodIn_r _ [4, 5, 6, 3, 7, 8, 9, 10, 11, 12, 13] (by decide +kernel) (by decide +kernel)
set_option maxRecDepth 20000 in
theorem gL_isSo_L_names : GoodIn wsL_isSo (va_wsS RL 54 yL_names wsL_names) := goodIn_app (goodIn_of _ (by decide +kernel)) ggL_isSo_L_names
set_option maxRecDepth 20000 in
theorem ggL_isSo_X4_reports : GoodIn wsL_isSo wsX4_reports := goodIn_r _ [18, 19, 191, 192, 193, 194, 195, 196, 197, 198, 199, 200, 201] (by decide +kernel) (by decide +kernel)
set_option maxRecDepth 20000 in
theorem gL_isSo_X4_reports : GoodIn wsL_isSo (wsV RL 58 RX4 yX4_reports wsX4_reports) := goodIn_app (goodIn_of _ (by decide +kernel)) ggL_isSo_X4_reports
set_option maxRecDepth 20000 in
theorem ggL_isSo_X4_frame : GoodIn wsL_isSo wsX4_frame := goodIn_ca (goodIn_ca (goodIn_r _ [23, 24, 25, 26, 27, 17, 28, 29, 30, 19, 31, 32, 33, 34, 35, 36, 37, 38, 191, 192, 193, 194, 195, 196, 202, 203, 204, 205, 197, 198, 199, 200, 201] (by decide +kernel) (by decide +kernel)) (goodIn_sub (fun _ h => List.mem_cons_of_mem _ (List.mem_append_left _ (List.mem_append_left _ (List.mem_append_right _ h)))) (by decide +kernel))) (goodIn_sub (fun _ h => List.mem_cons_of_mem _ (List.mem_append_left _ (List.mem_append_right _ h))) (by decide +kernel))
set_option maxRecDepth 20000 in
theorem gL_isSo_X4_frame : GoodIn wsL_isSo (wsV RL 62 RX4 yX4_frame wsX4_frame) := goodIn_app (goodIn_of _ (by decide +kernel)) ggL_isSo_X4_frame
set_option maxRecDepth 20000 in
theorem ggL_isSo_L_frame : GoodIn wsL_isSo wsL_frame := goodIn_r _ [10] (by decide +kernel) (by decide +kernel)
set_option maxRecDepth 20000 in
theorem gL_isSo_L_frame : GoodIn wsL_isSo (va_wsS RL 26 yL_frame wsL_frame) := goodIn_app (goodIn_of _ (by decide +kernel)) ggL_isSo_L_frame
set_option maxRecDepth 20000 in
theorem ggL_isSo_X4_matters : GoodIn wsL_isSo wsX4_matters := goodIn_ca (goodIn_ca (goodIn_r _ [42, 24, 25, 26, 27, 17, 28, 29, 30, 19, 31, 32, 33, 34, 35, 36, 37, 38, 191, 192, 193, 194, 195, 196, 202, 203, 204, 205, 197, 198, 199, 200, 201] (by decide +kernel) (by decide +kernel)) (goodIn_sub (fun _ h => List.mem_cons_of_mem _ (List.mem_append_left _ (List.mem_append_left _ (List.mem_append_right _ h)))) (by decide +kernel))) (goodIn_sub (fun _ h => List.mem_cons_of_mem _ (List.mem_append_left _ (List.mem_append_right _ h))) (by decide +kernel))
set_option maxRecDepth 20000 in
theorem gL_isSo_X4_matters : GoodIn wsL_isSo (wsV RL 64 RX4 yX4_matters wsX4_matters) := goodIn_app (goodIn_of _ (by decide +kernel)) ggL_isSo_X4_matters
set_option maxRecDepth 20000 in
theorem ggL_isSo_X4_bucket : GoodIn wsL_isSo wsX4_bucket := goodIn_ca (goodIn_r _ [46, 24, 25, 26, 27, 17, 28, 29, 30, 19, 31, 32, 33, 191, 192, 193, 194, 195, 196, 202, 203, 204, 205, 197, 198, 199, 200, 201] (by decide +kernel) (by decide +kernel)) (goodIn_sub (fun _ h => List.mem_cons_of_mem _ (List.mem_append_left _ (List.mem_append_left _ (List.mem_append_right _ h)))) (by decide +kernel))
set_option maxRecDepth 20000 in
theorem gL_isSo_X4_bucket : GoodIn wsL_isSo (wsV RL 67 RX4 yX4_bucket wsX4_bucket) := goodIn_app (goodIn_of _ (by decide +kernel)) ggL_isSo_X4_bucket
set_option maxRecDepth 20000 in
theorem ggL_isSo_X4_size : GoodIn wsL_isSo wsX4_size := goodIn_ca (goodIn_r _ [50, 24, 25, 26, 27, 17, 28, 29, 30, 19, 31, 32, 33, 51, 52, 53, 54, 55, 56, 57, 58, 191, 192, 193, 194, 195, 196, 202, 203, 204, 205, 197, 198, 199, 200, 201] (by decide +kernel) (by decide +kernel)) (goodIn_sub (fun _ h => List.mem_cons_of_mem _ (List.mem_append_left _ (List.mem_append_left _ (List.mem_append_right _ h)))) (by decide +kernel))
set_option maxRecDepth 20000 in
theorem gL_isSo_X4_size : GoodIn wsL_isSo (wsV RL 70 RX4 yX4_size wsX4_size) := goodIn_app (goodIn_of _ (by decide +kernel)) ggL_isSo_X4_size
set_option maxRecDepth 20000 in
theorem ggL_isSo_L_calls : GoodIn wsL_isSo wsL_calls := goodIn_ca (goodIn_ca (goodIn_ca (goodIn_r _ [61, 62, 63, 64, 65, 17, 66, 67, 68, 69, 24, 19, 70, 31, 32, 33, 34, 35, 36, 37, 38, 71, 72, 73, 74, 75, 76, 77, 78, 79, 80, 81, 82, 83, 84, 85, 86, 87, 88, 89, 90, 91, 92, 93, 94, 95, 96, 97, 98, 99, 100, 101, 102, 103, 104, 105, 106, 107, 108, 109, 110, 111, 112, 113, 114, 115, 116, 117, 118, 119, 120, 121, 122, 123, 124, 125, 126, 127, 128, 129, 130, 131, 25, 26, 27, 28, 29, 30, 132, 133, 134, 135, 136, 137, 138, 139, 140, 141, 142, 143, 51, 52, 53, 54, 55, 56, 57, 58, 191, 192, 193, 194, 195, 196, 206, 207, 208, 209, 197, 198, 199, 200, 201, 202, 203, 204, 205, 210, 211, 212] (by decide +kernel) (by decide +kernel)) (goodIn_sub (fun _ h => List.mem_cons_of_mem _ (List.mem_append_right _ h)) (by decide +kernel))) (goodIn_sub (fun _ h => List.mem_cons_of_mem _ (List.mem_append_left _ (List.mem_append_right _ h))) (by decide +kernel))) (goodIn_sub (fun _ h => List.mem_cons_of_mem _ (List.mem_append_left _ (List.mem_append_left _ (List.mem_append_right _ h)))) (by decide +kernel))
set_option maxRecDepth 20000 in
theorem gL_isSo_L_calls : GoodIn wsL_isSo (va_wsS RL 73 yL_calls wsL_calls) := goodIn_app (goodIn_of _ (by decide +kernel)) ggL_isSo_L_calls
set_option maxRecDepth 20000 in
theorem ggL_isSo_L_holds : GoodIn wsL_isSo wsL_holds := goodIn_r _ [146, 147, 148, 3, 149] (by decide +kernel) (by decide +kernel)
set_option maxRecDepth 20000 in
theorem gL_isSo_L_holds : GoodIn wsL_isSo (va_wsS RL 77 yL_holds wsL_holds) := goodIn_app (goodIn_of _ (by decide +kernel)) ggL_isSo_L_holds
set_option maxRecDepth 20000 in
theorem ggL_isSo_X4_rate : GoodIn wsL_isSo wsX4_rate := goodIn_ca (goodIn_ca (goodIn_r _ [153, 24, 25, 26, 27, 17, 28, 29, 30, 19, 31, 32, 33, 34, 35, 36, 37, 38, 140, 141, 142, 143, 131, 51, 52, 53, 54, 55, 56, 57, 58, 191, 192, 193, 194, 195, 196, 202, 203, 204, 205, 197, 198, 199, 200, 201] (by decide +kernel) (by decide +kernel)) (goodIn_sub (fun _ h => List.mem_cons_of_mem _ (List.mem_append_left _ (List.mem_append_left _ (List.mem_append_right _ h)))) (by decide +kernel))) (goodIn_sub (fun _ h => List.mem_cons_of_mem _ (List.mem_append_left _ (List.mem_append_right _ h))) (by decide +kernel))
set_option maxRecDepth 20000 in
theorem gL_isSo_X4_rate : GoodIn wsL_isSo (wsV RL 80 RX4 yX4_rate wsX4_rate) := goodIn_app (goodIn_of _ (by decide +kernel)) ggL_isSo_X4_rate
set_option maxRecDepth 20000 in
theorem ggL_isSo_L_rate : GoodIn wsL_isSo wsL_rate := goodIn_r _ [149] (by decide +kernel) (by decide +kernel)
set_option maxRecDepth 20000 in
theorem gL_isSo_L_rate : GoodIn wsL_isSo (va_wsS RL 40 yL_rate wsL_rate) := goodIn_app (goodIn_of _ (by decide +kernel)) ggL_isSo_L_rate
set_option maxRecDepth 20000 in
theorem ggL_isSo_X4_users : GoodIn wsL_isSo wsX4_users := goodIn_ca (goodIn_ca (goodIn_r _ [157, 24, 25, 26, 27, 17, 28, 29, 30, 19, 31, 32, 33, 34, 35, 36, 37, 38, 158, 159, 160, 161, 55, 56, 57, 58, 162, 163, 164, 165, 166, 167, 168, 191, 192, 193, 194, 195, 196, 202, 203, 204, 205, 197, 198, 199, 200, 201] (by decide +kernel) (by decide +kernel)) (goodIn_sub (fun _ h => List.mem_cons_of_mem _ (List.mem_append_left _ (List.mem_append_left _ (List.mem_append_right _ h)))) (by decide +kernel))) (goodIn_sub (fun _ h => List.mem_cons_of_mem _ (List.mem_append_left _ (List.mem_append_right _ h))) (by decide +kernel))
set_option maxRecDepth 20000 in
theorem gL_isSo_X4_users : GoodIn wsL_isSo (wsV RL 82 RX4 yX4_users wsX4_users) := goodIn_app (goodIn_of _ (by decide +kernel)) ggL_isSo_X4_users
set_option maxRecDepth 20000 in
theorem ggL_isSo_L_users : GoodIn wsL_isSo wsL_users := goodIn_r _ [171] (by decide +kernel) (by decide +kernel)
set_option maxRecDepth 20000 in
theorem gL_isSo_L_users : GoodIn wsL_isSo (va_wsS RL 44 yL_users wsL_users) := goodIn_app (goodIn_of _ (by decide +kernel)) ggL_isSo_L_users
set_option maxRecDepth 20000 in
theorem ggL_isSo_L_version : GoodIn wsL_isSo wsL_version := goodIn_ca (goodIn_r _ [174, 147, 148, 3, 149, 169, 170, 171, 175, 176, 177, 17, 178, 131, 19, 24, 179, 31, 32, 33, 34, 35, 36, 37, 38, 180, 86, 181, 182, 105, 140, 141, 142, 143, 51, 52, 53, 54, 55, 56, 57, 58, 158, 159, 160, 161, 162, 163, 164, 165, 166, 167, 168, 183, 184, 185, 186, 191, 192, 193, 194, 195, 196, 197, 198, 199, 200, 201, 202, 203, 204, 205] (by decide +kernel) (by decide +kernel)) (goodIn_sub (fun _ h => List.mem_cons_of_mem _ (List.mem_append_left _ (List.mem_append_right _ h))) (by decide +kernel))
set_option maxRecDepth 20000 in
theorem gL_isSo_L_version : GoodIn wsL_isSo (va_wsS RL 84 yL_version wsL_version) := goodIn_app (goodIn_of _ (by decide +kernel)) ggL_isSo_L_version
set_option maxRecDepth 20000 in
theorem ggL_isSo_X4_buckets : GoodIn wsL_isSo wsX4_buckets := goodIn_r _ [190, 19, 24, 180, 86, 181, 182, 105, 191, 192, 193, 194, 195, 196, 197, 198, 199, 200, 201, 202, 203, 204, 205] (by decide +kernel) (by decide +kernel)
set_option maxRecDepth 20000 in
theorem gL_isSo_X4_buckets : GoodIn wsL_isSo (wsV RL 88 RX4 yX4_buckets wsX4_buckets) := goodIn_app (goodIn_of _ (by decide +kernel)) ggL_isSo_X4_buckets
set_option maxRecDepth 20000 in
theorem ggL_ranges_L_low : GoodIn wsL_ranges wsL_low := goodIn_r _ [4, 5] (by decide +kernel) (by decide +kernel)
set_option maxRecDepth 20000 in
theorem gL_ranges_L_low : GoodIn wsL_ranges (va_wsS RL 91 yL_low wsL_low) := goodIn_app (goodIn_of _ (by decide +kernel)) ggL_ranges_L_low
set_option maxRecDepth 20000 in
theorem ggL_ranges_L_calls : GoodIn wsL_ranges wsL_calls := goodIn_ca (goodIn_ca (goodIn_ca (goodIn_r _ [8, 9, 10, 11, 12, 13, 14, 15, 16, 17, 18, 19, 20, 21, 22, 23, 24, 25, 26, 27, 28, 29, 30, 31, 32, 33, 34, 35, 36, 37, 38, 39, 40, 41, 42, 43, 44, 45, 46, 47, 48, 49, 50, 51, 52, 53, 54, 55, 56, 57, 58, 59, 60, 61, 62, 63, 64, 65, 66, 67, 68, 69, 70, 71, 72, 73, 74, 75, 76, 77, 78, 79, 80, 81, 82, 83, 84, 85, 86, 87, 88, 89, 90, 91, 92, 93, 94, 95, 96, 97, 98, 99, 100, 101, 102, 103, 104, 105, 106, 107, 108, 109, 110, 111, 112, 113, 114, 115, 116, 117, 118, 119, 120, 121, 122, 123, 124, 125, 126, 127, 128, 129, 130, 131, 132, 133, 134, 135, 136, 137] (by decide +kernel) (by decide +kernel)) (goodIn_sub (fun _ h => List.mem_cons_of_mem _ (List.mem_append_left _ (List.mem_append_left _ (List.mem_append_right _ h)))) (by decide +kernel))) (goodIn_sub (fun _ h => List.mem_cons_of_mem _ (List.mem_append_left _ (List.mem_append_right _ h))) (by decide +kernel))) (goodIn_sub (fun _ h => List.mem_cons_of_mem _ (List.mem_append_right _ h)) (by decide +kernel))
set_option maxRecDepth 20000 in
theorem gL_ranges_L_calls : GoodIn wsL_ranges (va_wsS RL 73 yL_calls wsL_calls) := goodIn_app (goodIn_of _ (by decide +kernel)) ggL_ranges_L_calls
set_option maxRecDepth 20000 in
theorem ggL_rules_L_low : GoodIn wsL_rules wsL_low := goodIn_r _ [4, 5] (by decide +kernel) (by decide +kernel)
set_option maxRecDepth 20000 in
theorem gL_rules_L_low : GoodIn wsL_rules (va_wsS RL 91 yL_low wsL_low) := goodIn_app (goodIn_of _ (by decide +kernel)) ggL_rules_L_low
set_option maxRecDepth 20000 in
theorem ggL_rules_X4_ignore : GoodIn wsL_rules wsX4_ignore := goodIn_ca (goodIn_r _ [10, 11, 12, 13, 14, 15, 9, 16, 17, 18, 19, 20, 21, 22, 23, 24, 25, 26, 27, 28, 29, 30, 31, 32, 33, 34, 35, 36, 37, 38, 39, 40, 41, 42, 43, 44, 45, 46, 129, 130, 131, 132, 133, 134, 135, 136, 137, 138, 139, 140, 141, 142, 143, 144, 145, 146] (by decide +kernel) (by decide +kernel)) (goodIn_sub (fun _ h => List.mem_cons_of_mem _ (List.mem_append_left _ (List.mem_append_left _ (List.mem_append_right _ h)))) (by decide +kernel))
set_option maxRecDepth 20000 in
theorem gL_rules_X4_ignore : GoodIn wsL_rules (wsV RL 94 RX4 yX4_ignore wsX4_ignore) := goodIn_app (goodIn_of _ (by decide +kernel)) ggL_rules_X4_ignore
set_option maxRecDepth 20000 in
theorem ggL_rules_L_calls : GoodIn wsL_rules wsL_calls := goodIn_ca (goodIn_ca (goodIn_ca (goodIn_r _ [49, 50, 51, 52, 53, 9, 54, 55, 56, 57, 12, 13, 11, 14, 15, 16, 17, 18, 19, 20, 21, 58, 59, 60, 61, 62, 63, 64, 65, 66, 67, 68, 69, 70, 71, 72, 23, 73, 74, 75, 76, 77, 78, 36, 79, 80, 81, 22, 24, 25, 26, 27, 28, 29, 30, 31, 32, 33, 34, 35, 37, 38, 39, 40, 41, 42, 43, 44, 45, 46, 82, 83, 84, 85, 86, 87, 88, 89, 90, 91, 92, 93, 94, 95, 96, 97, 98, 99, 100, 101, 102, 103, 104, 105, 106, 107, 108, 109, 110, 111, 112, 113, 114, 115, 116, 117, 118, 119, 129, 130, 131, 132, 133, 134, 147, 148, 149, 150, 138, 139, 140, 141, 142, 143, 144, 145, 146, 135, 136, 137] (by decide +kernel) (by decide +kernel)) (goodIn_sub (fun _ h => List.mem_cons_of_mem _ (List.mem_append_left _ (List.mem_append_right _ h))) (by decide +kernel))) (goodIn_sub (fun _ h => List.mem_cons_of_mem _ (List.mem_append_left _ (List.mem_append_left _ (List.mem_append_right _ h)))) (by decide +kernel))) (goodIn_sub (fun _ h => List.mem_cons_of_mem _ (List.mem_append_right _ h)) (by decide +kernel))
set_option maxRecDepth 20000 in
theorem gL_rules_L_calls : GoodIn wsL_rules (va_wsS RL 73 yL_calls wsL_calls) := goodIn_app (goodIn_of _ (by decide +kernel)) ggL_rules_L_calls
set_option maxRecDepth 20000 in
theorem ggL_rules_X4_setDepth : GoodIn wsL_rules wsX4_setDepth := goodIn_ca (goodIn_r _ [123, 11, 12, 13, 17, 18, 9, 19, 20, 21, 22, 23, 24, 25, 26, 27, 28, 29, 30, 31, 32, 33, 34, 35, 36, 37, 38, 39, 40, 41, 42, 43, 44, 45, 46, 129, 130, 131, 132, 133, 134, 135, 136, 137, 138, 139, 140, 141, 142, 143, 144, 145, 146] (by decide +kernel) (by decide +kernel)) (goodIn_sub (fun _ h => List.mem_cons_of_mem _ (List.mem_append_left _ (List.mem_append_left _ (List.mem_append_right _ h)))) (by decide +kernel))
set_option maxRecDepth 20000 in
theorem gL_rules_X4_setDepth : GoodIn wsL_rules (wsV RL 98 RX4 yX4_setDepth wsX4_setDepth) := goodIn_app (goodIn_of _ (by decide +kernel)) ggL_rules_X4_setDepth
set_option maxRecDepth 20000 in
theorem ggL_rules_X4_setLimit : GoodIn wsL_rules wsX4_setLimit := goodIn_ca (goodIn_r _ [127, 128, 17, 18, 9, 19, 20, 21, 129, 130, 131, 132, 133, 134] (by decide +kernel) (by decide +kernel)) (goodIn_sub (fun _ h => List.mem_cons_of_mem _ (List.mem_append_left _ (List.mem_append_left _ (List.mem_append_right _ h)))) (by decide +kernel))
set_option maxRecDepth 20000 in
theorem gL_rules_X4_setLimit : GoodIn wsL_rules (wsV RL 101 RX4 yX4_setLimit wsX4_setLimit) := goodIn_app (goodIn_of _ (by decide +kernel)) ggL_rules_X4_setLimit
set_option maxRecDepth 20000 in
theorem ggL_report_L_low : GoodIn wsL_report wsL_low := goodIn_r _ [4, 5] (by decide +kernel) (by decide +kernel)
set_option maxRecDepth 20000 in
theorem gL_report_L_low : GoodIn wsL_report (va_wsS RL 91 yL_low wsL_low) := goodIn_app (goodIn_of _ (by decide +kernel)) ggL_report_L_low
set_option maxRecDepth 20000 in
theorem ggL_report_X4_report : GoodIn wsL_report wsX4_report := goodIn_ca (goodIn_ca (goodIn_r _ [10, 11, 12, 13, 14, 15, 16, 17, 18, 9, 19, 20, 21, 22, 23, 24, 25, 26, 27, 28, 29, 30, 31, 32, 33, 34, 35, 36, 37, 38, 39, 40, 41, 42, 43, 44, 45, 46, 47, 48, 49, 50, 51, 52, 53, 54, 55, 56, 57, 58, 59, 60, 61, 62, 63, 64, 65, 66, 67, 68, 69, 70, 71, 72, 73, 74, 75, 76, 77, 78, 79, 80, 81, 82, 83, 84, 85, 86, 87, 88, 89, 90, 91, 92, 93] (by decide +kernel) (by decide +kernel)) (goodIn_sub (fun _ h => List.mem_cons_of_mem _ (List.mem_append_left _ (List.mem_append_right _ h))) (by decide +kernel))) (goodIn_sub (fun _ h => List.mem_cons_of_mem _ (List.mem_append_right _ h)) (by decide +kernel))
set_option maxRecDepth 20000 in
theorem gL_report_X4_report : GoodIn wsL_report (wsV RL 104 RX4 yX4_report wsX4_report) := goodIn_app (goodIn_of _ (by decide +kernel)) ggL_report_X4_report
