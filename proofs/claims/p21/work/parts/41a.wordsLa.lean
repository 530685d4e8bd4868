set_option maxRecDepth 20000 in
theorem ggL_law_X1_init : GoodIn wsL_law wsX1_init := goodIn_r _ [14, 15, 16, 17, 3, 18, 19, 20, 21, 22, 23, 24, 25, 26, 27, 28, 29, 30, 31, 32, 33, 34, 35, 36, 37, 38, 39, 40, 41, 338, 339, 340, 341, 342, 343, 344, 345, 346, 347, 348, 349, 350, 359, 360, 361, 362] (by decide +kernel) (by decide +kernel)
set_option maxRecDepth 20000 in
theorem gL_law_X1_init : GoodIn wsL_law (wsX1_init) := ggL_law_X1_init
set_option maxRecDepth 20000 in
theorem gL_law_L_build : GoodIn wsL_law (va_wsS RL 85 yL_build wsL_build) := goodIn_app (goodIn_of _ (by decide +kernel)) ggL_law_L_build
set_option maxRecDepth 20000 in
theorem ggL_law_L_cell : GoodIn wsL_law wsL_cell := goodIn_r _ [62, 63] (by decide +kernel) (by decide +kernel)
set_option maxRecDepth 20000 in
theorem gL_law_L_cell : GoodIn wsL_law (va_wsS RL 12 yL_cell wsL_cell) := goodIn_app (goodIn_of _ (by decide +kernel)) ggL_law_L_cell
set_option maxRecDepth 20000 in
theorem ggL_law_L_trees : GoodIn wsL_law wsL_trees := goodIn_ca (goodIn_r _ [237, 238, 3, 239, 240, 241, 2, 242, 72, 73, 23, 24, 22, 26, 95, 96, 97, 79, 80, 81, 98, 99, 100, 105, 106, 107, 108, 243, 244, 245, 246, 33, 153, 154, 155, 156, 19, 215, 32, 216, 217, 160, 218, 161, 338, 339, 340, 341, 342, 343, 344, 345, 346, 347, 348, 349, 350, 359, 360, 361, 362] (by decide +kernel) (by decide +kernel)) (goodIn_sub (fun _ h => List.mem_append_left _ (List.mem_append_left _ (List.mem_append_right _ h))) (by decide +kernel))
set_option maxRecDepth 20000 in
theorem gL_law_L_trees : GoodIn wsL_law (va_wsS RL 89 yL_trees wsL_trees) := goodIn_app (goodIn_of _ (by decide +kernel)) ggL_law_L_trees
set_option maxRecDepth 20000 in
theorem ggL_law_X1_count : GoodIn wsL_law wsX1_count := goodIn_ca (goodIn_r _ [250, 72, 73, 28, 27, 79, 80, 2, 81, 251, 252, 253, 254, 105, 106, 107, 108, 22, 255, 256, 257, 258, 26, 259, 260, 261, 262, 20, 263, 264, 265, 266, 18, 267, 268, 269, 270, 23, 98, 99, 100, 120, 121, 122, 338, 339, 340, 341, 342, 343, 344, 345, 346, 347, 348, 349, 350] (by decide +kernel) (by decide +kernel)) (goodIn_sub (fun _ h => List.mem_append_left _ (List.mem_append_left _ (List.mem_append_right _ h))) (by decide +kernel))
set_option maxRecDepth 20000 in
theorem gL_law_X1_count : GoodIn wsL_law (wsV RL 93 RX1 yX1_count wsX1_count) := goodIn_app (goodIn_of _ (by decide +kernel)) ggL_law_X1_count
set_option maxRecDepth 20000 in
theorem ggL_law_X1_tilt : GoodIn wsL_law wsX1_tilt := goodIn_r _ [274, 29, 338, 339, 340, 341, 342, 343, 344, 345, 346, 347, 348, 349, 350] (by decide +kernel) (by decide +kernel)
set_option maxRecDepth 20000 in
theorem gL_law_X1_tilt : GoodIn wsL_law (wsV RL 96 RX1 yX1_tilt wsX1_tilt) := goodIn_app (goodIn_of _ (by decide +kernel)) ggL_law_X1_tilt
set_option maxRecDepth 20000 in
theorem ggL_law_L_below : GoodIn wsL_law wsL_below := goodIn_r _ [66, 67] (by decide +kernel) (by decide +kernel)
set_option maxRecDepth 20000 in
theorem gL_law_L_below : GoodIn wsL_law (va_wsS RL 18 yL_below wsL_below) := goodIn_app (goodIn_of _ (by decide +kernel)) ggL_law_L_below
set_option maxRecDepth 20000 in
theorem ggL_law_L_alike : GoodIn wsL_law wsL_alike := goodIn_r _ [277] (by decide +kernel) (by decide +kernel)
set_option maxRecDepth 20000 in
theorem gL_law_L_alike : GoodIn wsL_law (va_wsS RL 98 yL_alike wsL_alike) := goodIn_app (goodIn_of _ (by decide +kernel)) ggL_law_L_alike
set_option maxRecDepth 20000 in
theorem ggL_law_L_act : GoodIn wsL_law wsL_act := goodIn_ca (goodIn_ca (goodIn_ca (goodIn_r _ [88, 89, 9, 10, 7, 11, 90, 49, 64, 65, 44, 66, 67, 91, 92, 93, 2, 94, 72, 73, 74, 75, 95, 96, 97, 79, 80, 81, 76, 77, 78, 98, 99, 100, 101, 102, 103, 104, 22, 23, 24, 26, 105, 106, 107, 108, 109, 110, 111, 112, 27, 113, 114, 115, 116, 117, 118, 119, 120, 121, 122, 123, 124, 125, 126, 127, 128, 48, 129, 54, 130, 131, 59, 132, 133, 134, 135, 136, 137, 138, 139, 16, 17, 140, 141, 142, 143, 144, 145, 146, 147, 148, 33, 149, 150, 151, 152, 153, 154, 155, 156, 19, 157, 32, 158, 159, 160, 161, 162, 163, 164, 165, 166, 167, 168, 169, 170, 171, 172, 173, 174, 6, 8, 175, 176, 177, 178, 179, 180, 181, 182, 183, 184, 185, 186, 187, 188, 20, 29, 18, 351, 352, 353, 354, 355, 356, 357, 358, 338, 339, 340, 341, 342, 343, 344, 345, 346, 347, 348, 349, 350, 363, 364, 365, 366, 359, 360, 361, 362] (by decide +kernel) (by decide +kernel)) (goodIn_sub (fun _ h => List.mem_append_left _ (List.mem_append_left _ (List.mem_append_right _ h))) (by decide +kernel))) (goodIn_sub (fun _ h => List.mem_append_left _ (List.mem_append_right _ h)) (by decide +kernel))) (goodIn_sub (fun _ h => List.mem_append_right _ h) (by decide +kernel))
set_option maxRecDepth 20000 in
theorem gL_law_L_act : GoodIn wsL_law (va_wsS RL 41 yL_act wsL_act) := goodIn_app (goodIn_of _ (by decide +kernel)) ggL_law_L_act
set_option maxRecDepth 20000 in
theorem ggL_law_L_same : GoodIn wsL_law wsL_same := goodIn_r _ [280] (by decide +kernel) (by decide +kernel)
set_option maxRecDepth 20000 in
theorem gL_law_L_same : GoodIn wsL_law (va_wsS RL 102 yL_same wsL_same) := goodIn_app (goodIn_of _ (by decide +kernel)) ggL_law_L_same
set_option maxRecDepth 20000 in
theorem ggL_law_X1_sort : GoodIn wsL_law wsX1_sort := goodIn_ca (goodIn_r _ [284, 72, 73, 18, 19, 20, 76, 77, 2, 78, 79, 80, 81, 285, 286, 287, 288, 22, 338, 339, 340, 341, 342, 343, 344, 345, 346, 347, 348, 349, 350] (by decide +kernel) (by decide +kernel)) (goodIn_sub (fun _ h => List.mem_append_left _ (List.mem_append_left _ (List.mem_append_right _ h))) (by decide +kernel))
set_option maxRecDepth 20000 in
theorem gL_law_X1_sort : GoodIn wsL_law (wsV RL 106 RX1 yX1_sort wsX1_sort) := goodIn_app (goodIn_of _ (by decide +kernel)) ggL_law_X1_sort
set_option maxRecDepth 20000 in
theorem ggL_law_X1_balance : GoodIn wsL_law wsX1_balance := goodIn_r _ [292, 18, 293, 294, 295, 2, 296, 20, 297, 10, 7, 11, 174, 6, 8, 298, 299, 300, 301, 34, 38, 39, 40, 41, 302, 303, 304, 305, 338, 339, 340, 341, 342, 343, 344, 345, 346, 347, 348, 349, 350] (by decide +kernel) (by decide +kernel)
set_option maxRecDepth 20000 in
theorem gL_law_X1_balance : GoodIn wsL_law (wsV RL 109 RX1 yX1_balance wsX1_balance) := goodIn_app (goodIn_of _ (by decide +kernel)) ggL_law_X1_balance
set_option maxRecDepth 20000 in
theorem ggL_law_L_even : GoodIn wsL_law wsL_even := goodIn_ca (goodIn_r _ [308, 9, 10, 7, 11, 281, 282, 283, 2, 284, 72, 73, 18, 19, 20, 76, 77, 78, 79, 80, 81, 285, 286, 287, 288, 22, 338, 339, 340, 341, 342, 343, 344, 345, 346, 347, 348, 349, 350] (by decide +kernel) (by decide +kernel)) (goodIn_sub (fun _ h => List.mem_append_left _ (List.mem_append_left _ (List.mem_append_right _ h))) (by decide +kernel))
set_option maxRecDepth 20000 in
theorem gL_law_L_even : GoodIn wsL_law (va_wsS RL 112 yL_even wsL_even) := goodIn_app (goodIn_of _ (by decide +kernel)) ggL_law_L_even
set_option maxRecDepth 20000 in
theorem ggL_law_X1_foresee : GoodIn wsL_law wsX1_foresee := goodIn_ca (goodIn_ca (goodIn_r _ [312, 74, 75, 72, 73, 33, 79, 80, 2, 81, 105, 106, 107, 108, 22, 153, 154, 155, 156, 24, 23, 26, 19, 197, 198, 199, 200, 21, 28, 201, 202, 203, 204, 205, 32, 206, 207, 161, 208, 209, 210, 211, 212, 213, 6, 7, 8, 160, 214, 215, 216, 217, 218, 219, 220, 221, 222, 223, 10, 11, 338, 339, 340, 341, 342, 343, 344, 345, 346, 347, 348, 349, 350, 359, 360, 361, 362] (by decide +kernel) (by decide +kernel)) (goodIn_sub (fun _ h => List.mem_append_left _ (List.mem_append_right _ h)) (by decide +kernel))) (goodIn_sub (fun _ h => List.mem_append_left _ (List.mem_append_left _ (List.mem_append_right _ h))) (by decide +kernel))
set_option maxRecDepth 20000 in
theorem gL_law_X1_foresee : GoodIn wsL_law (wsV RL 116 RX1 yX1_foresee wsX1_foresee) := goodIn_app (goodIn_of _ (by decide +kernel)) ggL_law_X1_foresee
set_option maxRecDepth 20000 in
theorem ggL_law_X1_pass : GoodIn wsL_law wsX1_pass := goodIn_ca (goodIn_r _ [192, 74, 75, 28, 27, 79, 80, 2, 81, 105, 106, 107, 108, 22, 193, 194, 195, 196, 20, 153, 154, 155, 156, 33, 24, 23, 26, 19, 197, 198, 199, 200, 21, 201, 202, 203, 204, 205, 32, 206, 207, 161, 208, 209, 210, 211, 212, 213, 6, 7, 8, 160, 214, 215, 216, 217, 218, 219, 220, 221, 222, 223, 10, 11, 162, 163, 164, 165, 38, 39, 40, 41, 338, 339, 340, 341, 342, 343, 344, 345, 346, 347, 348, 349, 350, 359, 360, 361, 362] (by decide +kernel) (by decide +kernel)) (goodIn_sub (fun _ h => List.mem_append_left _ (List.mem_append_right _ h)) (by decide +kernel))
set_option maxRecDepth 20000 in
theorem gL_law_X1_pass : GoodIn wsL_law (wsV RL 45 RX1 yX1_pass wsX1_pass) := goodIn_app (goodIn_of _ (by decide +kernel)) ggL_law_X1_pass
set_option maxRecDepth 20000 in
theorem ggL_law_X2_pass : GoodIn wsL_law wsX2_pass := goodIn_r _ [227, 54, 57, 228, 56, 131, 130, 58, 136, 135, 59, 229, 230, 231, 134, 232, 233, 140, 234, 351, 352, 353, 354, 355, 356, 357, 358, 363, 364, 365, 366] (by decide +kernel) (by decide +kernel)
set_option maxRecDepth 20000 in
theorem gL_law_X2_pass : GoodIn wsL_law (wsV RL 49 RX2 yX2_pass wsX2_pass) := goodIn_app (goodIn_of _ (by decide +kernel)) ggL_law_X2_pass
set_option maxRecDepth 20000 in
theorem gL_law_X2_isSame : GoodIn wsL_law (wsV RL 122 RX2 yX2_isSame wsX2_isSame) := goodIn_app (goodIn_of _ (by decide +kernel)) ggL_law_X2_isSame
