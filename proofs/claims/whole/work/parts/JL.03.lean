set_option maxRecDepth 20000 in
theorem ggL_law_X7_multiply : GoodIn wsL_law wsX7_multiply := goodIn_k _ [[229], [97, 37, 0], [5, 131, 3, 0, 0, 0, 0, 84, 0, 0, 0, 0, 0, 0, 0], [146, 0, 0, 0, 51, 0, 0, 0, 0, 0, 0, 0, 0, 0, 587, 0, 0, 0, 0, 0, 0, 0, 0, 0, 0, 0, 0, 0, 0, 0, 0, 0, 0, 0, 0, 0, 0, 0, 0]] rfl (by decide +kernel)
set_option maxRecDepth 20000 in
theorem gL_law_X7_multiply : GoodIn wsL_law (wsV RL 69 RX7 yX7_multiply wsX7_multiply) := goodIn_app (goodIn_of _ (by decide +kernel)) ggL_law_X7_multiply
set_option maxRecDepth 20000 in
theorem ggL_law_L_derive : GoodIn wsL_law wsL_derive := goodIn_ca (goodIn_k _ [[240], [109, 131, 0, 0], [2, 241], [17], [13, 102, 0, 0, 0, 0, 124, 0, 0], [16, 231], [40], [39, 182, 0, 0, 0], [179], [128, 0, 0, 49, 0, 0, 0], [115, 68, 0, 0, 0, 0, 0, 0, 0, 0, 0, 0, 0, 0, 592, 0, 0, 0, 0, 0, 0, 0, 0, 25, 0]] rfl (by decide +kernel)) (goodIn_sub (fun _ h => List.mem_append_right _ h) (by decide +kernel))
set_option maxRecDepth 20000 in
theorem gL_law_L_derive : GoodIn wsL_law (va_wsS RL 70 yL_derive wsL_derive) := goodIn_app (goodIn_of _ (by decide +kernel)) ggL_law_L_derive
set_option maxRecDepth 20000 in
theorem ggL_law_X7_derive : GoodIn wsL_law wsX7_derive := goodIn_k _ [[252], [97, 37, 0], [5, 131, 3, 0, 0, 0, 0, 84, 0, 0, 0], [201, 0, 0, 0, 0, 0, 0, 0, 0, 0], [146, 0, 0, 0, 648, 0, 0, 0, 0, 0, 0, 0, 0, 0, 0, 0, 0, 0, 0, 0, 0, 0, 0, 0, 0, 0, 0, 0, 0]] rfl (by decide +kernel)
set_option maxRecDepth 20000 in
theorem gL_law_X7_derive : GoodIn wsL_law (wsV RL 72 RX7 yX7_derive wsX7_derive) := goodIn_app (goodIn_of _ (by decide +kernel)) ggL_law_X7_derive
set_option maxRecDepth 20000 in
theorem ggL_law_L_divide : GoodIn wsL_law wsL_divide := goodIn_ca (goodIn_k _ [[255], [109, 146, 0, 0], [2, 256], [13, 101], [17, 0, 153, 0, 0], [116, 0, 0, 0, 0, 139, 0, 0], [16, 246], [40], [39, 224, 0, 0, 0, 0], [222, 0, 0, 0, 43], [190, 0, 0, 0, 0, 0, 0, 73, 0, 0, 0, 0, 0, 0, 0], [179], [128, 0, 0, 49, 0, 0, 0, 0, 0, 0, 0, 0, 0, 599, 0, 0, 0, 0, 0, 0, 0, 0, 25, 0]] rfl (by decide +kernel)) (goodIn_sub (fun _ h => List.mem_append_right _ h) (by decide +kernel))
set_option maxRecDepth 20000 in
theorem gL_law_L_divide : GoodIn wsL_law (va_wsS RL 73 yL_divide wsL_divide) := goodIn_app (goodIn_of _ (by decide +kernel)) ggL_law_L_divide
set_option maxRecDepth 20000 in
theorem ggL_law_X7_divide : GoodIn wsL_law wsX7_divide := goodIn_k _ [[281], [135, 0], [5, 131, 3, 0, 0, 0, 0, 88, 0, 0, 0], [146, 0, 0, 0], [97, 184, 0, 0, 0], [207, 0, 0, 0, 19, 0, 0, 0], [201, 0, 0, 0, 0, 0, 591, 0, 0, 0, 0, 0, 0, 0, 0, 0, 0, 0, 0, 0, 0, 0, 0, 0, 0, 0, 0, 0, 0, 0, 0]] rfl (by decide +kernel)
set_option maxRecDepth 20000 in
theorem gL_law_X7_divide : GoodIn wsL_law (wsV RL 75 RX7 yX7_divide wsX7_divide) := goodIn_app (goodIn_of _ (by decide +kernel)) ggL_law_X7_divide
set_option maxRecDepth 20000 in
theorem ggL_law_L_common : GoodIn wsL_law wsL_common := goodIn_ca (goodIn_k _ [[288], [109, 179, 0, 0], [2, 289], [18], [13, 5, 95], [17, 12, 141, 0, 0], [116, 0, 0, 0, 0, 68, 0, 0], [16, 175], [39, 153, 0, 0, 0], [40, 252, 0, 0, 0, 0, 0, 0, 0, 0, 0, 0], [265, 0, 0, 2, 0, 0, 0, 0, 0, 0, 0, 26, 0, 0], [29, 277], [56, 5, 0, 0, 243, 0, 0, 0], [72, 239], [87, 0, 224, 0, 0, 0, 0, 0, 0, 0, 0, 0], [128, 0, 0, 192, 0, 0, 0], [91, 0, 234, 0, 0, 0, 0, 0, 0, 0, 0, 0, 0, 0, 0, 0, 0, 0, 0, 0, 0, 0], [176, 0, 0, 0, 167, 0, 0, 0, 0, 0, 0, 0, 0, 0, 0, 0], [186, 0, 0, 170], [261, 0, 0, 0, 3], [222, 0, 0, 0, 43, 90, 0, 0, 0], [180, 0, 0, 0, 0, 0, 603, 0, 0, 0, 0, 0, 0, 0, 0, 25, 0, 4, 0, 0, 0, 0, 0, 0, 0, 0, 0, 10, 0, 0, 0]] rfl (by decide +kernel)) (goodIn_sub (fun _ h => List.mem_append_right _ h) (by decide +kernel))
set_option maxRecDepth 20000 in
theorem gL_law_L_common : GoodIn wsL_law (va_wsS RL 76 yL_common wsL_common) := goodIn_app (goodIn_of _ (by decide +kernel)) ggL_law_L_common
set_option maxRecDepth 20000 in
theorem ggL_law_X7_common : GoodIn wsL_law wsX7_common := goodIn_k _ [[367, 0, 0, 0], [99], [98], [97, 37, 0], [5, 131, 3, 0, 0, 0, 0, 88, 0, 0, 0], [146, 0, 0, 0, 57, 0, 0, 0, 160, 0, 0, 0, 0, 0, 0], [201, 0, 0, 0, 0, 0, 171, 0, 0, 0, 0, 0, 0, 0, 0, 0], [103, 126, 0, 0, 0, 154, 0, 0, 0], [282, 0, 0, 0, 106, 0, 0, 0, 0, 0, 0, 0, 0, 0, 0, 0, 0, 0, 0, 0, 0, 0, 0, 0, 0, 0, 0, 0, 0, 0, 0, 0, 0, 0, 0, 0, 0, 0, 0, 0, 0, 0, 0, 0, 0, 0, 0, 0, 0, 0, 0, 0, 0, 0, 0, 0, 0, 0, 0, 0, 0, 349, 0, 0, 0, 0, 0, 0, 0, 0, 0, 0, 0, 0, 0, 0, 0, 0, 0, 0, 0, 0, 0, 0, 0, 0]] rfl (by decide +kernel)
set_option maxRecDepth 20000 in
theorem gL_law_X7_common : GoodIn wsL_law (wsV RL 78 RX7 yX7_common wsX7_common) := goodIn_app (goodIn_of _ (by decide +kernel)) ggL_law_X7_common
set_option maxRecDepth 20000 in
theorem ggL_law_L_parts : GoodIn wsL_law wsL_parts := goodIn_ca (goodIn_k _ [[451], [109, 342, 0, 0], [2, 452], [13, 101], [30], [23, 432, 0], [116, 0, 0, 0, 0, 337, 0, 0], [29, 431], [66, 395], [58, 1, 0], [59, 4], [54, 408], [298, 0], [16, 283], [40], [39, 261, 0, 0], [265, 0, 0, 2, 0, 0, 0, 0, 0, 0, 0, 186, 0, 0], [22, 444], [46, 0, 420], [190, 0, 0, 0, 0, 0, 0, 155], [294, 0, 0, 0, 171], [246, 0, 0], [222, 0, 0, 0], [179], [128, 0, 0, 339], [305, 0, 0], [56, 5, 0, 244, 0, 0, 0], [72, 239], [87, 0, 224, 0, 0, 0, 0, 0, 0, 0, 0, 0, 0, 0, 0, 0], [91, 0, 234, 0, 0, 0, 0, 0, 0, 0, 0, 0, 0, 0, 0, 0, 0, 0, 0, 0, 0, 0], [176, 0, 0, 168, 0, 0, 0, 0, 1, 0, 0, 0, 0, 0], [186, 0, 0, 170], [261, 0, 0, 0, 3, 0, 90, 0, 0, 0, 107, 0, 0, 0, 0, 0, 0], [53, 424], [73, 1, 403], [78], [76, 2, 400, 0, 0, 0, 0, 0, 0, 0, 0], [83], [81], [80, 408, 0, 0, 0, 0, 0, 0], [77, 418, 0, 0, 0, 0, 0, 0, 0, 0, 0], [89, 416, 0, 0, 0, 0, 0, 0, 0, 0, 0, 0, 0, 0, 0, 0, 0, 0, 0, 0, 0, 0, 0, 0, 0, 0, 0, 0, 0, 0], [82, 452, 0, 0, 0, 0, 0, 0, 0, 0, 0, 0, 0, 0, 0, 0, 0, 0, 0, 0, 0, 0, 0], [219, 0, 0, 335, 0, 0, 0], [44, 0, 515, 0, 0, 0, 0, 0, 0, 0, 0, 0, 0, 0, 0, 0, 0, 0, 0, 0, 0, 0, 0, 0, 0, 0, 0, 0, 0, 0, 0, 0, 0, 0, 196, 0, 0, 0, 0, 0, 0, 0, 0, 25, 0, 4, 0, 0, 0, 0, 0, 0, 0, 0, 0], [825, 0, 0, 0, 20, 0, 0, 0], [839, 0, 0, 0, 0, 0, 0, 0, 0, 0]] rfl (by decide +kernel)) (goodIn_sub (fun _ h => List.mem_append_right _ h) (by decide +kernel))
set_option maxRecDepth 20000 in
theorem gL_law_L_parts : GoodIn wsL_law (va_wsS RL 79 yL_parts wsL_parts) := goodIn_app (goodIn_of _ (by decide +kernel)) ggL_law_L_parts
set_option maxRecDepth 20000 in
theorem ggL_law_X7_parts : GoodIn wsL_law wsX7_parts := goodIn_k _ [[596], [369, 227], [368, 229], [101], [98, 1], [97, 37, 0], [5, 131, 3, 0, 0, 0, 0, 88, 0, 0, 0], [146, 0, 0, 0, 228, 0, 0, 0], [207, 0, 0, 0, 160, 0, 0, 0, 0, 0, 0, 4, 0, 0, 0, 0, 0], [103, 126, 0, 0, 0, 154, 0, 0, 0], [282, 0, 0, 0, 106, 0, 0, 0, 0, 0, 0, 0, 0, 0, 0, 0, 0, 0, 0, 0, 0, 0, 0, 0, 0, 0, 0, 0, 0, 0, 0, 0, 0, 0, 0, 0, 0, 0, 0, 0, 0, 0, 0, 0, 0, 0, 0, 0, 0, 0, 0, 0, 0, 0, 0, 0, 0, 353, 0, 0, 0, 0, 0, 0, 0, 0, 0, 0, 0, 0, 0, 0, 0, 0, 0, 0, 0, 0, 0, 0, 0, 0]] rfl (by decide +kernel)
set_option maxRecDepth 20000 in
theorem gL_law_X7_parts : GoodIn wsL_law (wsV RL 82 RX7 yX7_parts wsX7_parts) := goodIn_app (goodIn_of _ (by decide +kernel)) ggL_law_X7_parts
set_option maxRecDepth 20000 in
theorem ggL_law_X6_part : GoodIn wsL_law wsX6_part := goodIn_k _ [[602], [23, 579, 0, 0, 0], [22, 584], [46, 561], [275, 0], [16, 260], [39, 749, 0, 0, 0, 0, 0, 0, 0, 0, 27, 0, 0, 0], [823, 0]] rfl (by decide +kernel)
set_option maxRecDepth 20000 in
theorem gL_law_X6_part : GoodIn wsL_law (wsV RL 83 RX6 yX6_part wsX6_part) := goodIn_app (goodIn_of _ (by decide +kernel)) ggL_law_X6_part
