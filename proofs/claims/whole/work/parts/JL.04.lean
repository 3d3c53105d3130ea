set_option maxRecDepth 20000 in
theorem ggL_law_X7_part : GoodIn wsL_law wsX7_part := goodIn_k _ [[612], [145, 451], [100, 37, 0], [5, 134, 657, 0, 0, 0, 0, 0, 0, 0, 0, 0, 0, 0, 0, 0, 0, 0, 0, 0, 0, 0, 0, 0, 0, 0, 0]] rfl (by decide +kernel)
set_option maxRecDepth 20000 in
theorem gL_law_X7_part : GoodIn wsL_law (wsV RL 87 RX7 yX7_part wsX7_part) := goodIn_app (goodIn_of _ (by decide +kernel)) ggL_law_X7_part
set_option maxRecDepth 20000 in
theorem ggL_law_X6_times : GoodIn wsL_law wsX6_times := goodIn_k _ [[616], [23, 593], [604, 0, 0], [22, 584], [46, 742, 0, 0, 0, 0, 0, 0, 0, 0, 27, 0, 0, 0]] rfl (by decide +kernel)
set_option maxRecDepth 20000 in
theorem gL_law_X6_times : GoodIn wsL_law (wsV RL 88 RX6 yX6_times wsX6_times) := goodIn_app (goodIn_of _ (by decide +kernel)) ggL_law_X6_times
set_option maxRecDepth 20000 in
theorem ggL_law_X7_times : GoodIn wsL_law wsX7_times := goodIn_k _ [[621], [145, 451], [101, 36, 0], [5, 134, 657, 0, 0, 0, 0, 0, 0, 0, 0, 0, 0, 0, 0, 0, 0, 0, 0, 0, 0, 0, 0, 0, 0, 0, 0]] rfl (by decide +kernel)
set_option maxRecDepth 20000 in
theorem gL_law_X7_times : GoodIn wsL_law (wsV RL 91 RX7 yX7_times wsX7_times) := goodIn_app (goodIn_of _ (by decide +kernel)) ggL_law_X7_times
set_option maxRecDepth 20000 in
theorem ggL_law_X6_content : GoodIn wsL_law wsX6_content := goodIn_k _ [[625], [23, 602, 162, 0, 0, 0, 0, 0, 0, 0, 0, 27, 0, 0, 0]] rfl (by decide +kernel)
set_option maxRecDepth 20000 in
theorem gL_law_X6_content : GoodIn wsL_law (wsV RL 92 RX6 yX6_content wsX6_content) := goodIn_app (goodIn_of _ (by decide +kernel)) ggL_law_X6_content
set_option maxRecDepth 20000 in
theorem ggL_law_X7_content : GoodIn wsL_law wsX7_content := goodIn_k _ [[630], [145, 452, 199, 0, 0, 0, 0, 0, 0, 0, 0, 0, 0, 0, 0, 0, 0, 0, 0, 0, 0, 0, 0, 0, 0, 0, 0]] rfl (by decide +kernel)
set_option maxRecDepth 20000 in
theorem gL_law_X7_content : GoodIn wsL_law (wsV RL 95 RX7 yX7_content wsX7_content) := goodIn_app (goodIn_of _ (by decide +kernel)) ggL_law_X7_content
set_option maxRecDepth 20000 in
theorem ggL_law_L_pattern : GoodIn wsL_law wsL_pattern := goodIn_ca (goodIn_k _ [[633], [109, 524, 0, 0], [2, 634], [26], [13, 101], [32, 83, 0, 0, 0, 0, 517, 0, 0, 0], [476, 0], [53, 424], [73, 1, 403], [78], [76, 2, 400], [310, 0], [72, 239], [87, 0, 392], [314, 0, 0, 0, 0, 0, 0, 0, 0], [128, 0], [16, 113], [40], [39, 442], [330, 0, 0], [327, 5], [271, 0, 0, 0, 0, 0, 0, 56, 0, 0, 0, 145], [246, 0, 0], [222, 0, 0, 0], [179, 304], [324, 0, 0], [91, 0, 235], [190, 0, 0, 0, 0, 0, 0, 132, 8, 0, 0, 0, 0, 0, 0, 0, 296], [486, 0, 0], [83], [81], [80, 408, 0, 0, 0, 0, 0, 0], [77, 418, 0, 0, 0, 0, 0, 0, 0, 0, 0], [89, 416, 0], [266, 241, 0, 0, 0, 0, 0, 0, 0, 0, 0, 0, 0, 0, 0, 0, 0, 0, 0], [361, 0, 0, 162, 0, 0, 0, 0, 112, 0, 0, 0, 0], [25, 763, 0, 0, 0, 0, 0, 0, 0, 0, 25, 0, 14, 0, 0, 0, 0, 0, 0, 0, 0, 0, 0, 0, 0, 0]] rfl (by decide +kernel)) (goodIn_sub (fun _ h => List.mem_append_right _ h) (by decide +kernel))
set_option maxRecDepth 20000 in
theorem gL_law_L_pattern : GoodIn wsL_law (va_wsS RL 96 yL_pattern wsL_pattern) := goodIn_app (goodIn_of _ (by decide +kernel)) ggL_law_L_pattern
set_option maxRecDepth 20000 in
theorem ggL_law_X7_pattern : GoodIn wsL_law wsX7_pattern := goodIn_k _ [[651, 0, 0], [104], [97, 4, 32, 0], [5, 131, 516, 0, 0], [141, 0, 0, 0, 0, 0, 0, 0, 0, 507, 0, 0, 0, 0, 0, 0, 0, 0, 0, 0, 0, 0, 0, 0, 0, 0, 0, 0, 0, 0, 0, 0, 0, 0, 0, 0, 0, 113, 0, 0, 0, 0, 0, 0, 0, 0, 0, 0, 0, 0, 0, 0, 0, 0, 0, 0, 0, 0, 0, 0, 0, 0]] rfl (by decide +kernel)
set_option maxRecDepth 20000 in
theorem gL_law_X7_pattern : GoodIn wsL_law (wsV RL 98 RX7 yX7_pattern wsX7_pattern) := goodIn_app (goodIn_of _ (by decide +kernel)) ggL_law_X7_pattern
set_option maxRecDepth 20000 in
theorem ggL_law_X6_degree : GoodIn wsL_law wsX6_degree := goodIn_k _ [[688], [26], [25, 763, 0, 0, 0, 0, 0, 0, 0, 0]] rfl (by decide +kernel)
set_option maxRecDepth 20000 in
theorem gL_law_X6_degree : GoodIn wsL_law (wsV RL 99 RX6 yX6_degree wsX6_degree) := goodIn_app (goodIn_of _ (by decide +kernel)) ggL_law_X6_degree
set_option maxRecDepth 20000 in
theorem ggL_law_X7_degree : GoodIn wsL_law wsX7_degree := goodIn_k _ [[692], [145, 506], [102, 35, 0], [5, 134, 657, 0, 0, 0, 0, 0, 0, 0, 0, 0, 0, 0, 0, 0, 0, 0, 0, 0, 0, 0, 0, 0, 0, 0, 0]] rfl (by decide +kernel)
set_option maxRecDepth 20000 in
theorem gL_law_X7_degree : GoodIn wsL_law (wsV RL 102 RX7 yX7_degree wsX7_degree) := goodIn_app (goodIn_of _ (by decide +kernel)) ggL_law_X7_degree
set_option maxRecDepth 20000 in
theorem ggL_law_L_galois : GoodIn wsL_law wsL_galois := goodIn_ca (goodIn_k _ [[695], [109, 586, 0, 0], [2, 696], [13, 101], [30, 425, 146], [116, 0, 0, 0, 0, 337, 0, 0], [29, 431], [66, 395], [58, 1, 0], [59, 4], [54, 408], [298, 0], [16, 283], [40], [39, 261, 0, 0], [265, 0, 0, 2, 0, 0, 0, 0, 0, 0, 0, 186, 0, 0], [22, 444], [46, 0, 420], [190, 0, 0, 0, 0, 0, 0, 155], [294, 0, 0, 0, 171], [246, 0, 0], [222, 0, 0, 0], [179], [128, 0, 0, 339], [305, 0, 0], [56, 5, 0, 244, 0, 0, 0], [72, 239], [87, 0, 224, 0, 0, 0, 0, 0, 0, 0, 0, 0, 0, 0, 0, 0], [91, 0, 234, 0, 0, 0, 0, 0, 0, 0, 0, 0, 0, 0, 0, 0, 0, 0, 0, 0, 0, 0], [176, 0, 0, 168, 0, 0, 0, 0, 1, 0, 0, 0, 0, 0], [186, 0, 0, 170], [261, 0, 0, 0, 3, 0, 90, 0, 0, 0, 107, 0, 0, 0, 0, 0, 0], [53, 424], [73, 1, 403], [78], [76, 2, 400, 0, 0, 0, 0, 0, 0, 0, 0], [83], [81], [80, 408, 0, 0, 0, 0, 0, 0], [77, 418, 0, 0, 0, 0, 0, 0, 0, 0, 0], [89, 416, 0, 0, 0, 0, 0, 0, 0, 0, 0, 0, 0, 0, 0, 0, 0, 0, 0, 0, 0, 0, 0, 0, 0, 0, 0, 0, 0, 0], [82, 452, 0, 0, 0, 0, 0, 0, 0, 0, 0, 0, 0, 0, 0, 0, 0, 0, 0, 0, 0, 0, 0], [219, 0, 0, 335, 0, 0, 0], [44, 0, 515, 0, 0, 0, 0, 0, 0, 0, 0, 0, 0, 0, 0, 0, 0, 0, 0, 0, 0, 0, 0, 0, 0, 0, 0, 0, 0, 0, 111, 0, 0, 0, 0, 0, 0, 0, 0, 0, 0, 0, 0, 0, 0, 0, 0, 0, 0, 0, 0, 0, 0, 0, 0, 0, 0, 0, 0, 0, 0, 0, 0, 0, 55, 0, 0, 0, 0, 0, 0, 0, 0, 25, 0, 4, 0, 0, 0, 0, 0, 0, 0, 0, 0], [825, 0, 0, 0, 20, 0, 0, 0], [839, 0, 0, 0, 0, 0, 0, 0, 0, 0]] rfl (by decide +kernel)) (goodIn_sub (fun _ h => List.mem_append_right _ h) (by decide +kernel))
set_option maxRecDepth 20000 in
theorem gL_law_L_galois : GoodIn wsL_law (va_wsS RL 103 yL_galois wsL_galois) := goodIn_app (goodIn_of _ (by decide +kernel)) ggL_law_L_galois
