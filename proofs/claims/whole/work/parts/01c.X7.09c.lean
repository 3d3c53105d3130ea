set_option maxRecDepth 20000 in
theorem ggX7_galois_X7_isSlot : GoodIn wsX7_galois wsX7_isSlot := goodIn_r _ [7] (by decide +kernel) (by decide +kernel)
set_option maxRecDepth 20000 in
theorem gX7_galois_X7_isSlot : GoodIn wsX7_galois (va_wsS RX7 63 yX7_isSlot wsX7_isSlot) := goodIn_app (goodIn_of _ (by decide +kernel)) ggX7_galois_X7_isSlot
set_option maxRecDepth 20000 in
theorem ggX7_galois_X7_refused : GoodIn wsX7_galois wsX7_refused := goodIn_r _ [11, 12, 160, 161, 162, 163, 164, 165, 166, 167, 168, 169, 170, 171, 172, 173, 174, 175, 176, 177, 178, 179, 180, 181, 182, 183, 184] (by decide +kernel) (by decide +kernel)
set_option maxRecDepth 20000 in
theorem gX7_galois_X7_refused : GoodIn wsX7_galois (wsV RX7 70 RX7 yX7_refused wsX7_refused) := goodIn_app (goodIn_of _ (by decide +kernel)) ggX7_galois_X7_refused
set_option maxRecDepth 20000 in
theorem ggX7_galois_X7_degreeOf : GoodIn wsX7_galois wsX7_degreeOf := goodIn_r _ [16, 3, 160, 161, 162, 163, 164, 165, 166, 167, 168, 169, 170, 171, 172, 173, 174, 175, 176, 177, 178, 179, 180, 181, 182, 183, 184] (by decide +kernel) (by decide +kernel)
set_option maxRecDepth 20000 in
theorem gX7_galois_X7_degreeOf : GoodIn wsX7_galois (wsV RX7 39 RX7 yX7_degreeOf wsX7_degreeOf) := goodIn_app (goodIn_of _ (by decide +kernel)) ggX7_galois_X7_degreeOf
set_option maxRecDepth 20000 in
theorem ggX7_galois_X7_takeApart : GoodIn wsX7_galois wsX7_takeApart := goodIn_k _ [[20, 0], [1, 20, 0, 0], [6, 18], [3, 22, 0, 0, 0, 0, 0, 0], [13, 0, 0, 0, 16, 0, 0, 0, 0, 0, 0, 0, 0, 0, 0, 0, 0, 0, 0, 0, 0, 0, 0, 0, 0, 0, 0, 0, 0, 0, 0], [2, 57, 0, 0, 0, 0, 0, 0, 0, 0, 0, 0, 0, 0, 0, 0, 0, 0, 0, 0, 0, 0, 0, 0, 0, 0, 0, 0, 0, 0, 0, 0, 0, 0, 0, 0, 0, 0, 0, 0, 0, 0, 0, 0, 0, 0, 0, 0, 0, 0, 51, 0, 0, 0, 0, 0, 0, 0, 0, 0, 0, 0, 0, 0, 0, 0, 0, 0, 0, 0, 0, 0, 0, 0, 0]] rfl (by decide +kernel)
set_option maxRecDepth 20000 in
theorem gX7_galois_X7_takeApart : GoodIn wsX7_galois (wsV RX7 152 RX7 yX7_takeApart wsX7_takeApart) := goodIn_app (goodIn_of _ (by decide +kernel)) ggX7_galois_X7_takeApart
set_option maxRecDepth 20000 in
theorem ggX7_galois_X7_cubic : GoodIn wsX7_galois wsX7_cubic := goodIn_r _ [112, 113, 114, 115, 116, 117, 6, 118, 119, 120, 121, 122, 123] (by decide +kernel) (by decide +kernel)
set_option maxRecDepth 20000 in
theorem gX7_galois_X7_cubic : GoodIn wsX7_galois (wsV RX7 266 RX7 yX7_cubic wsX7_cubic) := goodIn_app (goodIn_of _ (by decide +kernel)) ggX7_galois_X7_cubic
