set_option maxRecDepth 20000 in
theorem ggL_same_L_code : GoodIn wsL_same wsL_code := goodIn_r _ [5, 6, 7, 4, 8] (by decide +kernel) (by decide +kernel)
set_option maxRecDepth 20000 in
theorem gL_same_L_code : GoodIn wsL_same (va_wsS RL 20 yL_code wsL_code) := goodIn_app (goodIn_of _ (by decide +kernel)) ggL_same_L_code
set_option maxRecDepth 20000 in
theorem ggL_same_L_find : GoodIn wsL_same wsL_find := goodIn_r _ [11] (by decide +kernel) (by decide +kernel)
set_option maxRecDepth 20000 in
theorem gL_same_L_find : GoodIn wsL_same (va_wsS RL 24 yL_find wsL_find) := goodIn_app (goodIn_of _ (by decide +kernel)) ggL_same_L_find
set_option maxRecDepth 20000 in
theorem ggL_same_X6_stonesOf : GoodIn wsL_same wsX6_stonesOf := goodIn_ca (goodIn_r _ [16, 17, 18, 19, 20, 15, 21, 22, 23, 24, 25, 26, 27, 28, 29, 30, 31, 32, 33, 34, 35, 300, 301, 302, 303, 304, 305, 306, 307, 308, 309, 310, 311] (by decide +kernel) (by decide +kernel)) (goodIn_sub (fun _ h => List.mem_cons_of_mem _ (List.mem_append_left _ (List.mem_append_right _ h))) (by decide +kernel))
set_option maxRecDepth 20000 in
theorem gL_same_X6_stonesOf : GoodIn wsL_same (wsV RL 32 RX6 yX6_stonesOf wsX6_stonesOf) := goodIn_app (goodIn_of _ (by decide +kernel)) ggL_same_X6_stonesOf
set_option maxRecDepth 20000 in
theorem ggL_same_L_move : GoodIn wsL_same wsL_move := goodIn_r _ [38] (by decide +kernel) (by decide +kernel)
set_option maxRecDepth 20000 in
theorem gL_same_L_move : GoodIn wsL_same (va_wsS RL 37 yL_move wsL_move) := goodIn_app (goodIn_of _ (by decide +kernel)) ggL_same_L_move
set_option maxRecDepth 20000 in
theorem ggL_same_L_here : GoodIn wsL_same wsL_here := goodIn_r _ [41, 1, 2, 3, 4, 5, 6, 7, 8] (by decide +kernel) (by decide +kernel)
set_option maxRecDepth 20000 in
theorem gL_same_L_here : GoodIn wsL_same (va_wsS RL 41 yL_here wsL_here) := goodIn_app (goodIn_of _ (by decide +kernel)) ggL_same_L_here
set_option maxRecDepth 20000 in
theorem ggL_same_L_won : GoodIn wsL_same wsL_won := goodIn_r _ [44] (by decide +kernel) (by decide +kernel)
set_option maxRecDepth 20000 in
theorem gL_same_L_won : GoodIn wsL_same (va_wsS RL 44 yL_won wsL_won) := goodIn_app (goodIn_of _ (by decide +kernel)) ggL_same_L_won
set_option maxRecDepth 20000 in
theorem ggL_same_X6_kindOf : GoodIn wsL_same wsX6_kindOf := goodIn_ca (goodIn_r _ [48, 49, 50, 51, 52, 53, 15, 54, 22, 23, 17, 55, 56, 57, 58, 59, 60, 61, 62, 63, 64, 65, 66, 27, 67, 29, 34, 68, 69, 70, 71, 72, 73, 74, 75, 76, 77, 78, 79, 80, 81, 82, 83, 84, 85, 86, 87, 88, 89, 90, 91, 92, 93, 94, 95, 96, 97, 300, 301, 302, 303, 304, 312, 313, 314, 315, 316, 305, 306, 307, 308, 309, 310, 311] (by decide +kernel) (by decide +kernel)) (goodIn_sub (fun _ h => List.mem_cons_of_mem _ (List.mem_append_left _ (List.mem_append_right _ h))) (by decide +kernel))
set_option maxRecDepth 20000 in
theorem gL_same_X6_kindOf : GoodIn wsL_same (wsV RL 48 RX6 yX6_kindOf wsX6_kindOf) := goodIn_app (goodIn_of _ (by decide +kernel)) ggL_same_X6_kindOf
