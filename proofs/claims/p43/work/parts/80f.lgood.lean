set_option maxRecDepth 20000 in
theorem ggL_law_L_cell : GoodIn wsL_law wsL_cell := goodIn_r _ [99, 100, 101] (by decide +kernel) (by decide +kernel)
set_option maxRecDepth 20000 in
theorem gL_law_L_cell : GoodIn wsL_law (va_wsS RL 142 yL_cell wsL_cell) := goodIn_app (goodIn_of _ (by decide +kernel)) ggL_law_L_cell
set_option maxRecDepth 20000 in
theorem ggL_law_L_low : GoodIn wsL_law wsL_low := goodIn_r _ [104, 105] (by decide +kernel) (by decide +kernel)
set_option maxRecDepth 20000 in
theorem gL_law_L_low : GoodIn wsL_law (va_wsS RL 146 yL_low wsL_low) := goodIn_app (goodIn_of _ (by decide +kernel)) ggL_law_L_low
set_option maxRecDepth 20000 in
theorem ggL_law_X6_addHeap : GoodIn wsL_law wsX6_addHeap := goodIn_ca (goodIn_ca (goodIn_r _ [109, 110, 111, 112, 113, 13, 17, 114, 115, 116, 117, 12, 118, 34, 33, 119, 120, 121, 16, 122, 45, 46, 47, 123, 124, 125, 126, 127, 128, 129, 130, 131, 132, 133, 134, 35, 36, 37, 38, 39, 135, 136, 137, 138, 453, 454, 455, 456, 457, 458, 459, 460, 461, 462, 463, 464, 465, 466, 467] (by decide +kernel) (by decide +kernel)) (goodIn_sub (fun _ h => List.mem_append_left _ (List.mem_append_left _ (List.mem_append_right _ h))) (by decide +kernel))) (goodIn_sub (fun _ h => List.mem_append_left _ (List.mem_append_right _ h)) (by decide +kernel))
set_option maxRecDepth 20000 in
theorem gL_law_X6_addHeap : GoodIn wsL_law (wsV RL 149 RX6 yX6_addHeap wsX6_addHeap) := goodIn_app (goodIn_of _ (by decide +kernel)) ggL_law_X6_addHeap
set_option maxRecDepth 20000 in
theorem ggL_law_X6_begin : GoodIn wsL_law wsX6_begin := goodIn_r _ [142, 17, 13, 119, 120, 121, 16, 122, 45, 46, 47, 123, 124, 125, 126, 127, 128, 129, 12, 130, 33, 131, 132, 133, 134, 34, 35, 36, 37, 38, 39, 115, 116, 117, 118, 143, 144, 145, 146, 453, 454, 455, 456, 457, 465, 466, 467, 458, 459, 460, 461, 462, 463, 464] (by decide +kernel) (by decide +kernel)
set_option maxRecDepth 20000 in
theorem gL_law_X6_begin : GoodIn wsL_law (wsV RL 152 RX6 yX6_begin wsX6_begin) := goodIn_app (goodIn_of _ (by decide +kernel)) ggL_law_X6_begin
set_option maxRecDepth 20000 in
theorem ggL_law_X6_setGreatestTake : GoodIn wsL_law wsX6_setGreatestTake := goodIn_ca (goodIn_r _ [150, 110, 111, 17, 13, 151, 119, 120, 121, 16, 122, 45, 46, 47, 123, 124, 125, 126, 127, 128, 129, 12, 130, 33, 131, 132, 133, 134, 34, 35, 36, 37, 38, 39, 453, 454, 455, 456, 457, 458, 459, 460, 461, 462, 463, 464, 465, 466, 467] (by decide +kernel) (by decide +kernel)) (goodIn_sub (fun _ h => List.mem_append_left _ (List.mem_append_left _ (List.mem_append_right _ h))) (by decide +kernel))
set_option maxRecDepth 20000 in
theorem gL_law_X6_setGreatestTake : GoodIn wsL_law (wsV RL 155 RX6 yX6_setGreatestTake wsX6_setGreatestTake) := goodIn_app (goodIn_of _ (by decide +kernel)) ggL_law_X6_setGreatestTake
set_option maxRecDepth 20000 in
theorem ggL_law_X6_turnSplitting : GoodIn wsL_law wsX6_turnSplitting := goodIn_r _ [155, 17, 13, 156, 119, 120, 121, 16, 122, 45, 46, 47, 123, 124, 125, 126, 127, 128, 129, 12, 130, 33, 131, 132, 133, 134, 34, 35, 36, 37, 38, 39, 453, 454, 455, 456, 457, 458, 459, 460, 461, 462, 463, 464, 465, 466, 467] (by decide +kernel) (by decide +kernel)
set_option maxRecDepth 20000 in
theorem gL_law_X6_turnSplitting : GoodIn wsL_law (wsV RL 158 RX6 yX6_turnSplitting wsX6_turnSplitting) := goodIn_app (goodIn_of _ (by decide +kernel)) ggL_law_X6_turnSplitting
set_option maxRecDepth 20000 in
theorem ggL_law_X6_turnMerging : GoodIn wsL_law wsX6_turnMerging := goodIn_r _ [160, 17, 13, 161, 119, 120, 121, 16, 122, 45, 46, 47, 123, 124, 125, 126, 127, 128, 129, 12, 130, 33, 131, 132, 133, 134, 34, 35, 36, 37, 38, 39, 453, 454, 455, 456, 457, 458, 459, 460, 461, 462, 463, 464, 465, 466, 467] (by decide +kernel) (by decide +kernel)
set_option maxRecDepth 20000 in
theorem gL_law_X6_turnMerging : GoodIn wsL_law (wsV RL 161 RX6 yX6_turnMerging wsX6_turnMerging) := goodIn_app (goodIn_of _ (by decide +kernel)) ggL_law_X6_turnMerging
