set_option maxRecDepth 20000 in
theorem ggL_same_X6_greatestTake : GoodIn wsL_same wsX6_greatestTake := goodIn_r _ [263, 17, 264, 300, 301, 302, 303, 304, 305, 306, 307, 308, 309, 310, 311] (by decide +kernel) (by decide +kernel)
set_option maxRecDepth 20000 in
theorem gL_same_X6_greatestTake : GoodIn wsL_same (wsV RL 97 RX6 yX6_greatestTake wsX6_greatestTake) := goodIn_app (goodIn_of _ (by decide +kernel)) ggL_same_X6_greatestTake
set_option maxRecDepth 20000 in
theorem ggL_same_X6_isSplitting : GoodIn wsL_same wsX6_isSplitting := goodIn_r _ [268, 17, 269, 300, 301, 302, 303, 304, 305, 306, 307, 308, 309, 310, 311] (by decide +kernel) (by decide +kernel)
set_option maxRecDepth 20000 in
theorem gL_same_X6_isSplitting : GoodIn wsL_same (wsV RL 100 RX6 yX6_isSplitting wsX6_isSplitting) := goodIn_app (goodIn_of _ (by decide +kernel)) ggL_same_X6_isSplitting
set_option maxRecDepth 20000 in
theorem ggL_same_X6_isMerging : GoodIn wsL_same wsX6_isMerging := goodIn_r _ [273, 17, 274, 300, 301, 302, 303, 304, 305, 306, 307, 308, 309, 310, 311] (by decide +kernel) (by decide +kernel)
set_option maxRecDepth 20000 in
theorem gL_same_X6_isMerging : GoodIn wsL_same (wsV RL 103 RX6 yX6_isMerging wsX6_isMerging) := goodIn_app (goodIn_of _ (by decide +kernel)) ggL_same_X6_isMerging
set_option maxRecDepth 20000 in
theorem ggL_same_X6_isNormal : GoodIn wsL_same wsX6_isNormal := goodIn_r _ [278, 17, 202, 300, 301, 302, 303, 304, 305, 306, 307, 308, 309, 310, 311] (by decide +kernel) (by decide +kernel)
set_option maxRecDepth 20000 in
theorem gL_same_X6_isNormal : GoodIn wsL_same (wsV RL 106 RX6 yX6_isNormal wsX6_isNormal) := goodIn_app (goodIn_of _ (by decide +kernel)) ggL_same_X6_isNormal
set_option maxRecDepth 20000 in
theorem ggL_same_X6_player : GoodIn wsL_same wsX6_player := goodIn_r _ [282, 283, 284, 285, 15, 286, 17, 287, 300, 301, 302, 303, 304, 305, 306, 307, 308, 309, 310, 311] (by decide +kernel) (by decide +kernel)
set_option maxRecDepth 20000 in
theorem gL_same_X6_player : GoodIn wsL_same (wsV RL 109 RX6 yX6_player wsX6_player) := goodIn_app (goodIn_of _ (by decide +kernel)) ggL_same_X6_player
set_option maxRecDepth 20000 in
theorem ggL_same_X6_made : GoodIn wsL_same wsX6_made := goodIn_r _ [286, 17, 287, 300, 301, 302, 303, 304, 305, 306, 307, 308, 309, 310, 311] (by decide +kernel) (by decide +kernel)
set_option maxRecDepth 20000 in
theorem gL_same_X6_made : GoodIn wsL_same (wsV RL 112 RX6 yX6_made wsX6_made) := goodIn_app (goodIn_of _ (by decide +kernel)) ggL_same_X6_made
set_option maxRecDepth 20000 in
theorem ggL_same_X6_madeOf : GoodIn wsL_same wsX6_madeOf := goodIn_ca (goodIn_r _ [292, 293, 294, 17, 287, 300, 301, 302, 303, 304, 305, 306, 307, 308, 309, 310, 311] (by decide +kernel) (by decide +kernel)) (goodIn_sub (fun _ h => List.mem_cons_of_mem _ (List.mem_append_right _ h)) (by decide +kernel))
set_option maxRecDepth 20000 in
theorem gL_same_X6_madeOf : GoodIn wsL_same (wsV RL 115 RX6 yX6_madeOf wsX6_madeOf) := goodIn_app (goodIn_of _ (by decide +kernel)) ggL_same_X6_madeOf
