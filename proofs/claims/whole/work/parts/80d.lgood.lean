set_option maxRecDepth 20000 in
theorem ggL_law_X6_stones : GoodIn wsL_law wsX6_stones := goodIn_r _ [442, 16, 126, 127, 128, 15, 129, 38, 37, 989, 990, 991, 992, 993, 1021, 1022, 1023, 1024, 1025, 1026, 1027] (by decide +kernel) (by decide +kernel)
set_option maxRecDepth 20000 in
theorem gL_law_X6_stones : GoodIn wsL_law (wsV RL 117 RX6 yX6_stones wsX6_stones) := goodIn_app (goodIn_of _ (by decide +kernel)) ggL_law_X6_stones
set_option maxRecDepth 20000 in
theorem ggL_law_X7_stones : GoodIn wsL_law wsX7_stones := goodIn_r _ [446, 144, 145, 146, 5, 147, 83, 424, 425, 426, 427, 138, 994, 995, 996, 997, 998, 999, 1000, 1001, 1002, 1003, 1004, 1005, 1006, 1007, 1008, 1009, 1010, 1011, 1012, 1013, 1014, 1015, 1016, 1017, 1018, 1019, 1020] (by decide +kernel) (by decide +kernel)
set_option maxRecDepth 20000 in
theorem gL_law_X7_stones : GoodIn wsL_law (wsV RL 120 RX7 yX7_stones wsX7_stones) := goodIn_app (goodIn_of _ (by decide +kernel)) ggL_law_X7_stones
set_option maxRecDepth 20000 in
theorem ggL_law_X6_greatestTake : GoodIn wsL_law wsX6_greatestTake := goodIn_r _ [450, 16, 185, 989, 990, 991, 992, 993, 1021, 1022, 1023, 1024, 1025, 1026, 1027] (by decide +kernel) (by decide +kernel)
set_option maxRecDepth 20000 in
theorem gL_law_X6_greatestTake : GoodIn wsL_law (wsV RL 121 RX6 yX6_greatestTake wsX6_greatestTake) := goodIn_app (goodIn_of _ (by decide +kernel)) ggL_law_X6_greatestTake
set_option maxRecDepth 20000 in
theorem ggL_law_X7_greatestTake : GoodIn wsL_law wsX7_greatestTake := goodIn_r _ [454, 83, 424, 425, 426, 5, 427, 138, 994, 995, 996, 997, 998, 999, 1000, 1001, 1002, 1003, 1004, 1005, 1006, 1007, 1008, 1009, 1010, 1011, 1012, 1013, 1014, 1015, 1016, 1017, 1018, 1019, 1020] (by decide +kernel) (by decide +kernel)
set_option maxRecDepth 20000 in
theorem gL_law_X7_greatestTake : GoodIn wsL_law (wsV RL 124 RX7 yX7_greatestTake wsX7_greatestTake) := goodIn_app (goodIn_of _ (by decide +kernel)) ggL_law_X7_greatestTake
set_option maxRecDepth 20000 in
theorem ggL_law_X6_isSplitting : GoodIn wsL_law wsX6_isSplitting := goodIn_r _ [458, 16, 194, 989, 990, 991, 992, 993, 1021, 1022, 1023, 1024, 1025, 1026, 1027] (by decide +kernel) (by decide +kernel)
set_option maxRecDepth 20000 in
theorem gL_law_X6_isSplitting : GoodIn wsL_law (wsV RL 125 RX6 yX6_isSplitting wsX6_isSplitting) := goodIn_app (goodIn_of _ (by decide +kernel)) ggL_law_X6_isSplitting
set_option maxRecDepth 20000 in
theorem ggL_law_X7_isSplitting : GoodIn wsL_law wsX7_isSplitting := goodIn_r _ [462, 83, 424, 425, 426, 5, 427, 138, 994, 995, 996, 997, 998, 999, 1000, 1001, 1002, 1003, 1004, 1005, 1006, 1007, 1008, 1009, 1010, 1011, 1012, 1013, 1014, 1015, 1016, 1017, 1018, 1019, 1020] (by decide +kernel) (by decide +kernel)
set_option maxRecDepth 20000 in
theorem gL_law_X7_isSplitting : GoodIn wsL_law (wsV RL 128 RX7 yX7_isSplitting wsX7_isSplitting) := goodIn_app (goodIn_of _ (by decide +kernel)) ggL_law_X7_isSplitting
set_option maxRecDepth 20000 in
theorem ggL_law_X6_isMerging : GoodIn wsL_law wsX6_isMerging := goodIn_r _ [466, 16, 207, 989, 990, 991, 992, 993, 1021, 1022, 1023, 1024, 1025, 1026, 1027] (by decide +kernel) (by decide +kernel)
set_option maxRecDepth 20000 in
theorem gL_law_X6_isMerging : GoodIn wsL_law (wsV RL 129 RX6 yX6_isMerging wsX6_isMerging) := goodIn_app (goodIn_of _ (by decide +kernel)) ggL_law_X6_isMerging
set_option maxRecDepth 20000 in
theorem ggL_law_X7_isMerging : GoodIn wsL_law wsX7_isMerging := goodIn_r _ [470, 83, 424, 425, 426, 5, 427, 138, 994, 995, 996, 997, 998, 999, 1000, 1001, 1002, 1003, 1004, 1005, 1006, 1007, 1008, 1009, 1010, 1011, 1012, 1013, 1014, 1015, 1016, 1017, 1018, 1019, 1020] (by decide +kernel) (by decide +kernel)
set_option maxRecDepth 20000 in
theorem gL_law_X7_isMerging : GoodIn wsL_law (wsV RL 132 RX7 yX7_isMerging wsX7_isMerging) := goodIn_app (goodIn_of _ (by decide +kernel)) ggL_law_X7_isMerging
set_option maxRecDepth 20000 in
theorem ggL_law_X6_isNormal : GoodIn wsL_law wsX6_isNormal := goodIn_r _ [474, 16, 216, 989, 990, 991, 992, 993, 1021, 1022, 1023, 1024, 1025, 1026, 1027] (by decide +kernel) (by decide +kernel)
set_option maxRecDepth 20000 in
theorem gL_law_X6_isNormal : GoodIn wsL_law (wsV RL 133 RX6 yX6_isNormal wsX6_isNormal) := goodIn_app (goodIn_of _ (by decide +kernel)) ggL_law_X6_isNormal
set_option maxRecDepth 20000 in
theorem ggL_law_X7_isNormal : GoodIn wsL_law wsX7_isNormal := goodIn_r _ [478, 83, 424, 425, 426, 5, 427, 138, 994, 995, 996, 997, 998, 999, 1000, 1001, 1002, 1003, 1004, 1005, 1006, 1007, 1008, 1009, 1010, 1011, 1012, 1013, 1014, 1015, 1016, 1017, 1018, 1019, 1020] (by decide +kernel) (by decide +kernel)
set_option maxRecDepth 20000 in
theorem gL_law_X7_isNormal : GoodIn wsL_law (wsV RL 136 RX7 yX7_isNormal wsX7_isNormal) := goodIn_app (goodIn_of _ (by decide +kernel)) ggL_law_X7_isNormal
set_option maxRecDepth 20000 in
theorem ggL_law_X6_player : GoodIn wsL_law wsX6_player := goodIn_r _ [482, 483, 484, 485, 2, 486, 16, 487, 989, 990, 991, 992, 993, 1021, 1022, 1023, 1024, 1025, 1026, 1027] (by decide +kernel) (by decide +kernel)
set_option maxRecDepth 20000 in
theorem gL_law_X6_player : GoodIn wsL_law (wsV RL 137 RX6 yX6_player wsX6_player) := goodIn_app (goodIn_of _ (by decide +kernel)) ggL_law_X6_player
set_option maxRecDepth 20000 in
theorem ggL_law_X7_player : GoodIn wsL_law wsX7_player := goodIn_r _ [491, 492, 493, 494, 5, 495, 83, 424, 425, 426, 427, 138, 994, 995, 996, 997, 998, 999, 1000, 1001, 1002, 1003, 1004, 1005, 1006, 1007, 1008, 1009, 1010, 1011, 1012, 1013, 1014, 1015, 1016, 1017, 1018, 1019, 1020] (by decide +kernel) (by decide +kernel)
set_option maxRecDepth 20000 in
theorem gL_law_X7_player : GoodIn wsL_law (wsV RL 140 RX7 yX7_player wsX7_player) := goodIn_app (goodIn_of _ (by decide +kernel)) ggL_law_X7_player
set_option maxRecDepth 20000 in
theorem ggL_law_X6_made : GoodIn wsL_law wsX6_made := goodIn_r _ [486, 16, 487, 989, 990, 991, 992, 993, 1021, 1022, 1023, 1024, 1025, 1026, 1027] (by decide +kernel) (by decide +kernel)
set_option maxRecDepth 20000 in
theorem gL_law_X6_made : GoodIn wsL_law (wsV RL 141 RX6 yX6_made wsX6_made) := goodIn_app (goodIn_of _ (by decide +kernel)) ggL_law_X6_made
set_option maxRecDepth 20000 in
theorem ggL_law_X7_made : GoodIn wsL_law wsX7_made := goodIn_r _ [500, 492, 493, 494, 5, 495, 83, 424, 425, 426, 427, 138, 994, 995, 996, 997, 998, 999, 1000, 1001, 1002, 1003, 1004, 1005, 1006, 1007, 1008, 1009, 1010, 1011, 1012, 1013, 1014, 1015, 1016, 1017, 1018, 1019, 1020] (by decide +kernel) (by decide +kernel)
set_option maxRecDepth 20000 in
theorem gL_law_X7_made : GoodIn wsL_law (wsV RL 144 RX7 yX7_made wsX7_made) := goodIn_app (goodIn_of _ (by decide +kernel)) ggL_law_X7_made
