set_option maxRecDepth 20000 in
theorem ggL_undo_X6_undo : GoodIn wsL_undo wsX6_undo := goodIn_ca (goodIn_r _ [6, 7, 8, 9, 10, 11, 12, 13, 14, 15, 16, 17, 18, 19, 20, 21, 22, 23, 24, 25, 26, 27, 28, 29, 30, 31, 32, 33, 34, 35, 36, 37, 38, 39, 40, 41, 42, 43, 44, 45, 46, 47, 48, 49, 50] (by decide +kernel) (by decide +kernel)) (goodIn_sub (fun _ h => List.mem_cons_of_mem _ (List.mem_append_right _ h)) (by decide +kernel))
set_option maxRecDepth 20000 in
theorem gL_undo_X6_undo : GoodIn wsL_undo (wsV RL 61 RX6 yX6_undo wsX6_undo) := goodIn_app (goodIn_of _ (by decide +kernel)) ggL_undo_X6_undo
set_option maxRecDepth 20000 in
theorem ggL_law_X6_init : GoodIn wsL_law wsX6_init := goodIn_r _ [9, 10, 11, 12, 13, 14, 15, 16, 17, 18, 19, 20, 21, 22, 23, 24, 25, 26, 27, 28, 29, 30, 31, 32, 33, 34, 35, 36, 37, 38, 39, 40, 41, 42, 43, 44, 45, 46, 47, 48, 49, 50, 51, 52, 53, 54, 55, 56, 57, 58, 59, 60, 61, 62, 63, 64, 65, 66, 67, 68, 69, 70, 71, 72, 73, 74, 75, 76, 77, 78, 1021, 1022, 1023, 1024, 1025, 1026, 1027, 989, 990, 991, 992, 993, 1028, 1029, 1030, 1031, 1032, 1033, 1034, 1035, 1036, 1037, 1038, 1039, 1040, 1041, 1042, 1043, 1044] (by decide +kernel) (by decide +kernel)
set_option maxRecDepth 20000 in
theorem gL_law_X6_init : GoodIn wsL_law (wsX6_init) := ggL_law_X6_init
set_option maxRecDepth 20000 in
theorem ggL_law_X7_init : GoodIn wsL_law wsX7_init := goodIn_r _ [81, 82, 11, 12, 36, 83, 84, 85, 86, 87, 88, 89, 90, 91, 92, 93, 94, 95, 96, 97, 98, 99, 100, 5, 101, 102, 103, 104, 105, 994, 995, 996, 997, 998, 999, 1000, 1001, 1002, 1003, 1004, 1005, 1006, 1007, 1008, 1009, 1010, 1011, 1012, 1013, 1014, 1015, 1016, 1017, 1018, 1019, 1020] (by decide +kernel) (by decide +kernel)
set_option maxRecDepth 20000 in
theorem gL_law_X7_init : GoodIn wsL_law (wsX7_init) := ggL_law_X7_init
set_option maxRecDepth 20000 in
theorem ggL_law_X6_begin : GoodIn wsL_law wsX6_begin := goodIn_r _ [109, 20, 16, 110, 111, 112, 19, 113, 49, 50, 51, 114, 115, 116, 117, 118, 119, 120, 15, 121, 37, 122, 123, 124, 125, 38, 39, 40, 41, 42, 43, 126, 127, 128, 129, 130, 131, 132, 133, 989, 990, 991, 992, 993, 1028, 1029, 1030, 1021, 1022, 1023, 1024, 1025, 1026, 1027] (by decide +kernel) (by decide +kernel)
set_option maxRecDepth 20000 in
theorem gL_law_X6_begin : GoodIn wsL_law (wsV RL 68 RX6 yX6_begin wsX6_begin) := goodIn_app (goodIn_of _ (by decide +kernel)) ggL_law_X6_begin
set_option maxRecDepth 20000 in
theorem ggL_law_X7_begin : GoodIn wsL_law wsX7_begin := goodIn_r _ [137, 138, 83, 139, 140, 141, 5, 142, 143, 84, 144, 145, 146, 147, 994, 995, 996, 997, 998, 999, 1000, 1001, 1002, 1003, 1004, 1005, 1006, 1007, 1008, 1009, 1010, 1011, 1012, 1013, 1014, 1015, 1016, 1017, 1018, 1019, 1020] (by decide +kernel) (by decide +kernel)
set_option maxRecDepth 20000 in
theorem gL_law_X7_begin : GoodIn wsL_law (wsV RL 71 RX7 yX7_begin wsX7_begin) := goodIn_app (goodIn_of _ (by decide +kernel)) ggL_law_X7_begin
set_option maxRecDepth 20000 in
theorem ggL_law_L_addHeap : GoodIn wsL_law wsL_addHeap := goodIn_ca (goodIn_ca (goodIn_r _ [151, 152, 153, 154, 155, 156, 2, 157, 158, 159, 160, 161, 16, 20, 162, 126, 127, 128, 15, 129, 38, 37, 110, 111, 112, 19, 113, 49, 50, 51, 114, 115, 116, 117, 118, 119, 120, 121, 122, 123, 124, 125, 39, 40, 41, 42, 43, 163, 164, 165, 166, 989, 990, 991, 992, 993, 1021, 1022, 1023, 1024, 1025, 1026, 1027, 1028, 1029, 1030] (by decide +kernel) (by decide +kernel)) (goodIn_sub (fun _ h => List.mem_append_left _ (List.mem_append_left _ (List.mem_append_right _ h))) (by decide +kernel))) (goodIn_sub (fun _ h => List.mem_append_left _ (List.mem_append_right _ h)) (by decide +kernel))
set_option maxRecDepth 20000 in
theorem gL_law_L_addHeap : GoodIn wsL_law (va_wsS RL 72 yL_addHeap wsL_addHeap) := goodIn_app (goodIn_of _ (by decide +kernel)) ggL_law_L_addHeap
set_option maxRecDepth 20000 in
theorem ggL_law_X7_addHeap : GoodIn wsL_law wsX7_addHeap := goodIn_r _ [170, 138, 83, 171, 172, 5, 173, 144, 145, 146, 147, 139, 140, 141, 142, 143, 84, 994, 995, 996, 997, 998, 999, 1000, 1001, 1002, 1003, 1004, 1005, 1006, 1007, 1008, 1009, 1010, 1011, 1012, 1013, 1014, 1015, 1016, 1017, 1018, 1019, 1020] (by decide +kernel) (by decide +kernel)
set_option maxRecDepth 20000 in
theorem gL_law_X7_addHeap : GoodIn wsL_law (wsV RL 77 RX7 yX7_addHeap wsX7_addHeap) := goodIn_app (goodIn_of _ (by decide +kernel)) ggL_law_X7_addHeap
set_option maxRecDepth 20000 in
theorem ggL_law_X7_thrown : GoodIn wsL_law wsX7_thrown := goodIn_r _ [177, 138, 994, 995, 996, 997, 998, 999, 1000, 1001, 1002, 1003, 1004, 1005, 1006, 1007, 1008, 1009, 1010, 1011, 1012, 1013, 1014, 1015, 1016, 1017, 1018, 1019, 1020] (by decide +kernel) (by decide +kernel)
set_option maxRecDepth 20000 in
theorem gL_law_X7_thrown : GoodIn wsL_law (wsV RL 78 RX7 yX7_thrown wsX7_thrown) := goodIn_app (goodIn_of _ (by decide +kernel)) ggL_law_X7_thrown
set_option maxRecDepth 20000 in
theorem ggL_law_L_setGreatestTake : GoodIn wsL_law wsL_setGreatestTake := goodIn_ca (goodIn_r _ [180, 152, 181, 182, 183, 2, 184, 158, 159, 20, 16, 185, 110, 111, 112, 19, 113, 49, 50, 51, 114, 115, 116, 117, 118, 119, 120, 15, 121, 37, 122, 123, 124, 125, 38, 39, 40, 41, 42, 43, 989, 990, 991, 992, 993, 1021, 1022, 1023, 1024, 1025, 1026, 1027, 1028, 1029, 1030] (by decide +kernel) (by decide +kernel)) (goodIn_sub (fun _ h => List.mem_append_left _ (List.mem_append_left _ (List.mem_append_right _ h))) (by decide +kernel))
set_option maxRecDepth 20000 in
theorem gL_law_L_setGreatestTake : GoodIn wsL_law (va_wsS RL 81 yL_setGreatestTake wsL_setGreatestTake) := goodIn_app (goodIn_of _ (by decide +kernel)) ggL_law_L_setGreatestTake
set_option maxRecDepth 20000 in
theorem ggL_law_X7_setGreatestTake : GoodIn wsL_law wsX7_setGreatestTake := goodIn_r _ [189, 138, 83, 171, 172, 5, 173, 139, 140, 141, 142, 143, 84, 994, 995, 996, 997, 998, 999, 1000, 1001, 1002, 1003, 1004, 1005, 1006, 1007, 1008, 1009, 1010, 1011, 1012, 1013, 1014, 1015, 1016, 1017, 1018, 1019, 1020] (by decide +kernel) (by decide +kernel)
set_option maxRecDepth 20000 in
theorem gL_law_X7_setGreatestTake : GoodIn wsL_law (wsV RL 83 RX7 yX7_setGreatestTake wsX7_setGreatestTake) := goodIn_app (goodIn_of _ (by decide +kernel)) ggL_law_X7_setGreatestTake
set_option maxRecDepth 20000 in
theorem ggL_law_X6_turnSplitting : GoodIn wsL_law wsX6_turnSplitting := goodIn_r _ [193, 20, 16, 194, 110, 111, 112, 19, 113, 49, 50, 51, 114, 115, 116, 117, 118, 119, 120, 15, 121, 37, 122, 123, 124, 125, 38, 39, 40, 41, 42, 43, 989, 990, 991, 992, 993, 1021, 1022, 1023, 1024, 1025, 1026, 1027, 1028, 1029, 1030] (by decide +kernel) (by decide +kernel)
set_option maxRecDepth 20000 in
theorem gL_law_X6_turnSplitting : GoodIn wsL_law (wsV RL 84 RX6 yX6_turnSplitting wsX6_turnSplitting) := goodIn_app (goodIn_of _ (by decide +kernel)) ggL_law_X6_turnSplitting
set_option maxRecDepth 20000 in
theorem ggL_law_X7_turnSplitting : GoodIn wsL_law wsX7_turnSplitting := goodIn_r _ [198, 199, 200, 201, 5, 202, 138, 83, 139, 140, 141, 142, 143, 84, 994, 995, 996, 997, 998, 999, 1000, 1001, 1002, 1003, 1004, 1005, 1006, 1007, 1008, 1009, 1010, 1011, 1012, 1013, 1014, 1015, 1016, 1017, 1018, 1019, 1020] (by decide +kernel) (by decide +kernel)
set_option maxRecDepth 20000 in
theorem gL_law_X7_turnSplitting : GoodIn wsL_law (wsV RL 88 RX7 yX7_turnSplitting wsX7_turnSplitting) := goodIn_app (goodIn_of _ (by decide +kernel)) ggL_law_X7_turnSplitting
set_option maxRecDepth 20000 in
theorem ggL_law_X6_turnMerging : GoodIn wsL_law wsX6_turnMerging := goodIn_r _ [206, 20, 16, 207, 110, 111, 112, 19, 113, 49, 50, 51, 114, 115, 116, 117, 118, 119, 120, 15, 121, 37, 122, 123, 124, 125, 38, 39, 40, 41, 42, 43, 989, 990, 991, 992, 993, 1021, 1022, 1023, 1024, 1025, 1026, 1027, 1028, 1029, 1030] (by decide +kernel) (by decide +kernel)
set_option maxRecDepth 20000 in
theorem gL_law_X6_turnMerging : GoodIn wsL_law (wsV RL 89 RX6 yX6_turnMerging wsX6_turnMerging) := goodIn_app (goodIn_of _ (by decide +kernel)) ggL_law_X6_turnMerging
set_option maxRecDepth 20000 in
theorem ggL_law_X7_turnMerging : GoodIn wsL_law wsX7_turnMerging := goodIn_r _ [211, 199, 200, 201, 5, 202, 138, 83, 139, 140, 141, 142, 143, 84, 994, 995, 996, 997, 998, 999, 1000, 1001, 1002, 1003, 1004, 1005, 1006, 1007, 1008, 1009, 1010, 1011, 1012, 1013, 1014, 1015, 1016, 1017, 1018, 1019, 1020] (by decide +kernel) (by decide +kernel)
set_option maxRecDepth 20000 in
theorem gL_law_X7_turnMerging : GoodIn wsL_law (wsV RL 92 RX7 yX7_turnMerging wsX7_turnMerging) := goodIn_app (goodIn_of _ (by decide +kernel)) ggL_law_X7_turnMerging
