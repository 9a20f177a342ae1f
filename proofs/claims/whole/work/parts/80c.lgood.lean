set_option maxRecDepth 20000 in
theorem ggL_law_X6_turnEnding : GoodIn wsL_law wsX6_turnEnding := goodIn_r _ [215, 20, 16, 216, 110, 111, 112, 19, 113, 49, 50, 51, 114, 115, 116, 117, 118, 119, 120, 15, 121, 37, 122, 123, 124, 125, 38, 39, 40, 41, 42, 43, 989, 990, 991, 992, 993, 1021, 1022, 1023, 1024, 1025, 1026, 1027, 1028, 1029, 1030] (by decide +kernel) (by decide +kernel)
set_option maxRecDepth 20000 in
theorem gL_law_X6_turnEnding : GoodIn wsL_law (wsV RL 93 RX6 yX6_turnEnding wsX6_turnEnding) := goodIn_app (goodIn_of _ (by decide +kernel)) ggL_law_X6_turnEnding
set_option maxRecDepth 20000 in
theorem ggL_law_X7_turnEnding : GoodIn wsL_law wsX7_turnEnding := goodIn_r _ [220, 199, 200, 201, 5, 202, 138, 83, 139, 140, 141, 142, 143, 84, 994, 995, 996, 997, 998, 999, 1000, 1001, 1002, 1003, 1004, 1005, 1006, 1007, 1008, 1009, 1010, 1011, 1012, 1013, 1014, 1015, 1016, 1017, 1018, 1019, 1020] (by decide +kernel) (by decide +kernel)
set_option maxRecDepth 20000 in
theorem gL_law_X7_turnEnding : GoodIn wsL_law (wsV RL 96 RX7 yX7_turnEnding wsX7_turnEnding) := goodIn_app (goodIn_of _ (by decide +kernel)) ggL_law_X7_turnEnding
set_option maxRecDepth 20000 in
theorem ggL_law_L_take : GoodIn wsL_law wsL_take := goodIn_ca (goodIn_ca (goodIn_ca (goodIn_r _ [223, 224, 152, 153, 225, 226, 227, 2, 228, 158, 159, 20, 16, 229, 230, 231, 232, 233, 234, 235, 236, 237, 15, 238, 38, 239, 240, 241, 242, 160, 161, 243, 244, 245, 246, 39, 37, 40, 41, 247, 110, 111, 112, 19, 113, 49, 50, 51, 114, 115, 116, 117, 118, 119, 120, 121, 122, 123, 124, 125, 42, 43, 248, 249, 250, 251, 252, 253, 254, 255, 256, 257, 258, 259, 260, 261, 262, 263, 264, 164, 165, 166, 126, 127, 128, 129, 989, 990, 991, 992, 993, 1021, 1022, 1023, 1024, 1025, 1026, 1027, 1028, 1029, 1030] (by decide +kernel) (by decide +kernel)) (goodIn_sub (fun _ h => List.mem_append_left _ (List.mem_append_left _ (List.mem_append_right _ h))) (by decide +kernel))) (goodIn_sub (fun _ h => List.mem_append_right _ h) (by decide +kernel))) (goodIn_sub (fun _ h => List.mem_append_left _ (List.mem_append_right _ h)) (by decide +kernel))
set_option maxRecDepth 20000 in
theorem gL_law_L_take : GoodIn wsL_law (va_wsS RL 97 yL_take wsL_take) := goodIn_app (goodIn_of _ (by decide +kernel)) ggL_law_L_take
set_option maxRecDepth 20000 in
theorem ggL_law_X7_take : GoodIn wsL_law wsX7_take := goodIn_r _ [268, 138, 269, 270, 271, 5, 272, 83, 273, 274, 275, 276, 171, 172, 173, 139, 140, 141, 142, 143, 84, 277, 278, 279, 280, 281, 96, 282, 283, 284, 285, 286, 92, 287, 288, 289, 290, 97, 291, 292, 293, 294, 295, 296, 88, 89, 90, 91, 297, 298, 299, 300, 86, 301, 302, 303, 304, 305, 306, 307, 308, 93, 94, 95, 309, 310, 311, 312, 313, 314, 315, 316, 317, 318, 319, 320, 87, 321, 322, 323, 324, 144, 145, 146, 147, 994, 995, 996, 997, 998, 999, 1000, 1001, 1002, 1003, 1004, 1005, 1006, 1007, 1008, 1009, 1010, 1011, 1012, 1013, 1014, 1015, 1016, 1017, 1018, 1019, 1020] (by decide +kernel) (by decide +kernel)
set_option maxRecDepth 20000 in
theorem gL_law_X7_take : GoodIn wsL_law (wsV RL 100 RX7 yX7_take wsX7_take) := goodIn_app (goodIn_of _ (by decide +kernel)) ggL_law_X7_take
set_option maxRecDepth 20000 in
theorem ggL_law_L_split : GoodIn wsL_law wsL_split := goodIn_ca (goodIn_ca (goodIn_ca (goodIn_r _ [327, 224, 152, 153, 328, 329, 330, 2, 331, 158, 159, 20, 16, 162, 229, 230, 231, 232, 233, 234, 235, 236, 237, 15, 238, 38, 239, 240, 241, 242, 160, 161, 243, 244, 245, 246, 39, 37, 40, 41, 247, 110, 111, 112, 19, 113, 49, 50, 51, 114, 115, 116, 117, 118, 119, 120, 121, 122, 123, 124, 125, 42, 43, 248, 249, 250, 251, 252, 253, 254, 255, 256, 257, 258, 259, 260, 261, 262, 263, 264, 164, 165, 166, 989, 990, 991, 992, 993, 1021, 1022, 1023, 1024, 1025, 1026, 1027, 1028, 1029, 1030] (by decide +kernel) (by decide +kernel)) (goodIn_sub (fun _ h => List.mem_append_left _ (List.mem_append_left _ (List.mem_append_right _ h))) (by decide +kernel))) (goodIn_sub (fun _ h => List.mem_append_right _ h) (by decide +kernel))) (goodIn_sub (fun _ h => List.mem_append_left _ (List.mem_append_right _ h)) (by decide +kernel))
set_option maxRecDepth 20000 in
theorem gL_law_L_split : GoodIn wsL_law (va_wsS RL 101 yL_split wsL_split) := goodIn_app (goodIn_of _ (by decide +kernel)) ggL_law_L_split
set_option maxRecDepth 20000 in
theorem ggL_law_X7_split : GoodIn wsL_law wsX7_split := goodIn_r _ [335, 138, 83, 336, 337, 338, 5, 339, 273, 274, 275, 276, 171, 172, 173, 139, 140, 141, 142, 143, 84, 277, 278, 279, 280, 281, 96, 282, 283, 284, 285, 286, 92, 287, 288, 289, 290, 97, 291, 292, 293, 294, 295, 296, 88, 89, 90, 91, 297, 298, 299, 300, 86, 301, 302, 303, 304, 305, 306, 307, 308, 93, 94, 95, 309, 310, 311, 312, 313, 314, 315, 316, 317, 318, 319, 320, 87, 321, 322, 323, 324, 994, 995, 996, 997, 998, 999, 1000, 1001, 1002, 1003, 1004, 1005, 1006, 1007, 1008, 1009, 1010, 1011, 1012, 1013, 1014, 1015, 1016, 1017, 1018, 1019, 1020] (by decide +kernel) (by decide +kernel)
set_option maxRecDepth 20000 in
theorem gL_law_X7_split : GoodIn wsL_law (wsV RL 103 RX7 yX7_split wsX7_split) := goodIn_app (goodIn_of _ (by decide +kernel)) ggL_law_X7_split
set_option maxRecDepth 20000 in
theorem ggL_law_L_merge : GoodIn wsL_law wsL_merge := goodIn_ca (goodIn_ca (goodIn_ca (goodIn_r _ [342, 224, 152, 153, 343, 344, 345, 2, 346, 158, 159, 20, 16, 347, 115, 116, 117, 229, 230, 231, 232, 233, 234, 235, 236, 237, 15, 238, 38, 239, 240, 241, 242, 160, 161, 243, 244, 245, 246, 39, 37, 40, 41, 247, 110, 111, 112, 19, 113, 49, 50, 51, 114, 118, 119, 120, 121, 122, 123, 124, 125, 42, 43, 248, 249, 250, 251, 252, 253, 254, 255, 256, 257, 258, 259, 260, 261, 262, 263, 264, 164, 165, 166, 348, 349, 350, 351, 989, 990, 991, 992, 993, 1021, 1022, 1023, 1024, 1025, 1026, 1027, 1028, 1029, 1030] (by decide +kernel) (by decide +kernel)) (goodIn_sub (fun _ h => List.mem_append_left _ (List.mem_append_left _ (List.mem_append_right _ h))) (by decide +kernel))) (goodIn_sub (fun _ h => List.mem_append_right _ h) (by decide +kernel))) (goodIn_sub (fun _ h => List.mem_append_left _ (List.mem_append_right _ h)) (by decide +kernel))
set_option maxRecDepth 20000 in
theorem gL_law_L_merge : GoodIn wsL_law (va_wsS RL 104 yL_merge wsL_merge) := goodIn_app (goodIn_of _ (by decide +kernel)) ggL_law_L_merge
set_option maxRecDepth 20000 in
theorem ggL_law_X7_merge : GoodIn wsL_law wsX7_merge := goodIn_r _ [355, 138, 83, 356, 357, 358, 5, 359, 273, 274, 275, 276, 171, 172, 173, 139, 140, 141, 142, 143, 84, 277, 278, 279, 280, 281, 96, 282, 283, 284, 285, 286, 92, 287, 288, 289, 290, 97, 291, 292, 293, 294, 295, 296, 88, 89, 90, 91, 297, 298, 299, 300, 86, 301, 302, 303, 304, 305, 306, 307, 308, 93, 94, 95, 309, 310, 311, 312, 313, 314, 315, 316, 317, 318, 319, 320, 87, 321, 322, 323, 324, 994, 995, 996, 997, 998, 999, 1000, 1001, 1002, 1003, 1004, 1005, 1006, 1007, 1008, 1009, 1010, 1011, 1012, 1013, 1014, 1015, 1016, 1017, 1018, 1019, 1020] (by decide +kernel) (by decide +kernel)
set_option maxRecDepth 20000 in
theorem gL_law_X7_merge : GoodIn wsL_law (wsV RL 106 RX7 yX7_merge wsX7_merge) := goodIn_app (goodIn_of _ (by decide +kernel)) ggL_law_X7_merge
set_option maxRecDepth 20000 in
theorem ggL_law_L_make : GoodIn wsL_law wsL_make := goodIn_ca (goodIn_r _ [362, 224, 363, 364, 365, 2, 366, 20, 16, 24, 367, 368, 369, 370, 371, 372, 373, 233, 234, 374, 375, 376, 377, 23, 378, 59, 379, 380, 381, 382, 383, 15, 384, 38, 37, 385, 386, 387, 388, 389, 390, 391, 392, 393, 394, 395, 115, 116, 117, 396, 397, 398, 399, 55, 56, 57, 58, 400, 401, 402, 403, 404, 405, 406, 407, 110, 111, 112, 19, 113, 49, 50, 51, 114, 118, 119, 120, 121, 122, 123, 124, 125, 39, 40, 41, 42, 43, 248, 249, 250, 251, 252, 253, 254, 255, 256, 257, 258, 259, 260, 261, 262, 263, 247, 236, 237, 238, 264, 164, 165, 166, 989, 990, 991, 992, 993, 1031, 1032, 1033, 1034, 1035, 1021, 1022, 1023, 1024, 1025, 1026, 1027, 1028, 1029, 1030] (by decide +kernel) (by decide +kernel)) (goodIn_sub (fun _ h => List.mem_append_right _ h) (by decide +kernel))
set_option maxRecDepth 20000 in
theorem gL_law_L_make : GoodIn wsL_law (va_wsS RL 107 yL_make wsL_make) := goodIn_app (goodIn_of _ (by decide +kernel)) ggL_law_L_make
set_option maxRecDepth 20000 in
theorem ggL_law_X7_make : GoodIn wsL_law wsX7_make := goodIn_r _ [411, 93, 94, 95, 412, 413, 414, 5, 415, 296, 138, 282, 283, 284, 285, 83, 286, 281, 92, 96, 287, 288, 289, 290, 97, 291, 292, 293, 294, 295, 88, 89, 90, 91, 297, 298, 299, 300, 86, 301, 302, 303, 304, 305, 306, 307, 308, 309, 310, 311, 312, 313, 314, 315, 316, 317, 318, 319, 320, 87, 321, 322, 323, 324, 171, 172, 173, 139, 140, 141, 142, 143, 84, 277, 278, 279, 280, 994, 995, 996, 997, 998, 999, 1000, 1001, 1002, 1003, 1004, 1005, 1006, 1007, 1008, 1009, 1010, 1011, 1012, 1013, 1014, 1015, 1016, 1017, 1018, 1019, 1020] (by decide +kernel) (by decide +kernel)
set_option maxRecDepth 20000 in
theorem gL_law_X7_make : GoodIn wsL_law (wsV RL 109 RX7 yX7_make wsX7_make) := goodIn_app (goodIn_of _ (by decide +kernel)) ggL_law_X7_make
set_option maxRecDepth 20000 in
theorem ggL_law_X6_heaps : GoodIn wsL_law wsX6_heaps := goodIn_r _ [419, 16, 162, 989, 990, 991, 992, 993, 1021, 1022, 1023, 1024, 1025, 1026, 1027] (by decide +kernel) (by decide +kernel)
set_option maxRecDepth 20000 in
theorem gL_law_X6_heaps : GoodIn wsL_law (wsV RL 110 RX6 yX6_heaps wsX6_heaps) := goodIn_app (goodIn_of _ (by decide +kernel)) ggL_law_X6_heaps
set_option maxRecDepth 20000 in
theorem ggL_law_X7_heaps : GoodIn wsL_law wsX7_heaps := goodIn_r _ [423, 83, 424, 425, 426, 5, 427, 138, 994, 995, 996, 997, 998, 999, 1000, 1001, 1002, 1003, 1004, 1005, 1006, 1007, 1008, 1009, 1010, 1011, 1012, 1013, 1014, 1015, 1016, 1017, 1018, 1019, 1020] (by decide +kernel) (by decide +kernel)
set_option maxRecDepth 20000 in
theorem gL_law_X7_heaps : GoodIn wsL_law (wsV RL 113 RX7 yX7_heaps wsX7_heaps) := goodIn_app (goodIn_of _ (by decide +kernel)) ggL_law_X7_heaps
set_option maxRecDepth 20000 in
theorem ggL_law_L_stonesOf : GoodIn wsL_law wsL_stonesOf := goodIn_ca (goodIn_r _ [430, 224, 431, 432, 433, 2, 434, 16, 229, 230, 231, 232, 233, 234, 235, 236, 237, 15, 238, 38, 348, 349, 350, 351, 37, 247, 989, 990, 991, 992, 993, 1021, 1022, 1023, 1024, 1025, 1026, 1027] (by decide +kernel) (by decide +kernel)) (goodIn_sub (fun _ h => List.mem_append_right _ h) (by decide +kernel))
set_option maxRecDepth 20000 in
theorem gL_law_L_stonesOf : GoodIn wsL_law (va_wsS RL 114 yL_stonesOf wsL_stonesOf) := goodIn_app (goodIn_of _ (by decide +kernel)) ggL_law_L_stonesOf
set_option maxRecDepth 20000 in
theorem ggL_law_X7_stonesOf : GoodIn wsL_law wsX7_stonesOf := goodIn_r _ [438, 138, 83, 273, 274, 275, 5, 276, 171, 172, 173, 994, 995, 996, 997, 998, 999, 1000, 1001, 1002, 1003, 1004, 1005, 1006, 1007, 1008, 1009, 1010, 1011, 1012, 1013, 1014, 1015, 1016, 1017, 1018, 1019, 1020] (by decide +kernel) (by decide +kernel)
set_option maxRecDepth 20000 in
theorem gL_law_X7_stonesOf : GoodIn wsL_law (wsV RL 116 RX7 yX7_stonesOf wsX7_stonesOf) := goodIn_app (goodIn_of _ (by decide +kernel)) ggL_law_X7_stonesOf
