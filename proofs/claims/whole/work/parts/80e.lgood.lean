set_option maxRecDepth 20000 in
theorem ggL_law_L_madeOf : GoodIn wsL_law wsL_madeOf := goodIn_ca (goodIn_r _ [503, 152, 504, 505, 506, 2, 507, 158, 159, 16, 487, 989, 990, 991, 992, 993, 1021, 1022, 1023, 1024, 1025, 1026, 1027] (by decide +kernel) (by decide +kernel)) (goodIn_sub (fun _ h => List.mem_append_left _ (List.mem_append_left _ (List.mem_append_right _ h))) (by decide +kernel))
set_option maxRecDepth 20000 in
theorem gL_law_L_madeOf : GoodIn wsL_law (va_wsS RL 145 yL_madeOf wsL_madeOf) := goodIn_app (goodIn_of _ (by decide +kernel)) ggL_law_L_madeOf
set_option maxRecDepth 20000 in
theorem ggL_law_X7_madeOf : GoodIn wsL_law wsX7_madeOf := goodIn_r _ [511, 138, 83, 171, 172, 5, 173, 994, 995, 996, 997, 998, 999, 1000, 1001, 1002, 1003, 1004, 1005, 1006, 1007, 1008, 1009, 1010, 1011, 1012, 1013, 1014, 1015, 1016, 1017, 1018, 1019, 1020] (by decide +kernel) (by decide +kernel)
set_option maxRecDepth 20000 in
theorem gL_law_X7_madeOf : GoodIn wsL_law (wsV RL 147 RX7 yX7_madeOf wsX7_madeOf) := goodIn_app (goodIn_of _ (by decide +kernel)) ggL_law_X7_madeOf
set_option maxRecDepth 20000 in
theorem ggL_law_X6_winner : GoodIn wsL_law wsX6_winner := goodIn_r _ [515, 16, 162, 216, 483, 484, 485, 2, 486, 487, 516, 480, 481, 482, 989, 990, 991, 992, 993, 1021, 1022, 1023, 1024, 1025, 1026, 1027] (by decide +kernel) (by decide +kernel)
set_option maxRecDepth 20000 in
theorem gL_law_X6_winner : GoodIn wsL_law (wsV RL 148 RX6 yX6_winner wsX6_winner) := goodIn_app (goodIn_of _ (by decide +kernel)) ggL_law_X6_winner
set_option maxRecDepth 20000 in
theorem ggL_law_X7_winner : GoodIn wsL_law wsX7_winner := goodIn_r _ [520, 521, 522, 523, 5, 524, 83, 492, 493, 494, 495, 424, 425, 426, 427, 138, 994, 995, 996, 997, 998, 999, 1000, 1001, 1002, 1003, 1004, 1005, 1006, 1007, 1008, 1009, 1010, 1011, 1012, 1013, 1014, 1015, 1016, 1017, 1018, 1019, 1020] (by decide +kernel) (by decide +kernel)
set_option maxRecDepth 20000 in
theorem gL_law_X7_winner : GoodIn wsL_law (wsV RL 151 RX7 yX7_winner wsX7_winner) := goodIn_app (goodIn_of _ (by decide +kernel)) ggL_law_X7_winner
set_option maxRecDepth 20000 in
theorem ggL_law_X6_moves : GoodIn wsL_law wsX6_moves := goodIn_r _ [528, 24, 16, 374, 375, 376, 377, 23, 378, 59, 379, 380, 381, 382, 383, 15, 384, 38, 37, 385, 2, 386, 387, 388, 389, 390, 391, 392, 393, 394, 395, 115, 116, 117, 396, 397, 398, 399, 55, 56, 57, 58, 400, 401, 402, 403, 404, 405, 406, 407, 989, 990, 991, 992, 993, 1031, 1032, 1033, 1034, 1035, 1021, 1022, 1023, 1024, 1025, 1026, 1027] (by decide +kernel) (by decide +kernel)
set_option maxRecDepth 20000 in
theorem gL_law_X6_moves : GoodIn wsL_law (wsV RL 152 RX6 yX6_moves wsX6_moves) := goodIn_app (goodIn_of _ (by decide +kernel)) ggL_law_X6_moves
set_option maxRecDepth 20000 in
theorem ggL_law_X7_moves : GoodIn wsL_law wsX7_moves := goodIn_r _ [532, 296, 282, 283, 284, 5, 285, 83, 286, 281, 92, 96, 287, 288, 289, 290, 97, 291, 292, 293, 294, 295, 88, 89, 90, 91, 297, 298, 299, 300, 86, 301, 302, 303, 304, 305, 306, 307, 308, 93, 94, 95, 309, 310, 311, 312, 313, 314, 315, 316, 317, 318, 319, 320, 87, 321, 322, 323, 324, 424, 425, 426, 427, 138, 994, 995, 996, 997, 998, 999, 1000, 1001, 1002, 1003, 1004, 1005, 1006, 1007, 1008, 1009, 1010, 1011, 1012, 1013, 1014, 1015, 1016, 1017, 1018, 1019, 1020] (by decide +kernel) (by decide +kernel)
set_option maxRecDepth 20000 in
theorem gL_law_X7_moves : GoodIn wsL_law (wsV RL 155 RX7 yX7_moves wsX7_moves) := goodIn_app (goodIn_of _ (by decide +kernel)) ggL_law_X7_moves
set_option maxRecDepth 20000 in
theorem ggL_law_L_kindOf : GoodIn wsL_law wsL_kindOf := goodIn_ca (goodIn_r _ [535, 224, 536, 537, 538, 2, 539, 24, 367, 370, 371, 372, 373, 233, 234, 16, 374, 375, 376, 377, 23, 378, 59, 379, 380, 381, 382, 383, 15, 384, 38, 37, 385, 386, 387, 388, 389, 390, 391, 392, 393, 394, 395, 115, 116, 117, 396, 397, 398, 399, 55, 56, 57, 58, 400, 401, 402, 403, 404, 405, 406, 407, 989, 990, 991, 992, 993, 1031, 1032, 1033, 1034, 1035, 1021, 1022, 1023, 1024, 1025, 1026, 1027] (by decide +kernel) (by decide +kernel)) (goodIn_sub (fun _ h => List.mem_append_right _ h) (by decide +kernel))
set_option maxRecDepth 20000 in
theorem gL_law_L_kindOf : GoodIn wsL_law (va_wsS RL 156 yL_kindOf wsL_kindOf) := goodIn_app (goodIn_of _ (by decide +kernel)) ggL_law_L_kindOf
set_option maxRecDepth 20000 in
theorem ggL_law_X7_kindOf : GoodIn wsL_law wsX7_kindOf := goodIn_r _ [543, 93, 412, 413, 414, 5, 415, 296, 138, 282, 283, 284, 285, 83, 286, 281, 92, 96, 287, 288, 289, 290, 97, 291, 292, 293, 294, 295, 88, 89, 90, 91, 297, 298, 299, 300, 86, 301, 302, 303, 304, 305, 306, 307, 308, 94, 95, 309, 310, 311, 312, 313, 314, 315, 316, 317, 318, 319, 320, 87, 321, 322, 323, 324, 171, 172, 173, 994, 995, 996, 997, 998, 999, 1000, 1001, 1002, 1003, 1004, 1005, 1006, 1007, 1008, 1009, 1010, 1011, 1012, 1013, 1014, 1015, 1016, 1017, 1018, 1019, 1020] (by decide +kernel) (by decide +kernel)
set_option maxRecDepth 20000 in
theorem gL_law_X7_kindOf : GoodIn wsL_law (wsV RL 158 RX7 yX7_kindOf wsX7_kindOf) := goodIn_app (goodIn_of _ (by decide +kernel)) ggL_law_X7_kindOf
set_option maxRecDepth 20000 in
theorem ggL_law_L_heapOf : GoodIn wsL_law wsL_heapOf := goodIn_ca (goodIn_r _ [546, 224, 547, 548, 549, 2, 550, 24, 368, 370, 371, 372, 373, 233, 234, 16, 374, 375, 376, 377, 23, 378, 59, 379, 380, 381, 382, 383, 15, 384, 38, 37, 385, 386, 387, 388, 389, 390, 391, 392, 393, 394, 395, 115, 116, 117, 396, 397, 398, 399, 55, 56, 57, 58, 400, 401, 402, 403, 404, 405, 406, 407, 989, 990, 991, 992, 993, 1031, 1032, 1033, 1034, 1035, 1021, 1022, 1023, 1024, 1025, 1026, 1027] (by decide +kernel) (by decide +kernel)) (goodIn_sub (fun _ h => List.mem_append_right _ h) (by decide +kernel))
set_option maxRecDepth 20000 in
theorem gL_law_L_heapOf : GoodIn wsL_law (va_wsS RL 159 yL_heapOf wsL_heapOf) := goodIn_app (goodIn_of _ (by decide +kernel)) ggL_law_L_heapOf
set_option maxRecDepth 20000 in
theorem ggL_law_X7_heapOf : GoodIn wsL_law wsX7_heapOf := goodIn_r _ [554, 94, 412, 413, 414, 5, 415, 296, 138, 282, 283, 284, 285, 83, 286, 281, 92, 96, 287, 288, 289, 290, 97, 291, 292, 293, 294, 295, 88, 89, 90, 91, 297, 298, 299, 300, 86, 301, 302, 303, 304, 305, 306, 307, 308, 93, 95, 309, 310, 311, 312, 313, 314, 315, 316, 317, 318, 319, 320, 87, 321, 322, 323, 324, 171, 172, 173, 994, 995, 996, 997, 998, 999, 1000, 1001, 1002, 1003, 1004, 1005, 1006, 1007, 1008, 1009, 1010, 1011, 1012, 1013, 1014, 1015, 1016, 1017, 1018, 1019, 1020] (by decide +kernel) (by decide +kernel)
set_option maxRecDepth 20000 in
theorem gL_law_X7_heapOf : GoodIn wsL_law (wsV RL 161 RX7 yX7_heapOf wsX7_heapOf) := goodIn_app (goodIn_of _ (by decide +kernel)) ggL_law_X7_heapOf
set_option maxRecDepth 20000 in
theorem ggL_law_L_amountOf : GoodIn wsL_law wsL_amountOf := goodIn_ca (goodIn_r _ [557, 224, 558, 559, 560, 2, 561, 24, 369, 370, 371, 372, 373, 233, 234, 16, 374, 375, 376, 377, 23, 378, 59, 379, 380, 381, 382, 383, 15, 384, 38, 37, 385, 386, 387, 388, 389, 390, 391, 392, 393, 394, 395, 115, 116, 117, 396, 397, 398, 399, 55, 56, 57, 58, 400, 401, 402, 403, 404, 405, 406, 407, 989, 990, 991, 992, 993, 1031, 1032, 1033, 1034, 1035, 1021, 1022, 1023, 1024, 1025, 1026, 1027] (by decide +kernel) (by decide +kernel)) (goodIn_sub (fun _ h => List.mem_append_right _ h) (by decide +kernel))
set_option maxRecDepth 20000 in
theorem gL_law_L_amountOf : GoodIn wsL_law (va_wsS RL 162 yL_amountOf wsL_amountOf) := goodIn_app (goodIn_of _ (by decide +kernel)) ggL_law_L_amountOf
set_option maxRecDepth 20000 in
theorem ggL_law_X7_amountOf : GoodIn wsL_law wsX7_amountOf := goodIn_r _ [565, 95, 412, 413, 414, 5, 415, 296, 138, 282, 283, 284, 285, 83, 286, 281, 92, 96, 287, 288, 289, 290, 97, 291, 292, 293, 294, 295, 88, 89, 90, 91, 297, 298, 299, 300, 86, 301, 302, 303, 304, 305, 306, 307, 308, 93, 94, 309, 310, 311, 312, 313, 314, 315, 316, 317, 318, 319, 320, 87, 321, 322, 323, 324, 171, 172, 173, 994, 995, 996, 997, 998, 999, 1000, 1001, 1002, 1003, 1004, 1005, 1006, 1007, 1008, 1009, 1010, 1011, 1012, 1013, 1014, 1015, 1016, 1017, 1018, 1019, 1020] (by decide +kernel) (by decide +kernel)
set_option maxRecDepth 20000 in
theorem gL_law_X7_amountOf : GoodIn wsL_law (wsV RL 164 RX7 yX7_amountOf wsX7_amountOf) := goodIn_app (goodIn_of _ (by decide +kernel)) ggL_law_X7_amountOf
set_option maxRecDepth 20000 in
theorem ggL_law_X6_number : GoodIn wsL_law wsX6_number := goodIn_r _ [569, 28, 16, 570, 571, 572, 573, 27, 574, 64, 63, 575, 576, 577, 66, 578, 579, 580, 15, 581, 39, 40, 41, 582, 2, 583, 584, 585, 586, 587, 11, 12, 36, 588, 589, 590, 591, 592, 593, 594, 127, 128, 129, 38, 37, 595, 119, 120, 121, 122, 123, 124, 125, 42, 43, 596, 597, 598, 599, 68, 600, 601, 602, 603, 604, 605, 606, 607, 608, 609, 164, 165, 166, 610, 376, 377, 23, 378, 59, 379, 380, 381, 382, 383, 384, 385, 386, 387, 388, 389, 390, 391, 392, 393, 394, 395, 115, 116, 117, 396, 397, 398, 399, 55, 56, 57, 58, 400, 401, 402, 403, 404, 405, 406, 407, 611, 612, 613, 614, 615, 616, 617, 618, 254, 255, 619, 620, 621, 622, 623, 624, 625, 626, 627, 628, 989, 990, 991, 992, 993, 1045, 1046, 1047, 1048, 1049, 1036, 1037, 1038, 1021, 1022, 1023, 1024, 1025, 1026, 1027, 1031, 1032, 1033, 1034, 1035] (by decide +kernel) (by decide +kernel)
set_option maxRecDepth 20000 in
theorem gL_law_X6_number : GoodIn wsL_law (wsV RL 165 RX6 yX6_number wsX6_number) := goodIn_app (goodIn_of _ (by decide +kernel)) ggL_law_X6_number
set_option maxRecDepth 20000 in
theorem ggL_law_X7_number : GoodIn wsL_law wsX7_number := goodIn_r _ [632, 633, 634, 635, 5, 636, 88, 282, 283, 284, 285, 83, 286, 281, 92, 96, 287, 288, 289, 290, 97, 291, 292, 293, 294, 295, 296, 89, 90, 91, 297, 298, 299, 300, 86, 301, 302, 303, 304, 305, 306, 307, 308, 93, 94, 95, 309, 310, 311, 312, 313, 314, 315, 316, 317, 318, 319, 320, 87, 321, 322, 323, 324, 424, 425, 426, 427, 138, 994, 995, 996, 997, 998, 999, 1000, 1001, 1002, 1003, 1004, 1005, 1006, 1007, 1008, 1009, 1010, 1011, 1012, 1013, 1014, 1015, 1016, 1017, 1018, 1019, 1020] (by decide +kernel) (by decide +kernel)
set_option maxRecDepth 20000 in
theorem gL_law_X7_number : GoodIn wsL_law (wsV RL 168 RX7 yX7_number wsX7_number) := goodIn_app (goodIn_of _ (by decide +kernel)) ggL_law_X7_number
