set_option maxRecDepth 20000 in
theorem ggX7_made_X7_tells : GoodIn wsX7_made wsX7_tells := goodIn_r _ [10, 11, 12, 13, 14, 15, 16, 17, 18, 19, 20, 21, 22, 23, 24, 25, 26, 27, 28, 29, 30, 31, 32, 33, 34, 35, 36, 37, 38] (by decide +kernel) (by decide +kernel)
set_option maxRecDepth 20000 in
theorem gX7_made_X7_tells : GoodIn wsX7_made (wsV RX7 148 RX7 yX7_tells wsX7_tells) := goodIn_app (goodIn_of _ (by decide +kernel)) ggX7_made_X7_tells
theorem dX7_made_0 : decode cX7_made 0 = .ok (.aload_n 0, 1) := by decide +kernel
theorem dX7_made_1 : decode cX7_made 1 = .ok (.aload_n 0, 1) := by decide +kernel
theorem dX7_made_2 : decode cX7_made 2 = .ok (.invokevirtual 151, 3) := by decide +kernel
theorem dX7_made_5 : decode cX7_made 5 = .ok (.invokevirtual 148, 3) := by decide +kernel
theorem dX7_made_8 : decode cX7_made 8 = .ok (.ireturn, 1) := by decide +kernel
set_option maxRecDepth 20000 in
theorem ggX7_madeOf_X7_within : GoodIn wsX7_madeOf wsX7_within := goodIn_r _ [6] (by decide +kernel) (by decide +kernel)
set_option maxRecDepth 20000 in
theorem gX7_madeOf_X7_within : GoodIn wsX7_madeOf (va_wsS RX7 119 yX7_within wsX7_within) := goodIn_app (goodIn_of _ (by decide +kernel)) ggX7_madeOf_X7_within
theorem dX7_madeOf_0 : decode cX7_madeOf 0 = .ok (.aload_n 0, 1) := by decide +kernel
theorem dX7_madeOf_1 : decode cX7_madeOf 1 = .ok (.iload_n 1, 1) := by decide +kernel
theorem dX7_madeOf_2 : decode cX7_madeOf 2 = .ok (.iconst 0, 1) := by decide +kernel
theorem dX7_madeOf_3 : decode cX7_madeOf 3 = .ok (.iconst 2, 1) := by decide +kernel
theorem dX7_madeOf_4 : decode cX7_madeOf 4 = .ok (.invokestatic 119, 3) := by decide +kernel
theorem dX7_madeOf_7 : decode cX7_madeOf 7 = .ok (.ifCond .eq 7, 3) := by decide +kernel
theorem dX7_madeOf_10 : decode cX7_madeOf 10 = .ok (.iconst 0, 1) := by decide +kernel
theorem dX7_madeOf_11 : decode cX7_madeOf 11 = .ok (.goto 4, 3) := by decide +kernel
theorem dX7_madeOf_14 : decode cX7_madeOf 14 = .ok (.iconst 1, 1) := by decide +kernel
theorem dX7_madeOf_15 : decode cX7_madeOf 15 = .ok (.putfield 60, 3) := by decide +kernel
theorem dX7_madeOf_18 : decode cX7_madeOf 18 = .ok (.aload_n 0, 1) := by decide +kernel
theorem dX7_madeOf_19 : decode cX7_madeOf 19 = .ok (.getfield 60, 3) := by decide +kernel
theorem dX7_madeOf_22 : decode cX7_madeOf 22 = .ok (.ifCond .le 7, 3) := by decide +kernel
theorem dX7_madeOf_25 : decode cX7_madeOf 25 = .ok (.iconst 0, 1) := by decide +kernel
theorem dX7_madeOf_26 : decode cX7_madeOf 26 = .ok (.goto 12, 3) := by decide +kernel
theorem dX7_madeOf_29 : decode cX7_madeOf 29 = .ok (.aload_n 0, 1) := by decide +kernel
theorem dX7_madeOf_30 : decode cX7_madeOf 30 = .ok (.getfield 7, 3) := by decide +kernel
theorem dX7_madeOf_33 : decode cX7_madeOf 33 = .ok (.bipush 17, 2) := by decide +kernel
theorem dX7_madeOf_35 : decode cX7_madeOf 35 = .ok (.iload_n 1, 1) := by decide +kernel
theorem dX7_madeOf_36 : decode cX7_madeOf 36 = .ok (.iadd, 1) := by decide +kernel
theorem dX7_madeOf_37 : decode cX7_madeOf 37 = .ok (.iaload, 1) := by decide +kernel
theorem dX7_madeOf_38 : decode cX7_madeOf 38 = .ok (.ireturn, 1) := by decide +kernel
set_option maxRecDepth 20000 in
theorem ggX7_victor_X7_allMade : GoodIn wsX7_victor wsX7_allMade := goodIn_r _ [6, 1, 7, 8, 9, 10, 11, 12, 13, 14, 15, 16, 17, 18, 19, 20, 21, 22, 23, 24, 25, 26, 27, 28, 29, 30, 31, 32, 33] (by decide +kernel) (by decide +kernel)
set_option maxRecDepth 20000 in
theorem gX7_victor_X7_allMade : GoodIn wsX7_victor (wsV RX7 151 RX7 yX7_allMade wsX7_allMade) := goodIn_app (goodIn_of _ (by decide +kernel)) ggX7_victor_X7_allMade
theorem dX7_victor_0 : decode cX7_victor 0 = .ok (.iconst 1, 1) := by decide +kernel
theorem dX7_victor_1 : decode cX7_victor 1 = .ok (.aload_n 0, 1) := by decide +kernel
theorem dX7_victor_2 : decode cX7_victor 2 = .ok (.invokevirtual 151, 3) := by decide +kernel
theorem dX7_victor_5 : decode cX7_victor 5 = .ok (.iconst 2, 1) := by decide +kernel
theorem dX7_victor_6 : decode cX7_victor 6 = .ok (.irem, 1) := by decide +kernel
theorem dX7_victor_7 : decode cX7_victor 7 = .ok (.isub, 1) := by decide +kernel
theorem dX7_victor_8 : decode cX7_victor 8 = .ok (.istore_n 1, 1) := by decide +kernel
theorem dX7_victor_9 : decode cX7_victor 9 = .ok (.aload_n 0, 1) := by decide +kernel
theorem dX7_victor_10 : decode cX7_victor 10 = .ok (.getfield 7, 3) := by decide +kernel
theorem dX7_victor_13 : decode cX7_victor 13 = .ok (.iconst 4, 1) := by decide +kernel
theorem dX7_victor_14 : decode cX7_victor 14 = .ok (.iaload, 1) := by decide +kernel
theorem dX7_victor_15 : decode cX7_victor 15 = .ok (.ifCond .gt 10, 3) := by decide +kernel
theorem dX7_victor_18 : decode cX7_victor 18 = .ok (.aload_n 0, 1) := by decide +kernel
theorem dX7_victor_19 : decode cX7_victor 19 = .ok (.invokevirtual 151, 3) := by decide +kernel
theorem dX7_victor_22 : decode cX7_victor 22 = .ok (.ifCond .ne 7, 3) := by decide +kernel
theorem dX7_victor_25 : decode cX7_victor 25 = .ok (.iconst (-1), 1) := by decide +kernel
theorem dX7_victor_26 : decode cX7_victor 26 = .ok (.goto 20, 3) := by decide +kernel
theorem dX7_victor_29 : decode cX7_victor 29 = .ok (.aload_n 0, 1) := by decide +kernel
theorem dX7_victor_30 : decode cX7_victor 30 = .ok (.getfield 7, 3) := by decide +kernel
theorem dX7_victor_33 : decode cX7_victor 33 = .ok (.iconst 3, 1) := by decide +kernel
theorem dX7_victor_34 : decode cX7_victor 34 = .ok (.iaload, 1) := by decide +kernel
theorem dX7_victor_35 : decode cX7_victor 35 = .ok (.iconst 1, 1) := by decide +kernel
theorem dX7_victor_36 : decode cX7_victor 36 = .ok (.if_icmp .ne 7, 3) := by decide +kernel
theorem dX7_victor_39 : decode cX7_victor 39 = .ok (.iload_n 1, 1) := by decide +kernel
theorem dX7_victor_40 : decode cX7_victor 40 = .ok (.goto 6, 3) := by decide +kernel
theorem dX7_victor_43 : decode cX7_victor 43 = .ok (.iconst 1, 1) := by decide +kernel
theorem dX7_victor_44 : decode cX7_victor 44 = .ok (.iload_n 1, 1) := by decide +kernel
theorem dX7_victor_45 : decode cX7_victor 45 = .ok (.isub, 1) := by decide +kernel
theorem dX7_victor_46 : decode cX7_victor 46 = .ok (.ireturn, 1) := by decide +kernel
set_option maxRecDepth 20000 in
theorem ggX7_winner_X7_victor : GoodIn wsX7_winner wsX7_victor := goodIn_r _ [5, 6, 7, 8, 9, 4, 10, 16, 17, 18, 19, 20, 21, 22, 23, 24, 25, 26, 27, 28, 29, 30, 31, 32, 33, 34, 35, 36, 37, 38, 39, 40, 41, 42] (by decide +kernel) (by decide +kernel)
set_option maxRecDepth 20000 in
theorem gX7_winner_X7_victor : GoodIn wsX7_winner (wsV RX7 154 RX7 yX7_victor wsX7_victor) := goodIn_app (goodIn_of _ (by decide +kernel)) ggX7_winner_X7_victor
set_option maxRecDepth 20000 in
theorem ggX7_winner_X7_tells : GoodIn wsX7_winner wsX7_tells := goodIn_r _ [14, 15, 16, 17, 18, 19, 20, 21, 22, 23, 24, 25, 26, 27, 28, 29, 30, 31, 32, 33, 34, 35, 36, 37, 38, 39, 40, 41, 42] (by decide +kernel) (by decide +kernel)
set_option maxRecDepth 20000 in
theorem gX7_winner_X7_tells : GoodIn wsX7_winner (wsV RX7 148 RX7 yX7_tells wsX7_tells) := goodIn_app (goodIn_of _ (by decide +kernel)) ggX7_winner_X7_tells
theorem dX7_winner_0 : decode cX7_winner 0 = .ok (.aload_n 0, 1) := by decide +kernel
theorem dX7_winner_1 : decode cX7_winner 1 = .ok (.aload_n 0, 1) := by decide +kernel
theorem dX7_winner_2 : decode cX7_winner 2 = .ok (.invokevirtual 154, 3) := by decide +kernel
theorem dX7_winner_5 : decode cX7_winner 5 = .ok (.invokevirtual 148, 3) := by decide +kernel
theorem dX7_winner_8 : decode cX7_winner 8 = .ok (.ireturn, 1) := by decide +kernel
set_option maxRecDepth 20000 in
theorem ggX7_moves_X7_looks : GoodIn wsX7_moves wsX7_looks := goodIn_r _ [6, 7, 8, 9, 10, 11, 12, 13, 14, 5, 15, 16, 17, 18, 19, 20, 21, 1, 22, 23, 24, 25, 26, 27, 28, 29, 30, 31, 32, 33, 34, 35, 36, 37, 38, 39, 40, 41, 42, 43, 44, 45, 46, 47, 48, 49, 50, 51, 52, 53, 54, 55, 56, 57, 58, 64, 65, 66, 67, 68, 69, 70, 71, 72, 73, 74, 75, 76, 77, 78, 79, 80, 81, 82, 83, 84, 85, 86, 87, 88, 89, 90] (by decide +kernel) (by decide +kernel)
set_option maxRecDepth 20000 in
theorem gX7_moves_X7_looks : GoodIn wsX7_moves (wsV RX7 129 RX7 yX7_looks wsX7_looks) := goodIn_app (goodIn_of _ (by decide +kernel)) ggX7_moves_X7_looks
set_option maxRecDepth 20000 in
theorem ggX7_moves_X7_tells : GoodIn wsX7_moves wsX7_tells := goodIn_r _ [62, 63, 64, 65, 66, 67, 68, 69, 70, 71, 72, 73, 74, 75, 76, 77, 78, 79, 80, 81, 82, 83, 84, 85, 86, 87, 88, 89, 90] (by decide +kernel) (by decide +kernel)
set_option maxRecDepth 20000 in
theorem gX7_moves_X7_tells : GoodIn wsX7_moves (wsV RX7 148 RX7 yX7_tells wsX7_tells) := goodIn_app (goodIn_of _ (by decide +kernel)) ggX7_moves_X7_tells
theorem dX7_moves_0 : decode cX7_moves 0 = .ok (.aload_n 0, 1) := by decide +kernel
theorem dX7_moves_1 : decode cX7_moves 1 = .ok (.invokevirtual 129, 3) := by decide +kernel
theorem dX7_moves_4 : decode cX7_moves 4 = .ok (.pop, 1) := by decide +kernel
theorem dX7_moves_5 : decode cX7_moves 5 = .ok (.aload_n 0, 1) := by decide +kernel
theorem dX7_moves_6 : decode cX7_moves 6 = .ok (.aload_n 0, 1) := by decide +kernel
theorem dX7_moves_7 : decode cX7_moves 7 = .ok (.getfield 76, 3) := by decide +kernel
theorem dX7_moves_10 : decode cX7_moves 10 = .ok (.invokevirtual 148, 3) := by decide +kernel
theorem dX7_moves_13 : decode cX7_moves 13 = .ok (.ireturn, 1) := by decide +kernel
set_option maxRecDepth 20000 in
theorem ggX7_kindOf_X7_asksMove : GoodIn wsX7_kindOf wsX7_asksMove := goodIn_r _ [6, 7, 8, 9, 10, 11, 5, 12, 13, 14, 15, 16, 17, 18, 19, 20, 21, 22, 23, 24, 25, 26, 27, 28, 29, 30, 31, 32, 33, 34, 35, 36, 37, 38, 39, 40, 41, 42, 43, 44, 1, 45, 46, 47, 48, 49, 50, 51, 52, 53, 54, 55, 56, 57, 58, 59, 60, 61, 62, 63, 64, 65, 66, 67, 68, 69, 70, 71, 72, 73, 74, 75, 76, 77, 78, 79, 80, 81, 82, 83, 84, 85, 86, 87, 88, 89, 90, 91, 92, 93] (by decide +kernel) (by decide +kernel)
set_option maxRecDepth 20000 in
theorem gX7_kindOf_X7_asksMove : GoodIn wsX7_kindOf (wsV RX7 145 RX7 yX7_asksMove wsX7_asksMove) := goodIn_app (goodIn_of _ (by decide +kernel)) ggX7_kindOf_X7_asksMove
theorem dX7_kindOf_0 : decode cX7_kindOf 0 = .ok (.aload_n 0, 1) := by decide +kernel
theorem dX7_kindOf_1 : decode cX7_kindOf 1 = .ok (.iload_n 1, 1) := by decide +kernel
theorem dX7_kindOf_2 : decode cX7_kindOf 2 = .ok (.invokevirtual 145, 3) := by decide +kernel
theorem dX7_kindOf_5 : decode cX7_kindOf 5 = .ok (.ifCond .eq 12, 3) := by decide +kernel
theorem dX7_kindOf_8 : decode cX7_kindOf 8 = .ok (.aload_n 0, 1) := by decide +kernel
theorem dX7_kindOf_9 : decode cX7_kindOf 9 = .ok (.getfield 40, 3) := by decide +kernel
theorem dX7_kindOf_12 : decode cX7_kindOf 12 = .ok (.iload_n 1, 1) := by decide +kernel
theorem dX7_kindOf_13 : decode cX7_kindOf 13 = .ok (.iaload, 1) := by decide +kernel
theorem dX7_kindOf_14 : decode cX7_kindOf 14 = .ok (.goto 4, 3) := by decide +kernel
theorem dX7_kindOf_17 : decode cX7_kindOf 17 = .ok (.iconst 0, 1) := by decide +kernel
theorem dX7_kindOf_18 : decode cX7_kindOf 18 = .ok (.ireturn, 1) := by decide +kernel
set_option maxRecDepth 20000 in
theorem ggX7_heapOf_X7_asksMove : GoodIn wsX7_heapOf wsX7_asksMove := goodIn_r _ [6, 7, 8, 9, 10, 11, 5, 12, 13, 14, 15, 16, 17, 18, 19, 20, 21, 22, 23, 24, 25, 26, 27, 28, 29, 30, 31, 32, 33, 34, 35, 36, 37, 38, 39, 40, 41, 42, 43, 44, 45, 1, 46, 47, 48, 49, 50, 51, 52, 53, 54, 55, 56, 57, 58, 59, 60, 61, 62, 63, 64, 65, 66, 67, 68, 69, 70, 71, 72, 73, 74, 75, 76, 77, 78, 79, 80, 81, 82, 83, 84, 85, 86, 87, 88, 89, 90, 91, 92, 93] (by decide +kernel) (by decide +kernel)
set_option maxRecDepth 20000 in
theorem gX7_heapOf_X7_asksMove : GoodIn wsX7_heapOf (wsV RX7 145 RX7 yX7_asksMove wsX7_asksMove) := goodIn_app (goodIn_of _ (by decide +kernel)) ggX7_heapOf_X7_asksMove
theorem dX7_heapOf_0 : decode cX7_heapOf 0 = .ok (.aload_n 0, 1) := by decide +kernel
theorem dX7_heapOf_1 : decode cX7_heapOf 1 = .ok (.iload_n 1, 1) := by decide +kernel
theorem dX7_heapOf_2 : decode cX7_heapOf 2 = .ok (.invokevirtual 145, 3) := by decide +kernel
theorem dX7_heapOf_5 : decode cX7_heapOf 5 = .ok (.ifCond .eq 12, 3) := by decide +kernel
theorem dX7_heapOf_8 : decode cX7_heapOf 8 = .ok (.aload_n 0, 1) := by decide +kernel
theorem dX7_heapOf_9 : decode cX7_heapOf 9 = .ok (.getfield 43, 3) := by decide +kernel
theorem dX7_heapOf_12 : decode cX7_heapOf 12 = .ok (.iload_n 1, 1) := by decide +kernel
theorem dX7_heapOf_13 : decode cX7_heapOf 13 = .ok (.iaload, 1) := by decide +kernel
theorem dX7_heapOf_14 : decode cX7_heapOf 14 = .ok (.goto 4, 3) := by decide +kernel
theorem dX7_heapOf_17 : decode cX7_heapOf 17 = .ok (.iconst 0, 1) := by decide +kernel
theorem dX7_heapOf_18 : decode cX7_heapOf 18 = .ok (.ireturn, 1) := by decide +kernel
set_option maxRecDepth 20000 in
theorem ggX7_amountOf_X7_asksMove : GoodIn wsX7_amountOf wsX7_asksMove := goodIn_r _ [6, 7, 8, 9, 10, 11, 5, 12, 13, 14, 15, 16, 17, 18, 19, 20, 21, 22, 23, 24, 25, 26, 27, 28, 29, 30, 31, 32, 33, 34, 35, 36, 37, 38, 39, 40, 41, 42, 43, 44, 45, 46, 1, 47, 48, 49, 50, 51, 52, 53, 54, 55, 56, 57, 58, 59, 60, 61, 62, 63, 64, 65, 66, 67, 68, 69, 70, 71, 72, 73, 74, 75, 76, 77, 78, 79, 80, 81, 82, 83, 84, 85, 86, 87, 88, 89, 90, 91, 92, 93] (by decide +kernel) (by decide +kernel)
set_option maxRecDepth 20000 in
theorem gX7_amountOf_X7_asksMove : GoodIn wsX7_amountOf (wsV RX7 145 RX7 yX7_asksMove wsX7_asksMove) := goodIn_app (goodIn_of _ (by decide +kernel)) ggX7_amountOf_X7_asksMove
theorem dX7_amountOf_0 : decode cX7_amountOf 0 = .ok (.aload_n 0, 1) := by decide +kernel
theorem dX7_amountOf_1 : decode cX7_amountOf 1 = .ok (.iload_n 1, 1) := by decide +kernel
theorem dX7_amountOf_2 : decode cX7_amountOf 2 = .ok (.invokevirtual 145, 3) := by decide +kernel
theorem dX7_amountOf_5 : decode cX7_amountOf 5 = .ok (.ifCond .eq 12, 3) := by decide +kernel
theorem dX7_amountOf_8 : decode cX7_amountOf 8 = .ok (.aload_n 0, 1) := by decide +kernel
theorem dX7_amountOf_9 : decode cX7_amountOf 9 = .ok (.getfield 46, 3) := by decide +kernel
theorem dX7_amountOf_12 : decode cX7_amountOf 12 = .ok (.iload_n 1, 1) := by decide +kernel
theorem dX7_amountOf_13 : decode cX7_amountOf 13 = .ok (.iaload, 1) := by decide +kernel
theorem dX7_amountOf_14 : decode cX7_amountOf 14 = .ok (.goto 4, 3) := by decide +kernel
theorem dX7_amountOf_17 : decode cX7_amountOf 17 = .ok (.iconst 0, 1) := by decide +kernel
theorem dX7_amountOf_18 : decode cX7_amountOf 18 = .ok (.ireturn, 1) := by decide +kernel
theorem dX7_isPositionWon_0 : decode cX7_isPositionWon 0 = .ok (.aload_n 0, 1) := by decide +kernel
theorem dX7_isPositionWon_1 : decode cX7_isPositionWon 1 = .ok (.getfield 7, 3) := by decide +kernel
theorem dX7_isPositionWon_4 : decode cX7_isPositionWon 4 = .ok (.iconst 3, 1) := by decide +kernel
theorem dX7_isPositionWon_5 : decode cX7_isPositionWon 5 = .ok (.iaload, 1) := by decide +kernel
theorem dX7_isPositionWon_6 : decode cX7_isPositionWon 6 = .ok (.iconst 1, 1) := by decide +kernel
theorem dX7_isPositionWon_7 : decode cX7_isPositionWon 7 = .ok (.if_icmp .ne 20, 3) := by decide +kernel
theorem dX7_isPositionWon_10 : decode cX7_isPositionWon 10 = .ok (.aload_n 0, 1) := by decide +kernel
theorem dX7_isPositionWon_11 : decode cX7_isPositionWon 11 = .ok (.getfield 25, 3) := by decide +kernel
theorem dX7_isPositionWon_14 : decode cX7_isPositionWon 14 = .ok (.iload_n 1, 1) := by decide +kernel
theorem dX7_isPositionWon_15 : decode cX7_isPositionWon 15 = .ok (.iaload, 1) := by decide +kernel
theorem dX7_isPositionWon_16 : decode cX7_isPositionWon 16 = .ok (.ifCond .eq 7, 3) := by decide +kernel
theorem dX7_isPositionWon_19 : decode cX7_isPositionWon 19 = .ok (.iconst 1, 1) := by decide +kernel
theorem dX7_isPositionWon_20 : decode cX7_isPositionWon 20 = .ok (.goto 22, 3) := by decide +kernel
theorem dX7_isPositionWon_23 : decode cX7_isPositionWon 23 = .ok (.iconst 0, 1) := by decide +kernel
theorem dX7_isPositionWon_24 : decode cX7_isPositionWon 24 = .ok (.goto 18, 3) := by decide +kernel
theorem dX7_isPositionWon_27 : decode cX7_isPositionWon 27 = .ok (.aload_n 0, 1) := by decide +kernel
theorem dX7_isPositionWon_28 : decode cX7_isPositionWon 28 = .ok (.getfield 28, 3) := by decide +kernel
theorem dX7_isPositionWon_31 : decode cX7_isPositionWon 31 = .ok (.iload_n 1, 1) := by decide +kernel
theorem dX7_isPositionWon_32 : decode cX7_isPositionWon 32 = .ok (.iaload, 1) := by decide +kernel
theorem dX7_isPositionWon_33 : decode cX7_isPositionWon 33 = .ok (.iconst 1, 1) := by decide +kernel
theorem dX7_isPositionWon_34 : decode cX7_isPositionWon 34 = .ok (.if_icmp .ne 7, 3) := by decide +kernel
theorem dX7_isPositionWon_37 : decode cX7_isPositionWon 37 = .ok (.iconst 1, 1) := by decide +kernel
theorem dX7_isPositionWon_38 : decode cX7_isPositionWon 38 = .ok (.goto 4, 3) := by decide +kernel
theorem dX7_isPositionWon_41 : decode cX7_isPositionWon 41 = .ok (.iconst 0, 1) := by decide +kernel
theorem dX7_isPositionWon_42 : decode cX7_isPositionWon 42 = .ok (.ireturn, 1) := by decide +kernel
set_option maxRecDepth 20000 in
theorem ggX7_numberNow_X7_looks : GoodIn wsX7_numberNow wsX7_looks := goodIn_r _ [6, 7, 8, 9, 10, 11, 12, 13, 14, 5, 15, 16, 17, 18, 19, 20, 21, 22, 1, 23, 24, 25, 26, 27, 28, 29, 30, 31, 32, 33, 34, 35, 36, 37, 38, 39, 40, 41, 42, 43, 44, 45, 46, 47, 48, 49, 50, 51, 52, 53, 54, 55, 56, 57, 58, 59, 60, 61, 62, 63, 64, 65, 66, 67, 68, 69, 70, 71, 72, 73, 74, 75, 76, 77, 78, 79, 80, 81, 82, 83, 84, 85] (by decide +kernel) (by decide +kernel)
set_option maxRecDepth 20000 in
theorem gX7_numberNow_X7_looks : GoodIn wsX7_numberNow (wsV RX7 129 RX7 yX7_looks wsX7_looks) := goodIn_app (goodIn_of _ (by decide +kernel)) ggX7_numberNow_X7_looks
theorem dX7_numberNow_0 : decode cX7_numberNow 0 = .ok (.aload_n 0, 1) := by decide +kernel
theorem dX7_numberNow_1 : decode cX7_numberNow 1 = .ok (.getfield 25, 3) := by decide +kernel
theorem dX7_numberNow_4 : decode cX7_numberNow 4 = .ok (.aload_n 0, 1) := by decide +kernel
theorem dX7_numberNow_5 : decode cX7_numberNow 5 = .ok (.invokevirtual 129, 3) := by decide +kernel
theorem dX7_numberNow_8 : decode cX7_numberNow 8 = .ok (.iaload, 1) := by decide +kernel
theorem dX7_numberNow_9 : decode cX7_numberNow 9 = .ok (.ireturn, 1) := by decide +kernel
set_option maxRecDepth 20000 in
theorem ggX7_number_X7_numberNow : GoodIn wsX7_number wsX7_numberNow := goodIn_r _ [5, 6, 7, 8, 9, 4, 10, 11, 12, 13, 14, 15, 16, 17, 18, 19, 20, 21, 22, 23, 24, 25, 26, 27, 28, 29, 30, 31, 32, 33, 34, 35, 36, 37, 38, 39, 40, 41, 42, 43, 44, 45, 46, 47, 48, 49, 50, 51, 52, 53, 54, 55, 56, 57, 58, 59, 60, 61, 62, 68, 69, 70, 71, 72, 73, 74, 75, 76, 77, 78, 79, 80, 81, 82, 83, 84, 85, 86, 87, 88, 89, 90, 91, 92, 93, 94] (by decide +kernel) (by decide +kernel)
set_option maxRecDepth 20000 in
theorem gX7_number_X7_numberNow : GoodIn wsX7_number (wsV RX7 157 RX7 yX7_numberNow wsX7_numberNow) := goodIn_app (goodIn_of _ (by decide +kernel)) ggX7_number_X7_numberNow
set_option maxRecDepth 20000 in
theorem ggX7_number_X7_tells : GoodIn wsX7_number wsX7_tells := goodIn_r _ [66, 67, 68, 69, 70, 71, 72, 73, 74, 75, 76, 77, 78, 79, 80, 81, 82, 83, 84, 85, 86, 87, 88, 89, 90, 91, 92, 93, 94] (by decide +kernel) (by decide +kernel)
set_option maxRecDepth 20000 in
theorem gX7_number_X7_tells : GoodIn wsX7_number (wsV RX7 148 RX7 yX7_tells wsX7_tells) := goodIn_app (goodIn_of _ (by decide +kernel)) ggX7_number_X7_tells
theorem dX7_number_0 : decode cX7_number 0 = .ok (.aload_n 0, 1) := by decide +kernel
theorem dX7_number_1 : decode cX7_number 1 = .ok (.aload_n 0, 1) := by decide +kernel
theorem dX7_number_2 : decode cX7_number 2 = .ok (.invokevirtual 157, 3) := by decide +kernel
theorem dX7_number_5 : decode cX7_number 5 = .ok (.invokevirtual 148, 3) := by decide +kernel
theorem dX7_number_8 : decode cX7_number 8 = .ok (.ireturn, 1) := by decide +kernel
set_option maxRecDepth 20000 in
theorem ggX7_byHeaps_X7_learns : GoodIn wsX7_byHeaps wsX7_learns := goodIn_r _ [9, 1, 10, 11, 12, 13, 14, 8, 15, 16, 4, 17, 18, 19, 20, 21, 22, 23, 24, 25, 26, 27, 28, 29, 30, 31, 32, 33, 34, 35, 36, 37, 38, 39, 40, 41, 42, 43, 44, 45, 2, 3, 46, 47, 48, 49, 50, 51, 52, 53, 54, 55, 56, 57, 58, 59, 60, 61, 62, 63, 64, 65, 66, 67, 68, 69, 70, 71, 72, 73, 74, 75, 76, 77, 78, 79, 80, 81] (by decide +kernel) (by decide +kernel)
set_option maxRecDepth 20000 in
theorem gX7_byHeaps_X7_learns : GoodIn wsX7_byHeaps (wsV RX7 110 RX7 yX7_learns wsX7_learns) := goodIn_app (goodIn_of _ (by decide +kernel)) ggX7_byHeaps_X7_learns
set_option maxRecDepth 20000 in
theorem ggX7_byHeaps_X7_position : GoodIn wsX7_byHeaps wsX7_position := goodIn_r _ [49, 2, 3, 50, 51, 52, 53, 8, 54, 26, 55, 56, 57, 58, 59, 60, 61, 62, 63, 64, 65, 66, 67, 68, 69, 70, 71, 72, 73, 74, 75, 76, 77, 78, 79, 80, 81] (by decide +kernel) (by decide +kernel)
set_option maxRecDepth 20000 in
theorem gX7_byHeaps_X7_position : GoodIn wsX7_byHeaps (wsV RX7 89 RX7 yX7_position wsX7_position) := goodIn_app (goodIn_of _ (by decide +kernel)) ggX7_byHeaps_X7_position
theorem dX7_byHeaps_0 : decode cX7_byHeaps 0 = .ok (.aload_n 0, 1) := by decide +kernel
theorem dX7_byHeaps_1 : decode cX7_byHeaps 1 = .ok (.invokevirtual 110, 3) := by decide +kernel
theorem dX7_byHeaps_4 : decode cX7_byHeaps 4 = .ok (.iconst 0, 1) := by decide +kernel
theorem dX7_byHeaps_5 : decode cX7_byHeaps 5 = .ok (.istore_n 1, 1) := by decide +kernel
theorem dX7_byHeaps_6 : decode cX7_byHeaps 6 = .ok (.iconst 0, 1) := by decide +kernel
theorem dX7_byHeaps_7 : decode cX7_byHeaps 7 = .ok (.istore_n 2, 1) := by decide +kernel
theorem dX7_byHeaps_8 : decode cX7_byHeaps 8 = .ok (.iload_n 2, 1) := by decide +kernel
theorem dX7_byHeaps_9 : decode cX7_byHeaps 9 = .ok (.aload_n 0, 1) := by decide +kernel
theorem dX7_byHeaps_10 : decode cX7_byHeaps 10 = .ok (.getfield 7, 3) := by decide +kernel
theorem dX7_byHeaps_13 : decode cX7_byHeaps 13 = .ok (.iconst 4, 1) := by decide +kernel
theorem dX7_byHeaps_14 : decode cX7_byHeaps 14 = .ok (.iaload, 1) := by decide +kernel
theorem dX7_byHeaps_15 : decode cX7_byHeaps 15 = .ok (.if_icmp .ge 40, 3) := by decide +kernel
theorem dX7_byHeaps_18 : decode cX7_byHeaps 18 = .ok (.aload_n 0, 1) := by decide +kernel
theorem dX7_byHeaps_19 : decode cX7_byHeaps 19 = .ok (.iconst 1, 1) := by decide +kernel
theorem dX7_byHeaps_20 : decode cX7_byHeaps 20 = .ok (.putfield 70, 3) := by decide +kernel
theorem dX7_byHeaps_23 : decode cX7_byHeaps 23 = .ok (.aload_n 0, 1) := by decide +kernel
theorem dX7_byHeaps_24 : decode cX7_byHeaps 24 = .ok (.getfield 49, 3) := by decide +kernel
theorem dX7_byHeaps_27 : decode cX7_byHeaps 27 = .ok (.iconst 0, 1) := by decide +kernel
theorem dX7_byHeaps_28 : decode cX7_byHeaps 28 = .ok (.aload_n 0, 1) := by decide +kernel
theorem dX7_byHeaps_29 : decode cX7_byHeaps 29 = .ok (.getfield 7, 3) := by decide +kernel
theorem dX7_byHeaps_32 : decode cX7_byHeaps 32 = .ok (.iconst 5, 1) := by decide +kernel
theorem dX7_byHeaps_33 : decode cX7_byHeaps 33 = .ok (.iload_n 2, 1) := by decide +kernel
theorem dX7_byHeaps_34 : decode cX7_byHeaps 34 = .ok (.iadd, 1) := by decide +kernel
theorem dX7_byHeaps_35 : decode cX7_byHeaps 35 = .ok (.iaload, 1) := by decide +kernel
theorem dX7_byHeaps_36 : decode cX7_byHeaps 36 = .ok (.iastore, 1) := by decide +kernel
theorem dX7_byHeaps_37 : decode cX7_byHeaps 37 = .ok (.iload_n 1, 1) := by decide +kernel
theorem dX7_byHeaps_38 : decode cX7_byHeaps 38 = .ok (.aload_n 0, 1) := by decide +kernel
theorem dX7_byHeaps_39 : decode cX7_byHeaps 39 = .ok (.getfield 25, 3) := by decide +kernel
theorem dX7_byHeaps_42 : decode cX7_byHeaps 42 = .ok (.aload_n 0, 1) := by decide +kernel
theorem dX7_byHeaps_43 : decode cX7_byHeaps 43 = .ok (.invokevirtual 89, 3) := by decide +kernel
theorem dX7_byHeaps_46 : decode cX7_byHeaps 46 = .ok (.iaload, 1) := by decide +kernel
theorem dX7_byHeaps_47 : decode cX7_byHeaps 47 = .ok (.ixor, 1) := by decide +kernel
theorem dX7_byHeaps_48 : decode cX7_byHeaps 48 = .ok (.istore_n 1, 1) := by decide +kernel
theorem dX7_byHeaps_49 : decode cX7_byHeaps 49 = .ok (.iinc 2 1, 3) := by decide +kernel
theorem dX7_byHeaps_52 : decode cX7_byHeaps 52 = .ok (.goto (-44), 3) := by decide +kernel
theorem dX7_byHeaps_55 : decode cX7_byHeaps 55 = .ok (.iload_n 1, 1) := by decide +kernel
theorem dX7_byHeaps_56 : decode cX7_byHeaps 56 = .ok (.ireturn, 1) := by decide +kernel
set_option maxRecDepth 20000 in
theorem ggX7_numberByHeaps_X7_byHeaps : GoodIn wsX7_numberByHeaps wsX7_byHeaps := goodIn_r _ [5, 6, 7, 8, 9, 10, 11, 12, 4, 13, 14, 15, 16, 17, 18, 19, 20, 21, 22, 23, 24, 25, 26, 27, 28, 29, 30, 31, 32, 33, 34, 35, 36, 37, 38, 39, 40, 41, 42, 43, 44, 45, 46, 47, 48, 49, 50, 51, 52, 53, 54, 55, 56, 57, 58, 64, 65, 66, 67, 68, 69, 70, 71, 72, 73, 74, 75, 76, 77, 78, 79, 80, 81, 82, 83, 84, 85, 86, 87, 88, 89, 90] (by decide +kernel) (by decide +kernel)
set_option maxRecDepth 20000 in
theorem gX7_numberByHeaps_X7_byHeaps : GoodIn wsX7_numberByHeaps (wsV RX7 160 RX7 yX7_byHeaps wsX7_byHeaps) := goodIn_app (goodIn_of _ (by decide +kernel)) ggX7_numberByHeaps_X7_byHeaps
set_option maxRecDepth 20000 in
theorem ggX7_numberByHeaps_X7_tells : GoodIn wsX7_numberByHeaps wsX7_tells := goodIn_r _ [62, 63, 64, 65, 66, 67, 68, 69, 70, 71, 72, 73, 74, 75, 76, 77, 78, 79, 80, 81, 82, 83, 84, 85, 86, 87, 88, 89, 90] (by decide +kernel) (by decide +kernel)
set_option maxRecDepth 20000 in
theorem gX7_numberByHeaps_X7_tells : GoodIn wsX7_numberByHeaps (wsV RX7 148 RX7 yX7_tells wsX7_tells) := goodIn_app (goodIn_of _ (by decide +kernel)) ggX7_numberByHeaps_X7_tells
theorem dX7_numberByHeaps_0 : decode cX7_numberByHeaps 0 = .ok (.aload_n 0, 1) := by decide +kernel
theorem dX7_numberByHeaps_1 : decode cX7_numberByHeaps 1 = .ok (.aload_n 0, 1) := by decide +kernel
theorem dX7_numberByHeaps_2 : decode cX7_numberByHeaps 2 = .ok (.invokevirtual 160, 3) := by decide +kernel
theorem dX7_numberByHeaps_5 : decode cX7_numberByHeaps 5 = .ok (.invokevirtual 148, 3) := by decide +kernel
theorem dX7_numberByHeaps_8 : decode cX7_numberByHeaps 8 = .ok (.ireturn, 1) := by decide +kernel
set_option maxRecDepth 20000 in
theorem ggX7_isWonNow_X7_looks : GoodIn wsX7_isWonNow wsX7_looks := goodIn_r _ [5, 6, 7, 8, 9, 10, 11, 12, 13, 4, 14, 15, 16, 17, 18, 19, 20, 21, 22, 23, 24, 25, 26, 27, 28, 29, 30, 31, 32, 33, 34, 35, 36, 37, 38, 39, 40, 41, 42, 43, 44, 45, 46, 47, 48, 49, 50, 51, 52, 53, 54, 55, 56, 57, 58, 63, 64, 65, 66, 67, 68, 69, 70, 71, 72, 73, 74, 75, 76, 77, 78, 79, 80, 81, 82, 83, 84, 85, 86, 87, 88, 89] (by decide +kernel) (by decide +kernel)
set_option maxRecDepth 20000 in
theorem gX7_isWonNow_X7_looks : GoodIn wsX7_isWonNow (wsV RX7 129 RX7 yX7_looks wsX7_looks) := goodIn_app (goodIn_of _ (by decide +kernel)) ggX7_isWonNow_X7_looks
set_option maxRecDepth 20000 in
theorem ggX7_isWonNow_X7_isPositionWon : GoodIn wsX7_isWonNow wsX7_isPositionWon := goodIn_r _ [62, 6, 22, 23, 63, 64, 65, 66, 67, 68, 69, 70, 71, 72, 73, 74, 75, 76, 77, 78, 79, 80, 81, 82, 83, 84, 85, 86, 87, 88, 89] (by decide +kernel) (by decide +kernel)
set_option maxRecDepth 20000 in
theorem gX7_isWonNow_X7_isPositionWon : GoodIn wsX7_isWonNow (wsV RX7 163 RX7 yX7_isPositionWon wsX7_isPositionWon) := goodIn_app (goodIn_of _ (by decide +kernel)) ggX7_isWonNow_X7_isPositionWon
theorem dX7_isWonNow_0 : decode cX7_isWonNow 0 = .ok (.aload_n 0, 1) := by decide +kernel
theorem dX7_isWonNow_1 : decode cX7_isWonNow 1 = .ok (.aload_n 0, 1) := by decide +kernel
theorem dX7_isWonNow_2 : decode cX7_isWonNow 2 = .ok (.invokevirtual 129, 3) := by decide +kernel
theorem dX7_isWonNow_5 : decode cX7_isWonNow 5 = .ok (.invokevirtual 163, 3) := by decide +kernel
theorem dX7_isWonNow_8 : decode cX7_isWonNow 8 = .ok (.ireturn, 1) := by decide +kernel
set_option maxRecDepth 20000 in
theorem ggX7_isWon_X7_isWonNow : GoodIn wsX7_isWon wsX7_isWonNow := goodIn_r _ [6, 7, 8, 9, 5, 10, 11, 12, 13, 14, 15, 16, 17, 18, 19, 20, 21, 22, 23, 24, 25, 26, 27, 28, 29, 30, 31, 32, 33, 34, 35, 36, 37, 38, 39, 40, 41, 42, 43, 44, 45, 46, 47, 48, 49, 50, 51, 52, 53, 54, 55, 56, 57, 58, 59, 60, 61, 62, 63, 64, 65, 66, 67, 68, 69, 70, 71, 72, 73, 74, 75, 76, 77, 78, 79, 80, 81, 82, 83, 84, 85, 86, 87, 88, 89, 90, 91, 92, 93, 94] (by decide +kernel) (by decide +kernel)
set_option maxRecDepth 20000 in
theorem gX7_isWon_X7_isWonNow : GoodIn wsX7_isWon (wsV RX7 166 RX7 yX7_isWonNow wsX7_isWonNow) := goodIn_app (goodIn_of _ (by decide +kernel)) ggX7_isWon_X7_isWonNow
theorem dX7_isWon_0 : decode cX7_isWon 0 = .ok (.aload_n 0, 1) := by decide +kernel
theorem dX7_isWon_1 : decode cX7_isWon 1 = .ok (.iconst 0, 1) := by decide +kernel
theorem dX7_isWon_2 : decode cX7_isWon 2 = .ok (.putfield 60, 3) := by decide +kernel
theorem dX7_isWon_5 : decode cX7_isWon 5 = .ok (.aload_n 0, 1) := by decide +kernel
theorem dX7_isWon_6 : decode cX7_isWon 6 = .ok (.invokevirtual 166, 3) := by decide +kernel
theorem dX7_isWon_9 : decode cX7_isWon 9 = .ok (.ireturn, 1) := by decide +kernel
set_option maxRecDepth 20000 in
theorem ggX7_wins_X7_asksMove : GoodIn wsX7_wins wsX7_asksMove := goodIn_r _ [5, 6, 7, 8, 9, 10, 4, 11, 12, 13, 14, 15, 16, 17, 18, 19, 20, 21, 22, 23, 24, 25, 26, 27, 28, 29, 30, 31, 32, 33, 34, 35, 36, 37, 38, 39, 40, 41, 42, 43, 44, 45, 46, 47, 48, 49, 50, 51, 52, 53, 54, 55, 56, 57, 58, 59, 60, 61, 62, 63, 64, 65, 66, 71, 72, 73, 74, 75, 76, 77, 78, 79, 80, 81, 82, 83, 84, 85, 86, 87, 88, 89, 90, 91, 92, 93, 94, 95, 96, 97] (by decide +kernel) (by decide +kernel)
set_option maxRecDepth 20000 in
theorem gX7_wins_X7_asksMove : GoodIn wsX7_wins (wsV RX7 145 RX7 yX7_asksMove wsX7_asksMove) := goodIn_app (goodIn_of _ (by decide +kernel)) ggX7_wins_X7_asksMove
set_option maxRecDepth 20000 in
theorem ggX7_wins_X7_positionBehind : GoodIn wsX7_wins wsX7_positionBehind := goodIn_r _ [50, 44, 45, 46, 51, 52, 53, 4, 54, 14, 13, 15, 16, 55, 56, 57, 58, 59, 60, 61, 62, 63, 35, 71, 72, 73, 74, 75, 76, 77, 78, 79, 80, 81, 82, 83, 84, 85, 86, 87, 88, 89, 90, 91, 92, 93, 94, 95, 96, 97] (by decide +kernel) (by decide +kernel)
set_option maxRecDepth 20000 in
theorem gX7_wins_X7_positionBehind : GoodIn wsX7_wins (wsV RX7 100 RX7 yX7_positionBehind wsX7_positionBehind) := goodIn_app (goodIn_of _ (by decide +kernel)) ggX7_wins_X7_positionBehind
set_option maxRecDepth 20000 in
theorem ggX7_wins_X7_isPositionWon : GoodIn wsX7_wins wsX7_isPositionWon := goodIn_r _ [70, 12, 27, 28, 71, 72, 73, 74, 75, 76, 77, 78, 79, 80, 81, 82, 83, 84, 85, 86, 87, 88, 89, 90, 91, 92, 93, 94, 95, 96, 97] (by decide +kernel) (by decide +kernel)
set_option maxRecDepth 20000 in
theorem gX7_wins_X7_isPositionWon : GoodIn wsX7_wins (wsV RX7 163 RX7 yX7_isPositionWon wsX7_isPositionWon) := goodIn_app (goodIn_of _ (by decide +kernel)) ggX7_wins_X7_isPositionWon
theorem dX7_wins_0 : decode cX7_wins 0 = .ok (.aload_n 0, 1) := by decide +kernel
theorem dX7_wins_1 : decode cX7_wins 1 = .ok (.iload_n 1, 1) := by decide +kernel
theorem dX7_wins_2 : decode cX7_wins 2 = .ok (.invokevirtual 145, 3) := by decide +kernel
theorem dX7_wins_5 : decode cX7_wins 5 = .ok (.ifCond .eq 19, 3) := by decide +kernel
theorem dX7_wins_8 : decode cX7_wins 8 = .ok (.aload_n 0, 1) := by decide +kernel
theorem dX7_wins_9 : decode cX7_wins 9 = .ok (.aload_n 0, 1) := by decide +kernel
theorem dX7_wins_10 : decode cX7_wins 10 = .ok (.iload_n 1, 1) := by decide +kernel
theorem dX7_wins_11 : decode cX7_wins 11 = .ok (.invokevirtual 100, 3) := by decide +kernel
theorem dX7_wins_14 : decode cX7_wins 14 = .ok (.invokevirtual 163, 3) := by decide +kernel
theorem dX7_wins_17 : decode cX7_wins 17 = .ok (.ifCond .ne 7, 3) := by decide +kernel
theorem dX7_wins_20 : decode cX7_wins 20 = .ok (.iconst 1, 1) := by decide +kernel
theorem dX7_wins_21 : decode cX7_wins 21 = .ok (.goto 4, 3) := by decide +kernel
theorem dX7_wins_24 : decode cX7_wins 24 = .ok (.iconst 0, 1) := by decide +kernel
theorem dX7_wins_25 : decode cX7_wins 25 = .ok (.ireturn, 1) := by decide +kernel
set_option maxRecDepth 20000 in
theorem ggX7_winning_X7_looks : GoodIn wsX7_winning wsX7_looks := goodIn_r _ [6, 7, 8, 9, 10, 11, 12, 13, 14, 5, 15, 16, 17, 18, 19, 20, 21, 1, 22, 23, 24, 25, 26, 27, 28, 29, 30, 31, 32, 33, 34, 35, 36, 37, 38, 39, 40, 41, 42, 43, 44, 45, 46, 47, 48, 49, 50, 51, 52, 53, 54, 55, 56, 57, 58, 63, 64, 65, 66, 67, 68, 69, 70, 71, 72, 73, 74, 75, 76, 77, 78, 79, 80, 81, 82, 83, 84, 85, 86, 87, 88, 89] (by decide +kernel) (by decide +kernel)
set_option maxRecDepth 20000 in
theorem gX7_winning_X7_looks : GoodIn wsX7_winning (wsV RX7 129 RX7 yX7_looks wsX7_looks) := goodIn_app (goodIn_of _ (by decide +kernel)) ggX7_winning_X7_looks
set_option maxRecDepth 20000 in
theorem ggX7_winning_X7_positionBehind : GoodIn wsX7_winning wsX7_positionBehind := goodIn_r _ [45, 39, 40, 41, 46, 47, 48, 5, 49, 9, 8, 10, 11, 50, 51, 52, 53, 54, 55, 56, 57, 58, 30, 63, 64, 65, 66, 67, 68, 69, 70, 71, 72, 73, 74, 75, 76, 77, 78, 79, 80, 81, 82, 83, 84, 85, 86, 87, 88, 89] (by decide +kernel) (by decide +kernel)
set_option maxRecDepth 20000 in
theorem gX7_winning_X7_positionBehind : GoodIn wsX7_winning (wsV RX7 100 RX7 yX7_positionBehind wsX7_positionBehind) := goodIn_app (goodIn_of _ (by decide +kernel)) ggX7_winning_X7_positionBehind
set_option maxRecDepth 20000 in
theorem ggX7_winning_X7_isPositionWon : GoodIn wsX7_winning wsX7_isPositionWon := goodIn_r _ [62, 7, 22, 23, 63, 64, 65, 66, 67, 68, 69, 70, 71, 72, 73, 74, 75, 76, 77, 78, 79, 80, 81, 82, 83, 84, 85, 86, 87, 88, 89] (by decide +kernel) (by decide +kernel)
set_option maxRecDepth 20000 in
theorem gX7_winning_X7_isPositionWon : GoodIn wsX7_winning (wsV RX7 163 RX7 yX7_isPositionWon wsX7_isPositionWon) := goodIn_app (goodIn_of _ (by decide +kernel)) ggX7_winning_X7_isPositionWon
theorem dX7_winning_0 : decode cX7_winning 0 = .ok (.aload_n 0, 1) := by decide +kernel
theorem dX7_winning_1 : decode cX7_winning 1 = .ok (.invokevirtual 129, 3) := by decide +kernel
theorem dX7_winning_4 : decode cX7_winning 4 = .ok (.pop, 1) := by decide +kernel
theorem dX7_winning_5 : decode cX7_winning 5 = .ok (.iconst 0, 1) := by decide +kernel
theorem dX7_winning_6 : decode cX7_winning 6 = .ok (.istore_n 2, 1) := by decide +kernel
theorem dX7_winning_7 : decode cX7_winning 7 = .ok (.iconst 0, 1) := by decide +kernel
theorem dX7_winning_8 : decode cX7_winning 8 = .ok (.istore_n 3, 1) := by decide +kernel
theorem dX7_winning_9 : decode cX7_winning 9 = .ok (.iload_n 3, 1) := by decide +kernel
theorem dX7_winning_10 : decode cX7_winning 10 = .ok (.aload_n 0, 1) := by decide +kernel
theorem dX7_winning_11 : decode cX7_winning 11 = .ok (.getfield 76, 3) := by decide +kernel
theorem dX7_winning_14 : decode cX7_winning 14 = .ok (.if_icmp .ge 30, 3) := by decide +kernel
theorem dX7_winning_17 : decode cX7_winning 17 = .ok (.aload_n 0, 1) := by decide +kernel
theorem dX7_winning_18 : decode cX7_winning 18 = .ok (.aload_n 0, 1) := by decide +kernel
theorem dX7_winning_19 : decode cX7_winning 19 = .ok (.iload_n 3, 1) := by decide +kernel
theorem dX7_winning_20 : decode cX7_winning 20 = .ok (.invokevirtual 100, 3) := by decide +kernel
theorem dX7_winning_23 : decode cX7_winning 23 = .ok (.invokevirtual 163, 3) := by decide +kernel
theorem dX7_winning_26 : decode cX7_winning 26 = .ok (.ifCond .ne 12, 3) := by decide +kernel
theorem dX7_winning_29 : decode cX7_winning 29 = .ok (.iload_n 1, 1) := by decide +kernel
theorem dX7_winning_30 : decode cX7_winning 30 = .ok (.ifCond .eq 5, 3) := by decide +kernel
theorem dX7_winning_33 : decode cX7_winning 33 = .ok (.iload_n 3, 1) := by decide +kernel
theorem dX7_winning_34 : decode cX7_winning 34 = .ok (.ireturn, 1) := by decide +kernel
theorem dX7_winning_35 : decode cX7_winning 35 = .ok (.iinc 2 1, 3) := by decide +kernel
theorem dX7_winning_38 : decode cX7_winning 38 = .ok (.iinc 3 1, 3) := by decide +kernel
theorem dX7_winning_41 : decode cX7_winning 41 = .ok (.goto (-32), 3) := by decide +kernel
theorem dX7_winning_44 : decode cX7_winning 44 = .ok (.iload_n 1, 1) := by decide +kernel
theorem dX7_winning_45 : decode cX7_winning 45 = .ok (.ifCond .eq 7, 3) := by decide +kernel
theorem dX7_winning_48 : decode cX7_winning 48 = .ok (.iconst (-1), 1) := by decide +kernel
theorem dX7_winning_49 : decode cX7_winning 49 = .ok (.goto 4, 3) := by decide +kernel
theorem dX7_winning_52 : decode cX7_winning 52 = .ok (.iload_n 2, 1) := by decide +kernel
theorem dX7_winning_53 : decode cX7_winning 53 = .ok (.ireturn, 1) := by decide +kernel
set_option maxRecDepth 20000 in
theorem ggX7_winningMoves_X7_winning : GoodIn wsX7_winningMoves wsX7_winning := goodIn_r _ [5, 6, 7, 8, 9, 4, 10, 11, 12, 13, 14, 15, 16, 17, 18, 19, 20, 21, 22, 23, 24, 25, 26, 27, 28, 29, 30, 31, 32, 33, 34, 35, 36, 37, 38, 39, 40, 41, 42, 43, 44, 45, 46, 47, 48, 49, 50, 51, 52, 53, 54, 55, 56, 57, 58, 59, 60, 61, 62, 63, 64, 65, 66, 72, 73, 74, 75, 76, 77, 78, 79, 80, 81, 82, 83, 84, 85, 86, 87, 88, 89, 90, 91, 92, 93, 94, 95, 96, 97, 98] (by decide +kernel) (by decide +kernel)
set_option maxRecDepth 20000 in
theorem gX7_winningMoves_X7_winning : GoodIn wsX7_winningMoves (wsV RX7 170 RX7 yX7_winning wsX7_winning) := goodIn_app (goodIn_of _ (by decide +kernel)) ggX7_winningMoves_X7_winning
set_option maxRecDepth 20000 in
theorem ggX7_winningMoves_X7_tells : GoodIn wsX7_winningMoves wsX7_tells := goodIn_r _ [70, 71, 72, 73, 74, 75, 76, 77, 78, 79, 80, 81, 82, 83, 84, 85, 86, 87, 88, 89, 90, 91, 92, 93, 94, 95, 96, 97, 98] (by decide +kernel) (by decide +kernel)
set_option maxRecDepth 20000 in
theorem gX7_winningMoves_X7_tells : GoodIn wsX7_winningMoves (wsV RX7 148 RX7 yX7_tells wsX7_tells) := goodIn_app (goodIn_of _ (by decide +kernel)) ggX7_winningMoves_X7_tells
theorem dX7_winningMoves_0 : decode cX7_winningMoves 0 = .ok (.aload_n 0, 1) := by decide +kernel
theorem dX7_winningMoves_1 : decode cX7_winningMoves 1 = .ok (.aload_n 0, 1) := by decide +kernel
theorem dX7_winningMoves_2 : decode cX7_winningMoves 2 = .ok (.iconst 0, 1) := by decide +kernel
theorem dX7_winningMoves_3 : decode cX7_winningMoves 3 = .ok (.invokevirtual 170, 3) := by decide +kernel
theorem dX7_winningMoves_6 : decode cX7_winningMoves 6 = .ok (.invokevirtual 148, 3) := by decide +kernel
theorem dX7_winningMoves_9 : decode cX7_winningMoves 9 = .ok (.ireturn, 1) := by decide +kernel
set_option maxRecDepth 20000 in
theorem ggX7_reply_X7_winning : GoodIn wsX7_reply wsX7_winning := goodIn_r _ [7, 1, 8, 9, 10, 6, 11, 12, 13, 14, 15, 16, 17, 18, 19, 20, 21, 22, 23, 24, 25, 26, 27, 28, 2, 29, 30, 31, 32, 33, 34, 35, 36, 37, 38, 39, 40, 41, 42, 43, 44, 45, 46, 47, 48, 49, 50, 51, 52, 53, 54, 55, 56, 57, 58, 59, 60, 61, 62, 63, 64, 65, 66, 67, 68, 69, 70, 71, 72, 73, 74, 75, 76, 77, 78, 79, 80, 81, 82, 83, 84, 85, 86, 87, 88, 89, 90, 91, 92, 93] (by decide +kernel) (by decide +kernel)
set_option maxRecDepth 20000 in
theorem gX7_reply_X7_winning : GoodIn wsX7_reply (wsV RX7 170 RX7 yX7_winning wsX7_winning) := goodIn_app (goodIn_of _ (by decide +kernel)) ggX7_reply_X7_winning
set_option maxRecDepth 20000 in
theorem ggX7_reply_X7_positionBehind : GoodIn wsX7_reply wsX7_positionBehind := goodIn_r _ [49, 43, 44, 45, 50, 51, 52, 6, 53, 14, 13, 15, 16, 54, 55, 56, 57, 58, 59, 60, 61, 62, 34, 67, 68, 69, 70, 71, 72, 73, 74, 75, 76, 77, 78, 79, 80, 81, 82, 83, 84, 85, 86, 87, 88, 89, 90, 91, 92, 93] (by decide +kernel) (by decide +kernel)
set_option maxRecDepth 20000 in
theorem gX7_reply_X7_positionBehind : GoodIn wsX7_reply (wsV RX7 100 RX7 yX7_positionBehind wsX7_positionBehind) := goodIn_app (goodIn_of _ (by decide +kernel)) ggX7_reply_X7_positionBehind
theorem dX7_reply_0 : decode cX7_reply 0 = .ok (.aload_n 0, 1) := by decide +kernel
theorem dX7_reply_1 : decode cX7_reply 1 = .ok (.iconst 1, 1) := by decide +kernel
theorem dX7_reply_2 : decode cX7_reply 2 = .ok (.invokevirtual 170, 3) := by decide +kernel
theorem dX7_reply_5 : decode cX7_reply 5 = .ok (.istore_n 1, 1) := by decide +kernel
theorem dX7_reply_6 : decode cX7_reply 6 = .ok (.iconst (-1), 1) := by decide +kernel
theorem dX7_reply_7 : decode cX7_reply 7 = .ok (.istore_n 2, 1) := by decide +kernel
theorem dX7_reply_8 : decode cX7_reply 8 = .ok (.iload_n 1, 1) := by decide +kernel
theorem dX7_reply_9 : decode cX7_reply 9 = .ok (.iconst (-1), 1) := by decide +kernel
theorem dX7_reply_10 : decode cX7_reply 10 = .ok (.if_icmp .eq 7, 3) := by decide +kernel
theorem dX7_reply_13 : decode cX7_reply 13 = .ok (.iconst 1, 1) := by decide +kernel
theorem dX7_reply_14 : decode cX7_reply 14 = .ok (.goto 4, 3) := by decide +kernel
theorem dX7_reply_17 : decode cX7_reply 17 = .ok (.iconst 0, 1) := by decide +kernel
theorem dX7_reply_18 : decode cX7_reply 18 = .ok (.istore_n 3, 1) := by decide +kernel
theorem dX7_reply_19 : decode cX7_reply 19 = .ok (.iconst 0, 1) := by decide +kernel
theorem dX7_reply_20 : decode cX7_reply 20 = .ok (.istore 4, 2) := by decide +kernel
theorem dX7_reply_22 : decode cX7_reply 22 = .ok (.iload 4, 2) := by decide +kernel
theorem dX7_reply_24 : decode cX7_reply 24 = .ok (.aload_n 0, 1) := by decide +kernel
theorem dX7_reply_25 : decode cX7_reply 25 = .ok (.getfield 76, 3) := by decide +kernel
theorem dX7_reply_28 : decode cX7_reply 28 = .ok (.if_icmp .ge 52, 3) := by decide +kernel
theorem dX7_reply_31 : decode cX7_reply 31 = .ok (.iload_n 3, 1) := by decide +kernel
theorem dX7_reply_32 : decode cX7_reply 32 = .ok (.ifCond .ne 48, 3) := by decide +kernel
theorem dX7_reply_35 : decode cX7_reply 35 = .ok (.aload_n 0, 1) := by decide +kernel
theorem dX7_reply_36 : decode cX7_reply 36 = .ok (.getfield 31, 3) := by decide +kernel
theorem dX7_reply_39 : decode cX7_reply 39 = .ok (.aload_n 0, 1) := by decide +kernel
theorem dX7_reply_40 : decode cX7_reply 40 = .ok (.iload 4, 2) := by decide +kernel
theorem dX7_reply_42 : decode cX7_reply 42 = .ok (.invokevirtual 100, 3) := by decide +kernel
theorem dX7_reply_45 : decode cX7_reply 45 = .ok (.iaload, 1) := by decide +kernel
theorem dX7_reply_46 : decode cX7_reply 46 = .ok (.istore 5, 2) := by decide +kernel
theorem dX7_reply_48 : decode cX7_reply 48 = .ok (.iload 5, 2) := by decide +kernel
theorem dX7_reply_50 : decode cX7_reply 50 = .ok (.iload_n 2, 1) := by decide +kernel
theorem dX7_reply_51 : decode cX7_reply 51 = .ok (.if_icmp .le 8, 3) := by decide +kernel
theorem dX7_reply_54 : decode cX7_reply 54 = .ok (.iload 4, 2) := by decide +kernel
theorem dX7_reply_56 : decode cX7_reply 56 = .ok (.goto 4, 3) := by decide +kernel
theorem dX7_reply_59 : decode cX7_reply 59 = .ok (.iload_n 1, 1) := by decide +kernel
theorem dX7_reply_60 : decode cX7_reply 60 = .ok (.istore_n 1, 1) := by decide +kernel
theorem dX7_reply_61 : decode cX7_reply 61 = .ok (.iload 5, 2) := by decide +kernel
theorem dX7_reply_63 : decode cX7_reply 63 = .ok (.iload_n 2, 1) := by decide +kernel
theorem dX7_reply_64 : decode cX7_reply 64 = .ok (.if_icmp .le 8, 3) := by decide +kernel
theorem dX7_reply_67 : decode cX7_reply 67 = .ok (.iload 5, 2) := by decide +kernel
theorem dX7_reply_69 : decode cX7_reply 69 = .ok (.goto 4, 3) := by decide +kernel
theorem dX7_reply_72 : decode cX7_reply 72 = .ok (.iload_n 2, 1) := by decide +kernel
theorem dX7_reply_73 : decode cX7_reply 73 = .ok (.istore_n 2, 1) := by decide +kernel
theorem dX7_reply_74 : decode cX7_reply 74 = .ok (.iinc 4 1, 3) := by decide +kernel
theorem dX7_reply_77 : decode cX7_reply 77 = .ok (.goto (-55), 3) := by decide +kernel
theorem dX7_reply_80 : decode cX7_reply 80 = .ok (.iload_n 1, 1) := by decide +kernel
theorem dX7_reply_81 : decode cX7_reply 81 = .ok (.ireturn, 1) := by decide +kernel
set_option maxRecDepth 20000 in
theorem ggX7_bestReply_X7_reply : GoodIn wsX7_bestReply wsX7_reply := goodIn_r _ [5, 6, 7, 8, 9, 10, 4, 11, 12, 13, 14, 15, 16, 17, 18, 19, 20, 21, 22, 23, 24, 25, 26, 27, 28, 29, 30, 31, 32, 33, 34, 35, 36, 37, 38, 39, 40, 41, 42, 43, 44, 45, 46, 47, 48, 49, 50, 51, 52, 53, 54, 55, 56, 57, 58, 59, 60, 61, 62, 63, 64, 65, 66, 67, 68, 69, 70, 76, 77, 78, 79, 80, 81, 82, 83, 84, 85, 86, 87, 88, 89, 90, 91, 92, 93, 94, 95, 96, 97, 98, 99, 100, 101, 102] (by decide +kernel) (by decide +kernel)
set_option maxRecDepth 20000 in
theorem gX7_bestReply_X7_reply : GoodIn wsX7_bestReply (wsV RX7 174 RX7 yX7_reply wsX7_reply) := goodIn_app (goodIn_of _ (by decide +kernel)) ggX7_bestReply_X7_reply
set_option maxRecDepth 20000 in
theorem ggX7_bestReply_X7_tells : GoodIn wsX7_bestReply wsX7_tells := goodIn_r _ [74, 75, 76, 77, 78, 79, 80, 81, 82, 83, 84, 85, 86, 87, 88, 89, 90, 91, 92, 93, 94, 95, 96, 97, 98, 99, 100, 101, 102] (by decide +kernel) (by decide +kernel)
set_option maxRecDepth 20000 in
theorem gX7_bestReply_X7_tells : GoodIn wsX7_bestReply (wsV RX7 148 RX7 yX7_tells wsX7_tells) := goodIn_app (goodIn_of _ (by decide +kernel)) ggX7_bestReply_X7_tells
theorem dX7_bestReply_0 : decode cX7_bestReply 0 = .ok (.aload_n 0, 1) := by decide +kernel
theorem dX7_bestReply_1 : decode cX7_bestReply 1 = .ok (.aload_n 0, 1) := by decide +kernel
theorem dX7_bestReply_2 : decode cX7_bestReply 2 = .ok (.invokevirtual 174, 3) := by decide +kernel
theorem dX7_bestReply_5 : decode cX7_bestReply 5 = .ok (.invokevirtual 148, 3) := by decide +kernel
theorem dX7_bestReply_8 : decode cX7_bestReply 8 = .ok (.ireturn, 1) := by decide +kernel
set_option maxRecDepth 20000 in
theorem ggX7_longestGame_X7_looks : GoodIn wsX7_longestGame wsX7_looks := goodIn_r _ [6, 7, 8, 9, 10, 11, 12, 13, 14, 5, 15, 16, 17, 18, 19, 20, 21, 22, 23, 24, 1, 25, 26, 27, 28, 29, 30, 31, 32, 33, 34, 35, 36, 37, 38, 39, 40, 41, 42, 43, 44, 45, 46, 47, 48, 49, 50, 51, 52, 53, 54, 55, 56, 57, 58, 64, 65, 66, 67, 68, 69, 70, 71, 72, 73, 74, 75, 76, 77, 78, 79, 80, 81, 82, 83, 84, 85, 86, 87, 88, 89, 90] (by decide +kernel) (by decide +kernel)
set_option maxRecDepth 20000 in
theorem gX7_longestGame_X7_looks : GoodIn wsX7_longestGame (wsV RX7 129 RX7 yX7_looks wsX7_looks) := goodIn_app (goodIn_of _ (by decide +kernel)) ggX7_longestGame_X7_looks
set_option maxRecDepth 20000 in
theorem ggX7_longestGame_X7_tells : GoodIn wsX7_longestGame wsX7_tells := goodIn_r _ [62, 63, 64, 65, 66, 67, 68, 69, 70, 71, 72, 73, 74, 75, 76, 77, 78, 79, 80, 81, 82, 83, 84, 85, 86, 87, 88, 89, 90] (by decide +kernel) (by decide +kernel)
set_option maxRecDepth 20000 in
theorem gX7_longestGame_X7_tells : GoodIn wsX7_longestGame (wsV RX7 148 RX7 yX7_tells wsX7_tells) := goodIn_app (goodIn_of _ (by decide +kernel)) ggX7_longestGame_X7_tells
theorem dX7_longestGame_0 : decode cX7_longestGame 0 = .ok (.aload_n 0, 1) := by decide +kernel
theorem dX7_longestGame_1 : decode cX7_longestGame 1 = .ok (.aload_n 0, 1) := by decide +kernel
theorem dX7_longestGame_2 : decode cX7_longestGame 2 = .ok (.getfield 31, 3) := by decide +kernel
theorem dX7_longestGame_5 : decode cX7_longestGame 5 = .ok (.aload_n 0, 1) := by decide +kernel
theorem dX7_longestGame_6 : decode cX7_longestGame 6 = .ok (.invokevirtual 129, 3) := by decide +kernel
theorem dX7_longestGame_9 : decode cX7_longestGame 9 = .ok (.iaload, 1) := by decide +kernel
theorem dX7_longestGame_10 : decode cX7_longestGame 10 = .ok (.invokevirtual 148, 3) := by decide +kernel
theorem dX7_longestGame_13 : decode cX7_longestGame 13 = .ok (.ireturn, 1) := by decide +kernel
set_option maxRecDepth 20000 in
theorem ggX7_shortestGame_X7_looks : GoodIn wsX7_shortestGame wsX7_looks := goodIn_r _ [6, 7, 8, 9, 10, 11, 12, 13, 14, 5, 15, 16, 17, 18, 19, 20, 21, 22, 23, 24, 25, 1, 26, 27, 28, 29, 30, 31, 32, 33, 34, 35, 36, 37, 38, 39, 40, 41, 42, 43, 44, 45, 46, 47, 48, 49, 50, 51, 52, 53, 54, 55, 56, 57, 58, 64, 65, 66, 67, 68, 69, 70, 71, 72, 73, 74, 75, 76, 77, 78, 79, 80, 81, 82, 83, 84, 85, 86, 87, 88, 89, 90] (by decide +kernel) (by decide +kernel)
set_option maxRecDepth 20000 in
theorem gX7_shortestGame_X7_looks : GoodIn wsX7_shortestGame (wsV RX7 129 RX7 yX7_looks wsX7_looks) := goodIn_app (goodIn_of _ (by decide +kernel)) ggX7_shortestGame_X7_looks
set_option maxRecDepth 20000 in
theorem ggX7_shortestGame_X7_tells : GoodIn wsX7_shortestGame wsX7_tells := goodIn_r _ [62, 63, 64, 65, 66, 67, 68, 69, 70, 71, 72, 73, 74, 75, 76, 77, 78, 79, 80, 81, 82, 83, 84, 85, 86, 87, 88, 89, 90] (by decide +kernel) (by decide +kernel)
set_option maxRecDepth 20000 in
theorem gX7_shortestGame_X7_tells : GoodIn wsX7_shortestGame (wsV RX7 148 RX7 yX7_tells wsX7_tells) := goodIn_app (goodIn_of _ (by decide +kernel)) ggX7_shortestGame_X7_tells
theorem dX7_shortestGame_0 : decode cX7_shortestGame 0 = .ok (.aload_n 0, 1) := by decide +kernel
theorem dX7_shortestGame_1 : decode cX7_shortestGame 1 = .ok (.aload_n 0, 1) := by decide +kernel
theorem dX7_shortestGame_2 : decode cX7_shortestGame 2 = .ok (.getfield 34, 3) := by decide +kernel
theorem dX7_shortestGame_5 : decode cX7_shortestGame 5 = .ok (.aload_n 0, 1) := by decide +kernel
theorem dX7_shortestGame_6 : decode cX7_shortestGame 6 = .ok (.invokevirtual 129, 3) := by decide +kernel
theorem dX7_shortestGame_9 : decode cX7_shortestGame 9 = .ok (.iaload, 1) := by decide +kernel
theorem dX7_shortestGame_10 : decode cX7_shortestGame 10 = .ok (.invokevirtual 148, 3) := by decide +kernel
theorem dX7_shortestGame_13 : decode cX7_shortestGame 13 = .ok (.ireturn, 1) := by decide +kernel
set_option maxRecDepth 20000 in
theorem ggX7_winningShare_X7_winning : GoodIn wsX7_winningShare wsX7_winning := goodIn_r _ [7, 2, 8, 9, 10, 6, 11, 12, 13, 14, 15, 16, 17, 18, 19, 20, 21, 22, 23, 24, 25, 26, 27, 28, 29, 30, 31, 32, 33, 34, 35, 36, 37, 38, 39, 40, 41, 42, 43, 44, 45, 46, 47, 48, 49, 50, 51, 52, 53, 54, 55, 56, 57, 58, 59, 60, 61, 62, 63, 64, 65, 66, 67, 68, 69, 70, 71, 72, 73, 74, 75, 76, 77, 78, 79, 80, 81, 82, 83, 84, 85, 86, 87, 88, 89, 90, 91, 92, 93, 94] (by decide +kernel) (by decide +kernel)
set_option maxRecDepth 20000 in
theorem gX7_winningShare_X7_winning : GoodIn wsX7_winningShare (wsV RX7 170 RX7 yX7_winning wsX7_winning) := goodIn_app (goodIn_of _ (by decide +kernel)) ggX7_winningShare_X7_winning
theorem dX7_winningShare_0 : decode cX7_winningShare 0 = .ok (.aload_n 0, 1) := by decide +kernel
theorem dX7_winningShare_1 : decode cX7_winningShare 1 = .ok (.iconst 0, 1) := by decide +kernel
theorem dX7_winningShare_2 : decode cX7_winningShare 2 = .ok (.putfield 60, 3) := by decide +kernel
theorem dX7_winningShare_5 : decode cX7_winningShare 5 = .ok (.aload_n 0, 1) := by decide +kernel
theorem dX7_winningShare_6 : decode cX7_winningShare 6 = .ok (.iconst 0, 1) := by decide +kernel
theorem dX7_winningShare_7 : decode cX7_winningShare 7 = .ok (.invokevirtual 170, 3) := by decide +kernel
theorem dX7_winningShare_10 : decode cX7_winningShare 10 = .ok (.istore_n 1, 1) := by decide +kernel
theorem dX7_winningShare_11 : decode cX7_winningShare 11 = .ok (.aload_n 0, 1) := by decide +kernel
theorem dX7_winningShare_12 : decode cX7_winningShare 12 = .ok (.getfield 76, 3) := by decide +kernel
theorem dX7_winningShare_15 : decode cX7_winningShare 15 = .ok (.ifCond .ne 7, 3) := by decide +kernel
theorem dX7_winningShare_18 : decode cX7_winningShare 18 = .ok (.dconst 0, 1) := by decide +kernel
theorem dX7_winningShare_19 : decode cX7_winningShare 19 = .ok (.goto 11, 3) := by decide +kernel
theorem dX7_winningShare_22 : decode cX7_winningShare 22 = .ok (.iload_n 1, 1) := by decide +kernel
theorem dX7_winningShare_23 : decode cX7_winningShare 23 = .ok (.i2d, 1) := by decide +kernel
theorem dX7_winningShare_24 : decode cX7_winningShare 24 = .ok (.aload_n 0, 1) := by decide +kernel
theorem dX7_winningShare_25 : decode cX7_winningShare 25 = .ok (.getfield 76, 3) := by decide +kernel
theorem dX7_winningShare_28 : decode cX7_winningShare 28 = .ok (.i2d, 1) := by decide +kernel
theorem dX7_winningShare_29 : decode cX7_winningShare 29 = .ok (.ddiv, 1) := by decide +kernel
theorem dX7_winningShare_30 : decode cX7_winningShare 30 = .ok (.dreturn, 1) := by decide +kernel
set_option maxRecDepth 20000 in
theorem ggX7_append_X7_within : GoodIn wsX7_append wsX7_within := goodIn_r _ [7] (by decide +kernel) (by decide +kernel)
set_option maxRecDepth 20000 in
theorem gX7_append_X7_within : GoodIn wsX7_append (va_wsS RX7 119 yX7_within wsX7_within) := goodIn_app (goodIn_of _ (by decide +kernel)) ggX7_append_X7_within
theorem dX7_append_0 : decode cX7_append 0 = .ok (.aload_n 0, 1) := by decide +kernel
theorem dX7_append_1 : decode cX7_append 1 = .ok (.iload_n 1, 1) := by decide +kernel
theorem dX7_append_2 : decode cX7_append 2 = .ok (.bipush 33, 2) := by decide +kernel
theorem dX7_append_4 : decode cX7_append 4 = .ok (.bipush 126, 2) := by decide +kernel
theorem dX7_append_6 : decode cX7_append 6 = .ok (.invokestatic 119, 3) := by decide +kernel
theorem dX7_append_9 : decode cX7_append 9 = .ok (.ifCond .ne 7, 3) := by decide +kernel
theorem dX7_append_12 : decode cX7_append 12 = .ok (.iconst 1, 1) := by decide +kernel
theorem dX7_append_13 : decode cX7_append 13 = .ok (.goto 17, 3) := by decide +kernel
theorem dX7_append_16 : decode cX7_append 16 = .ok (.aload_n 0, 1) := by decide +kernel
theorem dX7_append_17 : decode cX7_append 17 = .ok (.getfield 177, 3) := by decide +kernel
theorem dX7_append_20 : decode cX7_append 20 = .ok (.bipush 60, 2) := by decide +kernel
theorem dX7_append_22 : decode cX7_append 22 = .ok (.if_icmp .ne 7, 3) := by decide +kernel
theorem dX7_append_25 : decode cX7_append 25 = .ok (.iconst 2, 1) := by decide +kernel
theorem dX7_append_26 : decode cX7_append 26 = .ok (.goto 4, 3) := by decide +kernel
theorem dX7_append_29 : decode cX7_append 29 = .ok (.iconst 0, 1) := by decide +kernel
theorem dX7_append_30 : decode cX7_append 30 = .ok (.putfield 60, 3) := by decide +kernel
theorem dX7_append_33 : decode cX7_append 33 = .ok (.aload_n 0, 1) := by decide +kernel
theorem dX7_append_34 : decode cX7_append 34 = .ok (.getfield 60, 3) := by decide +kernel
theorem dX7_append_37 : decode cX7_append 37 = .ok (.ifCond .le 5, 3) := by decide +kernel
theorem dX7_append_40 : decode cX7_append 40 = .ok (.iconst 0, 1) := by decide +kernel
theorem dX7_append_41 : decode cX7_append 41 = .ok (.ireturn, 1) := by decide +kernel
theorem dX7_append_42 : decode cX7_append 42 = .ok (.aload_n 0, 1) := by decide +kernel
theorem dX7_append_43 : decode cX7_append 43 = .ok (.getfield 16, 3) := by decide +kernel
theorem dX7_append_46 : decode cX7_append 46 = .ok (.aload_n 0, 1) := by decide +kernel
theorem dX7_append_47 : decode cX7_append 47 = .ok (.getfield 177, 3) := by decide +kernel
theorem dX7_append_50 : decode cX7_append 50 = .ok (.iload_n 1, 1) := by decide +kernel
theorem dX7_append_51 : decode cX7_append 51 = .ok (.iastore, 1) := by decide +kernel
theorem dX7_append_52 : decode cX7_append 52 = .ok (.aload_n 0, 1) := by decide +kernel
theorem dX7_append_53 : decode cX7_append 53 = .ok (.dup, 1) := by decide +kernel
theorem dX7_append_54 : decode cX7_append 54 = .ok (.getfield 177, 3) := by decide +kernel
theorem dX7_append_57 : decode cX7_append 57 = .ok (.iconst 1, 1) := by decide +kernel
theorem dX7_append_58 : decode cX7_append 58 = .ok (.iadd, 1) := by decide +kernel
theorem dX7_append_59 : decode cX7_append 59 = .ok (.putfield 177, 3) := by decide +kernel
theorem dX7_append_62 : decode cX7_append 62 = .ok (.aload_n 0, 1) := by decide +kernel
theorem dX7_append_63 : decode cX7_append 63 = .ok (.getfield 177, 3) := by decide +kernel
theorem dX7_append_66 : decode cX7_append 66 = .ok (.ireturn, 1) := by decide +kernel
theorem dX7_clearText_0 : decode cX7_clearText 0 = .ok (.aload_n 0, 1) := by decide +kernel
theorem dX7_clearText_1 : decode cX7_clearText 1 = .ok (.iconst 0, 1) := by decide +kernel
theorem dX7_clearText_2 : decode cX7_clearText 2 = .ok (.putfield 60, 3) := by decide +kernel
theorem dX7_clearText_5 : decode cX7_clearText 5 = .ok (.aload_n 0, 1) := by decide +kernel
theorem dX7_clearText_6 : decode cX7_clearText 6 = .ok (.getfield 177, 3) := by decide +kernel
theorem dX7_clearText_9 : decode cX7_clearText 9 = .ok (.istore_n 1, 1) := by decide +kernel
theorem dX7_clearText_10 : decode cX7_clearText 10 = .ok (.aload_n 0, 1) := by decide +kernel
theorem dX7_clearText_11 : decode cX7_clearText 11 = .ok (.iconst 0, 1) := by decide +kernel
theorem dX7_clearText_12 : decode cX7_clearText 12 = .ok (.putfield 177, 3) := by decide +kernel
theorem dX7_clearText_15 : decode cX7_clearText 15 = .ok (.iload_n 1, 1) := by decide +kernel
theorem dX7_clearText_16 : decode cX7_clearText 16 = .ok (.ireturn, 1) := by decide +kernel
set_option maxRecDepth 20000 in
theorem ggX7_accepts_X7_within : GoodIn wsX7_accepts wsX7_within := goodIn_r _ [7] (by decide +kernel) (by decide +kernel)
set_option maxRecDepth 20000 in
theorem gX7_accepts_X7_within : GoodIn wsX7_accepts (va_wsS RX7 119 yX7_within wsX7_within) := goodIn_app (goodIn_of _ (by decide +kernel)) ggX7_accepts_X7_within
theorem dX7_accepts_0 : decode cX7_accepts 0 = .ok (.aload_n 0, 1) := by decide +kernel
theorem dX7_accepts_1 : decode cX7_accepts 1 = .ok (.getfield 180, 3) := by decide +kernel
theorem dX7_accepts_4 : decode cX7_accepts 4 = .ok (.aload_n 0, 1) := by decide +kernel
theorem dX7_accepts_5 : decode cX7_accepts 5 = .ok (.getfield 177, 3) := by decide +kernel
theorem dX7_accepts_8 : decode cX7_accepts 8 = .ok (.if_icmp .ge 24, 3) := by decide +kernel
theorem dX7_accepts_11 : decode cX7_accepts 11 = .ok (.aload_n 0, 1) := by decide +kernel
theorem dX7_accepts_12 : decode cX7_accepts 12 = .ok (.getfield 16, 3) := by decide +kernel
theorem dX7_accepts_15 : decode cX7_accepts 15 = .ok (.aload_n 0, 1) := by decide +kernel
theorem dX7_accepts_16 : decode cX7_accepts 16 = .ok (.getfield 180, 3) := by decide +kernel
theorem dX7_accepts_19 : decode cX7_accepts 19 = .ok (.iaload, 1) := by decide +kernel
theorem dX7_accepts_20 : decode cX7_accepts 20 = .ok (.iload_n 1, 1) := by decide +kernel
theorem dX7_accepts_21 : decode cX7_accepts 21 = .ok (.iload_n 2, 1) := by decide +kernel
theorem dX7_accepts_22 : decode cX7_accepts 22 = .ok (.invokestatic 119, 3) := by decide +kernel
theorem dX7_accepts_25 : decode cX7_accepts 25 = .ok (.ifCond .eq 7, 3) := by decide +kernel
theorem dX7_accepts_28 : decode cX7_accepts 28 = .ok (.iconst 1, 1) := by decide +kernel
theorem dX7_accepts_29 : decode cX7_accepts 29 = .ok (.goto 4, 3) := by decide +kernel
theorem dX7_accepts_32 : decode cX7_accepts 32 = .ok (.iconst 0, 1) := by decide +kernel
theorem dX7_accepts_33 : decode cX7_accepts 33 = .ok (.istore_n 3, 1) := by decide +kernel
theorem dX7_accepts_34 : decode cX7_accepts 34 = .ok (.aload_n 0, 1) := by decide +kernel
theorem dX7_accepts_35 : decode cX7_accepts 35 = .ok (.dup, 1) := by decide +kernel
theorem dX7_accepts_36 : decode cX7_accepts 36 = .ok (.getfield 180, 3) := by decide +kernel
theorem dX7_accepts_39 : decode cX7_accepts 39 = .ok (.iload_n 3, 1) := by decide +kernel
theorem dX7_accepts_40 : decode cX7_accepts 40 = .ok (.ifCond .eq 7, 3) := by decide +kernel
theorem dX7_accepts_43 : decode cX7_accepts 43 = .ok (.iconst 1, 1) := by decide +kernel
theorem dX7_accepts_44 : decode cX7_accepts 44 = .ok (.goto 4, 3) := by decide +kernel
theorem dX7_accepts_47 : decode cX7_accepts 47 = .ok (.iconst 0, 1) := by decide +kernel
theorem dX7_accepts_48 : decode cX7_accepts 48 = .ok (.iadd, 1) := by decide +kernel
theorem dX7_accepts_49 : decode cX7_accepts 49 = .ok (.putfield 180, 3) := by decide +kernel
theorem dX7_accepts_52 : decode cX7_accepts 52 = .ok (.iload_n 3, 1) := by decide +kernel
theorem dX7_accepts_53 : decode cX7_accepts 53 = .ok (.ireturn, 1) := by decide +kernel
set_option maxRecDepth 20000 in
theorem ggX7_readsHeap_X7_accepts : GoodIn wsX7_readsHeap wsX7_accepts := goodIn_r _ [8, 2, 9, 1, 10, 11, 7, 12, 13, 14, 15, 16, 17, 18, 19, 20, 21, 22, 23, 24, 25, 26, 27, 28, 29, 30, 31, 32, 33, 34, 35, 36, 37, 38, 39] (by decide +kernel) (by decide +kernel)
set_option maxRecDepth 20000 in
theorem gX7_readsHeap_X7_accepts : GoodIn wsX7_readsHeap (wsV RX7 183 RX7 yX7_accepts wsX7_accepts) := goodIn_app (goodIn_of _ (by decide +kernel)) ggX7_readsHeap_X7_accepts
theorem dX7_readsHeap_0 : decode cX7_readsHeap 0 = .ok (.aload_n 0, 1) := by decide +kernel
theorem dX7_readsHeap_1 : decode cX7_readsHeap 1 = .ok (.bipush 48, 2) := by decide +kernel
theorem dX7_readsHeap_3 : decode cX7_readsHeap 3 = .ok (.bipush 57, 2) := by decide +kernel
theorem dX7_readsHeap_5 : decode cX7_readsHeap 5 = .ok (.invokevirtual 183, 3) := by decide +kernel
theorem dX7_readsHeap_8 : decode cX7_readsHeap 8 = .ok (.ifCond .ne 5, 3) := by decide +kernel
theorem dX7_readsHeap_11 : decode cX7_readsHeap 11 = .ok (.iconst 0, 1) := by decide +kernel
theorem dX7_readsHeap_12 : decode cX7_readsHeap 12 = .ok (.ireturn, 1) := by decide +kernel
theorem dX7_readsHeap_13 : decode cX7_readsHeap 13 = .ok (.aload_n 0, 1) := by decide +kernel
theorem dX7_readsHeap_14 : decode cX7_readsHeap 14 = .ok (.aload_n 0, 1) := by decide +kernel
theorem dX7_readsHeap_15 : decode cX7_readsHeap 15 = .ok (.getfield 16, 3) := by decide +kernel
theorem dX7_readsHeap_18 : decode cX7_readsHeap 18 = .ok (.aload_n 0, 1) := by decide +kernel
theorem dX7_readsHeap_19 : decode cX7_readsHeap 19 = .ok (.getfield 180, 3) := by decide +kernel
theorem dX7_readsHeap_22 : decode cX7_readsHeap 22 = .ok (.iconst 1, 1) := by decide +kernel
theorem dX7_readsHeap_23 : decode cX7_readsHeap 23 = .ok (.isub, 1) := by decide +kernel
theorem dX7_readsHeap_24 : decode cX7_readsHeap 24 = .ok (.iaload, 1) := by decide +kernel
theorem dX7_readsHeap_25 : decode cX7_readsHeap 25 = .ok (.bipush 48, 2) := by decide +kernel
theorem dX7_readsHeap_27 : decode cX7_readsHeap 27 = .ok (.isub, 1) := by decide +kernel
theorem dX7_readsHeap_28 : decode cX7_readsHeap 28 = .ok (.putfield 187, 3) := by decide +kernel
theorem dX7_readsHeap_31 : decode cX7_readsHeap 31 = .ok (.aload_n 0, 1) := by decide +kernel
theorem dX7_readsHeap_32 : decode cX7_readsHeap 32 = .ok (.getfield 187, 3) := by decide +kernel
theorem dX7_readsHeap_35 : decode cX7_readsHeap 35 = .ok (.iconst 1, 1) := by decide +kernel
theorem dX7_readsHeap_36 : decode cX7_readsHeap 36 = .ok (.if_icmp .ne 35, 3) := by decide +kernel
theorem dX7_readsHeap_39 : decode cX7_readsHeap 39 = .ok (.aload_n 0, 1) := by decide +kernel
theorem dX7_readsHeap_40 : decode cX7_readsHeap 40 = .ok (.bipush 48, 2) := by decide +kernel
theorem dX7_readsHeap_42 : decode cX7_readsHeap 42 = .ok (.bipush 49, 2) := by decide +kernel
theorem dX7_readsHeap_44 : decode cX7_readsHeap 44 = .ok (.invokevirtual 183, 3) := by decide +kernel
theorem dX7_readsHeap_47 : decode cX7_readsHeap 47 = .ok (.ifCond .eq 24, 3) := by decide +kernel
theorem dX7_readsHeap_50 : decode cX7_readsHeap 50 = .ok (.aload_n 0, 1) := by decide +kernel
theorem dX7_readsHeap_51 : decode cX7_readsHeap 51 = .ok (.bipush 10, 2) := by decide +kernel
theorem dX7_readsHeap_53 : decode cX7_readsHeap 53 = .ok (.aload_n 0, 1) := by decide +kernel
theorem dX7_readsHeap_54 : decode cX7_readsHeap 54 = .ok (.getfield 16, 3) := by decide +kernel
theorem dX7_readsHeap_57 : decode cX7_readsHeap 57 = .ok (.aload_n 0, 1) := by decide +kernel
theorem dX7_readsHeap_58 : decode cX7_readsHeap 58 = .ok (.getfield 180, 3) := by decide +kernel
theorem dX7_readsHeap_61 : decode cX7_readsHeap 61 = .ok (.iconst 1, 1) := by decide +kernel
theorem dX7_readsHeap_62 : decode cX7_readsHeap 62 = .ok (.isub, 1) := by decide +kernel
theorem dX7_readsHeap_63 : decode cX7_readsHeap 63 = .ok (.iaload, 1) := by decide +kernel
theorem dX7_readsHeap_64 : decode cX7_readsHeap 64 = .ok (.iadd, 1) := by decide +kernel
theorem dX7_readsHeap_65 : decode cX7_readsHeap 65 = .ok (.bipush 48, 2) := by decide +kernel
theorem dX7_readsHeap_67 : decode cX7_readsHeap 67 = .ok (.isub, 1) := by decide +kernel
theorem dX7_readsHeap_68 : decode cX7_readsHeap 68 = .ok (.putfield 187, 3) := by decide +kernel
theorem dX7_readsHeap_71 : decode cX7_readsHeap 71 = .ok (.iconst 1, 1) := by decide +kernel
theorem dX7_readsHeap_72 : decode cX7_readsHeap 72 = .ok (.ireturn, 1) := by decide +kernel
set_option maxRecDepth 20000 in
theorem ggX7_readsAmount_X7_accepts : GoodIn wsX7_readsAmount wsX7_accepts := goodIn_r _ [8, 2, 9, 1, 10, 11, 7, 12, 13, 14, 15, 16, 17, 18, 19, 20, 21, 22, 23, 24, 25, 26, 27, 28, 29, 30, 31, 32, 33, 34, 35, 36, 37, 38, 39] (by decide +kernel) (by decide +kernel)
set_option maxRecDepth 20000 in
theorem gX7_readsAmount_X7_accepts : GoodIn wsX7_readsAmount (wsV RX7 183 RX7 yX7_accepts wsX7_accepts) := goodIn_app (goodIn_of _ (by decide +kernel)) ggX7_readsAmount_X7_accepts
theorem dX7_readsAmount_0 : decode cX7_readsAmount 0 = .ok (.aload_n 0, 1) := by decide +kernel
theorem dX7_readsAmount_1 : decode cX7_readsAmount 1 = .ok (.bipush 49, 2) := by decide +kernel
theorem dX7_readsAmount_3 : decode cX7_readsAmount 3 = .ok (.bipush 48, 2) := by decide +kernel
theorem dX7_readsAmount_5 : decode cX7_readsAmount 5 = .ok (.iload_n 1, 1) := by decide +kernel
theorem dX7_readsAmount_6 : decode cX7_readsAmount 6 = .ok (.iadd, 1) := by decide +kernel
theorem dX7_readsAmount_7 : decode cX7_readsAmount 7 = .ok (.invokevirtual 183, 3) := by decide +kernel
theorem dX7_readsAmount_10 : decode cX7_readsAmount 10 = .ok (.istore_n 2, 1) := by decide +kernel
theorem dX7_readsAmount_11 : decode cX7_readsAmount 11 = .ok (.aload_n 0, 1) := by decide +kernel
theorem dX7_readsAmount_12 : decode cX7_readsAmount 12 = .ok (.iload_n 2, 1) := by decide +kernel
theorem dX7_readsAmount_13 : decode cX7_readsAmount 13 = .ok (.ifCond .eq 20, 3) := by decide +kernel
theorem dX7_readsAmount_16 : decode cX7_readsAmount 16 = .ok (.aload_n 0, 1) := by decide +kernel
theorem dX7_readsAmount_17 : decode cX7_readsAmount 17 = .ok (.getfield 16, 3) := by decide +kernel
theorem dX7_readsAmount_20 : decode cX7_readsAmount 20 = .ok (.aload_n 0, 1) := by decide +kernel
theorem dX7_readsAmount_21 : decode cX7_readsAmount 21 = .ok (.getfield 180, 3) := by decide +kernel
theorem dX7_readsAmount_24 : decode cX7_readsAmount 24 = .ok (.iconst 1, 1) := by decide +kernel
theorem dX7_readsAmount_25 : decode cX7_readsAmount 25 = .ok (.isub, 1) := by decide +kernel
theorem dX7_readsAmount_26 : decode cX7_readsAmount 26 = .ok (.iaload, 1) := by decide +kernel
theorem dX7_readsAmount_27 : decode cX7_readsAmount 27 = .ok (.bipush 48, 2) := by decide +kernel
theorem dX7_readsAmount_29 : decode cX7_readsAmount 29 = .ok (.isub, 1) := by decide +kernel
theorem dX7_readsAmount_30 : decode cX7_readsAmount 30 = .ok (.goto 4, 3) := by decide +kernel
theorem dX7_readsAmount_33 : decode cX7_readsAmount 33 = .ok (.iconst 0, 1) := by decide +kernel
theorem dX7_readsAmount_34 : decode cX7_readsAmount 34 = .ok (.putfield 190, 3) := by decide +kernel
theorem dX7_readsAmount_37 : decode cX7_readsAmount 37 = .ok (.iload_n 2, 1) := by decide +kernel
theorem dX7_readsAmount_38 : decode cX7_readsAmount 38 = .ok (.ireturn, 1) := by decide +kernel
set_option maxRecDepth 20000 in
theorem ggX7_readsOther_X7_readsHeap : GoodIn wsX7_readsOther wsX7_readsHeap := goodIn_r _ [7, 8, 9, 1, 10, 11, 12, 6, 13, 14, 15, 16, 17, 18, 19, 20, 21, 22, 23, 24, 25, 26, 27, 28, 29, 30, 31, 32, 33, 34, 35, 36, 37, 38, 39, 40, 41, 42, 43, 44] (by decide +kernel) (by decide +kernel)
set_option maxRecDepth 20000 in
theorem gX7_readsOther_X7_readsHeap : GoodIn wsX7_readsOther (wsV RX7 193 RX7 yX7_readsHeap wsX7_readsHeap) := goodIn_app (goodIn_of _ (by decide +kernel)) ggX7_readsOther_X7_readsHeap
theorem dX7_readsOther_0 : decode cX7_readsOther 0 = .ok (.aload_n 0, 1) := by decide +kernel
theorem dX7_readsOther_1 : decode cX7_readsOther 1 = .ok (.invokevirtual 193, 3) := by decide +kernel
theorem dX7_readsOther_4 : decode cX7_readsOther 4 = .ok (.istore_n 1, 1) := by decide +kernel
theorem dX7_readsOther_5 : decode cX7_readsOther 5 = .ok (.aload_n 0, 1) := by decide +kernel
theorem dX7_readsOther_6 : decode cX7_readsOther 6 = .ok (.aload_n 0, 1) := by decide +kernel
theorem dX7_readsOther_7 : decode cX7_readsOther 7 = .ok (.getfield 187, 3) := by decide +kernel
theorem dX7_readsOther_10 : decode cX7_readsOther 10 = .ok (.putfield 190, 3) := by decide +kernel
theorem dX7_readsOther_13 : decode cX7_readsOther 13 = .ok (.iload_n 1, 1) := by decide +kernel
theorem dX7_readsOther_14 : decode cX7_readsOther 14 = .ok (.ireturn, 1) := by decide +kernel
set_option maxRecDepth 20000 in
theorem ggX7_readsItem_X7_accepts : GoodIn wsX7_readsItem wsX7_accepts := goodIn_r _ [8, 9, 10, 11, 12, 13, 7, 14, 28, 29, 30, 31, 32, 33, 34, 35, 36, 37, 38, 39, 40, 41, 42, 43, 44, 45, 46, 47, 48, 49, 50, 51, 52, 53, 54] (by decide +kernel) (by decide +kernel)
set_option maxRecDepth 20000 in
theorem gX7_readsItem_X7_accepts : GoodIn wsX7_readsItem (wsV RX7 183 RX7 yX7_accepts wsX7_accepts) := goodIn_app (goodIn_of _ (by decide +kernel)) ggX7_readsItem_X7_accepts
set_option maxRecDepth 20000 in
theorem ggX7_readsItem_X7_readsHeap : GoodIn wsX7_readsItem wsX7_readsHeap := goodIn_r _ [18, 11, 9, 2, 4, 5, 6, 7, 8, 10, 12, 13, 14, 28, 29, 30, 31, 32, 33, 34, 35, 36, 37, 38, 39, 40, 41, 42, 43, 44, 45, 46, 47, 48, 49, 50, 51, 52, 53, 54] (by decide +kernel) (by decide +kernel)
set_option maxRecDepth 20000 in
theorem gX7_readsItem_X7_readsHeap : GoodIn wsX7_readsItem (wsV RX7 193 RX7 yX7_readsHeap wsX7_readsHeap) := goodIn_app (goodIn_of _ (by decide +kernel)) ggX7_readsItem_X7_readsHeap
set_option maxRecDepth 20000 in
theorem ggX7_readsItem_X7_readsAmount : GoodIn wsX7_readsItem wsX7_readsAmount := goodIn_r _ [22, 11, 9, 23, 4, 5, 6, 7, 8, 10, 12, 13, 14, 28, 29, 30, 31, 32, 33, 34, 35, 36, 37, 38, 39, 40, 41, 42, 43, 44, 45, 46, 47, 48, 49, 50, 51, 52, 53, 54] (by decide +kernel) (by decide +kernel)
set_option maxRecDepth 20000 in
theorem gX7_readsItem_X7_readsAmount : GoodIn wsX7_readsItem (wsV RX7 202 RX7 yX7_readsAmount wsX7_readsAmount) := goodIn_app (goodIn_of _ (by decide +kernel)) ggX7_readsItem_X7_readsAmount
set_option maxRecDepth 20000 in
theorem ggX7_readsItem_X7_readsOther : GoodIn wsX7_readsItem wsX7_readsOther := goodIn_r _ [27, 2, 23, 15, 16, 17, 7, 18, 11, 9, 4, 5, 6, 8, 10, 12, 13, 14, 28, 29, 30, 31, 32, 33, 34, 35, 36, 37, 38, 39, 40, 41, 42, 43, 44, 45, 46, 47, 48, 49, 50, 51, 52, 53, 54] (by decide +kernel) (by decide +kernel)
set_option maxRecDepth 20000 in
theorem gX7_readsItem_X7_readsOther : GoodIn wsX7_readsItem (wsV RX7 205 RX7 yX7_readsOther wsX7_readsOther) := goodIn_app (goodIn_of _ (by decide +kernel)) ggX7_readsItem_X7_readsOther
theorem dX7_readsItem_0 : decode cX7_readsItem 0 = .ok (.aload_n 0, 1) := by decide +kernel
theorem dX7_readsItem_1 : decode cX7_readsItem 1 = .ok (.aload_n 0, 1) := by decide +kernel
theorem dX7_readsItem_2 : decode cX7_readsItem 2 = .ok (.bipush 116, 2) := by decide +kernel
theorem dX7_readsItem_4 : decode cX7_readsItem 4 = .ok (.bipush 116, 2) := by decide +kernel
theorem dX7_readsItem_6 : decode cX7_readsItem 6 = .ok (.invokevirtual 183, 3) := by decide +kernel
theorem dX7_readsItem_9 : decode cX7_readsItem 9 = .ok (.ifCond .eq 7, 3) := by decide +kernel
theorem dX7_readsItem_12 : decode cX7_readsItem 12 = .ok (.iconst 0, 1) := by decide +kernel
theorem dX7_readsItem_13 : decode cX7_readsItem 13 = .ok (.goto 34, 3) := by decide +kernel
theorem dX7_readsItem_16 : decode cX7_readsItem 16 = .ok (.aload_n 0, 1) := by decide +kernel
theorem dX7_readsItem_17 : decode cX7_readsItem 17 = .ok (.bipush 115, 2) := by decide +kernel
theorem dX7_readsItem_19 : decode cX7_readsItem 19 = .ok (.bipush 115, 2) := by decide +kernel
theorem dX7_readsItem_21 : decode cX7_readsItem 21 = .ok (.invokevirtual 183, 3) := by decide +kernel
theorem dX7_readsItem_24 : decode cX7_readsItem 24 = .ok (.ifCond .eq 7, 3) := by decide +kernel
theorem dX7_readsItem_27 : decode cX7_readsItem 27 = .ok (.iconst 1, 1) := by decide +kernel
theorem dX7_readsItem_28 : decode cX7_readsItem 28 = .ok (.goto 19, 3) := by decide +kernel
theorem dX7_readsItem_31 : decode cX7_readsItem 31 = .ok (.aload_n 0, 1) := by decide +kernel
theorem dX7_readsItem_32 : decode cX7_readsItem 32 = .ok (.bipush 109, 2) := by decide +kernel
theorem dX7_readsItem_34 : decode cX7_readsItem 34 = .ok (.bipush 109, 2) := by decide +kernel
theorem dX7_readsItem_36 : decode cX7_readsItem 36 = .ok (.invokevirtual 183, 3) := by decide +kernel
theorem dX7_readsItem_39 : decode cX7_readsItem 39 = .ok (.ifCond .eq 7, 3) := by decide +kernel
theorem dX7_readsItem_42 : decode cX7_readsItem 42 = .ok (.iconst 2, 1) := by decide +kernel
theorem dX7_readsItem_43 : decode cX7_readsItem 43 = .ok (.goto 4, 3) := by decide +kernel
theorem dX7_readsItem_46 : decode cX7_readsItem 46 = .ok (.iconst (-1), 1) := by decide +kernel
theorem dX7_readsItem_47 : decode cX7_readsItem 47 = .ok (.putfield 196, 3) := by decide +kernel
theorem dX7_readsItem_50 : decode cX7_readsItem 50 = .ok (.aload_n 0, 1) := by decide +kernel
theorem dX7_readsItem_51 : decode cX7_readsItem 51 = .ok (.getfield 196, 3) := by decide +kernel
theorem dX7_readsItem_54 : decode cX7_readsItem 54 = .ok (.iconst (-1), 1) := by decide +kernel
theorem dX7_readsItem_55 : decode cX7_readsItem 55 = .ok (.if_icmp .eq 10, 3) := by decide +kernel
theorem dX7_readsItem_58 : decode cX7_readsItem 58 = .ok (.aload_n 0, 1) := by decide +kernel
theorem dX7_readsItem_59 : decode cX7_readsItem 59 = .ok (.invokevirtual 193, 3) := by decide +kernel
theorem dX7_readsItem_62 : decode cX7_readsItem 62 = .ok (.ifCond .ne 5, 3) := by decide +kernel
theorem dX7_readsItem_65 : decode cX7_readsItem 65 = .ok (.iconst 0, 1) := by decide +kernel
theorem dX7_readsItem_66 : decode cX7_readsItem 66 = .ok (.ireturn, 1) := by decide +kernel
theorem dX7_readsItem_67 : decode cX7_readsItem 67 = .ok (.aload_n 0, 1) := by decide +kernel
theorem dX7_readsItem_68 : decode cX7_readsItem 68 = .ok (.aload_n 0, 1) := by decide +kernel
theorem dX7_readsItem_69 : decode cX7_readsItem 69 = .ok (.getfield 187, 3) := by decide +kernel
theorem dX7_readsItem_72 : decode cX7_readsItem 72 = .ok (.putfield 199, 3) := by decide +kernel
theorem dX7_readsItem_75 : decode cX7_readsItem 75 = .ok (.aload_n 0, 1) := by decide +kernel
theorem dX7_readsItem_76 : decode cX7_readsItem 76 = .ok (.getfield 196, 3) := by decide +kernel
theorem dX7_readsItem_79 : decode cX7_readsItem 79 = .ok (.ifCond .ne 8, 3) := by decide +kernel
theorem dX7_readsItem_82 : decode cX7_readsItem 82 = .ok (.bipush 45, 2) := by decide +kernel
theorem dX7_readsItem_84 : decode cX7_readsItem 84 = .ok (.goto 18, 3) := by decide +kernel
theorem dX7_readsItem_87 : decode cX7_readsItem 87 = .ok (.aload_n 0, 1) := by decide +kernel
theorem dX7_readsItem_88 : decode cX7_readsItem 88 = .ok (.getfield 196, 3) := by decide +kernel
theorem dX7_readsItem_91 : decode cX7_readsItem 91 = .ok (.iconst 1, 1) := by decide +kernel
theorem dX7_readsItem_92 : decode cX7_readsItem 92 = .ok (.if_icmp .ne 8, 3) := by decide +kernel
theorem dX7_readsItem_95 : decode cX7_readsItem 95 = .ok (.bipush 47, 2) := by decide +kernel
theorem dX7_readsItem_97 : decode cX7_readsItem 97 = .ok (.goto 5, 3) := by decide +kernel
theorem dX7_readsItem_100 : decode cX7_readsItem 100 = .ok (.bipush 43, 2) := by decide +kernel
theorem dX7_readsItem_102 : decode cX7_readsItem 102 = .ok (.istore_n 1, 1) := by decide +kernel
theorem dX7_readsItem_103 : decode cX7_readsItem 103 = .ok (.aload_n 0, 1) := by decide +kernel
theorem dX7_readsItem_104 : decode cX7_readsItem 104 = .ok (.iload_n 1, 1) := by decide +kernel
theorem dX7_readsItem_105 : decode cX7_readsItem 105 = .ok (.iload_n 1, 1) := by decide +kernel
theorem dX7_readsItem_106 : decode cX7_readsItem 106 = .ok (.invokevirtual 183, 3) := by decide +kernel
theorem dX7_readsItem_109 : decode cX7_readsItem 109 = .ok (.ifCond .eq 52, 3) := by decide +kernel
theorem dX7_readsItem_112 : decode cX7_readsItem 112 = .ok (.aload_n 0, 1) := by decide +kernel
theorem dX7_readsItem_113 : decode cX7_readsItem 113 = .ok (.getfield 196, 3) := by decide +kernel
theorem dX7_readsItem_116 : decode cX7_readsItem 116 = .ok (.ifCond .ne 14, 3) := by decide +kernel
theorem dX7_readsItem_119 : decode cX7_readsItem 119 = .ok (.aload_n 0, 1) := by decide +kernel
theorem dX7_readsItem_120 : decode cX7_readsItem 120 = .ok (.iconst 5, 1) := by decide +kernel
theorem dX7_readsItem_121 : decode cX7_readsItem 121 = .ok (.invokevirtual 202, 3) := by decide +kernel
theorem dX7_readsItem_124 : decode cX7_readsItem 124 = .ok (.ifCond .eq 37, 3) := by decide +kernel
theorem dX7_readsItem_127 : decode cX7_readsItem 127 = .ok (.goto 30, 3) := by decide +kernel
theorem dX7_readsItem_130 : decode cX7_readsItem 130 = .ok (.aload_n 0, 1) := by decide +kernel
theorem dX7_readsItem_131 : decode cX7_readsItem 131 = .ok (.getfield 196, 3) := by decide +kernel
theorem dX7_readsItem_134 : decode cX7_readsItem 134 = .ok (.iconst 1, 1) := by decide +kernel
theorem dX7_readsItem_135 : decode cX7_readsItem 135 = .ok (.if_icmp .ne 15, 3) := by decide +kernel
theorem dX7_readsItem_138 : decode cX7_readsItem 138 = .ok (.aload_n 0, 1) := by decide +kernel
theorem dX7_readsItem_139 : decode cX7_readsItem 139 = .ok (.bipush 6, 2) := by decide +kernel
theorem dX7_readsItem_141 : decode cX7_readsItem 141 = .ok (.invokevirtual 202, 3) := by decide +kernel
theorem dX7_readsItem_144 : decode cX7_readsItem 144 = .ok (.ifCond .eq 17, 3) := by decide +kernel
theorem dX7_readsItem_147 : decode cX7_readsItem 147 = .ok (.goto 10, 3) := by decide +kernel
theorem dX7_readsItem_150 : decode cX7_readsItem 150 = .ok (.aload_n 0, 1) := by decide +kernel
theorem dX7_readsItem_151 : decode cX7_readsItem 151 = .ok (.invokevirtual 205, 3) := by decide +kernel
theorem dX7_readsItem_154 : decode cX7_readsItem 154 = .ok (.ifCond .eq 7, 3) := by decide +kernel
theorem dX7_readsItem_157 : decode cX7_readsItem 157 = .ok (.iconst 1, 1) := by decide +kernel
theorem dX7_readsItem_158 : decode cX7_readsItem 158 = .ok (.goto 4, 3) := by decide +kernel
theorem dX7_readsItem_161 : decode cX7_readsItem 161 = .ok (.iconst 0, 1) := by decide +kernel
theorem dX7_readsItem_162 : decode cX7_readsItem 162 = .ok (.ireturn, 1) := by decide +kernel
set_option maxRecDepth 20000 in
theorem ggX7_findError_X7_readsItem : GoodIn wsX7_findError wsX7_readsItem := goodIn_r _ [8, 9, 10, 11, 12, 13, 14, 7, 15, 1, 2, 3, 16, 17, 18, 19, 20, 21, 22, 23, 24, 25, 26, 27, 28, 29, 30, 31, 32, 33, 34, 35, 36, 37, 38, 39, 40, 41, 42, 43, 44, 45, 46, 47, 48, 49, 50, 51, 52, 53, 54, 55, 56, 57, 58] (by decide +kernel) (by decide +kernel)
set_option maxRecDepth 20000 in
theorem gX7_findError_X7_readsItem : GoodIn wsX7_findError (wsV RX7 208 RX7 yX7_readsItem wsX7_readsItem) := goodIn_app (goodIn_of _ (by decide +kernel)) ggX7_findError_X7_readsItem
theorem dX7_findError_0 : decode cX7_findError 0 = .ok (.aload_n 0, 1) := by decide +kernel
theorem dX7_findError_1 : decode cX7_findError 1 = .ok (.iconst 0, 1) := by decide +kernel
theorem dX7_findError_2 : decode cX7_findError 2 = .ok (.putfield 180, 3) := by decide +kernel
theorem dX7_findError_5 : decode cX7_findError 5 = .ok (.aload_n 0, 1) := by decide +kernel
theorem dX7_findError_6 : decode cX7_findError 6 = .ok (.invokevirtual 208, 3) := by decide +kernel
theorem dX7_findError_9 : decode cX7_findError 9 = .ok (.ifCond .ne 8, 3) := by decide +kernel
theorem dX7_findError_12 : decode cX7_findError 12 = .ok (.aload_n 0, 1) := by decide +kernel
theorem dX7_findError_13 : decode cX7_findError 13 = .ok (.getfield 180, 3) := by decide +kernel
theorem dX7_findError_16 : decode cX7_findError 16 = .ok (.ireturn, 1) := by decide +kernel
theorem dX7_findError_17 : decode cX7_findError 17 = .ok (.aload_n 0, 1) := by decide +kernel
theorem dX7_findError_18 : decode cX7_findError 18 = .ok (.getfield 180, 3) := by decide +kernel
theorem dX7_findError_21 : decode cX7_findError 21 = .ok (.aload_n 0, 1) := by decide +kernel
theorem dX7_findError_22 : decode cX7_findError 22 = .ok (.getfield 177, 3) := by decide +kernel
theorem dX7_findError_25 : decode cX7_findError 25 = .ok (.if_icmp .ne 5, 3) := by decide +kernel
theorem dX7_findError_28 : decode cX7_findError 28 = .ok (.iconst (-1), 1) := by decide +kernel
theorem dX7_findError_29 : decode cX7_findError 29 = .ok (.ireturn, 1) := by decide +kernel
theorem dX7_findError_30 : decode cX7_findError 30 = .ok (.aload_n 0, 1) := by decide +kernel
theorem dX7_findError_31 : decode cX7_findError 31 = .ok (.getfield 16, 3) := by decide +kernel
theorem dX7_findError_34 : decode cX7_findError 34 = .ok (.aload_n 0, 1) := by decide +kernel
theorem dX7_findError_35 : decode cX7_findError 35 = .ok (.getfield 180, 3) := by decide +kernel
theorem dX7_findError_38 : decode cX7_findError 38 = .ok (.iaload, 1) := by decide +kernel
theorem dX7_findError_39 : decode cX7_findError 39 = .ok (.bipush 44, 2) := by decide +kernel
theorem dX7_findError_41 : decode cX7_findError 41 = .ok (.if_icmp .eq 8, 3) := by decide +kernel
theorem dX7_findError_44 : decode cX7_findError 44 = .ok (.aload_n 0, 1) := by decide +kernel
theorem dX7_findError_45 : decode cX7_findError 45 = .ok (.getfield 180, 3) := by decide +kernel
theorem dX7_findError_48 : decode cX7_findError 48 = .ok (.ireturn, 1) := by decide +kernel
theorem dX7_findError_49 : decode cX7_findError 49 = .ok (.aload_n 0, 1) := by decide +kernel
theorem dX7_findError_50 : decode cX7_findError 50 = .ok (.dup, 1) := by decide +kernel
theorem dX7_findError_51 : decode cX7_findError 51 = .ok (.getfield 180, 3) := by decide +kernel
theorem dX7_findError_54 : decode cX7_findError 54 = .ok (.iconst 1, 1) := by decide +kernel
theorem dX7_findError_55 : decode cX7_findError 55 = .ok (.iadd, 1) := by decide +kernel
theorem dX7_findError_56 : decode cX7_findError 56 = .ok (.putfield 180, 3) := by decide +kernel
theorem dX7_findError_59 : decode cX7_findError 59 = .ok (.goto (-54), 3) := by decide +kernel
set_option maxRecDepth 20000 in
theorem ggX7_firstError_X7_findError : GoodIn wsX7_firstError wsX7_findError := goodIn_r _ [6, 7, 8, 9, 10, 11, 12, 5, 13, 14, 15, 16, 17, 18, 19, 20, 21, 22, 23, 24, 25, 26, 27, 28, 29, 30, 31, 32, 33, 34, 35, 36, 37, 38, 39, 40, 41, 42, 43, 44, 45, 46, 47, 48, 49, 50, 51, 52, 53, 54, 55, 56, 57, 58, 59, 60, 61, 62, 63] (by decide +kernel) (by decide +kernel)
set_option maxRecDepth 20000 in
theorem gX7_firstError_X7_findError : GoodIn wsX7_firstError (wsV RX7 211 RX7 yX7_findError wsX7_findError) := goodIn_app (goodIn_of _ (by decide +kernel)) ggX7_firstError_X7_findError
theorem dX7_firstError_0 : decode cX7_firstError 0 = .ok (.aload_n 0, 1) := by decide +kernel
theorem dX7_firstError_1 : decode cX7_firstError 1 = .ok (.iconst 0, 1) := by decide +kernel
theorem dX7_firstError_2 : decode cX7_firstError 2 = .ok (.putfield 60, 3) := by decide +kernel
theorem dX7_firstError_5 : decode cX7_firstError 5 = .ok (.aload_n 0, 1) := by decide +kernel
theorem dX7_firstError_6 : decode cX7_firstError 6 = .ok (.invokevirtual 211, 3) := by decide +kernel
theorem dX7_firstError_9 : decode cX7_firstError 9 = .ok (.ireturn, 1) := by decide +kernel
set_option maxRecDepth 20000 in
theorem ggX7_play_X7_findError : GoodIn wsX7_play wsX7_findError := goodIn_r _ [11, 2, 3, 12, 13, 14, 15, 10, 16, 4, 17, 5, 18, 19, 20, 21, 22, 23, 24, 25, 26, 27, 28, 29, 30, 31, 32, 6, 33, 34, 35, 36, 120, 121, 122, 123, 124, 125, 126, 127, 128, 129, 130, 131, 132, 133, 134, 135, 136, 137, 138, 139, 140, 141, 142, 143, 144, 145, 146] (by decide +kernel) (by decide +kernel)
set_option maxRecDepth 20000 in
theorem gX7_play_X7_findError : GoodIn wsX7_play (wsV RX7 211 RX7 yX7_findError wsX7_findError) := goodIn_app (goodIn_of _ (by decide +kernel)) ggX7_play_X7_findError
set_option maxRecDepth 20000 in
theorem ggX7_play_X7_record : GoodIn wsX7_play wsX7_record := goodIn_r _ [40, 41, 42, 43, 120, 121, 122, 123, 124, 125, 126, 127, 128, 129, 130, 131, 132, 133, 134, 135, 136, 137, 138, 139, 140, 141, 142, 143, 144, 145, 146] (by decide +kernel) (by decide +kernel)
set_option maxRecDepth 20000 in
theorem gX7_play_X7_record : GoodIn wsX7_play (wsV RX7 113 RX7 yX7_record wsX7_record) := goodIn_app (goodIn_of _ (by decide +kernel)) ggX7_play_X7_record
set_option maxRecDepth 20000 in
theorem ggX7_play_X7_readsItem : GoodIn wsX7_play wsX7_readsItem := goodIn_r _ [16, 4, 17, 5, 18, 19, 20, 10, 21, 2, 3, 12, 22, 23, 24, 25, 26, 27, 28, 29, 30, 31, 32, 6, 33, 34, 35, 36, 120, 121, 122, 123, 124, 125, 126, 127, 128, 129, 130, 131, 132, 133, 134, 135, 136, 137, 138, 139, 140, 141, 142, 143, 144, 145, 146] (by decide +kernel) (by decide +kernel)
set_option maxRecDepth 20000 in
theorem gX7_play_X7_readsItem : GoodIn wsX7_play (wsV RX7 208 RX7 yX7_readsItem wsX7_readsItem) := goodIn_app (goodIn_of _ (by decide +kernel)) ggX7_play_X7_readsItem
set_option maxRecDepth 20000 in
theorem ggX7_play_X7_whyNoTake : GoodIn wsX7_play wsX7_whyNoTake := goodIn_r _ [47, 43, 48, 49, 50, 10, 51, 22, 23, 24, 120, 121, 122, 123, 124, 125, 126, 127, 128, 129, 130, 131, 132, 133, 134, 135, 136, 137, 138, 139, 140, 141, 142, 143, 144, 145, 146] (by decide +kernel) (by decide +kernel)
set_option maxRecDepth 20000 in
theorem gX7_play_X7_whyNoTake : GoodIn wsX7_play (wsV RX7 132 RX7 yX7_whyNoTake wsX7_whyNoTake) := goodIn_app (goodIn_of _ (by decide +kernel)) ggX7_play_X7_whyNoTake
set_option maxRecDepth 20000 in
theorem ggX7_play_X7_whyNoSplit : GoodIn wsX7_play wsX7_whyNoSplit := goodIn_r _ [55, 43, 48, 49, 50, 10, 51, 22, 23, 24, 120, 121, 122, 123, 124, 125, 126, 127, 128, 129, 130, 131, 132, 133, 134, 135, 136, 137, 138, 139, 140, 141, 142, 143, 144, 145, 146] (by decide +kernel) (by decide +kernel)
set_option maxRecDepth 20000 in
theorem gX7_play_X7_whyNoSplit : GoodIn wsX7_play (wsV RX7 139 RX7 yX7_whyNoSplit wsX7_whyNoSplit) := goodIn_app (goodIn_of _ (by decide +kernel)) ggX7_play_X7_whyNoSplit
set_option maxRecDepth 20000 in
theorem ggX7_play_X7_whyNoMerge : GoodIn wsX7_play wsX7_whyNoMerge := goodIn_r _ [59, 43, 48, 49, 50, 10, 51, 22, 23, 24, 120, 121, 122, 123, 124, 125, 126, 127, 128, 129, 130, 131, 132, 133, 134, 135, 136, 137, 138, 139, 140, 141, 142, 143, 144, 145, 146] (by decide +kernel) (by decide +kernel)
set_option maxRecDepth 20000 in
theorem gX7_play_X7_whyNoMerge : GoodIn wsX7_play (wsV RX7 142 RX7 yX7_whyNoMerge wsX7_whyNoMerge) := goodIn_app (goodIn_of _ (by decide +kernel)) ggX7_play_X7_whyNoMerge
set_option maxRecDepth 20000 in
theorem ggX7_play_X7_makes : GoodIn wsX7_play wsX7_makes := goodIn_r _ [63, 43, 64, 65, 66, 67, 68, 10, 69, 70, 71, 72, 73, 74, 75, 76, 77, 78, 79, 80, 81, 82, 83, 84, 85, 86, 87, 88, 89, 90, 91, 92, 93, 94, 95, 96, 97, 98, 99, 100, 101, 102, 103, 104, 105, 106, 107, 108, 109, 110, 111, 112, 113, 114, 115, 116, 117, 118, 119, 120, 121, 122, 123, 124, 125, 126, 127, 128, 129, 130, 131, 132, 133, 134, 135, 136, 137, 138, 139, 140, 141, 142, 143, 144, 145, 146] (by decide +kernel) (by decide +kernel)
set_option maxRecDepth 20000 in
theorem gX7_play_X7_makes : GoodIn wsX7_play (wsV RX7 136 RX7 yX7_makes wsX7_makes) := goodIn_app (goodIn_of _ (by decide +kernel)) ggX7_play_X7_makes
theorem dX7_play_0 : decode cX7_play 0 = .ok (.aload_n 0, 1) := by decide +kernel
theorem dX7_play_1 : decode cX7_play 1 = .ok (.aload_n 0, 1) := by decide +kernel
theorem dX7_play_2 : decode cX7_play 2 = .ok (.invokevirtual 211, 3) := by decide +kernel
theorem dX7_play_5 : decode cX7_play 5 = .ok (.iconst (-1), 1) := by decide +kernel
theorem dX7_play_6 : decode cX7_play 6 = .ok (.if_icmp .ne 7, 3) := by decide +kernel
theorem dX7_play_9 : decode cX7_play 9 = .ok (.iconst 0, 1) := by decide +kernel
theorem dX7_play_10 : decode cX7_play 10 = .ok (.goto 4, 3) := by decide +kernel
theorem dX7_play_13 : decode cX7_play 13 = .ok (.iconst 1, 1) := by decide +kernel
theorem dX7_play_14 : decode cX7_play 14 = .ok (.putfield 60, 3) := by decide +kernel
theorem dX7_play_17 : decode cX7_play 17 = .ok (.aload_n 0, 1) := by decide +kernel
theorem dX7_play_18 : decode cX7_play 18 = .ok (.getfield 60, 3) := by decide +kernel
theorem dX7_play_21 : decode cX7_play 21 = .ok (.ifCond .le 5, 3) := by decide +kernel
theorem dX7_play_24 : decode cX7_play 24 = .ok (.iconst 0, 1) := by decide +kernel
theorem dX7_play_25 : decode cX7_play 25 = .ok (.ireturn, 1) := by decide +kernel
theorem dX7_play_26 : decode cX7_play 26 = .ok (.aload_n 0, 1) := by decide +kernel
theorem dX7_play_27 : decode cX7_play 27 = .ok (.invokevirtual 113, 3) := by decide +kernel
theorem dX7_play_30 : decode cX7_play 30 = .ok (.iconst 0, 1) := by decide +kernel
theorem dX7_play_31 : decode cX7_play 31 = .ok (.istore_n 1, 1) := by decide +kernel
theorem dX7_play_32 : decode cX7_play 32 = .ok (.aload_n 0, 1) := by decide +kernel
theorem dX7_play_33 : decode cX7_play 33 = .ok (.iconst 0, 1) := by decide +kernel
theorem dX7_play_34 : decode cX7_play 34 = .ok (.putfield 180, 3) := by decide +kernel
theorem dX7_play_37 : decode cX7_play 37 = .ok (.iconst 1, 1) := by decide +kernel
theorem dX7_play_38 : decode cX7_play 38 = .ok (.istore_n 2, 1) := by decide +kernel
theorem dX7_play_39 : decode cX7_play 39 = .ok (.iload_n 2, 1) := by decide +kernel
theorem dX7_play_40 : decode cX7_play 40 = .ok (.ifCond .eq 121, 3) := by decide +kernel
theorem dX7_play_43 : decode cX7_play 43 = .ok (.aload_n 0, 1) := by decide +kernel
theorem dX7_play_44 : decode cX7_play 44 = .ok (.getfield 180, 3) := by decide +kernel
theorem dX7_play_47 : decode cX7_play 47 = .ok (.aload_n 0, 1) := by decide +kernel
theorem dX7_play_48 : decode cX7_play 48 = .ok (.getfield 177, 3) := by decide +kernel
theorem dX7_play_51 : decode cX7_play 51 = .ok (.if_icmp .ge 110, 3) := by decide +kernel
theorem dX7_play_54 : decode cX7_play 54 = .ok (.aload_n 0, 1) := by decide +kernel
theorem dX7_play_55 : decode cX7_play 55 = .ok (.invokevirtual 208, 3) := by decide +kernel
theorem dX7_play_58 : decode cX7_play 58 = .ok (.pop, 1) := by decide +kernel
theorem dX7_play_59 : decode cX7_play 59 = .ok (.aload_n 0, 1) := by decide +kernel
theorem dX7_play_60 : decode cX7_play 60 = .ok (.dup, 1) := by decide +kernel
theorem dX7_play_61 : decode cX7_play 61 = .ok (.getfield 180, 3) := by decide +kernel
theorem dX7_play_64 : decode cX7_play 64 = .ok (.iconst 1, 1) := by decide +kernel
theorem dX7_play_65 : decode cX7_play 65 = .ok (.iadd, 1) := by decide +kernel
theorem dX7_play_66 : decode cX7_play 66 = .ok (.putfield 180, 3) := by decide +kernel
theorem dX7_play_69 : decode cX7_play 69 = .ok (.aload_n 0, 1) := by decide +kernel
theorem dX7_play_70 : decode cX7_play 70 = .ok (.getfield 196, 3) := by decide +kernel
theorem dX7_play_73 : decode cX7_play 73 = .ok (.ifCond .ne 18, 3) := by decide +kernel
theorem dX7_play_76 : decode cX7_play 76 = .ok (.aload_n 0, 1) := by decide +kernel
theorem dX7_play_77 : decode cX7_play 77 = .ok (.aload_n 0, 1) := by decide +kernel
theorem dX7_play_78 : decode cX7_play 78 = .ok (.getfield 199, 3) := by decide +kernel
theorem dX7_play_81 : decode cX7_play 81 = .ok (.aload_n 0, 1) := by decide +kernel
theorem dX7_play_82 : decode cX7_play 82 = .ok (.getfield 190, 3) := by decide +kernel
theorem dX7_play_85 : decode cX7_play 85 = .ok (.invokevirtual 132, 3) := by decide +kernel
theorem dX7_play_88 : decode cX7_play 88 = .ok (.goto 38, 3) := by decide +kernel
theorem dX7_play_91 : decode cX7_play 91 = .ok (.aload_n 0, 1) := by decide +kernel
theorem dX7_play_92 : decode cX7_play 92 = .ok (.getfield 196, 3) := by decide +kernel
theorem dX7_play_95 : decode cX7_play 95 = .ok (.iconst 1, 1) := by decide +kernel
theorem dX7_play_96 : decode cX7_play 96 = .ok (.if_icmp .ne 18, 3) := by decide +kernel
theorem dX7_play_99 : decode cX7_play 99 = .ok (.aload_n 0, 1) := by decide +kernel
theorem dX7_play_100 : decode cX7_play 100 = .ok (.aload_n 0, 1) := by decide +kernel
theorem dX7_play_101 : decode cX7_play 101 = .ok (.getfield 199, 3) := by decide +kernel
theorem dX7_play_104 : decode cX7_play 104 = .ok (.aload_n 0, 1) := by decide +kernel
theorem dX7_play_105 : decode cX7_play 105 = .ok (.getfield 190, 3) := by decide +kernel
theorem dX7_play_108 : decode cX7_play 108 = .ok (.invokevirtual 139, 3) := by decide +kernel
theorem dX7_play_111 : decode cX7_play 111 = .ok (.goto 15, 3) := by decide +kernel
theorem dX7_play_114 : decode cX7_play 114 = .ok (.aload_n 0, 1) := by decide +kernel
theorem dX7_play_115 : decode cX7_play 115 = .ok (.aload_n 0, 1) := by decide +kernel
theorem dX7_play_116 : decode cX7_play 116 = .ok (.getfield 199, 3) := by decide +kernel
theorem dX7_play_119 : decode cX7_play 119 = .ok (.aload_n 0, 1) := by decide +kernel
theorem dX7_play_120 : decode cX7_play 120 = .ok (.getfield 190, 3) := by decide +kernel
theorem dX7_play_123 : decode cX7_play 123 = .ok (.invokevirtual 142, 3) := by decide +kernel
theorem dX7_play_126 : decode cX7_play 126 = .ok (.ifCond .ne 7, 3) := by decide +kernel
theorem dX7_play_129 : decode cX7_play 129 = .ok (.iconst 1, 1) := by decide +kernel
theorem dX7_play_130 : decode cX7_play 130 = .ok (.goto 4, 3) := by decide +kernel
theorem dX7_play_133 : decode cX7_play 133 = .ok (.iconst 0, 1) := by decide +kernel
theorem dX7_play_134 : decode cX7_play 134 = .ok (.istore_n 2, 1) := by decide +kernel
theorem dX7_play_135 : decode cX7_play 135 = .ok (.iload_n 2, 1) := by decide +kernel
theorem dX7_play_136 : decode cX7_play 136 = .ok (.ifCond .eq (-97), 3) := by decide +kernel
theorem dX7_play_139 : decode cX7_play 139 = .ok (.aload_n 0, 1) := by decide +kernel
theorem dX7_play_140 : decode cX7_play 140 = .ok (.aload_n 0, 1) := by decide +kernel
theorem dX7_play_141 : decode cX7_play 141 = .ok (.getfield 196, 3) := by decide +kernel
theorem dX7_play_144 : decode cX7_play 144 = .ok (.aload_n 0, 1) := by decide +kernel
theorem dX7_play_145 : decode cX7_play 145 = .ok (.getfield 199, 3) := by decide +kernel
theorem dX7_play_148 : decode cX7_play 148 = .ok (.aload_n 0, 1) := by decide +kernel
theorem dX7_play_149 : decode cX7_play 149 = .ok (.getfield 190, 3) := by decide +kernel
theorem dX7_play_152 : decode cX7_play 152 = .ok (.invokevirtual 136, 3) := by decide +kernel
theorem dX7_play_155 : decode cX7_play 155 = .ok (.iinc 1 1, 3) := by decide +kernel
theorem dX7_play_158 : decode cX7_play 158 = .ok (.goto (-119), 3) := by decide +kernel
theorem dX7_play_161 : decode cX7_play 161 = .ok (.aload_n 0, 1) := by decide +kernel
theorem dX7_play_162 : decode cX7_play 162 = .ok (.iconst 0, 1) := by decide +kernel
theorem dX7_play_163 : decode cX7_play 163 = .ok (.putfield 177, 3) := by decide +kernel
theorem dX7_play_166 : decode cX7_play 166 = .ok (.iload_n 1, 1) := by decide +kernel
theorem dX7_play_167 : decode cX7_play 167 = .ok (.ireturn, 1) := by decide +kernel
theorem dX7_undo_0 : decode cX7_undo 0 = .ok (.aload_n 0, 1) := by decide +kernel
theorem dX7_undo_1 : decode cX7_undo 1 = .ok (.aload_n 0, 1) := by decide +kernel
theorem dX7_undo_2 : decode cX7_undo 2 = .ok (.getfield 63, 3) := by decide +kernel
theorem dX7_undo_5 : decode cX7_undo 5 = .ok (.ifCond .ne 7, 3) := by decide +kernel
theorem dX7_undo_8 : decode cX7_undo 8 = .ok (.iconst 1, 1) := by decide +kernel
theorem dX7_undo_9 : decode cX7_undo 9 = .ok (.goto 4, 3) := by decide +kernel
theorem dX7_undo_12 : decode cX7_undo 12 = .ok (.iconst 0, 1) := by decide +kernel
theorem dX7_undo_13 : decode cX7_undo 13 = .ok (.putfield 60, 3) := by decide +kernel
theorem dX7_undo_16 : decode cX7_undo 16 = .ok (.aload_n 0, 1) := by decide +kernel
theorem dX7_undo_17 : decode cX7_undo 17 = .ok (.getfield 60, 3) := by decide +kernel
theorem dX7_undo_20 : decode cX7_undo 20 = .ok (.ifCond .le 5, 3) := by decide +kernel
theorem dX7_undo_23 : decode cX7_undo 23 = .ok (.iconst 0, 1) := by decide +kernel
theorem dX7_undo_24 : decode cX7_undo 24 = .ok (.ireturn, 1) := by decide +kernel
theorem dX7_undo_25 : decode cX7_undo 25 = .ok (.aload_n 0, 1) := by decide +kernel
theorem dX7_undo_26 : decode cX7_undo 26 = .ok (.dup, 1) := by decide +kernel
theorem dX7_undo_27 : decode cX7_undo 27 = .ok (.getfield 63, 3) := by decide +kernel
theorem dX7_undo_30 : decode cX7_undo 30 = .ok (.iconst 1, 1) := by decide +kernel
theorem dX7_undo_31 : decode cX7_undo 31 = .ok (.isub, 1) := by decide +kernel
theorem dX7_undo_32 : decode cX7_undo 32 = .ok (.putfield 63, 3) := by decide +kernel
theorem dX7_undo_35 : decode cX7_undo 35 = .ok (.iconst 0, 1) := by decide +kernel
theorem dX7_undo_36 : decode cX7_undo 36 = .ok (.istore_n 1, 1) := by decide +kernel
theorem dX7_undo_37 : decode cX7_undo 37 = .ok (.iload_n 1, 1) := by decide +kernel
theorem dX7_undo_38 : decode cX7_undo 38 = .ok (.bipush 20, 2) := by decide +kernel
theorem dX7_undo_40 : decode cX7_undo 40 = .ok (.if_icmp .ge 29, 3) := by decide +kernel
theorem dX7_undo_43 : decode cX7_undo 43 = .ok (.aload_n 0, 1) := by decide +kernel
theorem dX7_undo_44 : decode cX7_undo 44 = .ok (.getfield 7, 3) := by decide +kernel
theorem dX7_undo_47 : decode cX7_undo 47 = .ok (.iload_n 1, 1) := by decide +kernel
theorem dX7_undo_48 : decode cX7_undo 48 = .ok (.aload_n 0, 1) := by decide +kernel
theorem dX7_undo_49 : decode cX7_undo 49 = .ok (.getfield 13, 3) := by decide +kernel
theorem dX7_undo_52 : decode cX7_undo 52 = .ok (.aload_n 0, 1) := by decide +kernel
theorem dX7_undo_53 : decode cX7_undo 53 = .ok (.getfield 63, 3) := by decide +kernel
theorem dX7_undo_56 : decode cX7_undo 56 = .ok (.bipush 20, 2) := by decide +kernel
theorem dX7_undo_58 : decode cX7_undo 58 = .ok (.imul, 1) := by decide +kernel
theorem dX7_undo_59 : decode cX7_undo 59 = .ok (.iload_n 1, 1) := by decide +kernel
theorem dX7_undo_60 : decode cX7_undo 60 = .ok (.iadd, 1) := by decide +kernel
theorem dX7_undo_61 : decode cX7_undo 61 = .ok (.iaload, 1) := by decide +kernel
theorem dX7_undo_62 : decode cX7_undo 62 = .ok (.iastore, 1) := by decide +kernel
theorem dX7_undo_63 : decode cX7_undo 63 = .ok (.iinc 1 1, 3) := by decide +kernel
theorem dX7_undo_66 : decode cX7_undo 66 = .ok (.goto (-29), 3) := by decide +kernel
theorem dX7_undo_69 : decode cX7_undo 69 = .ok (.aload_n 0, 1) := by decide +kernel
theorem dX7_undo_70 : decode cX7_undo 70 = .ok (.getfield 63, 3) := by decide +kernel
theorem dX7_undo_73 : decode cX7_undo 73 = .ok (.ireturn, 1) := by decide +kernel
set_option maxRecDepth 20000 in
theorem ggX7_digest_X7_allMade : GoodIn wsX7_digest wsX7_allMade := goodIn_r _ [13, 4, 86, 87, 88, 89, 90, 91, 92, 93, 94, 95, 96, 97, 98, 99, 100, 101, 102, 103, 104, 105, 106, 107, 108, 109, 110, 111, 112] (by decide +kernel) (by decide +kernel)
set_option maxRecDepth 20000 in
theorem gX7_digest_X7_allMade : GoodIn wsX7_digest (wsV RX7 151 RX7 yX7_allMade wsX7_allMade) := goodIn_app (goodIn_of _ (by decide +kernel)) ggX7_digest_X7_allMade
set_option maxRecDepth 20000 in
theorem ggX7_digest_X7_victor : GoodIn wsX7_digest wsX7_victor := goodIn_r _ [17, 4, 9, 10, 11, 12, 13, 86, 87, 88, 89, 90, 91, 92, 93, 94, 95, 96, 97, 98, 99, 100, 101, 102, 103, 104, 105, 106, 107, 108, 109, 110, 111, 112] (by decide +kernel) (by decide +kernel)
set_option maxRecDepth 20000 in
theorem gX7_digest_X7_victor : GoodIn wsX7_digest (wsV RX7 154 RX7 yX7_victor wsX7_victor) := goodIn_app (goodIn_of _ (by decide +kernel)) ggX7_digest_X7_victor
set_option maxRecDepth 20000 in
theorem ggX7_digest_X7_looks : GoodIn wsX7_digest wsX7_looks := goodIn_r _ [21, 4, 22, 23, 24, 25, 26, 27, 28, 12, 29, 30, 31, 32, 33, 34, 35, 5, 6, 36, 7, 8, 37, 38, 39, 40, 41, 42, 43, 44, 45, 46, 47, 48, 49, 50, 51, 52, 53, 54, 55, 56, 57, 58, 59, 60, 61, 62, 63, 64, 65, 66, 67, 68, 69, 86, 87, 88, 89, 90, 91, 92, 93, 94, 95, 96, 97, 98, 99, 100, 101, 102, 103, 104, 105, 106, 107, 108, 109, 110, 111, 112] (by decide +kernel) (by decide +kernel)
set_option maxRecDepth 20000 in
theorem gX7_digest_X7_looks : GoodIn wsX7_digest (wsV RX7 129 RX7 yX7_looks wsX7_looks) := goodIn_app (goodIn_of _ (by decide +kernel)) ggX7_digest_X7_looks
set_option maxRecDepth 20000 in
theorem ggX7_digest_X7_byHeaps : GoodIn wsX7_digest wsX7_byHeaps := goodIn_r _ [73, 4, 23, 25, 6, 26, 27, 28, 12, 29, 30, 31, 32, 33, 34, 35, 5, 36, 7, 8, 37, 38, 39, 40, 22, 24, 41, 42, 43, 44, 45, 46, 47, 48, 49, 50, 51, 52, 53, 54, 55, 56, 57, 58, 59, 60, 61, 62, 63, 64, 65, 66, 67, 68, 69, 86, 87, 88, 89, 90, 91, 92, 93, 94, 95, 96, 97, 98, 99, 100, 101, 102, 103, 104, 105, 106, 107, 108, 109, 110, 111, 112] (by decide +kernel) (by decide +kernel)
set_option maxRecDepth 20000 in
theorem gX7_digest_X7_byHeaps : GoodIn wsX7_digest (wsV RX7 160 RX7 yX7_byHeaps wsX7_byHeaps) := goodIn_app (goodIn_of _ (by decide +kernel)) ggX7_digest_X7_byHeaps
set_option maxRecDepth 20000 in
theorem ggX7_digest_X7_isPositionWon : GoodIn wsX7_digest wsX7_isPositionWon := goodIn_r _ [77, 4, 6, 36, 86, 87, 88, 89, 90, 91, 92, 93, 94, 95, 96, 97, 98, 99, 100, 101, 102, 103, 104, 105, 106, 107, 108, 109, 110, 111, 112] (by decide +kernel) (by decide +kernel)
set_option maxRecDepth 20000 in
theorem gX7_digest_X7_isPositionWon : GoodIn wsX7_digest (wsV RX7 163 RX7 yX7_isPositionWon wsX7_isPositionWon) := goodIn_app (goodIn_of _ (by decide +kernel)) ggX7_digest_X7_isPositionWon
set_option maxRecDepth 20000 in
theorem ggX7_digest_X7_winning : GoodIn wsX7_digest wsX7_winning := goodIn_r _ [81, 5, 18, 19, 20, 12, 21, 4, 22, 23, 24, 25, 26, 27, 28, 29, 30, 31, 32, 33, 34, 35, 6, 36, 7, 8, 37, 38, 39, 40, 41, 42, 43, 44, 45, 46, 47, 48, 49, 50, 51, 52, 53, 54, 55, 56, 57, 58, 59, 60, 61, 62, 63, 64, 65, 66, 67, 68, 69, 74, 75, 76, 77, 86, 87, 88, 89, 90, 91, 92, 93, 94, 95, 96, 97, 98, 99, 100, 101, 102, 103, 104, 105, 106, 107, 108, 109, 110, 111, 112] (by decide +kernel) (by decide +kernel)
set_option maxRecDepth 20000 in
theorem gX7_digest_X7_winning : GoodIn wsX7_digest (wsV RX7 170 RX7 yX7_winning wsX7_winning) := goodIn_app (goodIn_of _ (by decide +kernel)) ggX7_digest_X7_winning
set_option maxRecDepth 20000 in
theorem ggX7_digest_X7_reply : GoodIn wsX7_digest wsX7_reply := goodIn_r _ [85, 5, 7, 78, 79, 80, 12, 81, 18, 19, 20, 21, 4, 22, 23, 24, 25, 26, 27, 28, 29, 30, 31, 32, 33, 34, 35, 6, 36, 8, 37, 38, 39, 40, 41, 42, 43, 44, 45, 46, 47, 48, 49, 50, 51, 52, 53, 54, 55, 56, 57, 58, 59, 60, 61, 62, 63, 64, 65, 66, 67, 68, 69, 74, 75, 76, 77, 86, 87, 88, 89, 90, 91, 92, 93, 94, 95, 96, 97, 98, 99, 100, 101, 102, 103, 104, 105, 106, 107, 108, 109, 110, 111, 112] (by decide +kernel) (by decide +kernel)
set_option maxRecDepth 20000 in
theorem gX7_digest_X7_reply : GoodIn wsX7_digest (wsV RX7 174 RX7 yX7_reply wsX7_reply) := goodIn_app (goodIn_of _ (by decide +kernel)) ggX7_digest_X7_reply
theorem dX7_digest_0 : decode cX7_digest 0 = .ok (.aload_n 0, 1) := by decide +kernel
theorem dX7_digest_1 : decode cX7_digest 1 = .ok (.iconst 0, 1) := by decide +kernel
theorem dX7_digest_2 : decode cX7_digest 2 = .ok (.putfield 60, 3) := by decide +kernel
theorem dX7_digest_5 : decode cX7_digest 5 = .ok (.ldc2_w 214, 3) := by decide +kernel
theorem dX7_digest_8 : decode cX7_digest 8 = .ok (.lstore_n 1, 1) := by decide +kernel
theorem dX7_digest_9 : decode cX7_digest 9 = .ok (.ldc2_w 216, 3) := by decide +kernel
theorem dX7_digest_12 : decode cX7_digest 12 = .ok (.lload_n 1, 1) := by decide +kernel
theorem dX7_digest_13 : decode cX7_digest 13 = .ok (.lmul, 1) := by decide +kernel
theorem dX7_digest_14 : decode cX7_digest 14 = .ok (.aload_n 0, 1) := by decide +kernel
theorem dX7_digest_15 : decode cX7_digest 15 = .ok (.getfield 7, 3) := by decide +kernel
theorem dX7_digest_18 : decode cX7_digest 18 = .ok (.iconst 4, 1) := by decide +kernel
theorem dX7_digest_19 : decode cX7_digest 19 = .ok (.iaload, 1) := by decide +kernel
theorem dX7_digest_20 : decode cX7_digest 20 = .ok (.i2l, 1) := by decide +kernel
theorem dX7_digest_21 : decode cX7_digest 21 = .ok (.ladd, 1) := by decide +kernel
theorem dX7_digest_22 : decode cX7_digest 22 = .ok (.lstore_n 1, 1) := by decide +kernel
theorem dX7_digest_23 : decode cX7_digest 23 = .ok (.iconst 0, 1) := by decide +kernel
theorem dX7_digest_24 : decode cX7_digest 24 = .ok (.istore_n 3, 1) := by decide +kernel
theorem dX7_digest_25 : decode cX7_digest 25 = .ok (.iload_n 3, 1) := by decide +kernel
theorem dX7_digest_26 : decode cX7_digest 26 = .ok (.aload_n 0, 1) := by decide +kernel
theorem dX7_digest_27 : decode cX7_digest 27 = .ok (.getfield 7, 3) := by decide +kernel
theorem dX7_digest_30 : decode cX7_digest 30 = .ok (.iconst 4, 1) := by decide +kernel
theorem dX7_digest_31 : decode cX7_digest 31 = .ok (.iaload, 1) := by decide +kernel
theorem dX7_digest_32 : decode cX7_digest 32 = .ok (.if_icmp .ge 25, 3) := by decide +kernel
theorem dX7_digest_35 : decode cX7_digest 35 = .ok (.ldc2_w 216, 3) := by decide +kernel
theorem dX7_digest_38 : decode cX7_digest 38 = .ok (.lload_n 1, 1) := by decide +kernel
theorem dX7_digest_39 : decode cX7_digest 39 = .ok (.lmul, 1) := by decide +kernel
theorem dX7_digest_40 : decode cX7_digest 40 = .ok (.aload_n 0, 1) := by decide +kernel
theorem dX7_digest_41 : decode cX7_digest 41 = .ok (.getfield 7, 3) := by decide +kernel
theorem dX7_digest_44 : decode cX7_digest 44 = .ok (.iconst 5, 1) := by decide +kernel
theorem dX7_digest_45 : decode cX7_digest 45 = .ok (.iload_n 3, 1) := by decide +kernel
theorem dX7_digest_46 : decode cX7_digest 46 = .ok (.iadd, 1) := by decide +kernel
theorem dX7_digest_47 : decode cX7_digest 47 = .ok (.iaload, 1) := by decide +kernel
theorem dX7_digest_48 : decode cX7_digest 48 = .ok (.i2l, 1) := by decide +kernel
theorem dX7_digest_49 : decode cX7_digest 49 = .ok (.ladd, 1) := by decide +kernel
theorem dX7_digest_50 : decode cX7_digest 50 = .ok (.lstore_n 1, 1) := by decide +kernel
theorem dX7_digest_51 : decode cX7_digest 51 = .ok (.iinc 3 1, 3) := by decide +kernel
theorem dX7_digest_54 : decode cX7_digest 54 = .ok (.goto (-29), 3) := by decide +kernel
theorem dX7_digest_57 : decode cX7_digest 57 = .ok (.ldc2_w 216, 3) := by decide +kernel
theorem dX7_digest_60 : decode cX7_digest 60 = .ok (.lload_n 1, 1) := by decide +kernel
theorem dX7_digest_61 : decode cX7_digest 61 = .ok (.lmul, 1) := by decide +kernel
theorem dX7_digest_62 : decode cX7_digest 62 = .ok (.aload_n 0, 1) := by decide +kernel
theorem dX7_digest_63 : decode cX7_digest 63 = .ok (.getfield 7, 3) := by decide +kernel
theorem dX7_digest_66 : decode cX7_digest 66 = .ok (.iconst 0, 1) := by decide +kernel
theorem dX7_digest_67 : decode cX7_digest 67 = .ok (.iaload, 1) := by decide +kernel
theorem dX7_digest_68 : decode cX7_digest 68 = .ok (.i2l, 1) := by decide +kernel
theorem dX7_digest_69 : decode cX7_digest 69 = .ok (.ladd, 1) := by decide +kernel
theorem dX7_digest_70 : decode cX7_digest 70 = .ok (.lstore_n 1, 1) := by decide +kernel
theorem dX7_digest_71 : decode cX7_digest 71 = .ok (.ldc2_w 216, 3) := by decide +kernel
theorem dX7_digest_74 : decode cX7_digest 74 = .ok (.lload_n 1, 1) := by decide +kernel
theorem dX7_digest_75 : decode cX7_digest 75 = .ok (.lmul, 1) := by decide +kernel
theorem dX7_digest_76 : decode cX7_digest 76 = .ok (.aload_n 0, 1) := by decide +kernel
theorem dX7_digest_77 : decode cX7_digest 77 = .ok (.getfield 7, 3) := by decide +kernel
theorem dX7_digest_80 : decode cX7_digest 80 = .ok (.iconst 1, 1) := by decide +kernel
theorem dX7_digest_81 : decode cX7_digest 81 = .ok (.iaload, 1) := by decide +kernel
theorem dX7_digest_82 : decode cX7_digest 82 = .ok (.i2l, 1) := by decide +kernel
theorem dX7_digest_83 : decode cX7_digest 83 = .ok (.ladd, 1) := by decide +kernel
theorem dX7_digest_84 : decode cX7_digest 84 = .ok (.lstore_n 1, 1) := by decide +kernel
theorem dX7_digest_85 : decode cX7_digest 85 = .ok (.ldc2_w 216, 3) := by decide +kernel
theorem dX7_digest_88 : decode cX7_digest 88 = .ok (.lload_n 1, 1) := by decide +kernel
theorem dX7_digest_89 : decode cX7_digest 89 = .ok (.lmul, 1) := by decide +kernel
theorem dX7_digest_90 : decode cX7_digest 90 = .ok (.aload_n 0, 1) := by decide +kernel
theorem dX7_digest_91 : decode cX7_digest 91 = .ok (.getfield 7, 3) := by decide +kernel
theorem dX7_digest_94 : decode cX7_digest 94 = .ok (.iconst 2, 1) := by decide +kernel
theorem dX7_digest_95 : decode cX7_digest 95 = .ok (.iaload, 1) := by decide +kernel
theorem dX7_digest_96 : decode cX7_digest 96 = .ok (.i2l, 1) := by decide +kernel
theorem dX7_digest_97 : decode cX7_digest 97 = .ok (.ladd, 1) := by decide +kernel
theorem dX7_digest_98 : decode cX7_digest 98 = .ok (.lstore_n 1, 1) := by decide +kernel
theorem dX7_digest_99 : decode cX7_digest 99 = .ok (.ldc2_w 216, 3) := by decide +kernel
theorem dX7_digest_102 : decode cX7_digest 102 = .ok (.lload_n 1, 1) := by decide +kernel
theorem dX7_digest_103 : decode cX7_digest 103 = .ok (.lmul, 1) := by decide +kernel
theorem dX7_digest_104 : decode cX7_digest 104 = .ok (.aload_n 0, 1) := by decide +kernel
theorem dX7_digest_105 : decode cX7_digest 105 = .ok (.getfield 7, 3) := by decide +kernel
theorem dX7_digest_108 : decode cX7_digest 108 = .ok (.iconst 3, 1) := by decide +kernel
theorem dX7_digest_109 : decode cX7_digest 109 = .ok (.iaload, 1) := by decide +kernel
theorem dX7_digest_110 : decode cX7_digest 110 = .ok (.i2l, 1) := by decide +kernel
theorem dX7_digest_111 : decode cX7_digest 111 = .ok (.ladd, 1) := by decide +kernel
theorem dX7_digest_112 : decode cX7_digest 112 = .ok (.lstore_n 1, 1) := by decide +kernel
theorem dX7_digest_113 : decode cX7_digest 113 = .ok (.ldc2_w 216, 3) := by decide +kernel
theorem dX7_digest_116 : decode cX7_digest 116 = .ok (.lload_n 1, 1) := by decide +kernel
theorem dX7_digest_117 : decode cX7_digest 117 = .ok (.lmul, 1) := by decide +kernel
theorem dX7_digest_118 : decode cX7_digest 118 = .ok (.aload_n 0, 1) := by decide +kernel
theorem dX7_digest_119 : decode cX7_digest 119 = .ok (.invokevirtual 151, 3) := by decide +kernel
theorem dX7_digest_122 : decode cX7_digest 122 = .ok (.iconst 2, 1) := by decide +kernel
theorem dX7_digest_123 : decode cX7_digest 123 = .ok (.irem, 1) := by decide +kernel
theorem dX7_digest_124 : decode cX7_digest 124 = .ok (.i2l, 1) := by decide +kernel
theorem dX7_digest_125 : decode cX7_digest 125 = .ok (.ladd, 1) := by decide +kernel
theorem dX7_digest_126 : decode cX7_digest 126 = .ok (.lstore_n 1, 1) := by decide +kernel
theorem dX7_digest_127 : decode cX7_digest 127 = .ok (.ldc2_w 216, 3) := by decide +kernel
theorem dX7_digest_130 : decode cX7_digest 130 = .ok (.lload_n 1, 1) := by decide +kernel
theorem dX7_digest_131 : decode cX7_digest 131 = .ok (.lmul, 1) := by decide +kernel
theorem dX7_digest_132 : decode cX7_digest 132 = .ok (.aload_n 0, 1) := by decide +kernel
theorem dX7_digest_133 : decode cX7_digest 133 = .ok (.invokevirtual 151, 3) := by decide +kernel
theorem dX7_digest_136 : decode cX7_digest 136 = .ok (.i2l, 1) := by decide +kernel
theorem dX7_digest_137 : decode cX7_digest 137 = .ok (.ladd, 1) := by decide +kernel
theorem dX7_digest_138 : decode cX7_digest 138 = .ok (.lstore_n 1, 1) := by decide +kernel
theorem dX7_digest_139 : decode cX7_digest 139 = .ok (.ldc2_w 216, 3) := by decide +kernel
theorem dX7_digest_142 : decode cX7_digest 142 = .ok (.lload_n 1, 1) := by decide +kernel
theorem dX7_digest_143 : decode cX7_digest 143 = .ok (.lmul, 1) := by decide +kernel
theorem dX7_digest_144 : decode cX7_digest 144 = .ok (.aload_n 0, 1) := by decide +kernel
theorem dX7_digest_145 : decode cX7_digest 145 = .ok (.invokevirtual 154, 3) := by decide +kernel
theorem dX7_digest_148 : decode cX7_digest 148 = .ok (.i2l, 1) := by decide +kernel
theorem dX7_digest_149 : decode cX7_digest 149 = .ok (.ladd, 1) := by decide +kernel
theorem dX7_digest_150 : decode cX7_digest 150 = .ok (.lstore_n 1, 1) := by decide +kernel
theorem dX7_digest_151 : decode cX7_digest 151 = .ok (.aload_n 0, 1) := by decide +kernel
theorem dX7_digest_152 : decode cX7_digest 152 = .ok (.invokevirtual 129, 3) := by decide +kernel
theorem dX7_digest_155 : decode cX7_digest 155 = .ok (.istore_n 3, 1) := by decide +kernel
theorem dX7_digest_156 : decode cX7_digest 156 = .ok (.ldc2_w 216, 3) := by decide +kernel
theorem dX7_digest_159 : decode cX7_digest 159 = .ok (.lload_n 1, 1) := by decide +kernel
theorem dX7_digest_160 : decode cX7_digest 160 = .ok (.lmul, 1) := by decide +kernel
theorem dX7_digest_161 : decode cX7_digest 161 = .ok (.aload_n 0, 1) := by decide +kernel
theorem dX7_digest_162 : decode cX7_digest 162 = .ok (.getfield 76, 3) := by decide +kernel
theorem dX7_digest_165 : decode cX7_digest 165 = .ok (.i2l, 1) := by decide +kernel
theorem dX7_digest_166 : decode cX7_digest 166 = .ok (.ladd, 1) := by decide +kernel
theorem dX7_digest_167 : decode cX7_digest 167 = .ok (.lstore_n 1, 1) := by decide +kernel
theorem dX7_digest_168 : decode cX7_digest 168 = .ok (.ldc2_w 216, 3) := by decide +kernel
theorem dX7_digest_171 : decode cX7_digest 171 = .ok (.lload_n 1, 1) := by decide +kernel
theorem dX7_digest_172 : decode cX7_digest 172 = .ok (.lmul, 1) := by decide +kernel
theorem dX7_digest_173 : decode cX7_digest 173 = .ok (.aload_n 0, 1) := by decide +kernel
theorem dX7_digest_174 : decode cX7_digest 174 = .ok (.getfield 25, 3) := by decide +kernel
theorem dX7_digest_177 : decode cX7_digest 177 = .ok (.iload_n 3, 1) := by decide +kernel
theorem dX7_digest_178 : decode cX7_digest 178 = .ok (.iaload, 1) := by decide +kernel
theorem dX7_digest_179 : decode cX7_digest 179 = .ok (.i2l, 1) := by decide +kernel
theorem dX7_digest_180 : decode cX7_digest 180 = .ok (.ladd, 1) := by decide +kernel
theorem dX7_digest_181 : decode cX7_digest 181 = .ok (.lstore_n 1, 1) := by decide +kernel
theorem dX7_digest_182 : decode cX7_digest 182 = .ok (.ldc2_w 216, 3) := by decide +kernel
theorem dX7_digest_185 : decode cX7_digest 185 = .ok (.lload_n 1, 1) := by decide +kernel
theorem dX7_digest_186 : decode cX7_digest 186 = .ok (.lmul, 1) := by decide +kernel
theorem dX7_digest_187 : decode cX7_digest 187 = .ok (.aload_n 0, 1) := by decide +kernel
theorem dX7_digest_188 : decode cX7_digest 188 = .ok (.invokevirtual 160, 3) := by decide +kernel
theorem dX7_digest_191 : decode cX7_digest 191 = .ok (.i2l, 1) := by decide +kernel
theorem dX7_digest_192 : decode cX7_digest 192 = .ok (.ladd, 1) := by decide +kernel
theorem dX7_digest_193 : decode cX7_digest 193 = .ok (.lstore_n 1, 1) := by decide +kernel
theorem dX7_digest_194 : decode cX7_digest 194 = .ok (.ldc2_w 216, 3) := by decide +kernel
theorem dX7_digest_197 : decode cX7_digest 197 = .ok (.lload_n 1, 1) := by decide +kernel
theorem dX7_digest_198 : decode cX7_digest 198 = .ok (.lmul, 1) := by decide +kernel
theorem dX7_digest_199 : decode cX7_digest 199 = .ok (.aload_n 0, 1) := by decide +kernel
theorem dX7_digest_200 : decode cX7_digest 200 = .ok (.iload_n 3, 1) := by decide +kernel
theorem dX7_digest_201 : decode cX7_digest 201 = .ok (.invokevirtual 163, 3) := by decide +kernel
theorem dX7_digest_204 : decode cX7_digest 204 = .ok (.ifCond .eq 7, 3) := by decide +kernel
theorem dX7_digest_207 : decode cX7_digest 207 = .ok (.iconst 1, 1) := by decide +kernel
theorem dX7_digest_208 : decode cX7_digest 208 = .ok (.goto 4, 3) := by decide +kernel
theorem dX7_digest_211 : decode cX7_digest 211 = .ok (.iconst 0, 1) := by decide +kernel
theorem dX7_digest_212 : decode cX7_digest 212 = .ok (.i2l, 1) := by decide +kernel
theorem dX7_digest_213 : decode cX7_digest 213 = .ok (.ladd, 1) := by decide +kernel
theorem dX7_digest_214 : decode cX7_digest 214 = .ok (.lstore_n 1, 1) := by decide +kernel
theorem dX7_digest_215 : decode cX7_digest 215 = .ok (.ldc2_w 216, 3) := by decide +kernel
theorem dX7_digest_218 : decode cX7_digest 218 = .ok (.lload_n 1, 1) := by decide +kernel
theorem dX7_digest_219 : decode cX7_digest 219 = .ok (.lmul, 1) := by decide +kernel
theorem dX7_digest_220 : decode cX7_digest 220 = .ok (.aload_n 0, 1) := by decide +kernel
theorem dX7_digest_221 : decode cX7_digest 221 = .ok (.iconst 0, 1) := by decide +kernel
theorem dX7_digest_222 : decode cX7_digest 222 = .ok (.invokevirtual 170, 3) := by decide +kernel
theorem dX7_digest_225 : decode cX7_digest 225 = .ok (.i2l, 1) := by decide +kernel
theorem dX7_digest_226 : decode cX7_digest 226 = .ok (.ladd, 1) := by decide +kernel
theorem dX7_digest_227 : decode cX7_digest 227 = .ok (.lstore_n 1, 1) := by decide +kernel
theorem dX7_digest_228 : decode cX7_digest 228 = .ok (.ldc2_w 216, 3) := by decide +kernel
theorem dX7_digest_231 : decode cX7_digest 231 = .ok (.lload_n 1, 1) := by decide +kernel
theorem dX7_digest_232 : decode cX7_digest 232 = .ok (.lmul, 1) := by decide +kernel
theorem dX7_digest_233 : decode cX7_digest 233 = .ok (.aload_n 0, 1) := by decide +kernel
theorem dX7_digest_234 : decode cX7_digest 234 = .ok (.invokevirtual 174, 3) := by decide +kernel
theorem dX7_digest_237 : decode cX7_digest 237 = .ok (.i2l, 1) := by decide +kernel
theorem dX7_digest_238 : decode cX7_digest 238 = .ok (.ladd, 1) := by decide +kernel
theorem dX7_digest_239 : decode cX7_digest 239 = .ok (.lstore_n 1, 1) := by decide +kernel
theorem dX7_digest_240 : decode cX7_digest 240 = .ok (.ldc2_w 216, 3) := by decide +kernel
theorem dX7_digest_243 : decode cX7_digest 243 = .ok (.lload_n 1, 1) := by decide +kernel
theorem dX7_digest_244 : decode cX7_digest 244 = .ok (.lmul, 1) := by decide +kernel
theorem dX7_digest_245 : decode cX7_digest 245 = .ok (.aload_n 0, 1) := by decide +kernel
theorem dX7_digest_246 : decode cX7_digest 246 = .ok (.getfield 31, 3) := by decide +kernel
theorem dX7_digest_249 : decode cX7_digest 249 = .ok (.iload_n 3, 1) := by decide +kernel
theorem dX7_digest_250 : decode cX7_digest 250 = .ok (.iaload, 1) := by decide +kernel
theorem dX7_digest_251 : decode cX7_digest 251 = .ok (.i2l, 1) := by decide +kernel
theorem dX7_digest_252 : decode cX7_digest 252 = .ok (.ladd, 1) := by decide +kernel
theorem dX7_digest_253 : decode cX7_digest 253 = .ok (.lstore_n 1, 1) := by decide +kernel
theorem dX7_digest_254 : decode cX7_digest 254 = .ok (.ldc2_w 216, 3) := by decide +kernel
theorem dX7_digest_257 : decode cX7_digest 257 = .ok (.lload_n 1, 1) := by decide +kernel
theorem dX7_digest_258 : decode cX7_digest 258 = .ok (.lmul, 1) := by decide +kernel
theorem dX7_digest_259 : decode cX7_digest 259 = .ok (.aload_n 0, 1) := by decide +kernel
theorem dX7_digest_260 : decode cX7_digest 260 = .ok (.getfield 34, 3) := by decide +kernel
theorem dX7_digest_263 : decode cX7_digest 263 = .ok (.iload_n 3, 1) := by decide +kernel
theorem dX7_digest_264 : decode cX7_digest 264 = .ok (.iaload, 1) := by decide +kernel
theorem dX7_digest_265 : decode cX7_digest 265 = .ok (.i2l, 1) := by decide +kernel
theorem dX7_digest_266 : decode cX7_digest 266 = .ok (.ladd, 1) := by decide +kernel
theorem dX7_digest_267 : decode cX7_digest 267 = .ok (.lstore_n 1, 1) := by decide +kernel
theorem dX7_digest_268 : decode cX7_digest 268 = .ok (.ldc2_w 216, 3) := by decide +kernel
theorem dX7_digest_271 : decode cX7_digest 271 = .ok (.lload_n 1, 1) := by decide +kernel
theorem dX7_digest_272 : decode cX7_digest 272 = .ok (.lmul, 1) := by decide +kernel
theorem dX7_digest_273 : decode cX7_digest 273 = .ok (.aload_n 0, 1) := by decide +kernel
theorem dX7_digest_274 : decode cX7_digest 274 = .ok (.getfield 7, 3) := by decide +kernel
theorem dX7_digest_277 : decode cX7_digest 277 = .ok (.bipush 17, 2) := by decide +kernel
theorem dX7_digest_279 : decode cX7_digest 279 = .ok (.iaload, 1) := by decide +kernel
theorem dX7_digest_280 : decode cX7_digest 280 = .ok (.i2l, 1) := by decide +kernel
theorem dX7_digest_281 : decode cX7_digest 281 = .ok (.ladd, 1) := by decide +kernel
theorem dX7_digest_282 : decode cX7_digest 282 = .ok (.lstore_n 1, 1) := by decide +kernel
theorem dX7_digest_283 : decode cX7_digest 283 = .ok (.ldc2_w 216, 3) := by decide +kernel
theorem dX7_digest_286 : decode cX7_digest 286 = .ok (.lload_n 1, 1) := by decide +kernel
theorem dX7_digest_287 : decode cX7_digest 287 = .ok (.lmul, 1) := by decide +kernel
theorem dX7_digest_288 : decode cX7_digest 288 = .ok (.aload_n 0, 1) := by decide +kernel
theorem dX7_digest_289 : decode cX7_digest 289 = .ok (.getfield 7, 3) := by decide +kernel
theorem dX7_digest_292 : decode cX7_digest 292 = .ok (.bipush 18, 2) := by decide +kernel
theorem dX7_digest_294 : decode cX7_digest 294 = .ok (.iaload, 1) := by decide +kernel
theorem dX7_digest_295 : decode cX7_digest 295 = .ok (.i2l, 1) := by decide +kernel
theorem dX7_digest_296 : decode cX7_digest 296 = .ok (.ladd, 1) := by decide +kernel
theorem dX7_digest_297 : decode cX7_digest 297 = .ok (.lstore_n 1, 1) := by decide +kernel
theorem dX7_digest_298 : decode cX7_digest 298 = .ok (.ldc2_w 216, 3) := by decide +kernel
theorem dX7_digest_301 : decode cX7_digest 301 = .ok (.lload_n 1, 1) := by decide +kernel
theorem dX7_digest_302 : decode cX7_digest 302 = .ok (.lmul, 1) := by decide +kernel
theorem dX7_digest_303 : decode cX7_digest 303 = .ok (.aload_n 0, 1) := by decide +kernel
theorem dX7_digest_304 : decode cX7_digest 304 = .ok (.getfield 7, 3) := by decide +kernel
theorem dX7_digest_307 : decode cX7_digest 307 = .ok (.bipush 19, 2) := by decide +kernel
theorem dX7_digest_309 : decode cX7_digest 309 = .ok (.iaload, 1) := by decide +kernel
theorem dX7_digest_310 : decode cX7_digest 310 = .ok (.i2l, 1) := by decide +kernel
theorem dX7_digest_311 : decode cX7_digest 311 = .ok (.ladd, 1) := by decide +kernel
theorem dX7_digest_312 : decode cX7_digest 312 = .ok (.lreturn, 1) := by decide +kernel
theorem dJ11_isValidCodePoint_9a6ad_0 : decode cJ11_isValidCodePoint_9a6ad 0 = .ok (.iload_n 0, 1) := by decide +kernel
theorem dJ11_isValidCodePoint_9a6ad_1 : decode cJ11_isValidCodePoint_9a6ad 1 = .ok (.bipush 16, 2) := by decide +kernel
theorem dJ11_isValidCodePoint_9a6ad_3 : decode cJ11_isValidCodePoint_9a6ad 3 = .ok (.iushr, 1) := by decide +kernel
theorem dJ11_isValidCodePoint_9a6ad_4 : decode cJ11_isValidCodePoint_9a6ad 4 = .ok (.istore_n 1, 1) := by decide +kernel
theorem dJ11_isValidCodePoint_9a6ad_5 : decode cJ11_isValidCodePoint_9a6ad 5 = .ok (.iload_n 1, 1) := by decide +kernel
theorem dJ11_isValidCodePoint_9a6ad_6 : decode cJ11_isValidCodePoint_9a6ad 6 = .ok (.bipush 17, 2) := by decide +kernel
theorem dJ11_isValidCodePoint_9a6ad_8 : decode cJ11_isValidCodePoint_9a6ad 8 = .ok (.if_icmp .ge 7, 3) := by decide +kernel
theorem dJ11_isValidCodePoint_9a6ad_11 : decode cJ11_isValidCodePoint_9a6ad 11 = .ok (.iconst 1, 1) := by decide +kernel
theorem dJ11_isValidCodePoint_9a6ad_12 : decode cJ11_isValidCodePoint_9a6ad 12 = .ok (.goto 4, 3) := by decide +kernel
theorem dJ11_isValidCodePoint_9a6ad_15 : decode cJ11_isValidCodePoint_9a6ad 15 = .ok (.iconst 0, 1) := by decide +kernel
theorem dJ11_isValidCodePoint_9a6ad_16 : decode cJ11_isValidCodePoint_9a6ad 16 = .ok (.ireturn, 1) := by decide +kernel
theorem dJ11_highSurrogate_5068e_0 : decode cJ11_highSurrogate_5068e 0 = .ok (.iload_n 0, 1) := by decide +kernel
theorem dJ11_highSurrogate_5068e_1 : decode cJ11_highSurrogate_5068e 1 = .ok (.bipush 10, 2) := by decide +kernel
theorem dJ11_highSurrogate_5068e_3 : decode cJ11_highSurrogate_5068e 3 = .ok (.iushr, 1) := by decide +kernel
theorem dJ11_highSurrogate_5068e_4 : decode cJ11_highSurrogate_5068e 4 = .ok (.ldc 110, 2) := by decide +kernel
theorem dJ11_highSurrogate_5068e_6 : decode cJ11_highSurrogate_5068e 6 = .ok (.iadd, 1) := by decide +kernel
theorem dJ11_highSurrogate_5068e_7 : decode cJ11_highSurrogate_5068e 7 = .ok (.i2c, 1) := by decide +kernel
theorem dJ11_highSurrogate_5068e_8 : decode cJ11_highSurrogate_5068e 8 = .ok (.ireturn, 1) := by decide +kernel
theorem dJ11_lowSurrogate_5068e_0 : decode cJ11_lowSurrogate_5068e 0 = .ok (.iload_n 0, 1) := by decide +kernel
theorem dJ11_lowSurrogate_5068e_1 : decode cJ11_lowSurrogate_5068e 1 = .ok (.sipush 1023, 3) := by decide +kernel
theorem dJ11_lowSurrogate_5068e_4 : decode cJ11_lowSurrogate_5068e 4 = .ok (.iand, 1) := by decide +kernel
theorem dJ11_lowSurrogate_5068e_5 : decode cJ11_lowSurrogate_5068e 5 = .ok (.ldc 76, 2) := by decide +kernel
theorem dJ11_lowSurrogate_5068e_7 : decode cJ11_lowSurrogate_5068e 7 = .ok (.iadd, 1) := by decide +kernel
theorem dJ11_lowSurrogate_5068e_8 : decode cJ11_lowSurrogate_5068e 8 = .ok (.i2c, 1) := by decide +kernel
theorem dJ11_lowSurrogate_5068e_9 : decode cJ11_lowSurrogate_5068e 9 = .ok (.ireturn, 1) := by decide +kernel
theorem dJ9_max_7cf53_0 : decode cJ9_max_7cf53 0 = .ok (.iload_n 0, 1) := by decide +kernel
theorem dJ9_max_7cf53_1 : decode cJ9_max_7cf53 1 = .ok (.iload_n 1, 1) := by decide +kernel
theorem dJ9_max_7cf53_2 : decode cJ9_max_7cf53 2 = .ok (.if_icmp .lt 7, 3) := by decide +kernel
theorem dJ9_max_7cf53_5 : decode cJ9_max_7cf53 5 = .ok (.iload_n 0, 1) := by decide +kernel
theorem dJ9_max_7cf53_6 : decode cJ9_max_7cf53 6 = .ok (.goto 4, 3) := by decide +kernel
theorem dJ9_max_7cf53_9 : decode cJ9_max_7cf53 9 = .ok (.iload_n 1, 1) := by decide +kernel
theorem dJ9_max_7cf53_10 : decode cJ9_max_7cf53 10 = .ok (.ireturn, 1) := by decide +kernel
theorem dJ9_min_7cf53_0 : decode cJ9_min_7cf53 0 = .ok (.iload_n 0, 1) := by decide +kernel
theorem dJ9_min_7cf53_1 : decode cJ9_min_7cf53 1 = .ok (.iload_n 1, 1) := by decide +kernel
theorem dJ9_min_7cf53_2 : decode cJ9_min_7cf53 2 = .ok (.if_icmp .gt 7, 3) := by decide +kernel
theorem dJ9_min_7cf53_5 : decode cJ9_min_7cf53 5 = .ok (.iload_n 0, 1) := by decide +kernel
theorem dJ9_min_7cf53_6 : decode cJ9_min_7cf53 6 = .ok (.goto 4, 3) := by decide +kernel
theorem dJ9_min_7cf53_9 : decode cJ9_min_7cf53 9 = .ok (.iload_n 1, 1) := by decide +kernel
theorem dJ9_min_7cf53_10 : decode cJ9_min_7cf53 10 = .ok (.ireturn, 1) := by decide +kernel
set_option maxRecDepth 20000 in
theorem ggJ0_length_8abf5_J0_coder_7d493 : GoodIn wsJ0_length_8abf5 wsJ0_coder_7d493 := goodIn_r _ [6, 7, 8] (by decide +kernel) (by decide +kernel)
set_option maxRecDepth 20000 in
theorem gJ0_length_8abf5_J0_coder_7d493 : GoodIn wsJ0_length_8abf5 (wsV RJ0 335 RJ0 yJ0_coder_7d493 wsJ0_coder_7d493) := goodIn_app (goodIn_of _ (by decide +kernel)) ggJ0_length_8abf5_J0_coder_7d493
theorem dJ0_length_8abf5_0 : decode cJ0_length_8abf5 0 = .ok (.aload_n 0, 1) := by decide +kernel
theorem dJ0_length_8abf5_1 : decode cJ0_length_8abf5 1 = .ok (.getfield 9, 3) := by decide +kernel
theorem dJ0_length_8abf5_4 : decode cJ0_length_8abf5 4 = .ok (.arraylength, 1) := by decide +kernel
theorem dJ0_length_8abf5_5 : decode cJ0_length_8abf5 5 = .ok (.aload_n 0, 1) := by decide +kernel
theorem dJ0_length_8abf5_6 : decode cJ0_length_8abf5 6 = .ok (.invokevirtual 335, 3) := by decide +kernel
theorem dJ0_length_8abf5_9 : decode cJ0_length_8abf5 9 = .ok (.ishr, 1) := by decide +kernel
theorem dJ0_length_8abf5_10 : decode cJ0_length_8abf5 10 = .ok (.ireturn, 1) := by decide +kernel
set_option maxRecDepth 20000 in
theorem ggJ0_charAt_5068e_J0_isLatin1_aae02 : GoodIn wsJ0_charAt_5068e wsJ0_isLatin1_aae02 := goodIn_r _ [6, 7, 8] (by decide +kernel) (by decide +kernel)
set_option maxRecDepth 20000 in
theorem gJ0_charAt_5068e_J0_isLatin1_aae02 : GoodIn wsJ0_charAt_5068e (wsV RJ0 492 RJ0 yJ0_isLatin1_aae02 wsJ0_isLatin1_aae02) := goodIn_app (goodIn_of _ (by decide +kernel)) ggJ0_charAt_5068e_J0_isLatin1_aae02
set_option maxRecDepth 20000 in
theorem ggJ0_charAt_5068e_J1_charAt_3b067 : GoodIn wsJ0_charAt_5068e wsJ1_charAt_3b067 := goodIn_r _ [12, 13, 14, 5, 15, 16, 17, 18, 19, 20] (by decide +kernel) (by decide +kernel)
set_option maxRecDepth 20000 in
theorem gJ0_charAt_5068e_J1_charAt_3b067 : GoodIn wsJ0_charAt_5068e (va_wsS RJ0 495 yJ1_charAt_3b067 wsJ1_charAt_3b067) := goodIn_app (goodIn_of _ (by decide +kernel)) ggJ0_charAt_5068e_J1_charAt_3b067
set_option maxRecDepth 20000 in
theorem ggJ0_charAt_5068e_J2_charAt_3b067 : GoodIn wsJ0_charAt_5068e wsJ2_charAt_3b067 := goodIn_r _ [24, 25, 26, 23, 27, 28, 29, 30, 31, 14, 5, 15, 16, 17, 18, 19, 20, 32, 33, 34, 35, 36, 37] (by decide +kernel) (by decide +kernel)
set_option maxRecDepth 20000 in
theorem gJ0_charAt_5068e_J2_charAt_3b067 : GoodIn wsJ0_charAt_5068e (va_wsS RJ0 498 yJ2_charAt_3b067 wsJ2_charAt_3b067) := goodIn_app (goodIn_of _ (by decide +kernel)) ggJ0_charAt_5068e_J2_charAt_3b067
theorem dJ0_charAt_5068e_0 : decode cJ0_charAt_5068e 0 = .ok (.aload_n 0, 1) := by decide +kernel
theorem dJ0_charAt_5068e_1 : decode cJ0_charAt_5068e 1 = .ok (.invokevirtual 492, 3) := by decide +kernel
theorem dJ0_charAt_5068e_4 : decode cJ0_charAt_5068e 4 = .ok (.ifCond .eq 12, 3) := by decide +kernel
theorem dJ0_charAt_5068e_7 : decode cJ0_charAt_5068e 7 = .ok (.aload_n 0, 1) := by decide +kernel
theorem dJ0_charAt_5068e_8 : decode cJ0_charAt_5068e 8 = .ok (.getfield 9, 3) := by decide +kernel
theorem dJ0_charAt_5068e_11 : decode cJ0_charAt_5068e 11 = .ok (.iload_n 1, 1) := by decide +kernel
theorem dJ0_charAt_5068e_12 : decode cJ0_charAt_5068e 12 = .ok (.invokestatic 495, 3) := by decide +kernel
theorem dJ0_charAt_5068e_15 : decode cJ0_charAt_5068e 15 = .ok (.ireturn, 1) := by decide +kernel
theorem dJ0_charAt_5068e_16 : decode cJ0_charAt_5068e 16 = .ok (.aload_n 0, 1) := by decide +kernel
theorem dJ0_charAt_5068e_17 : decode cJ0_charAt_5068e 17 = .ok (.getfield 9, 3) := by decide +kernel
theorem dJ0_charAt_5068e_20 : decode cJ0_charAt_5068e 20 = .ok (.iload_n 1, 1) := by decide +kernel
theorem dJ0_charAt_5068e_21 : decode cJ0_charAt_5068e 21 = .ok (.invokestatic 498, 3) := by decide +kernel
theorem dJ0_charAt_5068e_24 : decode cJ0_charAt_5068e 24 = .ok (.ireturn, 1) := by decide +kernel
set_option maxRecDepth 20000 in
theorem ggJ0_indexOf_0f7a4_J0_indexOf_7cf53 : GoodIn wsJ0_indexOf_0f7a4 wsJ0_indexOf_7cf53 := goodIn_r _ [5, 6, 7, 8, 9, 4, 10, 11, 12, 13, 14, 15, 16, 17, 18, 19, 20, 21, 22, 23, 24, 25, 26, 27, 28, 29, 30, 31, 32, 33, 34, 35, 36, 37, 38, 39, 40, 41, 42, 43, 44, 45, 46, 47, 48, 49, 50, 51, 52, 53, 54, 55, 56, 57, 58, 59, 60, 61, 62, 63, 64, 65, 66, 67, 68, 69, 70, 71, 72, 73, 74, 75, 76, 77, 78, 79, 80, 81, 82, 83, 84, 85] (by decide +kernel) (by decide +kernel)
set_option maxRecDepth 20000 in
theorem gJ0_indexOf_0f7a4_J0_indexOf_7cf53 : GoodIn wsJ0_indexOf_0f7a4 (wsV RJ0 633 RJ0 yJ0_indexOf_7cf53 wsJ0_indexOf_7cf53) := goodIn_app (goodIn_of _ (by decide +kernel)) ggJ0_indexOf_0f7a4_J0_indexOf_7cf53
theorem dJ0_indexOf_0f7a4_0 : decode cJ0_indexOf_0f7a4 0 = .ok (.aload_n 0, 1) := by decide +kernel
theorem dJ0_indexOf_0f7a4_1 : decode cJ0_indexOf_0f7a4 1 = .ok (.iload_n 1, 1) := by decide +kernel
theorem dJ0_indexOf_0f7a4_2 : decode cJ0_indexOf_0f7a4 2 = .ok (.iconst 0, 1) := by decide +kernel
theorem dJ0_indexOf_0f7a4_3 : decode cJ0_indexOf_0f7a4 3 = .ok (.invokevirtual 633, 3) := by decide +kernel
theorem dJ0_indexOf_0f7a4_6 : decode cJ0_indexOf_0f7a4 6 = .ok (.ireturn, 1) := by decide +kernel
set_option maxRecDepth 20000 in
theorem ggJ0_indexOf_7cf53_J0_isLatin1_aae02 : GoodIn wsJ0_indexOf_7cf53 wsJ0_isLatin1_aae02 := goodIn_r _ [6, 7, 8] (by decide +kernel) (by decide +kernel)
set_option maxRecDepth 20000 in
theorem gJ0_indexOf_7cf53_J0_isLatin1_aae02 : GoodIn wsJ0_indexOf_7cf53 (wsV RJ0 492 RJ0 yJ0_isLatin1_aae02 wsJ0_isLatin1_aae02) := goodIn_app (goodIn_of _ (by decide +kernel)) ggJ0_indexOf_7cf53_J0_isLatin1_aae02
set_option maxRecDepth 20000 in
theorem ggJ0_indexOf_7cf53_J0_length_8abf5 : GoodIn wsJ0_indexOf_7cf53 wsJ0_length_8abf5 := goodIn_r _ [12, 1, 13, 14, 15, 5, 16, 7, 8] (by decide +kernel) (by decide +kernel)
set_option maxRecDepth 20000 in
theorem gJ0_indexOf_7cf53_J0_length_8abf5 : GoodIn wsJ0_indexOf_7cf53 (wsV RJ0 505 RJ0 yJ0_length_8abf5 wsJ0_length_8abf5) := goodIn_app (goodIn_of _ (by decide +kernel)) ggJ0_indexOf_7cf53_J0_length_8abf5
set_option maxRecDepth 20000 in
theorem ggJ0_indexOf_7cf53_J1_indexOf_4cfef : GoodIn wsJ0_indexOf_7cf53 wsJ1_indexOf_4cfef := goodIn_r _ [20, 21, 22, 23, 24, 25, 26, 27, 28, 29, 19, 30, 31, 32, 33] (by decide +kernel) (by decide +kernel)
set_option maxRecDepth 20000 in
theorem gJ0_indexOf_7cf53_J1_indexOf_4cfef : GoodIn wsJ0_indexOf_7cf53 (va_wsS RJ0 637 yJ1_indexOf_4cfef wsJ1_indexOf_4cfef) := goodIn_app (goodIn_of _ (by decide +kernel)) ggJ0_indexOf_7cf53_J1_indexOf_4cfef
set_option maxRecDepth 20000 in
theorem ggJ0_indexOf_7cf53_J2_indexOf_4cfef : GoodIn wsJ0_indexOf_7cf53 wsJ2_indexOf_4cfef := goodIn_r _ [37, 38, 22, 23, 24, 39, 26, 27, 40, 41, 42, 36, 43, 44, 45, 46, 47, 48, 49, 50, 51, 5, 52, 53, 54, 55, 56, 57, 58, 59, 60, 61, 62, 63, 64, 65, 66, 67, 68, 69, 70, 71, 72, 73, 74, 75, 76, 77, 78, 79, 80, 81] (by decide +kernel) (by decide +kernel)
set_option maxRecDepth 20000 in
theorem gJ0_indexOf_7cf53_J2_indexOf_4cfef : GoodIn wsJ0_indexOf_7cf53 (va_wsS RJ0 640 yJ2_indexOf_4cfef wsJ2_indexOf_4cfef) := goodIn_app (goodIn_of _ (by decide +kernel)) ggJ0_indexOf_7cf53_J2_indexOf_4cfef
theorem dJ0_indexOf_7cf53_0 : decode cJ0_indexOf_7cf53 0 = .ok (.aload_n 0, 1) := by decide +kernel
theorem dJ0_indexOf_7cf53_1 : decode cJ0_indexOf_7cf53 1 = .ok (.invokevirtual 492, 3) := by decide +kernel
theorem dJ0_indexOf_7cf53_4 : decode cJ0_indexOf_7cf53 4 = .ok (.ifCond .eq 19, 3) := by decide +kernel
theorem dJ0_indexOf_7cf53_7 : decode cJ0_indexOf_7cf53 7 = .ok (.aload_n 0, 1) := by decide +kernel
theorem dJ0_indexOf_7cf53_8 : decode cJ0_indexOf_7cf53 8 = .ok (.getfield 9, 3) := by decide +kernel
theorem dJ0_indexOf_7cf53_11 : decode cJ0_indexOf_7cf53 11 = .ok (.iload_n 1, 1) := by decide +kernel
theorem dJ0_indexOf_7cf53_12 : decode cJ0_indexOf_7cf53 12 = .ok (.iload_n 2, 1) := by decide +kernel
theorem dJ0_indexOf_7cf53_13 : decode cJ0_indexOf_7cf53 13 = .ok (.aload_n 0, 1) := by decide +kernel
theorem dJ0_indexOf_7cf53_14 : decode cJ0_indexOf_7cf53 14 = .ok (.invokevirtual 505, 3) := by decide +kernel
theorem dJ0_indexOf_7cf53_17 : decode cJ0_indexOf_7cf53 17 = .ok (.invokestatic 637, 3) := by decide +kernel
theorem dJ0_indexOf_7cf53_20 : decode cJ0_indexOf_7cf53 20 = .ok (.goto 16, 3) := by decide +kernel
theorem dJ0_indexOf_7cf53_23 : decode cJ0_indexOf_7cf53 23 = .ok (.aload_n 0, 1) := by decide +kernel
theorem dJ0_indexOf_7cf53_24 : decode cJ0_indexOf_7cf53 24 = .ok (.getfield 9, 3) := by decide +kernel
theorem dJ0_indexOf_7cf53_27 : decode cJ0_indexOf_7cf53 27 = .ok (.iload_n 1, 1) := by decide +kernel
theorem dJ0_indexOf_7cf53_28 : decode cJ0_indexOf_7cf53 28 = .ok (.iload_n 2, 1) := by decide +kernel
theorem dJ0_indexOf_7cf53_29 : decode cJ0_indexOf_7cf53 29 = .ok (.aload_n 0, 1) := by decide +kernel
theorem dJ0_indexOf_7cf53_30 : decode cJ0_indexOf_7cf53 30 = .ok (.invokevirtual 505, 3) := by decide +kernel
theorem dJ0_indexOf_7cf53_33 : decode cJ0_indexOf_7cf53 33 = .ok (.invokestatic 640, 3) := by decide +kernel
theorem dJ0_indexOf_7cf53_36 : decode cJ0_indexOf_7cf53 36 = .ok (.ireturn, 1) := by decide +kernel
theorem dJ0_coder_7d493_0 : decode cJ0_coder_7d493 0 = .ok (.getstatic 38, 3) := by decide +kernel
theorem dJ0_coder_7d493_3 : decode cJ0_coder_7d493 3 = .ok (.ifCond .eq 10, 3) := by decide +kernel
theorem dJ0_coder_7d493_6 : decode cJ0_coder_7d493 6 = .ok (.aload_n 0, 1) := by decide +kernel
theorem dJ0_coder_7d493_7 : decode cJ0_coder_7d493 7 = .ok (.getfield 15, 3) := by decide +kernel
theorem dJ0_coder_7d493_10 : decode cJ0_coder_7d493 10 = .ok (.goto 4, 3) := by decide +kernel
theorem dJ0_coder_7d493_13 : decode cJ0_coder_7d493 13 = .ok (.iconst 1, 1) := by decide +kernel
theorem dJ0_coder_7d493_14 : decode cJ0_coder_7d493 14 = .ok (.ireturn, 1) := by decide +kernel
theorem dJ0_isLatin1_aae02_0 : decode cJ0_isLatin1_aae02 0 = .ok (.getstatic 38, 3) := by decide +kernel
theorem dJ0_isLatin1_aae02_3 : decode cJ0_isLatin1_aae02 3 = .ok (.ifCond .eq 14, 3) := by decide +kernel
theorem dJ0_isLatin1_aae02_6 : decode cJ0_isLatin1_aae02 6 = .ok (.aload_n 0, 1) := by decide +kernel
theorem dJ0_isLatin1_aae02_7 : decode cJ0_isLatin1_aae02 7 = .ok (.getfield 15, 3) := by decide +kernel
theorem dJ0_isLatin1_aae02_10 : decode cJ0_isLatin1_aae02 10 = .ok (.ifCond .ne 7, 3) := by decide +kernel
theorem dJ0_isLatin1_aae02_13 : decode cJ0_isLatin1_aae02 13 = .ok (.iconst 1, 1) := by decide +kernel
theorem dJ0_isLatin1_aae02_14 : decode cJ0_isLatin1_aae02 14 = .ok (.goto 4, 3) := by decide +kernel
theorem dJ0_isLatin1_aae02_17 : decode cJ0_isLatin1_aae02 17 = .ok (.iconst 0, 1) := by decide +kernel
theorem dJ0_isLatin1_aae02_18 : decode cJ0_isLatin1_aae02 18 = .ok (.ireturn, 1) := by decide +kernel
set_option maxRecDepth 20000 in
theorem ggJ0_checkIndex_df160_J3_checkIndex_8e157 : GoodIn wsJ0_checkIndex_df160 wsJ3_checkIndex_8e157 := goodIn_r _ [5] (by decide +kernel) (by decide +kernel)
set_option maxRecDepth 20000 in
theorem gJ0_checkIndex_df160_J3_checkIndex_8e157 : GoodIn wsJ0_checkIndex_df160 (va_wsS RJ0 1059 yJ3_checkIndex_8e157 wsJ3_checkIndex_8e157) := goodIn_app (goodIn_of _ (by decide +kernel)) ggJ0_checkIndex_df160_J3_checkIndex_8e157
theorem dJ0_checkIndex_df160_0 : decode cJ0_checkIndex_df160 0 = .ok (.iload_n 0, 1) := by decide +kernel
theorem dJ0_checkIndex_df160_1 : decode cJ0_checkIndex_df160 1 = .ok (.iload_n 1, 1) := by decide +kernel
theorem dJ0_checkIndex_df160_2 : decode cJ0_checkIndex_df160 2 = .ok (.getstatic 1053, 3) := by decide +kernel
theorem dJ0_checkIndex_df160_5 : decode cJ0_checkIndex_df160 5 = .ok (.invokestatic 1059, 3) := by decide +kernel
theorem dJ0_checkIndex_df160_8 : decode cJ0_checkIndex_df160 8 = .ok (.pop, 1) := by decide +kernel
theorem dJ0_checkIndex_df160_9 : decode cJ0_checkIndex_df160 9 = .ok (.return_, 1) := by decide +kernel
set_option maxRecDepth 20000 in
theorem ggJ0_checkBoundsBeginEnd_23922_J3_checkFromToIndex_8c36e : GoodIn wsJ0_checkBoundsBeginEnd_23922 wsJ3_checkFromToIndex_8c36e := goodIn_r _ [5] (by decide +kernel) (by decide +kernel)
set_option maxRecDepth 20000 in
theorem gJ0_checkBoundsBeginEnd_23922_J3_checkFromToIndex_8c36e : GoodIn wsJ0_checkBoundsBeginEnd_23922 (va_wsS RJ0 1062 yJ3_checkFromToIndex_8c36e wsJ3_checkFromToIndex_8c36e) := goodIn_app (goodIn_of _ (by decide +kernel)) ggJ0_checkBoundsBeginEnd_23922_J3_checkFromToIndex_8c36e
theorem dJ0_checkBoundsBeginEnd_23922_0 : decode cJ0_checkBoundsBeginEnd_23922 0 = .ok (.iload_n 0, 1) := by decide +kernel
theorem dJ0_checkBoundsBeginEnd_23922_1 : decode cJ0_checkBoundsBeginEnd_23922 1 = .ok (.iload_n 1, 1) := by decide +kernel
theorem dJ0_checkBoundsBeginEnd_23922_2 : decode cJ0_checkBoundsBeginEnd_23922 2 = .ok (.iload_n 2, 1) := by decide +kernel
theorem dJ0_checkBoundsBeginEnd_23922_3 : decode cJ0_checkBoundsBeginEnd_23922 3 = .ok (.getstatic 1053, 3) := by decide +kernel
theorem dJ0_checkBoundsBeginEnd_23922_6 : decode cJ0_checkBoundsBeginEnd_23922 6 = .ok (.invokestatic 1062, 3) := by decide +kernel
theorem dJ0_checkBoundsBeginEnd_23922_9 : decode cJ0_checkBoundsBeginEnd_23922 9 = .ok (.pop, 1) := by decide +kernel
theorem dJ0_checkBoundsBeginEnd_23922_10 : decode cJ0_checkBoundsBeginEnd_23922 10 = .ok (.return_, 1) := by decide +kernel
set_option maxRecDepth 20000 in
theorem ggJ1_charAt_3b067_J0_checkIndex_df160 : GoodIn wsJ1_charAt_3b067 wsJ0_checkIndex_df160 := goodIn_r _ [4, 5, 6, 7, 8, 9] (by decide +kernel) (by decide +kernel)
set_option maxRecDepth 20000 in
theorem gJ1_charAt_3b067_J0_checkIndex_df160 : GoodIn wsJ1_charAt_3b067 (va_wsS RJ1 9 yJ0_checkIndex_df160 wsJ0_checkIndex_df160) := goodIn_app (goodIn_of _ (by decide +kernel)) ggJ1_charAt_3b067_J0_checkIndex_df160
theorem dJ1_charAt_3b067_0 : decode cJ1_charAt_3b067 0 = .ok (.iload_n 1, 1) := by decide +kernel
theorem dJ1_charAt_3b067_1 : decode cJ1_charAt_3b067 1 = .ok (.aload_n 0, 1) := by decide +kernel
theorem dJ1_charAt_3b067_2 : decode cJ1_charAt_3b067 2 = .ok (.arraylength, 1) := by decide +kernel
theorem dJ1_charAt_3b067_3 : decode cJ1_charAt_3b067 3 = .ok (.invokestatic 9, 3) := by decide +kernel
theorem dJ1_charAt_3b067_6 : decode cJ1_charAt_3b067 6 = .ok (.aload_n 0, 1) := by decide +kernel
theorem dJ1_charAt_3b067_7 : decode cJ1_charAt_3b067 7 = .ok (.iload_n 1, 1) := by decide +kernel
theorem dJ1_charAt_3b067_8 : decode cJ1_charAt_3b067 8 = .ok (.baload, 1) := by decide +kernel
theorem dJ1_charAt_3b067_9 : decode cJ1_charAt_3b067 9 = .ok (.sipush 255, 3) := by decide +kernel
theorem dJ1_charAt_3b067_12 : decode cJ1_charAt_3b067 12 = .ok (.iand, 1) := by decide +kernel
theorem dJ1_charAt_3b067_13 : decode cJ1_charAt_3b067 13 = .ok (.i2c, 1) := by decide +kernel
theorem dJ1_charAt_3b067_14 : decode cJ1_charAt_3b067 14 = .ok (.ireturn, 1) := by decide +kernel
theorem dJ1_canEncode_9a6ad_0 : decode cJ1_canEncode_9a6ad 0 = .ok (.iload_n 0, 1) := by decide +kernel
theorem dJ1_canEncode_9a6ad_1 : decode cJ1_canEncode_9a6ad 1 = .ok (.ifCond .lt 14, 3) := by decide +kernel
theorem dJ1_canEncode_9a6ad_4 : decode cJ1_canEncode_9a6ad 4 = .ok (.iload_n 0, 1) := by decide +kernel
theorem dJ1_canEncode_9a6ad_5 : decode cJ1_canEncode_9a6ad 5 = .ok (.sipush 255, 3) := by decide +kernel
theorem dJ1_canEncode_9a6ad_8 : decode cJ1_canEncode_9a6ad 8 = .ok (.if_icmp .gt 7, 3) := by decide +kernel
theorem dJ1_canEncode_9a6ad_11 : decode cJ1_canEncode_9a6ad 11 = .ok (.iconst 1, 1) := by decide +kernel
theorem dJ1_canEncode_9a6ad_12 : decode cJ1_canEncode_9a6ad 12 = .ok (.goto 4, 3) := by decide +kernel
theorem dJ1_canEncode_9a6ad_15 : decode cJ1_canEncode_9a6ad 15 = .ok (.iconst 0, 1) := by decide +kernel
theorem dJ1_canEncode_9a6ad_16 : decode cJ1_canEncode_9a6ad 16 = .ok (.ireturn, 1) := by decide +kernel
set_option maxRecDepth 20000 in
theorem ggJ1_indexOf_4cfef_J1_canEncode_9a6ad : GoodIn wsJ1_indexOf_4cfef wsJ1_canEncode_9a6ad := goodIn_r _ [11] (by decide +kernel) (by decide +kernel)
set_option maxRecDepth 20000 in
theorem gJ1_indexOf_4cfef_J1_canEncode_9a6ad : GoodIn wsJ1_indexOf_4cfef (va_wsS RJ1 88 yJ1_canEncode_9a6ad wsJ1_canEncode_9a6ad) := goodIn_app (goodIn_of _ (by decide +kernel)) ggJ1_indexOf_4cfef_J1_canEncode_9a6ad
set_option maxRecDepth 20000 in
theorem ggJ1_indexOf_4cfef_J1_indexOfChar_4cfef : GoodIn wsJ1_indexOf_4cfef wsJ1_indexOfChar_4cfef := goodIn_r _ [14] (by decide +kernel) (by decide +kernel)
set_option maxRecDepth 20000 in
theorem gJ1_indexOf_4cfef_J1_indexOfChar_4cfef : GoodIn wsJ1_indexOf_4cfef (va_wsS RJ1 95 yJ1_indexOfChar_4cfef wsJ1_indexOfChar_4cfef) := goodIn_app (goodIn_of _ (by decide +kernel)) ggJ1_indexOf_4cfef_J1_indexOfChar_4cfef
theorem dJ1_indexOf_4cfef_0 : decode cJ1_indexOf_4cfef 0 = .ok (.iload_n 1, 1) := by decide +kernel
theorem dJ1_indexOf_4cfef_1 : decode cJ1_indexOf_4cfef 1 = .ok (.invokestatic 88, 3) := by decide +kernel
theorem dJ1_indexOf_4cfef_4 : decode cJ1_indexOf_4cfef 4 = .ok (.ifCond .ne 5, 3) := by decide +kernel
theorem dJ1_indexOf_4cfef_7 : decode cJ1_indexOf_4cfef 7 = .ok (.iconst (-1), 1) := by decide +kernel
theorem dJ1_indexOf_4cfef_8 : decode cJ1_indexOf_4cfef 8 = .ok (.ireturn, 1) := by decide +kernel
theorem dJ1_indexOf_4cfef_9 : decode cJ1_indexOf_4cfef 9 = .ok (.iload_n 2, 1) := by decide +kernel
theorem dJ1_indexOf_4cfef_10 : decode cJ1_indexOf_4cfef 10 = .ok (.iconst 0, 1) := by decide +kernel
theorem dJ1_indexOf_4cfef_11 : decode cJ1_indexOf_4cfef 11 = .ok (.invokestatic 92, 3) := by decide +kernel
theorem dJ1_indexOf_4cfef_14 : decode cJ1_indexOf_4cfef 14 = .ok (.istore_n 2, 1) := by decide +kernel
theorem dJ1_indexOf_4cfef_15 : decode cJ1_indexOf_4cfef 15 = .ok (.iload_n 3, 1) := by decide +kernel
theorem dJ1_indexOf_4cfef_16 : decode cJ1_indexOf_4cfef 16 = .ok (.aload_n 0, 1) := by decide +kernel
theorem dJ1_indexOf_4cfef_17 : decode cJ1_indexOf_4cfef 17 = .ok (.arraylength, 1) := by decide +kernel
theorem dJ1_indexOf_4cfef_18 : decode cJ1_indexOf_4cfef 18 = .ok (.invokestatic 38, 3) := by decide +kernel
theorem dJ1_indexOf_4cfef_21 : decode cJ1_indexOf_4cfef 21 = .ok (.istore_n 3, 1) := by decide +kernel
theorem dJ1_indexOf_4cfef_22 : decode cJ1_indexOf_4cfef 22 = .ok (.iload_n 2, 1) := by decide +kernel
theorem dJ1_indexOf_4cfef_23 : decode cJ1_indexOf_4cfef 23 = .ok (.iload_n 3, 1) := by decide +kernel
theorem dJ1_indexOf_4cfef_24 : decode cJ1_indexOf_4cfef 24 = .ok (.if_icmp .lt 5, 3) := by decide +kernel
theorem dJ1_indexOf_4cfef_27 : decode cJ1_indexOf_4cfef 27 = .ok (.iconst (-1), 1) := by decide +kernel
theorem dJ1_indexOf_4cfef_28 : decode cJ1_indexOf_4cfef 28 = .ok (.ireturn, 1) := by decide +kernel
theorem dJ1_indexOf_4cfef_29 : decode cJ1_indexOf_4cfef 29 = .ok (.aload_n 0, 1) := by decide +kernel
theorem dJ1_indexOf_4cfef_30 : decode cJ1_indexOf_4cfef 30 = .ok (.iload_n 1, 1) := by decide +kernel
theorem dJ1_indexOf_4cfef_31 : decode cJ1_indexOf_4cfef 31 = .ok (.iload_n 2, 1) := by decide +kernel
theorem dJ1_indexOf_4cfef_32 : decode cJ1_indexOf_4cfef 32 = .ok (.iload_n 3, 1) := by decide +kernel
theorem dJ1_indexOf_4cfef_33 : decode cJ1_indexOf_4cfef 33 = .ok (.invokestatic 95, 3) := by decide +kernel
theorem dJ1_indexOf_4cfef_36 : decode cJ1_indexOf_4cfef 36 = .ok (.ireturn, 1) := by decide +kernel
theorem dJ1_indexOfChar_4cfef_0 : decode cJ1_indexOfChar_4cfef 0 = .ok (.iload_n 1, 1) := by decide +kernel
theorem dJ1_indexOfChar_4cfef_1 : decode cJ1_indexOfChar_4cfef 1 = .ok (.i2b, 1) := by decide +kernel
theorem dJ1_indexOfChar_4cfef_2 : decode cJ1_indexOfChar_4cfef 2 = .ok (.istore 4, 2) := by decide +kernel
theorem dJ1_indexOfChar_4cfef_4 : decode cJ1_indexOfChar_4cfef 4 = .ok (.iload_n 2, 1) := by decide +kernel
theorem dJ1_indexOfChar_4cfef_5 : decode cJ1_indexOfChar_4cfef 5 = .ok (.istore 5, 2) := by decide +kernel
theorem dJ1_indexOfChar_4cfef_7 : decode cJ1_indexOfChar_4cfef 7 = .ok (.iload 5, 2) := by decide +kernel
theorem dJ1_indexOfChar_4cfef_9 : decode cJ1_indexOfChar_4cfef 9 = .ok (.iload_n 3, 1) := by decide +kernel
theorem dJ1_indexOfChar_4cfef_10 : decode cJ1_indexOfChar_4cfef 10 = .ok (.if_icmp .ge 21, 3) := by decide +kernel
theorem dJ1_indexOfChar_4cfef_13 : decode cJ1_indexOfChar_4cfef 13 = .ok (.aload_n 0, 1) := by decide +kernel
theorem dJ1_indexOfChar_4cfef_14 : decode cJ1_indexOfChar_4cfef 14 = .ok (.iload 5, 2) := by decide +kernel
theorem dJ1_indexOfChar_4cfef_16 : decode cJ1_indexOfChar_4cfef 16 = .ok (.baload, 1) := by decide +kernel
theorem dJ1_indexOfChar_4cfef_17 : decode cJ1_indexOfChar_4cfef 17 = .ok (.iload 4, 2) := by decide +kernel
theorem dJ1_indexOfChar_4cfef_19 : decode cJ1_indexOfChar_4cfef 19 = .ok (.if_icmp .ne 6, 3) := by decide +kernel
theorem dJ1_indexOfChar_4cfef_22 : decode cJ1_indexOfChar_4cfef 22 = .ok (.iload 5, 2) := by decide +kernel
theorem dJ1_indexOfChar_4cfef_24 : decode cJ1_indexOfChar_4cfef 24 = .ok (.ireturn, 1) := by decide +kernel
theorem dJ1_indexOfChar_4cfef_25 : decode cJ1_indexOfChar_4cfef 25 = .ok (.iinc 5 1, 3) := by decide +kernel
theorem dJ1_indexOfChar_4cfef_28 : decode cJ1_indexOfChar_4cfef 28 = .ok (.goto (-21), 3) := by decide +kernel
theorem dJ1_indexOfChar_4cfef_31 : decode cJ1_indexOfChar_4cfef 31 = .ok (.iconst (-1), 1) := by decide +kernel
theorem dJ1_indexOfChar_4cfef_32 : decode cJ1_indexOfChar_4cfef 32 = .ok (.ireturn, 1) := by decide +kernel
set_option maxRecDepth 20000 in
theorem ggJ2_getChar_3b067_J2_length_9d52b : GoodIn wsJ2_getChar_3b067 wsJ2_length_9d52b := goodIn_r _ [7] (by decide +kernel) (by decide +kernel)
set_option maxRecDepth 20000 in
theorem gJ2_getChar_3b067_J2_length_9d52b : GoodIn wsJ2_getChar_3b067 (va_wsS RJ2 48 yJ2_length_9d52b wsJ2_length_9d52b) := goodIn_app (goodIn_of _ (by decide +kernel)) ggJ2_getChar_3b067_J2_length_9d52b
theorem dJ2_getChar_3b067_0 : decode cJ2_getChar_3b067 0 = .ok (.getstatic 44, 3) := by decide +kernel
theorem dJ2_getChar_3b067_3 : decode cJ2_getChar_3b067 3 = .ok (.ifCond .ne 25, 3) := by decide +kernel
theorem dJ2_getChar_3b067_6 : decode cJ2_getChar_3b067 6 = .ok (.iload_n 1, 1) := by decide +kernel
theorem dJ2_getChar_3b067_7 : decode cJ2_getChar_3b067 7 = .ok (.ifCond .lt 11, 3) := by decide +kernel
theorem dJ2_getChar_3b067_10 : decode cJ2_getChar_3b067 10 = .ok (.iload_n 1, 1) := by decide +kernel
theorem dJ2_getChar_3b067_11 : decode cJ2_getChar_3b067 11 = .ok (.aload_n 0, 1) := by decide +kernel
theorem dJ2_getChar_3b067_12 : decode cJ2_getChar_3b067 12 = .ok (.invokestatic 48, 3) := by decide +kernel
theorem dJ2_getChar_3b067_15 : decode cJ2_getChar_3b067 15 = .ok (.if_icmp .lt 13, 3) := by decide +kernel
theorem dJ2_getChar_3b067_18 : decode cJ2_getChar_3b067 18 = .ok (.new 52, 3) := by decide +kernel
theorem dJ2_getChar_3b067_21 : decode cJ2_getChar_3b067 21 = .ok (.dup, 1) := by decide +kernel
theorem dJ2_getChar_3b067_22 : decode cJ2_getChar_3b067 22 = .ok (.ldc 54, 2) := by decide +kernel
theorem dJ2_getChar_3b067_24 : decode cJ2_getChar_3b067 24 = .ok (.invokespecial 56, 3) := by decide +kernel
theorem dJ2_getChar_3b067_27 : decode cJ2_getChar_3b067 27 = .ok (.athrow, 1) := by decide +kernel
theorem dJ2_getChar_3b067_28 : decode cJ2_getChar_3b067 28 = .ok (.iload_n 1, 1) := by decide +kernel
theorem dJ2_getChar_3b067_29 : decode cJ2_getChar_3b067 29 = .ok (.iconst 1, 1) := by decide +kernel
theorem dJ2_getChar_3b067_30 : decode cJ2_getChar_3b067 30 = .ok (.ishl, 1) := by decide +kernel
theorem dJ2_getChar_3b067_31 : decode cJ2_getChar_3b067 31 = .ok (.istore_n 1, 1) := by decide +kernel
theorem dJ2_getChar_3b067_32 : decode cJ2_getChar_3b067 32 = .ok (.aload_n 0, 1) := by decide +kernel
theorem dJ2_getChar_3b067_33 : decode cJ2_getChar_3b067 33 = .ok (.iload_n 1, 1) := by decide +kernel
theorem dJ2_getChar_3b067_34 : decode cJ2_getChar_3b067 34 = .ok (.iinc 1 1, 3) := by decide +kernel
theorem dJ2_getChar_3b067_37 : decode cJ2_getChar_3b067 37 = .ok (.baload, 1) := by decide +kernel
theorem dJ2_getChar_3b067_38 : decode cJ2_getChar_3b067 38 = .ok (.sipush 255, 3) := by decide +kernel
theorem dJ2_getChar_3b067_41 : decode cJ2_getChar_3b067 41 = .ok (.iand, 1) := by decide +kernel
theorem dJ2_getChar_3b067_42 : decode cJ2_getChar_3b067 42 = .ok (.getstatic 59, 3) := by decide +kernel
theorem dJ2_getChar_3b067_45 : decode cJ2_getChar_3b067 45 = .ok (.ishl, 1) := by decide +kernel
theorem dJ2_getChar_3b067_46 : decode cJ2_getChar_3b067 46 = .ok (.aload_n 0, 1) := by decide +kernel
theorem dJ2_getChar_3b067_47 : decode cJ2_getChar_3b067 47 = .ok (.iload_n 1, 1) := by decide +kernel
theorem dJ2_getChar_3b067_48 : decode cJ2_getChar_3b067 48 = .ok (.baload, 1) := by decide +kernel
theorem dJ2_getChar_3b067_49 : decode cJ2_getChar_3b067 49 = .ok (.sipush 255, 3) := by decide +kernel
theorem dJ2_getChar_3b067_52 : decode cJ2_getChar_3b067 52 = .ok (.iand, 1) := by decide +kernel
theorem dJ2_getChar_3b067_53 : decode cJ2_getChar_3b067 53 = .ok (.getstatic 63, 3) := by decide +kernel
theorem dJ2_getChar_3b067_56 : decode cJ2_getChar_3b067 56 = .ok (.ishl, 1) := by decide +kernel
theorem dJ2_getChar_3b067_57 : decode cJ2_getChar_3b067 57 = .ok (.ior, 1) := by decide +kernel
theorem dJ2_getChar_3b067_58 : decode cJ2_getChar_3b067 58 = .ok (.i2c, 1) := by decide +kernel
theorem dJ2_getChar_3b067_59 : decode cJ2_getChar_3b067 59 = .ok (.ireturn, 1) := by decide +kernel
theorem dJ2_length_9d52b_0 : decode cJ2_length_9d52b 0 = .ok (.aload_n 0, 1) := by decide +kernel
theorem dJ2_length_9d52b_1 : decode cJ2_length_9d52b 1 = .ok (.arraylength, 1) := by decide +kernel
theorem dJ2_length_9d52b_2 : decode cJ2_length_9d52b 2 = .ok (.iconst 1, 1) := by decide +kernel
theorem dJ2_length_9d52b_3 : decode cJ2_length_9d52b 3 = .ok (.ishr, 1) := by decide +kernel
