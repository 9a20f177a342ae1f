theorem dX3_stepOn_58 : decode cX3_stepOn 58 = .ok (.getfield 69, 3) := by decide +kernel
theorem dX3_stepOn_61 : decode cX3_stepOn 61 = .ok (.if_icmp .ge 16, 3) := by decide +kernel
theorem dX3_stepOn_64 : decode cX3_stepOn 64 = .ok (.iload_n 3, 1) := by decide +kernel
theorem dX3_stepOn_65 : decode cX3_stepOn 65 = .ok (.aload_n 1, 1) := by decide +kernel
theorem dX3_stepOn_66 : decode cX3_stepOn 66 = .ok (.iload 4, 2) := by decide +kernel
theorem dX3_stepOn_68 : decode cX3_stepOn 68 = .ok (.iaload, 1) := by decide +kernel
theorem dX3_stepOn_69 : decode cX3_stepOn 69 = .ok (.iadd, 1) := by decide +kernel
theorem dX3_stepOn_70 : decode cX3_stepOn 70 = .ok (.istore_n 3, 1) := by decide +kernel
theorem dX3_stepOn_71 : decode cX3_stepOn 71 = .ok (.iinc 4 1, 3) := by decide +kernel
theorem dX3_stepOn_74 : decode cX3_stepOn 74 = .ok (.goto (-22), 3) := by decide +kernel
theorem dX3_stepOn_77 : decode cX3_stepOn 77 = .ok (.aload_n 1, 1) := by decide +kernel
theorem dX3_stepOn_78 : decode cX3_stepOn 78 = .ok (.iload_n 2, 1) := by decide +kernel
theorem dX3_stepOn_79 : decode cX3_stepOn 79 = .ok (.dup2, 1) := by decide +kernel
theorem dX3_stepOn_80 : decode cX3_stepOn 80 = .ok (.iaload, 1) := by decide +kernel
theorem dX3_stepOn_81 : decode cX3_stepOn 81 = .ok (.iconst 1, 1) := by decide +kernel
theorem dX3_stepOn_82 : decode cX3_stepOn 82 = .ok (.iadd, 1) := by decide +kernel
theorem dX3_stepOn_83 : decode cX3_stepOn 83 = .ok (.iastore, 1) := by decide +kernel
theorem dX3_stepOn_84 : decode cX3_stepOn 84 = .ok (.aload_n 0, 1) := by decide +kernel
theorem dX3_stepOn_85 : decode cX3_stepOn 85 = .ok (.getfield 20, 3) := by decide +kernel
theorem dX3_stepOn_88 : decode cX3_stepOn 88 = .ok (.iload_n 2, 1) := by decide +kernel
theorem dX3_stepOn_89 : decode cX3_stepOn 89 = .ok (.iconst 1, 1) := by decide +kernel
theorem dX3_stepOn_90 : decode cX3_stepOn 90 = .ok (.iadd, 1) := by decide +kernel
theorem dX3_stepOn_91 : decode cX3_stepOn 91 = .ok (.putfield 69, 3) := by decide +kernel
theorem dX3_stepOn_94 : decode cX3_stepOn 94 = .ok (.aload_n 0, 1) := by decide +kernel
theorem dX3_stepOn_95 : decode cX3_stepOn 95 = .ok (.iload_n 3, 1) := by decide +kernel
theorem dX3_stepOn_96 : decode cX3_stepOn 96 = .ok (.invokevirtual 72, 3) := by decide +kernel
theorem dX3_stepOn_99 : decode cX3_stepOn 99 = .ok (.iconst 1, 1) := by decide +kernel
theorem dX3_stepOn_100 : decode cX3_stepOn 100 = .ok (.ireturn, 1) := by decide +kernel
set_option maxRecDepth 20000 in
theorem ggX3_appendOnes_X4_insert : GoodIn wsX3_appendOnes wsX4_insert := goodIn_r _ [7, 8, 9, 13, 14, 15, 16, 17, 18, 19] (by decide +kernel) (by decide +kernel)
set_option maxRecDepth 20000 in
theorem gX3_appendOnes_X4_insert : GoodIn wsX3_appendOnes (wsV RX3 79 RX4 yX4_insert wsX4_insert) := goodIn_app (goodIn_of _ (by decide +kernel)) ggX3_appendOnes_X4_insert
theorem dX3_appendOnes_0 : decode cX3_appendOnes 0 = .ok (.iconst 0, 1) := by decide +kernel
theorem dX3_appendOnes_1 : decode cX3_appendOnes 1 = .ok (.istore_n 2, 1) := by decide +kernel
theorem dX3_appendOnes_2 : decode cX3_appendOnes 2 = .ok (.iload_n 2, 1) := by decide +kernel
theorem dX3_appendOnes_3 : decode cX3_appendOnes 3 = .ok (.iload_n 1, 1) := by decide +kernel
theorem dX3_appendOnes_4 : decode cX3_appendOnes 4 = .ok (.if_icmp .ge 24, 3) := by decide +kernel
theorem dX3_appendOnes_7 : decode cX3_appendOnes 7 = .ok (.aload_n 0, 1) := by decide +kernel
theorem dX3_appendOnes_8 : decode cX3_appendOnes 8 = .ok (.getfield 20, 3) := by decide +kernel
theorem dX3_appendOnes_11 : decode cX3_appendOnes 11 = .ok (.aload_n 0, 1) := by decide +kernel
theorem dX3_appendOnes_12 : decode cX3_appendOnes 12 = .ok (.getfield 20, 3) := by decide +kernel
theorem dX3_appendOnes_15 : decode cX3_appendOnes 15 = .ok (.getfield 69, 3) := by decide +kernel
theorem dX3_appendOnes_18 : decode cX3_appendOnes 18 = .ok (.iconst 1, 1) := by decide +kernel
theorem dX3_appendOnes_19 : decode cX3_appendOnes 19 = .ok (.invokevirtual 79, 3) := by decide +kernel
theorem dX3_appendOnes_22 : decode cX3_appendOnes 22 = .ok (.iinc 2 1, 3) := by decide +kernel
theorem dX3_appendOnes_25 : decode cX3_appendOnes 25 = .ok (.goto (-23), 3) := by decide +kernel
theorem dX3_appendOnes_28 : decode cX3_appendOnes 28 = .ok (.return_, 1) := by decide +kernel
theorem dX4_init_0 : decode cX4_init 0 = .ok (.aload_n 0, 1) := by decide +kernel
theorem dX4_init_1 : decode cX4_init 1 = .ok (.invokespecial 3, 3) := by decide +kernel
theorem dX4_init_4 : decode cX4_init 4 = .ok (.aload_n 0, 1) := by decide +kernel
theorem dX4_init_5 : decode cX4_init 5 = .ok (.bipush 12, 2) := by decide +kernel
theorem dX4_init_7 : decode cX4_init 7 = .ok (.newarray .int, 2) := by decide +kernel
theorem dX4_init_9 : decode cX4_init 9 = .ok (.putfield 9, 3) := by decide +kernel
theorem dX4_init_12 : decode cX4_init 12 = .ok (.aload_n 0, 1) := by decide +kernel
theorem dX4_init_13 : decode cX4_init 13 = .ok (.iconst 0, 1) := by decide +kernel
theorem dX4_init_14 : decode cX4_init 14 = .ok (.putfield 15, 3) := by decide +kernel
theorem dX4_init_17 : decode cX4_init 17 = .ok (.aload_n 0, 1) := by decide +kernel
theorem dX4_init_18 : decode cX4_init 18 = .ok (.iconst 3, 1) := by decide +kernel
theorem dX4_init_19 : decode cX4_init 19 = .ok (.putfield 19, 3) := by decide +kernel
theorem dX4_init_22 : decode cX4_init 22 = .ok (.aload_n 0, 1) := by decide +kernel
theorem dX4_init_23 : decode cX4_init 23 = .ok (.iconst 1, 1) := by decide +kernel
theorem dX4_init_24 : decode cX4_init 24 = .ok (.putfield 22, 3) := by decide +kernel
theorem dX4_init_27 : decode cX4_init 27 = .ok (.aload_n 0, 1) := by decide +kernel
theorem dX4_init_28 : decode cX4_init 28 = .ok (.iconst 0, 1) := by decide +kernel
theorem dX4_init_29 : decode cX4_init 29 = .ok (.putfield 26, 3) := by decide +kernel
theorem dX4_init_32 : decode cX4_init 32 = .ok (.aload_n 0, 1) := by decide +kernel
theorem dX4_init_33 : decode cX4_init 33 = .ok (.iconst 1, 1) := by decide +kernel
theorem dX4_init_34 : decode cX4_init 34 = .ok (.putfield 29, 3) := by decide +kernel
theorem dX4_init_37 : decode cX4_init 37 = .ok (.aload_n 0, 1) := by decide +kernel
theorem dX4_init_38 : decode cX4_init 38 = .ok (.iconst 3, 1) := by decide +kernel
theorem dX4_init_39 : decode cX4_init 39 = .ok (.newarray .int, 2) := by decide +kernel
theorem dX4_init_41 : decode cX4_init 41 = .ok (.putfield 32, 3) := by decide +kernel
theorem dX4_init_44 : decode cX4_init 44 = .ok (.return_, 1) := by decide +kernel
theorem dX4_copyFrom_0 : decode cX4_copyFrom 0 = .ok (.aload_n 1, 1) := by decide +kernel
theorem dX4_copyFrom_1 : decode cX4_copyFrom 1 = .ok (.getfield 9, 3) := by decide +kernel
theorem dX4_copyFrom_4 : decode cX4_copyFrom 4 = .ok (.iconst 0, 1) := by decide +kernel
theorem dX4_copyFrom_5 : decode cX4_copyFrom 5 = .ok (.aload_n 0, 1) := by decide +kernel
theorem dX4_copyFrom_6 : decode cX4_copyFrom 6 = .ok (.getfield 9, 3) := by decide +kernel
theorem dX4_copyFrom_9 : decode cX4_copyFrom 9 = .ok (.iconst 0, 1) := by decide +kernel
theorem dX4_copyFrom_10 : decode cX4_copyFrom 10 = .ok (.bipush 12, 2) := by decide +kernel
theorem dX4_copyFrom_12 : decode cX4_copyFrom 12 = .ok (.invokestatic 35, 3) := by decide +kernel
theorem dX4_copyFrom_15 : decode cX4_copyFrom 15 = .ok (.aload_n 0, 1) := by decide +kernel
theorem dX4_copyFrom_16 : decode cX4_copyFrom 16 = .ok (.aload_n 1, 1) := by decide +kernel
theorem dX4_copyFrom_17 : decode cX4_copyFrom 17 = .ok (.getfield 15, 3) := by decide +kernel
theorem dX4_copyFrom_20 : decode cX4_copyFrom 20 = .ok (.putfield 15, 3) := by decide +kernel
theorem dX4_copyFrom_23 : decode cX4_copyFrom 23 = .ok (.aload_n 0, 1) := by decide +kernel
theorem dX4_copyFrom_24 : decode cX4_copyFrom 24 = .ok (.aload_n 1, 1) := by decide +kernel
theorem dX4_copyFrom_25 : decode cX4_copyFrom 25 = .ok (.getfield 19, 3) := by decide +kernel
theorem dX4_copyFrom_28 : decode cX4_copyFrom 28 = .ok (.putfield 19, 3) := by decide +kernel
theorem dX4_copyFrom_31 : decode cX4_copyFrom 31 = .ok (.aload_n 0, 1) := by decide +kernel
theorem dX4_copyFrom_32 : decode cX4_copyFrom 32 = .ok (.aload_n 1, 1) := by decide +kernel
theorem dX4_copyFrom_33 : decode cX4_copyFrom 33 = .ok (.getfield 22, 3) := by decide +kernel
theorem dX4_copyFrom_36 : decode cX4_copyFrom 36 = .ok (.putfield 22, 3) := by decide +kernel
theorem dX4_copyFrom_39 : decode cX4_copyFrom 39 = .ok (.aload_n 0, 1) := by decide +kernel
theorem dX4_copyFrom_40 : decode cX4_copyFrom 40 = .ok (.aload_n 1, 1) := by decide +kernel
theorem dX4_copyFrom_41 : decode cX4_copyFrom 41 = .ok (.getfield 26, 3) := by decide +kernel
theorem dX4_copyFrom_44 : decode cX4_copyFrom 44 = .ok (.putfield 26, 3) := by decide +kernel
theorem dX4_copyFrom_47 : decode cX4_copyFrom 47 = .ok (.aload_n 0, 1) := by decide +kernel
theorem dX4_copyFrom_48 : decode cX4_copyFrom 48 = .ok (.aload_n 1, 1) := by decide +kernel
theorem dX4_copyFrom_49 : decode cX4_copyFrom 49 = .ok (.getfield 29, 3) := by decide +kernel
theorem dX4_copyFrom_52 : decode cX4_copyFrom 52 = .ok (.putfield 29, 3) := by decide +kernel
theorem dX4_copyFrom_55 : decode cX4_copyFrom 55 = .ok (.aload_n 1, 1) := by decide +kernel
theorem dX4_copyFrom_56 : decode cX4_copyFrom 56 = .ok (.getfield 32, 3) := by decide +kernel
theorem dX4_copyFrom_59 : decode cX4_copyFrom 59 = .ok (.iconst 0, 1) := by decide +kernel
theorem dX4_copyFrom_60 : decode cX4_copyFrom 60 = .ok (.aload_n 0, 1) := by decide +kernel
theorem dX4_copyFrom_61 : decode cX4_copyFrom 61 = .ok (.getfield 32, 3) := by decide +kernel
theorem dX4_copyFrom_64 : decode cX4_copyFrom 64 = .ok (.iconst 0, 1) := by decide +kernel
theorem dX4_copyFrom_65 : decode cX4_copyFrom 65 = .ok (.iconst 3, 1) := by decide +kernel
theorem dX4_copyFrom_66 : decode cX4_copyFrom 66 = .ok (.invokestatic 35, 3) := by decide +kernel
theorem dX4_copyFrom_69 : decode cX4_copyFrom 69 = .ok (.return_, 1) := by decide +kernel
theorem dX4_startAnew_0 : decode cX4_startAnew 0 = .ok (.aload_n 0, 1) := by decide +kernel
theorem dX4_startAnew_1 : decode cX4_startAnew 1 = .ok (.iconst 0, 1) := by decide +kernel
theorem dX4_startAnew_2 : decode cX4_startAnew 2 = .ok (.putfield 15, 3) := by decide +kernel
theorem dX4_startAnew_5 : decode cX4_startAnew 5 = .ok (.iconst 0, 1) := by decide +kernel
theorem dX4_startAnew_6 : decode cX4_startAnew 6 = .ok (.istore_n 1, 1) := by decide +kernel
theorem dX4_startAnew_7 : decode cX4_startAnew 7 = .ok (.iload_n 1, 1) := by decide +kernel
theorem dX4_startAnew_8 : decode cX4_startAnew 8 = .ok (.iconst 3, 1) := by decide +kernel
theorem dX4_startAnew_9 : decode cX4_startAnew 9 = .ok (.if_icmp .ge 16, 3) := by decide +kernel
theorem dX4_startAnew_12 : decode cX4_startAnew 12 = .ok (.aload_n 0, 1) := by decide +kernel
theorem dX4_startAnew_13 : decode cX4_startAnew 13 = .ok (.getfield 32, 3) := by decide +kernel
theorem dX4_startAnew_16 : decode cX4_startAnew 16 = .ok (.iload_n 1, 1) := by decide +kernel
theorem dX4_startAnew_17 : decode cX4_startAnew 17 = .ok (.iconst 0, 1) := by decide +kernel
theorem dX4_startAnew_18 : decode cX4_startAnew 18 = .ok (.iastore, 1) := by decide +kernel
theorem dX4_startAnew_19 : decode cX4_startAnew 19 = .ok (.iinc 1 1, 3) := by decide +kernel
theorem dX4_startAnew_22 : decode cX4_startAnew 22 = .ok (.goto (-15), 3) := by decide +kernel
theorem dX4_startAnew_25 : decode cX4_startAnew 25 = .ok (.return_, 1) := by decide +kernel
theorem dX4_hasHeap_0 : decode cX4_hasHeap 0 = .ok (.iload_n 1, 1) := by decide +kernel
theorem dX4_hasHeap_1 : decode cX4_hasHeap 1 = .ok (.ifCond .lt 15, 3) := by decide +kernel
theorem dX4_hasHeap_4 : decode cX4_hasHeap 4 = .ok (.iload_n 1, 1) := by decide +kernel
theorem dX4_hasHeap_5 : decode cX4_hasHeap 5 = .ok (.aload_n 0, 1) := by decide +kernel
theorem dX4_hasHeap_6 : decode cX4_hasHeap 6 = .ok (.getfield 15, 3) := by decide +kernel
theorem dX4_hasHeap_9 : decode cX4_hasHeap 9 = .ok (.if_icmp .ge 7, 3) := by decide +kernel
theorem dX4_hasHeap_12 : decode cX4_hasHeap 12 = .ok (.iconst 1, 1) := by decide +kernel
theorem dX4_hasHeap_13 : decode cX4_hasHeap 13 = .ok (.goto 4, 3) := by decide +kernel
theorem dX4_hasHeap_16 : decode cX4_hasHeap 16 = .ok (.iconst 0, 1) := by decide +kernel
theorem dX4_hasHeap_17 : decode cX4_hasHeap 17 = .ok (.ireturn, 1) := by decide +kernel
set_option maxRecDepth 20000 in
theorem ggX4_sizeAt_X4_hasHeap : GoodIn wsX4_sizeAt wsX4_hasHeap := goodIn_r _ [6, 7, 8, 9, 10, 11, 12, 13, 14] (by decide +kernel) (by decide +kernel)
set_option maxRecDepth 20000 in
theorem gX4_sizeAt_X4_hasHeap : GoodIn wsX4_sizeAt (wsV RX4 41 RX4 yX4_hasHeap wsX4_hasHeap) := goodIn_app (goodIn_of _ (by decide +kernel)) ggX4_sizeAt_X4_hasHeap
theorem dX4_sizeAt_0 : decode cX4_sizeAt 0 = .ok (.aload_n 0, 1) := by decide +kernel
theorem dX4_sizeAt_1 : decode cX4_sizeAt 1 = .ok (.iload_n 1, 1) := by decide +kernel
theorem dX4_sizeAt_2 : decode cX4_sizeAt 2 = .ok (.invokevirtual 41, 3) := by decide +kernel
theorem dX4_sizeAt_5 : decode cX4_sizeAt 5 = .ok (.ifCond .eq 12, 3) := by decide +kernel
theorem dX4_sizeAt_8 : decode cX4_sizeAt 8 = .ok (.aload_n 0, 1) := by decide +kernel
theorem dX4_sizeAt_9 : decode cX4_sizeAt 9 = .ok (.getfield 9, 3) := by decide +kernel
theorem dX4_sizeAt_12 : decode cX4_sizeAt 12 = .ok (.iload_n 1, 1) := by decide +kernel
theorem dX4_sizeAt_13 : decode cX4_sizeAt 13 = .ok (.iaload, 1) := by decide +kernel
theorem dX4_sizeAt_14 : decode cX4_sizeAt 14 = .ok (.goto 4, 3) := by decide +kernel
theorem dX4_sizeAt_17 : decode cX4_sizeAt 17 = .ok (.iconst 0, 1) := by decide +kernel
theorem dX4_sizeAt_18 : decode cX4_sizeAt 18 = .ok (.ireturn, 1) := by decide +kernel
theorem dX4_total_0 : decode cX4_total 0 = .ok (.iconst 0, 1) := by decide +kernel
theorem dX4_total_1 : decode cX4_total 1 = .ok (.istore_n 1, 1) := by decide +kernel
theorem dX4_total_2 : decode cX4_total 2 = .ok (.iconst 0, 1) := by decide +kernel
theorem dX4_total_3 : decode cX4_total 3 = .ok (.istore_n 2, 1) := by decide +kernel
theorem dX4_total_4 : decode cX4_total 4 = .ok (.iload_n 2, 1) := by decide +kernel
theorem dX4_total_5 : decode cX4_total 5 = .ok (.aload_n 0, 1) := by decide +kernel
theorem dX4_total_6 : decode cX4_total 6 = .ok (.getfield 15, 3) := by decide +kernel
theorem dX4_total_9 : decode cX4_total 9 = .ok (.if_icmp .ge 18, 3) := by decide +kernel
theorem dX4_total_12 : decode cX4_total 12 = .ok (.iload_n 1, 1) := by decide +kernel
theorem dX4_total_13 : decode cX4_total 13 = .ok (.aload_n 0, 1) := by decide +kernel
theorem dX4_total_14 : decode cX4_total 14 = .ok (.getfield 9, 3) := by decide +kernel
theorem dX4_total_17 : decode cX4_total 17 = .ok (.iload_n 2, 1) := by decide +kernel
theorem dX4_total_18 : decode cX4_total 18 = .ok (.iaload, 1) := by decide +kernel
theorem dX4_total_19 : decode cX4_total 19 = .ok (.iadd, 1) := by decide +kernel
theorem dX4_total_20 : decode cX4_total 20 = .ok (.istore_n 1, 1) := by decide +kernel
theorem dX4_total_21 : decode cX4_total 21 = .ok (.iinc 2 1, 3) := by decide +kernel
theorem dX4_total_24 : decode cX4_total 24 = .ok (.goto (-20), 3) := by decide +kernel
theorem dX4_total_27 : decode cX4_total 27 = .ok (.iload_n 1, 1) := by decide +kernel
theorem dX4_total_28 : decode cX4_total 28 = .ok (.ireturn, 1) := by decide +kernel
set_option maxRecDepth 20000 in
theorem ggX4_slot_X6_weightOf : GoodIn wsX4_slot wsX6_weightOf := goodIn_r _ [5, 6] (by decide +kernel) (by decide +kernel)
set_option maxRecDepth 20000 in
theorem gX4_slot_X6_weightOf_n45 : GoodIn wsX4_slot (wsX6_weightOf) := ggX4_slot_X6_weightOf
theorem dX4_slot_0 : decode cX4_slot 0 = .ok (.iconst 0, 1) := by decide +kernel
theorem dX4_slot_1 : decode cX4_slot 1 = .ok (.istore_n 1, 1) := by decide +kernel
theorem dX4_slot_2 : decode cX4_slot 2 = .ok (.iconst 0, 1) := by decide +kernel
theorem dX4_slot_3 : decode cX4_slot 3 = .ok (.istore_n 2, 1) := by decide +kernel
theorem dX4_slot_4 : decode cX4_slot 4 = .ok (.iload_n 2, 1) := by decide +kernel
theorem dX4_slot_5 : decode cX4_slot 5 = .ok (.aload_n 0, 1) := by decide +kernel
theorem dX4_slot_6 : decode cX4_slot 6 = .ok (.getfield 15, 3) := by decide +kernel
theorem dX4_slot_9 : decode cX4_slot 9 = .ok (.if_icmp .ge 21, 3) := by decide +kernel
theorem dX4_slot_12 : decode cX4_slot 12 = .ok (.iload_n 1, 1) := by decide +kernel
theorem dX4_slot_13 : decode cX4_slot 13 = .ok (.aload_n 0, 1) := by decide +kernel
theorem dX4_slot_14 : decode cX4_slot 14 = .ok (.getfield 9, 3) := by decide +kernel
theorem dX4_slot_17 : decode cX4_slot 17 = .ok (.iload_n 2, 1) := by decide +kernel
theorem dX4_slot_18 : decode cX4_slot 18 = .ok (.iaload, 1) := by decide +kernel
theorem dX4_slot_19 : decode cX4_slot 19 = .ok (.invokestatic 45, 3) := by decide +kernel
theorem dX4_slot_22 : decode cX4_slot 22 = .ok (.iadd, 1) := by decide +kernel
theorem dX4_slot_23 : decode cX4_slot 23 = .ok (.istore_n 1, 1) := by decide +kernel
theorem dX4_slot_24 : decode cX4_slot 24 = .ok (.iinc 2 1, 3) := by decide +kernel
theorem dX4_slot_27 : decode cX4_slot 27 = .ok (.goto (-23), 3) := by decide +kernel
theorem dX4_slot_30 : decode cX4_slot 30 = .ok (.iload_n 1, 1) := by decide +kernel
theorem dX4_slot_31 : decode cX4_slot 31 = .ok (.sipush 1023, 3) := by decide +kernel
theorem dX4_slot_34 : decode cX4_slot 34 = .ok (.iand, 1) := by decide +kernel
theorem dX4_slot_35 : decode cX4_slot 35 = .ok (.ireturn, 1) := by decide +kernel
set_option maxRecDepth 20000 in
theorem ggX4_ruleSet_X6_bit : GoodIn wsX4_ruleSet wsX6_bit := goodIn_r _ [6] (by decide +kernel) (by decide +kernel)
set_option maxRecDepth 20000 in
theorem gX4_ruleSet_X6_bit_n49 : GoodIn wsX4_ruleSet (wsX6_bit) := ggX4_ruleSet_X6_bit
theorem dX4_ruleSet_0 : decode cX4_ruleSet 0 = .ok (.aload_n 0, 1) := by decide +kernel
theorem dX4_ruleSet_1 : decode cX4_ruleSet 1 = .ok (.getfield 19, 3) := by decide +kernel
theorem dX4_ruleSet_4 : decode cX4_ruleSet 4 = .ok (.iconst 1, 1) := by decide +kernel
theorem dX4_ruleSet_5 : decode cX4_ruleSet 5 = .ok (.isub, 1) := by decide +kernel
theorem dX4_ruleSet_6 : decode cX4_ruleSet 6 = .ok (.iconst 4, 1) := by decide +kernel
theorem dX4_ruleSet_7 : decode cX4_ruleSet 7 = .ok (.imul, 1) := by decide +kernel
theorem dX4_ruleSet_8 : decode cX4_ruleSet 8 = .ok (.aload_n 0, 1) := by decide +kernel
theorem dX4_ruleSet_9 : decode cX4_ruleSet 9 = .ok (.getfield 22, 3) := by decide +kernel
theorem dX4_ruleSet_12 : decode cX4_ruleSet 12 = .ok (.invokestatic 49, 3) := by decide +kernel
theorem dX4_ruleSet_15 : decode cX4_ruleSet 15 = .ok (.iconst 2, 1) := by decide +kernel
theorem dX4_ruleSet_16 : decode cX4_ruleSet 16 = .ok (.imul, 1) := by decide +kernel
theorem dX4_ruleSet_17 : decode cX4_ruleSet 17 = .ok (.iadd, 1) := by decide +kernel
theorem dX4_ruleSet_18 : decode cX4_ruleSet 18 = .ok (.aload_n 0, 1) := by decide +kernel
theorem dX4_ruleSet_19 : decode cX4_ruleSet 19 = .ok (.getfield 26, 3) := by decide +kernel
theorem dX4_ruleSet_22 : decode cX4_ruleSet 22 = .ok (.invokestatic 49, 3) := by decide +kernel
theorem dX4_ruleSet_25 : decode cX4_ruleSet 25 = .ok (.iadd, 1) := by decide +kernel
theorem dX4_ruleSet_26 : decode cX4_ruleSet 26 = .ok (.ireturn, 1) := by decide +kernel
set_option maxRecDepth 20000 in
theorem ggX4_isMove_X4_hasHeap : GoodIn wsX4_isMove wsX4_hasHeap := goodIn_r _ [9, 10, 11, 12, 13, 14, 15, 16, 17] (by decide +kernel) (by decide +kernel)
set_option maxRecDepth 20000 in
theorem gX4_isMove_X4_hasHeap : GoodIn wsX4_isMove (wsV RX4 41 RX4 yX4_hasHeap wsX4_hasHeap) := goodIn_app (goodIn_of _ (by decide +kernel)) ggX4_isMove_X4_hasHeap
theorem dX4_isMove_0 : decode cX4_isMove 0 = .ok (.aload_n 0, 1) := by decide +kernel
theorem dX4_isMove_1 : decode cX4_isMove 1 = .ok (.iload_n 2, 1) := by decide +kernel
theorem dX4_isMove_2 : decode cX4_isMove 2 = .ok (.invokevirtual 41, 3) := by decide +kernel
theorem dX4_isMove_5 : decode cX4_isMove 5 = .ok (.ifCond .ne 5, 3) := by decide +kernel
theorem dX4_isMove_8 : decode cX4_isMove 8 = .ok (.iconst 0, 1) := by decide +kernel
theorem dX4_isMove_9 : decode cX4_isMove 9 = .ok (.ireturn, 1) := by decide +kernel
theorem dX4_isMove_10 : decode cX4_isMove 10 = .ok (.iload_n 1, 1) := by decide +kernel
theorem dX4_isMove_11 : decode cX4_isMove 11 = .ok (.ifCond .ne 32, 3) := by decide +kernel
theorem dX4_isMove_14 : decode cX4_isMove 14 = .ok (.iload_n 3, 1) := by decide +kernel
theorem dX4_isMove_15 : decode cX4_isMove 15 = .ok (.iconst 1, 1) := by decide +kernel
theorem dX4_isMove_16 : decode cX4_isMove 16 = .ok (.if_icmp .lt 25, 3) := by decide +kernel
theorem dX4_isMove_19 : decode cX4_isMove 19 = .ok (.iload_n 3, 1) := by decide +kernel
theorem dX4_isMove_20 : decode cX4_isMove 20 = .ok (.aload_n 0, 1) := by decide +kernel
theorem dX4_isMove_21 : decode cX4_isMove 21 = .ok (.getfield 19, 3) := by decide +kernel
theorem dX4_isMove_24 : decode cX4_isMove 24 = .ok (.if_icmp .gt 17, 3) := by decide +kernel
theorem dX4_isMove_27 : decode cX4_isMove 27 = .ok (.iload_n 3, 1) := by decide +kernel
theorem dX4_isMove_28 : decode cX4_isMove 28 = .ok (.aload_n 0, 1) := by decide +kernel
theorem dX4_isMove_29 : decode cX4_isMove 29 = .ok (.getfield 9, 3) := by decide +kernel
theorem dX4_isMove_32 : decode cX4_isMove 32 = .ok (.iload_n 2, 1) := by decide +kernel
theorem dX4_isMove_33 : decode cX4_isMove 33 = .ok (.iaload, 1) := by decide +kernel
theorem dX4_isMove_34 : decode cX4_isMove 34 = .ok (.if_icmp .gt 7, 3) := by decide +kernel
theorem dX4_isMove_37 : decode cX4_isMove 37 = .ok (.iconst 1, 1) := by decide +kernel
theorem dX4_isMove_38 : decode cX4_isMove 38 = .ok (.goto 4, 3) := by decide +kernel
theorem dX4_isMove_41 : decode cX4_isMove 41 = .ok (.iconst 0, 1) := by decide +kernel
theorem dX4_isMove_42 : decode cX4_isMove 42 = .ok (.ireturn, 1) := by decide +kernel
theorem dX4_isMove_43 : decode cX4_isMove 43 = .ok (.iload_n 1, 1) := by decide +kernel
theorem dX4_isMove_44 : decode cX4_isMove 44 = .ok (.iconst 1, 1) := by decide +kernel
theorem dX4_isMove_45 : decode cX4_isMove 45 = .ok (.if_icmp .ne 33, 3) := by decide +kernel
theorem dX4_isMove_48 : decode cX4_isMove 48 = .ok (.aload_n 0, 1) := by decide +kernel
theorem dX4_isMove_49 : decode cX4_isMove 49 = .ok (.getfield 22, 3) := by decide +kernel
theorem dX4_isMove_52 : decode cX4_isMove 52 = .ok (.ifCond .eq 24, 3) := by decide +kernel
theorem dX4_isMove_55 : decode cX4_isMove 55 = .ok (.iload_n 3, 1) := by decide +kernel
theorem dX4_isMove_56 : decode cX4_isMove 56 = .ok (.iconst 1, 1) := by decide +kernel
theorem dX4_isMove_57 : decode cX4_isMove 57 = .ok (.if_icmp .lt 19, 3) := by decide +kernel
theorem dX4_isMove_60 : decode cX4_isMove 60 = .ok (.iload_n 3, 1) := by decide +kernel
theorem dX4_isMove_61 : decode cX4_isMove 61 = .ok (.aload_n 0, 1) := by decide +kernel
theorem dX4_isMove_62 : decode cX4_isMove 62 = .ok (.getfield 9, 3) := by decide +kernel
theorem dX4_isMove_65 : decode cX4_isMove 65 = .ok (.iload_n 2, 1) := by decide +kernel
theorem dX4_isMove_66 : decode cX4_isMove 66 = .ok (.iaload, 1) := by decide +kernel
theorem dX4_isMove_67 : decode cX4_isMove 67 = .ok (.iload_n 3, 1) := by decide +kernel
theorem dX4_isMove_68 : decode cX4_isMove 68 = .ok (.isub, 1) := by decide +kernel
theorem dX4_isMove_69 : decode cX4_isMove 69 = .ok (.if_icmp .gt 7, 3) := by decide +kernel
theorem dX4_isMove_72 : decode cX4_isMove 72 = .ok (.iconst 1, 1) := by decide +kernel
theorem dX4_isMove_73 : decode cX4_isMove 73 = .ok (.goto 4, 3) := by decide +kernel
theorem dX4_isMove_76 : decode cX4_isMove 76 = .ok (.iconst 0, 1) := by decide +kernel
theorem dX4_isMove_77 : decode cX4_isMove 77 = .ok (.ireturn, 1) := by decide +kernel
theorem dX4_isMove_78 : decode cX4_isMove 78 = .ok (.aload_n 0, 1) := by decide +kernel
theorem dX4_isMove_79 : decode cX4_isMove 79 = .ok (.getfield 26, 3) := by decide +kernel
theorem dX4_isMove_82 : decode cX4_isMove 82 = .ok (.ifCond .eq 20, 3) := by decide +kernel
theorem dX4_isMove_85 : decode cX4_isMove 85 = .ok (.aload_n 0, 1) := by decide +kernel
theorem dX4_isMove_86 : decode cX4_isMove 86 = .ok (.iload_n 3, 1) := by decide +kernel
theorem dX4_isMove_87 : decode cX4_isMove 87 = .ok (.invokevirtual 41, 3) := by decide +kernel
theorem dX4_isMove_90 : decode cX4_isMove 90 = .ok (.ifCond .eq 12, 3) := by decide +kernel
theorem dX4_isMove_93 : decode cX4_isMove 93 = .ok (.iload_n 2, 1) := by decide +kernel
theorem dX4_isMove_94 : decode cX4_isMove 94 = .ok (.iload_n 3, 1) := by decide +kernel
theorem dX4_isMove_95 : decode cX4_isMove 95 = .ok (.if_icmp .eq 7, 3) := by decide +kernel
theorem dX4_isMove_98 : decode cX4_isMove 98 = .ok (.iconst 1, 1) := by decide +kernel
theorem dX4_isMove_99 : decode cX4_isMove 99 = .ok (.goto 4, 3) := by decide +kernel
theorem dX4_isMove_102 : decode cX4_isMove 102 = .ok (.iconst 0, 1) := by decide +kernel
theorem dX4_isMove_103 : decode cX4_isMove 103 = .ok (.ireturn, 1) := by decide +kernel
set_option maxRecDepth 20000 in
theorem ggX4_carryOut_X4_shrink : GoodIn wsX4_carryOut wsX4_shrink := goodIn_r _ [14, 1, 15, 16, 17, 13, 18, 19, 20, 21, 22, 23, 28, 29, 30, 31, 32, 33, 34] (by decide +kernel) (by decide +kernel)
set_option maxRecDepth 20000 in
theorem gX4_carryOut_X4_shrink : GoodIn wsX4_carryOut (wsV RX4 53 RX4 yX4_shrink wsX4_shrink) := goodIn_app (goodIn_of _ (by decide +kernel)) ggX4_carryOut_X4_shrink
set_option maxRecDepth 20000 in
theorem ggX4_carryOut_X4_insert : GoodIn wsX4_carryOut wsX4_insert := goodIn_r _ [27, 19, 1, 28, 29, 30, 31, 32, 33, 34] (by decide +kernel) (by decide +kernel)
set_option maxRecDepth 20000 in
theorem gX4_carryOut_X4_insert : GoodIn wsX4_carryOut (wsV RX4 57 RX4 yX4_insert wsX4_insert) := goodIn_app (goodIn_of _ (by decide +kernel)) ggX4_carryOut_X4_insert
set_option maxRecDepth 20000 in
theorem ggX4_carryOut_X4_remove : GoodIn wsX4_carryOut wsX4_remove := goodIn_r _ [18, 19, 1, 20, 21, 22, 13, 23, 28, 29, 30, 31, 32, 33, 34] (by decide +kernel) (by decide +kernel)
set_option maxRecDepth 20000 in
theorem gX4_carryOut_X4_remove : GoodIn wsX4_carryOut (wsV RX4 69 RX4 yX4_remove wsX4_remove) := goodIn_app (goodIn_of _ (by decide +kernel)) ggX4_carryOut_X4_remove
theorem dX4_carryOut_0 : decode cX4_carryOut 0 = .ok (.iload_n 1, 1) := by decide +kernel
theorem dX4_carryOut_1 : decode cX4_carryOut 1 = .ok (.ifCond .ne 12, 3) := by decide +kernel
theorem dX4_carryOut_4 : decode cX4_carryOut 4 = .ok (.aload_n 0, 1) := by decide +kernel
theorem dX4_carryOut_5 : decode cX4_carryOut 5 = .ok (.iload_n 2, 1) := by decide +kernel
theorem dX4_carryOut_6 : decode cX4_carryOut 6 = .ok (.iload_n 3, 1) := by decide +kernel
theorem dX4_carryOut_7 : decode cX4_carryOut 7 = .ok (.invokevirtual 53, 3) := by decide +kernel
theorem dX4_carryOut_10 : decode cX4_carryOut 10 = .ok (.goto 67, 3) := by decide +kernel
theorem dX4_carryOut_13 : decode cX4_carryOut 13 = .ok (.iload_n 1, 1) := by decide +kernel
theorem dX4_carryOut_14 : decode cX4_carryOut 14 = .ok (.iconst 1, 1) := by decide +kernel
theorem dX4_carryOut_15 : decode cX4_carryOut 15 = .ok (.if_icmp .ne 28, 3) := by decide +kernel
theorem dX4_carryOut_18 : decode cX4_carryOut 18 = .ok (.aload_n 0, 1) := by decide +kernel
theorem dX4_carryOut_19 : decode cX4_carryOut 19 = .ok (.iload_n 2, 1) := by decide +kernel
theorem dX4_carryOut_20 : decode cX4_carryOut 20 = .ok (.iconst 1, 1) := by decide +kernel
theorem dX4_carryOut_21 : decode cX4_carryOut 21 = .ok (.iadd, 1) := by decide +kernel
theorem dX4_carryOut_22 : decode cX4_carryOut 22 = .ok (.aload_n 0, 1) := by decide +kernel
theorem dX4_carryOut_23 : decode cX4_carryOut 23 = .ok (.getfield 9, 3) := by decide +kernel
theorem dX4_carryOut_26 : decode cX4_carryOut 26 = .ok (.iload_n 2, 1) := by decide +kernel
theorem dX4_carryOut_27 : decode cX4_carryOut 27 = .ok (.iaload, 1) := by decide +kernel
theorem dX4_carryOut_28 : decode cX4_carryOut 28 = .ok (.iload_n 3, 1) := by decide +kernel
theorem dX4_carryOut_29 : decode cX4_carryOut 29 = .ok (.isub, 1) := by decide +kernel
theorem dX4_carryOut_30 : decode cX4_carryOut 30 = .ok (.invokevirtual 57, 3) := by decide +kernel
theorem dX4_carryOut_33 : decode cX4_carryOut 33 = .ok (.aload_n 0, 1) := by decide +kernel
theorem dX4_carryOut_34 : decode cX4_carryOut 34 = .ok (.getfield 9, 3) := by decide +kernel
theorem dX4_carryOut_37 : decode cX4_carryOut 37 = .ok (.iload_n 2, 1) := by decide +kernel
theorem dX4_carryOut_38 : decode cX4_carryOut 38 = .ok (.iload_n 3, 1) := by decide +kernel
theorem dX4_carryOut_39 : decode cX4_carryOut 39 = .ok (.iastore, 1) := by decide +kernel
theorem dX4_carryOut_40 : decode cX4_carryOut 40 = .ok (.goto 37, 3) := by decide +kernel
theorem dX4_carryOut_43 : decode cX4_carryOut 43 = .ok (.aload_n 0, 1) := by decide +kernel
theorem dX4_carryOut_44 : decode cX4_carryOut 44 = .ok (.getfield 9, 3) := by decide +kernel
theorem dX4_carryOut_47 : decode cX4_carryOut 47 = .ok (.iload_n 2, 1) := by decide +kernel
theorem dX4_carryOut_48 : decode cX4_carryOut 48 = .ok (.iload_n 3, 1) := by decide +kernel
theorem dX4_carryOut_49 : decode cX4_carryOut 49 = .ok (.invokestatic 60, 3) := by decide +kernel
theorem dX4_carryOut_52 : decode cX4_carryOut 52 = .ok (.aload_n 0, 1) := by decide +kernel
theorem dX4_carryOut_53 : decode cX4_carryOut 53 = .ok (.getfield 9, 3) := by decide +kernel
theorem dX4_carryOut_56 : decode cX4_carryOut 56 = .ok (.iload_n 2, 1) := by decide +kernel
theorem dX4_carryOut_57 : decode cX4_carryOut 57 = .ok (.iaload, 1) := by decide +kernel
theorem dX4_carryOut_58 : decode cX4_carryOut 58 = .ok (.aload_n 0, 1) := by decide +kernel
theorem dX4_carryOut_59 : decode cX4_carryOut 59 = .ok (.getfield 9, 3) := by decide +kernel
theorem dX4_carryOut_62 : decode cX4_carryOut 62 = .ok (.iload_n 3, 1) := by decide +kernel
theorem dX4_carryOut_63 : decode cX4_carryOut 63 = .ok (.iaload, 1) := by decide +kernel
theorem dX4_carryOut_64 : decode cX4_carryOut 64 = .ok (.iadd, 1) := by decide +kernel
theorem dX4_carryOut_65 : decode cX4_carryOut 65 = .ok (.iconst 1, 1) := by decide +kernel
theorem dX4_carryOut_66 : decode cX4_carryOut 66 = .ok (.isub, 1) := by decide +kernel
theorem dX4_carryOut_67 : decode cX4_carryOut 67 = .ok (.iastore, 1) := by decide +kernel
theorem dX4_carryOut_68 : decode cX4_carryOut 68 = .ok (.aload_n 0, 1) := by decide +kernel
theorem dX4_carryOut_69 : decode cX4_carryOut 69 = .ok (.iload_n 2, 1) := by decide +kernel
theorem dX4_carryOut_70 : decode cX4_carryOut 70 = .ok (.iload_n 3, 1) := by decide +kernel
theorem dX4_carryOut_71 : decode cX4_carryOut 71 = .ok (.invokestatic 66, 3) := by decide +kernel
theorem dX4_carryOut_74 : decode cX4_carryOut 74 = .ok (.invokevirtual 69, 3) := by decide +kernel
theorem dX4_carryOut_77 : decode cX4_carryOut 77 = .ok (.aload_n 0, 1) := by decide +kernel
theorem dX4_carryOut_78 : decode cX4_carryOut 78 = .ok (.getfield 32, 3) := by decide +kernel
theorem dX4_carryOut_81 : decode cX4_carryOut 81 = .ok (.iload_n 1, 1) := by decide +kernel
theorem dX4_carryOut_82 : decode cX4_carryOut 82 = .ok (.dup2, 1) := by decide +kernel
theorem dX4_carryOut_83 : decode cX4_carryOut 83 = .ok (.iaload, 1) := by decide +kernel
theorem dX4_carryOut_84 : decode cX4_carryOut 84 = .ok (.iconst 1, 1) := by decide +kernel
theorem dX4_carryOut_85 : decode cX4_carryOut 85 = .ok (.iadd, 1) := by decide +kernel
theorem dX4_carryOut_86 : decode cX4_carryOut 86 = .ok (.iastore, 1) := by decide +kernel
theorem dX4_carryOut_87 : decode cX4_carryOut 87 = .ok (.return_, 1) := by decide +kernel
set_option maxRecDepth 20000 in
theorem ggX4_shrink_X4_remove : GoodIn wsX4_shrink wsX4_remove := goodIn_r _ [6, 7, 1, 8, 9, 10, 5, 11, 12, 13, 14, 15, 16, 17, 18] (by decide +kernel) (by decide +kernel)
set_option maxRecDepth 20000 in
theorem gX4_shrink_X4_remove : GoodIn wsX4_shrink (wsV RX4 69 RX4 yX4_remove wsX4_remove) := goodIn_app (goodIn_of _ (by decide +kernel)) ggX4_shrink_X4_remove
theorem dX4_shrink_0 : decode cX4_shrink 0 = .ok (.aload_n 0, 1) := by decide +kernel
theorem dX4_shrink_1 : decode cX4_shrink 1 = .ok (.getfield 9, 3) := by decide +kernel
theorem dX4_shrink_4 : decode cX4_shrink 4 = .ok (.iload_n 1, 1) := by decide +kernel
theorem dX4_shrink_5 : decode cX4_shrink 5 = .ok (.dup2, 1) := by decide +kernel
theorem dX4_shrink_6 : decode cX4_shrink 6 = .ok (.iaload, 1) := by decide +kernel
theorem dX4_shrink_7 : decode cX4_shrink 7 = .ok (.iload_n 2, 1) := by decide +kernel
theorem dX4_shrink_8 : decode cX4_shrink 8 = .ok (.isub, 1) := by decide +kernel
theorem dX4_shrink_9 : decode cX4_shrink 9 = .ok (.iastore, 1) := by decide +kernel
theorem dX4_shrink_10 : decode cX4_shrink 10 = .ok (.aload_n 0, 1) := by decide +kernel
theorem dX4_shrink_11 : decode cX4_shrink 11 = .ok (.getfield 9, 3) := by decide +kernel
theorem dX4_shrink_14 : decode cX4_shrink 14 = .ok (.iload_n 1, 1) := by decide +kernel
theorem dX4_shrink_15 : decode cX4_shrink 15 = .ok (.iaload, 1) := by decide +kernel
theorem dX4_shrink_16 : decode cX4_shrink 16 = .ok (.ifCond .ne 8, 3) := by decide +kernel
theorem dX4_shrink_19 : decode cX4_shrink 19 = .ok (.aload_n 0, 1) := by decide +kernel
theorem dX4_shrink_20 : decode cX4_shrink 20 = .ok (.iload_n 1, 1) := by decide +kernel
theorem dX4_shrink_21 : decode cX4_shrink 21 = .ok (.invokevirtual 69, 3) := by decide +kernel
theorem dX4_shrink_24 : decode cX4_shrink 24 = .ok (.return_, 1) := by decide +kernel
theorem dX4_insert_0 : decode cX4_insert 0 = .ok (.iload_n 1, 1) := by decide +kernel
theorem dX4_insert_1 : decode cX4_insert 1 = .ok (.ifCond .lt 20, 3) := by decide +kernel
theorem dX4_insert_4 : decode cX4_insert 4 = .ok (.iload_n 1, 1) := by decide +kernel
theorem dX4_insert_5 : decode cX4_insert 5 = .ok (.aload_n 0, 1) := by decide +kernel
theorem dX4_insert_6 : decode cX4_insert 6 = .ok (.getfield 15, 3) := by decide +kernel
theorem dX4_insert_9 : decode cX4_insert 9 = .ok (.if_icmp .gt 12, 3) := by decide +kernel
theorem dX4_insert_12 : decode cX4_insert 12 = .ok (.aload_n 0, 1) := by decide +kernel
theorem dX4_insert_13 : decode cX4_insert 13 = .ok (.getfield 15, 3) := by decide +kernel
theorem dX4_insert_16 : decode cX4_insert 16 = .ok (.bipush 12, 2) := by decide +kernel
theorem dX4_insert_18 : decode cX4_insert 18 = .ok (.if_icmp .lt 4, 3) := by decide +kernel
theorem dX4_insert_21 : decode cX4_insert 21 = .ok (.return_, 1) := by decide +kernel
theorem dX4_insert_22 : decode cX4_insert 22 = .ok (.aload_n 0, 1) := by decide +kernel
theorem dX4_insert_23 : decode cX4_insert 23 = .ok (.getfield 15, 3) := by decide +kernel
theorem dX4_insert_26 : decode cX4_insert 26 = .ok (.istore_n 3, 1) := by decide +kernel
theorem dX4_insert_27 : decode cX4_insert 27 = .ok (.iload_n 3, 1) := by decide +kernel
theorem dX4_insert_28 : decode cX4_insert 28 = .ok (.iload_n 1, 1) := by decide +kernel
theorem dX4_insert_29 : decode cX4_insert 29 = .ok (.if_icmp .le 23, 3) := by decide +kernel
theorem dX4_insert_32 : decode cX4_insert 32 = .ok (.aload_n 0, 1) := by decide +kernel
theorem dX4_insert_33 : decode cX4_insert 33 = .ok (.getfield 9, 3) := by decide +kernel
theorem dX4_insert_36 : decode cX4_insert 36 = .ok (.iload_n 3, 1) := by decide +kernel
theorem dX4_insert_37 : decode cX4_insert 37 = .ok (.aload_n 0, 1) := by decide +kernel
theorem dX4_insert_38 : decode cX4_insert 38 = .ok (.getfield 9, 3) := by decide +kernel
theorem dX4_insert_41 : decode cX4_insert 41 = .ok (.iload_n 3, 1) := by decide +kernel
theorem dX4_insert_42 : decode cX4_insert 42 = .ok (.iconst 1, 1) := by decide +kernel
theorem dX4_insert_43 : decode cX4_insert 43 = .ok (.isub, 1) := by decide +kernel
theorem dX4_insert_44 : decode cX4_insert 44 = .ok (.iaload, 1) := by decide +kernel
theorem dX4_insert_45 : decode cX4_insert 45 = .ok (.iastore, 1) := by decide +kernel
theorem dX4_insert_46 : decode cX4_insert 46 = .ok (.iinc 3 (-1), 3) := by decide +kernel
theorem dX4_insert_49 : decode cX4_insert 49 = .ok (.goto (-22), 3) := by decide +kernel
theorem dX4_insert_52 : decode cX4_insert 52 = .ok (.aload_n 0, 1) := by decide +kernel
theorem dX4_insert_53 : decode cX4_insert 53 = .ok (.getfield 9, 3) := by decide +kernel
theorem dX4_insert_56 : decode cX4_insert 56 = .ok (.iload_n 1, 1) := by decide +kernel
theorem dX4_insert_57 : decode cX4_insert 57 = .ok (.iload_n 2, 1) := by decide +kernel
theorem dX4_insert_58 : decode cX4_insert 58 = .ok (.iastore, 1) := by decide +kernel
theorem dX4_insert_59 : decode cX4_insert 59 = .ok (.aload_n 0, 1) := by decide +kernel
theorem dX4_insert_60 : decode cX4_insert 60 = .ok (.dup, 1) := by decide +kernel
theorem dX4_insert_61 : decode cX4_insert 61 = .ok (.getfield 15, 3) := by decide +kernel
theorem dX4_insert_64 : decode cX4_insert 64 = .ok (.iconst 1, 1) := by decide +kernel
theorem dX4_insert_65 : decode cX4_insert 65 = .ok (.iadd, 1) := by decide +kernel
theorem dX4_insert_66 : decode cX4_insert 66 = .ok (.putfield 15, 3) := by decide +kernel
theorem dX4_insert_69 : decode cX4_insert 69 = .ok (.return_, 1) := by decide +kernel
set_option maxRecDepth 20000 in
theorem ggX4_remove_X4_hasHeap : GoodIn wsX4_remove wsX4_hasHeap := goodIn_r _ [7, 1, 8, 9, 10, 11, 12, 13, 14] (by decide +kernel) (by decide +kernel)
set_option maxRecDepth 20000 in
theorem gX4_remove_X4_hasHeap : GoodIn wsX4_remove (wsV RX4 41 RX4 yX4_hasHeap wsX4_hasHeap) := goodIn_app (goodIn_of _ (by decide +kernel)) ggX4_remove_X4_hasHeap
theorem dX4_remove_0 : decode cX4_remove 0 = .ok (.aload_n 0, 1) := by decide +kernel
theorem dX4_remove_1 : decode cX4_remove 1 = .ok (.iload_n 1, 1) := by decide +kernel
theorem dX4_remove_2 : decode cX4_remove 2 = .ok (.invokevirtual 41, 3) := by decide +kernel
theorem dX4_remove_5 : decode cX4_remove 5 = .ok (.ifCond .ne 4, 3) := by decide +kernel
theorem dX4_remove_8 : decode cX4_remove 8 = .ok (.return_, 1) := by decide +kernel
theorem dX4_remove_9 : decode cX4_remove 9 = .ok (.aload_n 0, 1) := by decide +kernel
theorem dX4_remove_10 : decode cX4_remove 10 = .ok (.dup, 1) := by decide +kernel
theorem dX4_remove_11 : decode cX4_remove 11 = .ok (.getfield 15, 3) := by decide +kernel
theorem dX4_remove_14 : decode cX4_remove 14 = .ok (.iconst 1, 1) := by decide +kernel
theorem dX4_remove_15 : decode cX4_remove 15 = .ok (.isub, 1) := by decide +kernel
theorem dX4_remove_16 : decode cX4_remove 16 = .ok (.putfield 15, 3) := by decide +kernel
theorem dX4_remove_19 : decode cX4_remove 19 = .ok (.iload_n 1, 1) := by decide +kernel
theorem dX4_remove_20 : decode cX4_remove 20 = .ok (.istore_n 2, 1) := by decide +kernel
theorem dX4_remove_21 : decode cX4_remove 21 = .ok (.iload_n 2, 1) := by decide +kernel
theorem dX4_remove_22 : decode cX4_remove 22 = .ok (.aload_n 0, 1) := by decide +kernel
theorem dX4_remove_23 : decode cX4_remove 23 = .ok (.getfield 15, 3) := by decide +kernel
theorem dX4_remove_26 : decode cX4_remove 26 = .ok (.if_icmp .ge 23, 3) := by decide +kernel
theorem dX4_remove_29 : decode cX4_remove 29 = .ok (.aload_n 0, 1) := by decide +kernel
theorem dX4_remove_30 : decode cX4_remove 30 = .ok (.getfield 9, 3) := by decide +kernel
theorem dX4_remove_33 : decode cX4_remove 33 = .ok (.iload_n 2, 1) := by decide +kernel
theorem dX4_remove_34 : decode cX4_remove 34 = .ok (.aload_n 0, 1) := by decide +kernel
theorem dX4_remove_35 : decode cX4_remove 35 = .ok (.getfield 9, 3) := by decide +kernel
theorem dX4_remove_38 : decode cX4_remove 38 = .ok (.iload_n 2, 1) := by decide +kernel
theorem dX4_remove_39 : decode cX4_remove 39 = .ok (.iconst 1, 1) := by decide +kernel
theorem dX4_remove_40 : decode cX4_remove 40 = .ok (.iadd, 1) := by decide +kernel
theorem dX4_remove_41 : decode cX4_remove 41 = .ok (.iaload, 1) := by decide +kernel
theorem dX4_remove_42 : decode cX4_remove 42 = .ok (.iastore, 1) := by decide +kernel
theorem dX4_remove_43 : decode cX4_remove 43 = .ok (.iinc 2 1, 3) := by decide +kernel
theorem dX4_remove_46 : decode cX4_remove 46 = .ok (.goto (-25), 3) := by decide +kernel
theorem dX4_remove_49 : decode cX4_remove 49 = .ok (.return_, 1) := by decide +kernel
theorem dX5_init_0 : decode cX5_init 0 = .ok (.aload_n 0, 1) := by decide +kernel
theorem dX5_init_1 : decode cX5_init 1 = .ok (.invokespecial 3, 3) := by decide +kernel
theorem dX5_init_4 : decode cX5_init 4 = .ok (.aload_n 0, 1) := by decide +kernel
theorem dX5_init_5 : decode cX5_init 5 = .ok (.bipush 60, 2) := by decide +kernel
theorem dX5_init_7 : decode cX5_init 7 = .ok (.newarray .char, 2) := by decide +kernel
theorem dX5_init_9 : decode cX5_init 9 = .ok (.putfield 9, 3) := by decide +kernel
theorem dX5_init_12 : decode cX5_init 12 = .ok (.aload_n 0, 1) := by decide +kernel
theorem dX5_init_13 : decode cX5_init 13 = .ok (.iconst 0, 1) := by decide +kernel
theorem dX5_init_14 : decode cX5_init 14 = .ok (.putfield 15, 3) := by decide +kernel
theorem dX5_init_17 : decode cX5_init 17 = .ok (.aload_n 0, 1) := by decide +kernel
theorem dX5_init_18 : decode cX5_init 18 = .ok (.iconst 0, 1) := by decide +kernel
theorem dX5_init_19 : decode cX5_init 19 = .ok (.putfield 19, 3) := by decide +kernel
theorem dX5_init_22 : decode cX5_init 22 = .ok (.aload_n 0, 1) := by decide +kernel
theorem dX5_init_23 : decode cX5_init 23 = .ok (.iconst (-1), 1) := by decide +kernel
theorem dX5_init_24 : decode cX5_init 24 = .ok (.putfield 22, 3) := by decide +kernel
theorem dX5_init_27 : decode cX5_init 27 = .ok (.aload_n 0, 1) := by decide +kernel
theorem dX5_init_28 : decode cX5_init 28 = .ok (.iconst (-1), 1) := by decide +kernel
theorem dX5_init_29 : decode cX5_init 29 = .ok (.putfield 25, 3) := by decide +kernel
theorem dX5_init_32 : decode cX5_init 32 = .ok (.aload_n 0, 1) := by decide +kernel
theorem dX5_init_33 : decode cX5_init 33 = .ok (.iconst (-1), 1) := by decide +kernel
theorem dX5_init_34 : decode cX5_init 34 = .ok (.putfield 28, 3) := by decide +kernel
theorem dX5_init_37 : decode cX5_init 37 = .ok (.return_, 1) := by decide +kernel
set_option maxRecDepth 20000 in
theorem ggX6_init_X4_init : GoodIn wsX6_init wsX4_init := goodIn_r _ [25, 26, 2, 3, 27, 28, 29, 30, 31, 32, 33, 34, 70, 71, 72, 73, 74, 75, 76] (by decide +kernel) (by decide +kernel)
set_option maxRecDepth 20000 in
theorem gX6_init_X4_init_n11 : GoodIn wsX6_init (wsX4_init) := ggX6_init_X4_init
set_option maxRecDepth 20000 in
theorem ggX6_init_X0_init : GoodIn wsX6_init wsX0_init := goodIn_r _ [37, 38, 2, 3, 39, 40, 41, 42, 5, 6, 24, 25, 26, 27, 28, 29, 30, 31, 32, 33, 34, 82, 83, 84, 70, 71, 72, 73, 74, 75, 76] (by decide +kernel) (by decide +kernel)
set_option maxRecDepth 20000 in
theorem gX6_init_X0_init : GoodIn wsX6_init (wsX0_init) := ggX6_init_X0_init
set_option maxRecDepth 20000 in
theorem ggX6_init_X1_init : GoodIn wsX6_init wsX1_init := goodIn_r _ [44, 45, 2, 3, 27, 46, 47, 48, 49, 50, 85, 86, 87, 88, 89] (by decide +kernel) (by decide +kernel)
set_option maxRecDepth 20000 in
theorem gX6_init_X1_init_n25 : GoodIn wsX6_init (wsX1_init) := ggX6_init_X1_init
set_option maxRecDepth 20000 in
theorem ggX6_init_X3_init : GoodIn wsX6_init wsX3_init := goodIn_r _ [52, 53, 2, 3, 54, 55, 56, 5, 6, 57, 58, 13, 14, 59, 24, 25, 26, 27, 28, 29, 30, 31, 32, 33, 34, 43, 44, 45, 46, 47, 48, 49, 50, 90, 91, 92, 70, 71, 72, 73, 74, 75, 76, 85, 86, 87, 88, 89] (by decide +kernel) (by decide +kernel)
set_option maxRecDepth 20000 in
theorem gX6_init_X3_init_n32 : GoodIn wsX6_init (wsX3_init) := ggX6_init_X3_init
set_option maxRecDepth 20000 in
theorem ggX6_init_X5_init : GoodIn wsX6_init wsX5_init := goodIn_r _ [61, 62, 2, 3, 63, 64, 65, 66, 67, 68, 69, 93, 94, 95, 96, 97, 98] (by decide +kernel) (by decide +kernel)
set_option maxRecDepth 20000 in
theorem gX6_init_X5_init_n39 : GoodIn wsX6_init (wsX5_init) := ggX6_init_X5_init
theorem dX6_init_0 : decode cX6_init 0 = .ok (.aload_n 0, 1) := by decide +kernel
theorem dX6_init_1 : decode cX6_init 1 = .ok (.invokespecial 3, 3) := by decide +kernel
theorem dX6_init_4 : decode cX6_init 4 = .ok (.aload_n 0, 1) := by decide +kernel
theorem dX6_init_5 : decode cX6_init 5 = .ok (.new 9, 3) := by decide +kernel
theorem dX6_init_8 : decode cX6_init 8 = .ok (.dup, 1) := by decide +kernel
theorem dX6_init_9 : decode cX6_init 9 = .ok (.invokespecial 11, 3) := by decide +kernel
theorem dX6_init_12 : decode cX6_init 12 = .ok (.putfield 12, 3) := by decide +kernel
theorem dX6_init_15 : decode cX6_init 15 = .ok (.aload_n 0, 1) := by decide +kernel
theorem dX6_init_16 : decode cX6_init 16 = .ok (.new 16, 3) := by decide +kernel
theorem dX6_init_19 : decode cX6_init 19 = .ok (.dup, 1) := by decide +kernel
theorem dX6_init_20 : decode cX6_init 20 = .ok (.invokespecial 18, 3) := by decide +kernel
theorem dX6_init_23 : decode cX6_init 23 = .ok (.putfield 19, 3) := by decide +kernel
theorem dX6_init_26 : decode cX6_init 26 = .ok (.aload_n 0, 1) := by decide +kernel
theorem dX6_init_27 : decode cX6_init 27 = .ok (.new 23, 3) := by decide +kernel
theorem dX6_init_30 : decode cX6_init 30 = .ok (.dup, 1) := by decide +kernel
theorem dX6_init_31 : decode cX6_init 31 = .ok (.invokespecial 25, 3) := by decide +kernel
theorem dX6_init_34 : decode cX6_init 34 = .ok (.putfield 26, 3) := by decide +kernel
theorem dX6_init_37 : decode cX6_init 37 = .ok (.aload_n 0, 1) := by decide +kernel
theorem dX6_init_38 : decode cX6_init 38 = .ok (.new 30, 3) := by decide +kernel
theorem dX6_init_41 : decode cX6_init 41 = .ok (.dup, 1) := by decide +kernel
theorem dX6_init_42 : decode cX6_init 42 = .ok (.invokespecial 32, 3) := by decide +kernel
theorem dX6_init_45 : decode cX6_init 45 = .ok (.putfield 33, 3) := by decide +kernel
theorem dX6_init_48 : decode cX6_init 48 = .ok (.aload_n 0, 1) := by decide +kernel
theorem dX6_init_49 : decode cX6_init 49 = .ok (.new 37, 3) := by decide +kernel
theorem dX6_init_52 : decode cX6_init 52 = .ok (.dup, 1) := by decide +kernel
theorem dX6_init_53 : decode cX6_init 53 = .ok (.invokespecial 39, 3) := by decide +kernel
theorem dX6_init_56 : decode cX6_init 56 = .ok (.putfield 40, 3) := by decide +kernel
theorem dX6_init_59 : decode cX6_init 59 = .ok (.return_, 1) := by decide +kernel
set_option maxRecDepth 20000 in
theorem ggX6_begin_X0_save : GoodIn wsX6_begin wsX0_save := goodIn_r _ [7, 8, 9, 10, 11, 12, 13, 14, 15, 16, 17, 18, 19, 20, 21, 22, 23, 24, 25, 26, 27, 28, 29, 30, 44, 45, 46, 47, 48, 49, 50, 51, 52, 53] (by decide +kernel) (by decide +kernel)
set_option maxRecDepth 20000 in
theorem gX6_begin_X0_save : GoodIn wsX6_begin (wsV RX6 44 RX0 yX0_save wsX0_save) := goodIn_app (goodIn_of _ (by decide +kernel)) ggX6_begin_X0_save
set_option maxRecDepth 20000 in
theorem ggX6_begin_X4_total : GoodIn wsX6_begin wsX4_total := goodIn_r _ [34, 25, 20, 47, 48, 49, 50, 51, 52, 53] (by decide +kernel) (by decide +kernel)
set_option maxRecDepth 20000 in
theorem gX6_begin_X4_total : GoodIn wsX6_begin (wsV RX6 48 RX4 yX4_total wsX4_total) := goodIn_app (goodIn_of _ (by decide +kernel)) ggX6_begin_X4_total
set_option maxRecDepth 20000 in
theorem ggX6_begin_X4_startAnew : GoodIn wsX6_begin wsX4_startAnew := goodIn_r _ [38, 25, 30, 47, 48, 49, 50, 51, 52, 53] (by decide +kernel) (by decide +kernel)
set_option maxRecDepth 20000 in
theorem gX6_begin_X4_startAnew : GoodIn wsX6_begin (wsV RX6 52 RX4 yX4_startAnew wsX4_startAnew) := goodIn_app (goodIn_of _ (by decide +kernel)) ggX6_begin_X4_startAnew
theorem dX6_begin_0 : decode cX6_begin 0 = .ok (.aload_n 0, 1) := by decide +kernel
theorem dX6_begin_1 : decode cX6_begin 1 = .ok (.getfield 19, 3) := by decide +kernel
theorem dX6_begin_4 : decode cX6_begin 4 = .ok (.aload_n 0, 1) := by decide +kernel
theorem dX6_begin_5 : decode cX6_begin 5 = .ok (.getfield 12, 3) := by decide +kernel
theorem dX6_begin_8 : decode cX6_begin 8 = .ok (.invokevirtual 44, 3) := by decide +kernel
theorem dX6_begin_11 : decode cX6_begin 11 = .ok (.aload_n 0, 1) := by decide +kernel
theorem dX6_begin_12 : decode cX6_begin 12 = .ok (.getfield 12, 3) := by decide +kernel
theorem dX6_begin_15 : decode cX6_begin 15 = .ok (.invokevirtual 48, 3) := by decide +kernel
theorem dX6_begin_18 : decode cX6_begin 18 = .ok (.istore_n 1, 1) := by decide +kernel
theorem dX6_begin_19 : decode cX6_begin 19 = .ok (.aload_n 0, 1) := by decide +kernel
theorem dX6_begin_20 : decode cX6_begin 20 = .ok (.getfield 12, 3) := by decide +kernel
theorem dX6_begin_23 : decode cX6_begin 23 = .ok (.invokevirtual 52, 3) := by decide +kernel
theorem dX6_begin_26 : decode cX6_begin 26 = .ok (.iload_n 1, 1) := by decide +kernel
theorem dX6_begin_27 : decode cX6_begin 27 = .ok (.ireturn, 1) := by decide +kernel
set_option maxRecDepth 20000 in
theorem ggX6_addHeap_X4_total : GoodIn wsX6_addHeap wsX4_total := goodIn_r _ [12, 13, 14, 49, 50, 51, 52, 53, 54, 55] (by decide +kernel) (by decide +kernel)
set_option maxRecDepth 20000 in
theorem gX6_addHeap_X4_total : GoodIn wsX6_addHeap (wsV RX6 48 RX4 yX4_total wsX4_total) := goodIn_app (goodIn_of _ (by decide +kernel)) ggX6_addHeap_X4_total
set_option maxRecDepth 20000 in
theorem ggX6_addHeap_X0_save : GoodIn wsX6_addHeap wsX0_save := goodIn_r _ [19, 20, 21, 22, 23, 24, 25, 26, 27, 28, 29, 11, 30, 14, 31, 32, 33, 34, 13, 35, 36, 37, 38, 39, 56, 57, 58, 49, 50, 51, 52, 53, 54, 55] (by decide +kernel) (by decide +kernel)
set_option maxRecDepth 20000 in
theorem gX6_addHeap_X0_save : GoodIn wsX6_addHeap (wsV RX6 44 RX0 yX0_save wsX0_save) := goodIn_app (goodIn_of _ (by decide +kernel)) ggX6_addHeap_X0_save
set_option maxRecDepth 20000 in
theorem ggX6_addHeap_X4_insert : GoodIn wsX6_addHeap wsX4_insert := goodIn_r _ [43, 13, 14, 49, 50, 51, 52, 53, 54, 55] (by decide +kernel) (by decide +kernel)
set_option maxRecDepth 20000 in
theorem gX6_addHeap_X4_insert : GoodIn wsX6_addHeap (wsV RX6 71 RX4 yX4_insert wsX4_insert) := goodIn_app (goodIn_of _ (by decide +kernel)) ggX6_addHeap_X4_insert
theorem dX6_addHeap_0 : decode cX6_addHeap 0 = .ok (.iload_n 1, 1) := by decide +kernel
theorem dX6_addHeap_1 : decode cX6_addHeap 1 = .ok (.iconst 1, 1) := by decide +kernel
theorem dX6_addHeap_2 : decode cX6_addHeap 2 = .ok (.if_icmp .lt 9, 3) := by decide +kernel
theorem dX6_addHeap_5 : decode cX6_addHeap 5 = .ok (.iload_n 1, 1) := by decide +kernel
theorem dX6_addHeap_6 : decode cX6_addHeap 6 = .ok (.bipush 12, 2) := by decide +kernel
theorem dX6_addHeap_8 : decode cX6_addHeap 8 = .ok (.if_icmp .le 13, 3) := by decide +kernel
theorem dX6_addHeap_11 : decode cX6_addHeap 11 = .ok (.new 55, 3) := by decide +kernel
theorem dX6_addHeap_14 : decode cX6_addHeap 14 = .ok (.dup, 1) := by decide +kernel
theorem dX6_addHeap_15 : decode cX6_addHeap 15 = .ok (.ldc 57, 2) := by decide +kernel
theorem dX6_addHeap_17 : decode cX6_addHeap 17 = .ok (.invokespecial 59, 3) := by decide +kernel
theorem dX6_addHeap_20 : decode cX6_addHeap 20 = .ok (.athrow, 1) := by decide +kernel
theorem dX6_addHeap_21 : decode cX6_addHeap 21 = .ok (.aload_n 0, 1) := by decide +kernel
theorem dX6_addHeap_22 : decode cX6_addHeap 22 = .ok (.getfield 12, 3) := by decide +kernel
theorem dX6_addHeap_25 : decode cX6_addHeap 25 = .ok (.invokevirtual 48, 3) := by decide +kernel
theorem dX6_addHeap_28 : decode cX6_addHeap 28 = .ok (.iload_n 1, 1) := by decide +kernel
theorem dX6_addHeap_29 : decode cX6_addHeap 29 = .ok (.iadd, 1) := by decide +kernel
theorem dX6_addHeap_30 : decode cX6_addHeap 30 = .ok (.bipush 12, 2) := by decide +kernel
theorem dX6_addHeap_32 : decode cX6_addHeap 32 = .ok (.if_icmp .le 13, 3) := by decide +kernel
theorem dX6_addHeap_35 : decode cX6_addHeap 35 = .ok (.new 62, 3) := by decide +kernel
theorem dX6_addHeap_38 : decode cX6_addHeap 38 = .ok (.dup, 1) := by decide +kernel
theorem dX6_addHeap_39 : decode cX6_addHeap 39 = .ok (.ldc 64, 2) := by decide +kernel
theorem dX6_addHeap_41 : decode cX6_addHeap 41 = .ok (.invokespecial 66, 3) := by decide +kernel
theorem dX6_addHeap_44 : decode cX6_addHeap 44 = .ok (.athrow, 1) := by decide +kernel
theorem dX6_addHeap_45 : decode cX6_addHeap 45 = .ok (.aload_n 0, 1) := by decide +kernel
theorem dX6_addHeap_46 : decode cX6_addHeap 46 = .ok (.getfield 19, 3) := by decide +kernel
theorem dX6_addHeap_49 : decode cX6_addHeap 49 = .ok (.aload_n 0, 1) := by decide +kernel
theorem dX6_addHeap_50 : decode cX6_addHeap 50 = .ok (.getfield 12, 3) := by decide +kernel
theorem dX6_addHeap_53 : decode cX6_addHeap 53 = .ok (.invokevirtual 44, 3) := by decide +kernel
theorem dX6_addHeap_56 : decode cX6_addHeap 56 = .ok (.aload_n 0, 1) := by decide +kernel
theorem dX6_addHeap_57 : decode cX6_addHeap 57 = .ok (.getfield 12, 3) := by decide +kernel
theorem dX6_addHeap_60 : decode cX6_addHeap 60 = .ok (.aload_n 0, 1) := by decide +kernel
theorem dX6_addHeap_61 : decode cX6_addHeap 61 = .ok (.getfield 12, 3) := by decide +kernel
theorem dX6_addHeap_64 : decode cX6_addHeap 64 = .ok (.getfield 67, 3) := by decide +kernel
theorem dX6_addHeap_67 : decode cX6_addHeap 67 = .ok (.iload_n 1, 1) := by decide +kernel
theorem dX6_addHeap_68 : decode cX6_addHeap 68 = .ok (.invokevirtual 71, 3) := by decide +kernel
theorem dX6_addHeap_71 : decode cX6_addHeap 71 = .ok (.aload_n 0, 1) := by decide +kernel
theorem dX6_addHeap_72 : decode cX6_addHeap 72 = .ok (.getfield 12, 3) := by decide +kernel
theorem dX6_addHeap_75 : decode cX6_addHeap 75 = .ok (.getfield 67, 3) := by decide +kernel
theorem dX6_addHeap_78 : decode cX6_addHeap 78 = .ok (.ireturn, 1) := by decide +kernel
set_option maxRecDepth 20000 in
theorem ggX6_setGreatestTake_X0_save : GoodIn wsX6_setGreatestTake wsX0_save := goodIn_r _ [10, 11, 12, 13, 14, 15, 16, 17, 18, 19, 20, 21, 22, 23, 24, 25, 26, 27, 28, 29, 30, 31, 32, 33, 46, 47, 48, 39, 40, 41, 42, 43, 44, 45] (by decide +kernel) (by decide +kernel)
set_option maxRecDepth 20000 in
theorem gX6_setGreatestTake_X0_save : GoodIn wsX6_setGreatestTake (wsV RX6 44 RX0 yX0_save wsX0_save) := goodIn_app (goodIn_of _ (by decide +kernel)) ggX6_setGreatestTake_X0_save
theorem dX6_setGreatestTake_0 : decode cX6_setGreatestTake 0 = .ok (.iload_n 1, 1) := by decide +kernel
theorem dX6_setGreatestTake_1 : decode cX6_setGreatestTake 1 = .ok (.iconst 1, 1) := by decide +kernel
theorem dX6_setGreatestTake_2 : decode cX6_setGreatestTake 2 = .ok (.if_icmp .lt 8, 3) := by decide +kernel
theorem dX6_setGreatestTake_5 : decode cX6_setGreatestTake 5 = .ok (.iload_n 1, 1) := by decide +kernel
theorem dX6_setGreatestTake_6 : decode cX6_setGreatestTake 6 = .ok (.iconst 5, 1) := by decide +kernel
theorem dX6_setGreatestTake_7 : decode cX6_setGreatestTake 7 = .ok (.if_icmp .le 13, 3) := by decide +kernel
theorem dX6_setGreatestTake_10 : decode cX6_setGreatestTake 10 = .ok (.new 55, 3) := by decide +kernel
theorem dX6_setGreatestTake_13 : decode cX6_setGreatestTake 13 = .ok (.dup, 1) := by decide +kernel
theorem dX6_setGreatestTake_14 : decode cX6_setGreatestTake 14 = .ok (.ldc 75, 2) := by decide +kernel
theorem dX6_setGreatestTake_16 : decode cX6_setGreatestTake 16 = .ok (.invokespecial 59, 3) := by decide +kernel
theorem dX6_setGreatestTake_19 : decode cX6_setGreatestTake 19 = .ok (.athrow, 1) := by decide +kernel
theorem dX6_setGreatestTake_20 : decode cX6_setGreatestTake 20 = .ok (.aload_n 0, 1) := by decide +kernel
theorem dX6_setGreatestTake_21 : decode cX6_setGreatestTake 21 = .ok (.getfield 19, 3) := by decide +kernel
theorem dX6_setGreatestTake_24 : decode cX6_setGreatestTake 24 = .ok (.aload_n 0, 1) := by decide +kernel
theorem dX6_setGreatestTake_25 : decode cX6_setGreatestTake 25 = .ok (.getfield 12, 3) := by decide +kernel
theorem dX6_setGreatestTake_28 : decode cX6_setGreatestTake 28 = .ok (.invokevirtual 44, 3) := by decide +kernel
theorem dX6_setGreatestTake_31 : decode cX6_setGreatestTake 31 = .ok (.aload_n 0, 1) := by decide +kernel
theorem dX6_setGreatestTake_32 : decode cX6_setGreatestTake 32 = .ok (.getfield 12, 3) := by decide +kernel
theorem dX6_setGreatestTake_35 : decode cX6_setGreatestTake 35 = .ok (.getfield 77, 3) := by decide +kernel
theorem dX6_setGreatestTake_38 : decode cX6_setGreatestTake 38 = .ok (.istore_n 2, 1) := by decide +kernel
theorem dX6_setGreatestTake_39 : decode cX6_setGreatestTake 39 = .ok (.aload_n 0, 1) := by decide +kernel
theorem dX6_setGreatestTake_40 : decode cX6_setGreatestTake 40 = .ok (.getfield 12, 3) := by decide +kernel
theorem dX6_setGreatestTake_43 : decode cX6_setGreatestTake 43 = .ok (.iload_n 1, 1) := by decide +kernel
theorem dX6_setGreatestTake_44 : decode cX6_setGreatestTake 44 = .ok (.putfield 77, 3) := by decide +kernel
theorem dX6_setGreatestTake_47 : decode cX6_setGreatestTake 47 = .ok (.iload_n 2, 1) := by decide +kernel
theorem dX6_setGreatestTake_48 : decode cX6_setGreatestTake 48 = .ok (.ireturn, 1) := by decide +kernel
set_option maxRecDepth 20000 in
theorem ggX6_turnSplitting_X0_save : GoodIn wsX6_turnSplitting wsX0_save := goodIn_r _ [8, 9, 10, 11, 12, 13, 14, 15, 16, 17, 18, 19, 20, 21, 22, 23, 24, 25, 26, 27, 28, 29, 30, 31, 44, 45, 46, 37, 38, 39, 40, 41, 42, 43] (by decide +kernel) (by decide +kernel)
set_option maxRecDepth 20000 in
theorem gX6_turnSplitting_X0_save : GoodIn wsX6_turnSplitting (wsV RX6 44 RX0 yX0_save wsX0_save) := goodIn_app (goodIn_of _ (by decide +kernel)) ggX6_turnSplitting_X0_save
theorem dX6_turnSplitting_0 : decode cX6_turnSplitting 0 = .ok (.aload_n 0, 1) := by decide +kernel
theorem dX6_turnSplitting_1 : decode cX6_turnSplitting 1 = .ok (.getfield 19, 3) := by decide +kernel
theorem dX6_turnSplitting_4 : decode cX6_turnSplitting 4 = .ok (.aload_n 0, 1) := by decide +kernel
theorem dX6_turnSplitting_5 : decode cX6_turnSplitting 5 = .ok (.getfield 12, 3) := by decide +kernel
theorem dX6_turnSplitting_8 : decode cX6_turnSplitting 8 = .ok (.invokevirtual 44, 3) := by decide +kernel
theorem dX6_turnSplitting_11 : decode cX6_turnSplitting 11 = .ok (.aload_n 0, 1) := by decide +kernel
theorem dX6_turnSplitting_12 : decode cX6_turnSplitting 12 = .ok (.getfield 12, 3) := by decide +kernel
theorem dX6_turnSplitting_15 : decode cX6_turnSplitting 15 = .ok (.aload_n 0, 1) := by decide +kernel
theorem dX6_turnSplitting_16 : decode cX6_turnSplitting 16 = .ok (.getfield 12, 3) := by decide +kernel
theorem dX6_turnSplitting_19 : decode cX6_turnSplitting 19 = .ok (.getfield 80, 3) := by decide +kernel
theorem dX6_turnSplitting_22 : decode cX6_turnSplitting 22 = .ok (.ifCond .ne 7, 3) := by decide +kernel
theorem dX6_turnSplitting_25 : decode cX6_turnSplitting 25 = .ok (.iconst 1, 1) := by decide +kernel
theorem dX6_turnSplitting_26 : decode cX6_turnSplitting 26 = .ok (.goto 4, 3) := by decide +kernel
theorem dX6_turnSplitting_29 : decode cX6_turnSplitting 29 = .ok (.iconst 0, 1) := by decide +kernel
theorem dX6_turnSplitting_30 : decode cX6_turnSplitting 30 = .ok (.putfield 80, 3) := by decide +kernel
theorem dX6_turnSplitting_33 : decode cX6_turnSplitting 33 = .ok (.aload_n 0, 1) := by decide +kernel
theorem dX6_turnSplitting_34 : decode cX6_turnSplitting 34 = .ok (.getfield 12, 3) := by decide +kernel
theorem dX6_turnSplitting_37 : decode cX6_turnSplitting 37 = .ok (.getfield 80, 3) := by decide +kernel
theorem dX6_turnSplitting_40 : decode cX6_turnSplitting 40 = .ok (.ireturn, 1) := by decide +kernel
set_option maxRecDepth 20000 in
theorem ggX6_turnMerging_X0_save : GoodIn wsX6_turnMerging wsX0_save := goodIn_r _ [8, 9, 10, 11, 12, 13, 14, 15, 16, 17, 18, 19, 20, 21, 22, 23, 24, 25, 26, 27, 28, 29, 30, 31, 44, 45, 46, 37, 38, 39, 40, 41, 42, 43] (by decide +kernel) (by decide +kernel)
set_option maxRecDepth 20000 in
theorem gX6_turnMerging_X0_save : GoodIn wsX6_turnMerging (wsV RX6 44 RX0 yX0_save wsX0_save) := goodIn_app (goodIn_of _ (by decide +kernel)) ggX6_turnMerging_X0_save
theorem dX6_turnMerging_0 : decode cX6_turnMerging 0 = .ok (.aload_n 0, 1) := by decide +kernel
theorem dX6_turnMerging_1 : decode cX6_turnMerging 1 = .ok (.getfield 19, 3) := by decide +kernel
theorem dX6_turnMerging_4 : decode cX6_turnMerging 4 = .ok (.aload_n 0, 1) := by decide +kernel
theorem dX6_turnMerging_5 : decode cX6_turnMerging 5 = .ok (.getfield 12, 3) := by decide +kernel
theorem dX6_turnMerging_8 : decode cX6_turnMerging 8 = .ok (.invokevirtual 44, 3) := by decide +kernel
theorem dX6_turnMerging_11 : decode cX6_turnMerging 11 = .ok (.aload_n 0, 1) := by decide +kernel
theorem dX6_turnMerging_12 : decode cX6_turnMerging 12 = .ok (.getfield 12, 3) := by decide +kernel
theorem dX6_turnMerging_15 : decode cX6_turnMerging 15 = .ok (.aload_n 0, 1) := by decide +kernel
theorem dX6_turnMerging_16 : decode cX6_turnMerging 16 = .ok (.getfield 12, 3) := by decide +kernel
theorem dX6_turnMerging_19 : decode cX6_turnMerging 19 = .ok (.getfield 84, 3) := by decide +kernel
theorem dX6_turnMerging_22 : decode cX6_turnMerging 22 = .ok (.ifCond .ne 7, 3) := by decide +kernel
theorem dX6_turnMerging_25 : decode cX6_turnMerging 25 = .ok (.iconst 1, 1) := by decide +kernel
theorem dX6_turnMerging_26 : decode cX6_turnMerging 26 = .ok (.goto 4, 3) := by decide +kernel
theorem dX6_turnMerging_29 : decode cX6_turnMerging 29 = .ok (.iconst 0, 1) := by decide +kernel
theorem dX6_turnMerging_30 : decode cX6_turnMerging 30 = .ok (.putfield 84, 3) := by decide +kernel
theorem dX6_turnMerging_33 : decode cX6_turnMerging 33 = .ok (.aload_n 0, 1) := by decide +kernel
theorem dX6_turnMerging_34 : decode cX6_turnMerging 34 = .ok (.getfield 12, 3) := by decide +kernel
theorem dX6_turnMerging_37 : decode cX6_turnMerging 37 = .ok (.getfield 84, 3) := by decide +kernel
theorem dX6_turnMerging_40 : decode cX6_turnMerging 40 = .ok (.ireturn, 1) := by decide +kernel
set_option maxRecDepth 20000 in
theorem ggX6_turnEnding_X0_save : GoodIn wsX6_turnEnding wsX0_save := goodIn_r _ [8, 9, 10, 11, 12, 13, 14, 15, 16, 17, 18, 19, 20, 21, 22, 23, 24, 25, 26, 27, 28, 29, 30, 31, 44, 45, 46, 37, 38, 39, 40, 41, 42, 43] (by decide +kernel) (by decide +kernel)
set_option maxRecDepth 20000 in
theorem gX6_turnEnding_X0_save : GoodIn wsX6_turnEnding (wsV RX6 44 RX0 yX0_save wsX0_save) := goodIn_app (goodIn_of _ (by decide +kernel)) ggX6_turnEnding_X0_save
theorem dX6_turnEnding_0 : decode cX6_turnEnding 0 = .ok (.aload_n 0, 1) := by decide +kernel
theorem dX6_turnEnding_1 : decode cX6_turnEnding 1 = .ok (.getfield 19, 3) := by decide +kernel
theorem dX6_turnEnding_4 : decode cX6_turnEnding 4 = .ok (.aload_n 0, 1) := by decide +kernel
theorem dX6_turnEnding_5 : decode cX6_turnEnding 5 = .ok (.getfield 12, 3) := by decide +kernel
theorem dX6_turnEnding_8 : decode cX6_turnEnding 8 = .ok (.invokevirtual 44, 3) := by decide +kernel
theorem dX6_turnEnding_11 : decode cX6_turnEnding 11 = .ok (.aload_n 0, 1) := by decide +kernel
theorem dX6_turnEnding_12 : decode cX6_turnEnding 12 = .ok (.getfield 12, 3) := by decide +kernel
theorem dX6_turnEnding_15 : decode cX6_turnEnding 15 = .ok (.aload_n 0, 1) := by decide +kernel
theorem dX6_turnEnding_16 : decode cX6_turnEnding 16 = .ok (.getfield 12, 3) := by decide +kernel
theorem dX6_turnEnding_19 : decode cX6_turnEnding 19 = .ok (.getfield 87, 3) := by decide +kernel
theorem dX6_turnEnding_22 : decode cX6_turnEnding 22 = .ok (.ifCond .ne 7, 3) := by decide +kernel
theorem dX6_turnEnding_25 : decode cX6_turnEnding 25 = .ok (.iconst 1, 1) := by decide +kernel
theorem dX6_turnEnding_26 : decode cX6_turnEnding 26 = .ok (.goto 4, 3) := by decide +kernel
theorem dX6_turnEnding_29 : decode cX6_turnEnding 29 = .ok (.iconst 0, 1) := by decide +kernel
theorem dX6_turnEnding_30 : decode cX6_turnEnding 30 = .ok (.putfield 87, 3) := by decide +kernel
theorem dX6_turnEnding_33 : decode cX6_turnEnding 33 = .ok (.aload_n 0, 1) := by decide +kernel
theorem dX6_turnEnding_34 : decode cX6_turnEnding 34 = .ok (.getfield 12, 3) := by decide +kernel
theorem dX6_turnEnding_37 : decode cX6_turnEnding 37 = .ok (.getfield 87, 3) := by decide +kernel
theorem dX6_turnEnding_40 : decode cX6_turnEnding 40 = .ok (.ireturn, 1) := by decide +kernel
set_option maxRecDepth 20000 in
theorem ggX6_take_X6_requireHeap : GoodIn wsX6_take wsX6_requireHeap := goodIn_ca (goodIn_r _ [9, 10, 11, 4, 12, 13, 14, 15, 16, 17, 79, 80, 81, 82, 83, 84, 85, 86, 87, 88, 89, 90] (by decide +kernel) (by decide +kernel)) (goodIn_sub (fun _ h => List.mem_cons_of_mem _ (List.mem_append_left _ (List.mem_append_right _ h))) (by decide +kernel))
set_option maxRecDepth 20000 in
theorem gX6_take_X6_requireHeap : GoodIn wsX6_take (wsV RX6 90 RX6 yX6_requireHeap wsX6_requireHeap) := goodIn_app (goodIn_of _ (by decide +kernel)) ggX6_take_X6_requireHeap
set_option maxRecDepth 20000 in
theorem ggX6_take_X6_requireMove : GoodIn wsX6_take wsX6_requireMove := goodIn_ca (goodIn_r _ [21, 22, 23, 4, 24, 25, 26, 15, 27, 28, 29, 30, 31, 32, 13, 14, 16, 17, 79, 80, 81, 82, 83, 84, 85, 86, 87, 88, 89, 90] (by decide +kernel) (by decide +kernel)) (goodIn_sub (fun _ h => List.mem_cons_of_mem _ (List.mem_append_right _ h)) (by decide +kernel))
set_option maxRecDepth 20000 in
theorem gX6_take_X6_requireMove : GoodIn wsX6_take (wsV RX6 96 RX6 yX6_requireMove wsX6_requireMove) := goodIn_app (goodIn_of _ (by decide +kernel)) ggX6_take_X6_requireMove
set_option maxRecDepth 20000 in
theorem ggX6_take_X0_save : GoodIn wsX6_take wsX0_save := goodIn_r _ [37, 38, 39, 40, 41, 42, 43, 44, 45, 46, 47, 15, 48, 29, 49, 50, 51, 52, 17, 28, 30, 31, 53, 54, 91, 92, 93, 84, 85, 86, 87, 88, 89, 90] (by decide +kernel) (by decide +kernel)
set_option maxRecDepth 20000 in
theorem gX6_take_X0_save : GoodIn wsX6_take (wsV RX6 44 RX0 yX0_save wsX0_save) := goodIn_app (goodIn_of _ (by decide +kernel)) ggX6_take_X0_save
set_option maxRecDepth 20000 in
theorem ggX6_take_X4_carryOut : GoodIn wsX6_take wsX4_carryOut := goodIn_r _ [58, 29, 59, 42, 43, 44, 60, 61, 62, 54, 63, 64, 65, 15, 66, 67, 68, 69, 70, 17, 32, 13, 14, 16, 71, 72, 73, 74, 84, 85, 86, 87, 88, 89, 90] (by decide +kernel) (by decide +kernel)
set_option maxRecDepth 20000 in
theorem gX6_take_X4_carryOut : GoodIn wsX6_take (wsV RX6 100 RX4 yX4_carryOut wsX4_carryOut) := goodIn_app (goodIn_of _ (by decide +kernel)) ggX6_take_X4_carryOut
set_option maxRecDepth 20000 in
theorem ggX6_take_X4_total : GoodIn wsX6_take wsX4_total := goodIn_r _ [78, 17, 29, 84, 85, 86, 87, 88, 89, 90] (by decide +kernel) (by decide +kernel)
set_option maxRecDepth 20000 in
theorem gX6_take_X4_total : GoodIn wsX6_take (wsV RX6 48 RX4 yX4_total wsX4_total) := goodIn_app (goodIn_of _ (by decide +kernel)) ggX6_take_X4_total
theorem dX6_take_0 : decode cX6_take 0 = .ok (.aload_n 0, 1) := by decide +kernel
theorem dX6_take_1 : decode cX6_take 1 = .ok (.iload_n 1, 1) := by decide +kernel
theorem dX6_take_2 : decode cX6_take 2 = .ok (.invokevirtual 90, 3) := by decide +kernel
theorem dX6_take_5 : decode cX6_take 5 = .ok (.iload_n 2, 1) := by decide +kernel
theorem dX6_take_6 : decode cX6_take 6 = .ok (.iconst 1, 1) := by decide +kernel
theorem dX6_take_7 : decode cX6_take 7 = .ok (.if_icmp .lt 8, 3) := by decide +kernel
theorem dX6_take_10 : decode cX6_take 10 = .ok (.iload_n 2, 1) := by decide +kernel
theorem dX6_take_11 : decode cX6_take 11 = .ok (.iconst 5, 1) := by decide +kernel
theorem dX6_take_12 : decode cX6_take 12 = .ok (.if_icmp .le 13, 3) := by decide +kernel
theorem dX6_take_15 : decode cX6_take 15 = .ok (.new 55, 3) := by decide +kernel
theorem dX6_take_18 : decode cX6_take 18 = .ok (.dup, 1) := by decide +kernel
theorem dX6_take_19 : decode cX6_take 19 = .ok (.ldc 94, 2) := by decide +kernel
theorem dX6_take_21 : decode cX6_take 21 = .ok (.invokespecial 59, 3) := by decide +kernel
theorem dX6_take_24 : decode cX6_take 24 = .ok (.athrow, 1) := by decide +kernel
theorem dX6_take_25 : decode cX6_take 25 = .ok (.aload_n 0, 1) := by decide +kernel
theorem dX6_take_26 : decode cX6_take 26 = .ok (.iconst 0, 1) := by decide +kernel
theorem dX6_take_27 : decode cX6_take 27 = .ok (.iload_n 1, 1) := by decide +kernel
theorem dX6_take_28 : decode cX6_take 28 = .ok (.iload_n 2, 1) := by decide +kernel
theorem dX6_take_29 : decode cX6_take 29 = .ok (.invokevirtual 96, 3) := by decide +kernel
theorem dX6_take_32 : decode cX6_take 32 = .ok (.aload_n 0, 1) := by decide +kernel
theorem dX6_take_33 : decode cX6_take 33 = .ok (.getfield 19, 3) := by decide +kernel
theorem dX6_take_36 : decode cX6_take 36 = .ok (.aload_n 0, 1) := by decide +kernel
theorem dX6_take_37 : decode cX6_take 37 = .ok (.getfield 12, 3) := by decide +kernel
theorem dX6_take_40 : decode cX6_take 40 = .ok (.invokevirtual 44, 3) := by decide +kernel
theorem dX6_take_43 : decode cX6_take 43 = .ok (.aload_n 0, 1) := by decide +kernel
theorem dX6_take_44 : decode cX6_take 44 = .ok (.getfield 12, 3) := by decide +kernel
theorem dX6_take_47 : decode cX6_take 47 = .ok (.iconst 0, 1) := by decide +kernel
theorem dX6_take_48 : decode cX6_take 48 = .ok (.iload_n 1, 1) := by decide +kernel
theorem dX6_take_49 : decode cX6_take 49 = .ok (.iload_n 2, 1) := by decide +kernel
theorem dX6_take_50 : decode cX6_take 50 = .ok (.invokevirtual 100, 3) := by decide +kernel
theorem dX6_take_53 : decode cX6_take 53 = .ok (.aload_n 0, 1) := by decide +kernel
theorem dX6_take_54 : decode cX6_take 54 = .ok (.getfield 12, 3) := by decide +kernel
theorem dX6_take_57 : decode cX6_take 57 = .ok (.invokevirtual 48, 3) := by decide +kernel
theorem dX6_take_60 : decode cX6_take 60 = .ok (.ireturn, 1) := by decide +kernel
set_option maxRecDepth 20000 in
theorem ggX6_split_X6_requireHeap : GoodIn wsX6_split wsX6_requireHeap := goodIn_ca (goodIn_r _ [10, 11, 12, 4, 13, 14, 15, 16, 17, 18, 76, 77, 78, 79, 80, 81, 82, 83, 84, 85, 86, 87] (by decide +kernel) (by decide +kernel)) (goodIn_sub (fun _ h => List.mem_cons_of_mem _ (List.mem_append_left _ (List.mem_append_right _ h))) (by decide +kernel))
set_option maxRecDepth 20000 in
theorem gX6_split_X6_requireHeap : GoodIn wsX6_split (wsV RX6 90 RX6 yX6_requireHeap wsX6_requireHeap) := goodIn_app (goodIn_of _ (by decide +kernel)) ggX6_split_X6_requireHeap
set_option maxRecDepth 20000 in
theorem ggX6_split_X6_requireMove : GoodIn wsX6_split wsX6_requireMove := goodIn_ca (goodIn_r _ [22, 23, 24, 4, 25, 26, 27, 16, 28, 29, 30, 31, 32, 33, 14, 15, 17, 18, 76, 77, 78, 79, 80, 81, 82, 83, 84, 85, 86, 87] (by decide +kernel) (by decide +kernel)) (goodIn_sub (fun _ h => List.mem_cons_of_mem _ (List.mem_append_right _ h)) (by decide +kernel))
set_option maxRecDepth 20000 in
theorem gX6_split_X6_requireMove : GoodIn wsX6_split (wsV RX6 96 RX6 yX6_requireMove wsX6_requireMove) := goodIn_app (goodIn_of _ (by decide +kernel)) ggX6_split_X6_requireMove
set_option maxRecDepth 20000 in
theorem ggX6_split_X0_save : GoodIn wsX6_split wsX0_save := goodIn_r _ [38, 39, 40, 41, 42, 43, 44, 45, 46, 47, 48, 16, 49, 30, 50, 51, 52, 53, 18, 29, 31, 32, 54, 55, 88, 89, 90, 81, 82, 83, 84, 85, 86, 87] (by decide +kernel) (by decide +kernel)
set_option maxRecDepth 20000 in
theorem gX6_split_X0_save : GoodIn wsX6_split (wsV RX6 44 RX0 yX0_save wsX0_save) := goodIn_app (goodIn_of _ (by decide +kernel)) ggX6_split_X0_save
set_option maxRecDepth 20000 in
theorem ggX6_split_X4_carryOut : GoodIn wsX6_split wsX4_carryOut := goodIn_r _ [59, 30, 60, 43, 44, 45, 61, 62, 63, 55, 64, 65, 66, 16, 67, 68, 69, 70, 71, 18, 33, 14, 15, 17, 72, 73, 74, 75, 81, 82, 83, 84, 85, 86, 87] (by decide +kernel) (by decide +kernel)
set_option maxRecDepth 20000 in
theorem gX6_split_X4_carryOut : GoodIn wsX6_split (wsV RX6 100 RX4 yX4_carryOut wsX4_carryOut) := goodIn_app (goodIn_of _ (by decide +kernel)) ggX6_split_X4_carryOut
theorem dX6_split_0 : decode cX6_split 0 = .ok (.aload_n 0, 1) := by decide +kernel
theorem dX6_split_1 : decode cX6_split 1 = .ok (.iload_n 1, 1) := by decide +kernel
theorem dX6_split_2 : decode cX6_split 2 = .ok (.invokevirtual 90, 3) := by decide +kernel
theorem dX6_split_5 : decode cX6_split 5 = .ok (.iload_n 2, 1) := by decide +kernel
theorem dX6_split_6 : decode cX6_split 6 = .ok (.iconst 1, 1) := by decide +kernel
theorem dX6_split_7 : decode cX6_split 7 = .ok (.if_icmp .lt 9, 3) := by decide +kernel
theorem dX6_split_10 : decode cX6_split 10 = .ok (.iload_n 2, 1) := by decide +kernel
theorem dX6_split_11 : decode cX6_split 11 = .ok (.bipush 6, 2) := by decide +kernel
theorem dX6_split_13 : decode cX6_split 13 = .ok (.if_icmp .le 13, 3) := by decide +kernel
theorem dX6_split_16 : decode cX6_split 16 = .ok (.new 55, 3) := by decide +kernel
theorem dX6_split_19 : decode cX6_split 19 = .ok (.dup, 1) := by decide +kernel
theorem dX6_split_20 : decode cX6_split 20 = .ok (.ldc 103, 2) := by decide +kernel
theorem dX6_split_22 : decode cX6_split 22 = .ok (.invokespecial 59, 3) := by decide +kernel
theorem dX6_split_25 : decode cX6_split 25 = .ok (.athrow, 1) := by decide +kernel
theorem dX6_split_26 : decode cX6_split 26 = .ok (.aload_n 0, 1) := by decide +kernel
theorem dX6_split_27 : decode cX6_split 27 = .ok (.iconst 1, 1) := by decide +kernel
theorem dX6_split_28 : decode cX6_split 28 = .ok (.iload_n 1, 1) := by decide +kernel
theorem dX6_split_29 : decode cX6_split 29 = .ok (.iload_n 2, 1) := by decide +kernel
theorem dX6_split_30 : decode cX6_split 30 = .ok (.invokevirtual 96, 3) := by decide +kernel
theorem dX6_split_33 : decode cX6_split 33 = .ok (.aload_n 0, 1) := by decide +kernel
theorem dX6_split_34 : decode cX6_split 34 = .ok (.getfield 19, 3) := by decide +kernel
theorem dX6_split_37 : decode cX6_split 37 = .ok (.aload_n 0, 1) := by decide +kernel
theorem dX6_split_38 : decode cX6_split 38 = .ok (.getfield 12, 3) := by decide +kernel
theorem dX6_split_41 : decode cX6_split 41 = .ok (.invokevirtual 44, 3) := by decide +kernel
theorem dX6_split_44 : decode cX6_split 44 = .ok (.aload_n 0, 1) := by decide +kernel
theorem dX6_split_45 : decode cX6_split 45 = .ok (.getfield 12, 3) := by decide +kernel
theorem dX6_split_48 : decode cX6_split 48 = .ok (.iconst 1, 1) := by decide +kernel
theorem dX6_split_49 : decode cX6_split 49 = .ok (.iload_n 1, 1) := by decide +kernel
theorem dX6_split_50 : decode cX6_split 50 = .ok (.iload_n 2, 1) := by decide +kernel
theorem dX6_split_51 : decode cX6_split 51 = .ok (.invokevirtual 100, 3) := by decide +kernel
theorem dX6_split_54 : decode cX6_split 54 = .ok (.aload_n 0, 1) := by decide +kernel
theorem dX6_split_55 : decode cX6_split 55 = .ok (.getfield 12, 3) := by decide +kernel
theorem dX6_split_58 : decode cX6_split 58 = .ok (.getfield 67, 3) := by decide +kernel
theorem dX6_split_61 : decode cX6_split 61 = .ok (.ireturn, 1) := by decide +kernel
set_option maxRecDepth 20000 in
theorem ggX6_merge_X6_requireHeap : GoodIn wsX6_merge wsX6_requireHeap := goodIn_ca (goodIn_r _ [13, 14, 15, 4, 16, 17, 18, 19, 20, 21, 80, 81, 82, 83, 84, 85, 86, 87, 88, 89, 90, 91] (by decide +kernel) (by decide +kernel)) (goodIn_sub (fun _ h => List.mem_cons_of_mem _ (List.mem_append_left _ (List.mem_append_right _ h))) (by decide +kernel))
set_option maxRecDepth 20000 in
theorem gX6_merge_X6_requireHeap : GoodIn wsX6_merge (wsV RX6 90 RX6 yX6_requireHeap wsX6_requireHeap) := goodIn_app (goodIn_of _ (by decide +kernel)) ggX6_merge_X6_requireHeap
set_option maxRecDepth 20000 in
theorem ggX6_merge_X6_requireMove : GoodIn wsX6_merge wsX6_requireMove := goodIn_ca (goodIn_r _ [25, 26, 27, 4, 28, 29, 30, 19, 31, 32, 33, 34, 35, 36, 17, 18, 20, 21, 80, 81, 82, 83, 84, 85, 86, 87, 88, 89, 90, 91] (by decide +kernel) (by decide +kernel)) (goodIn_sub (fun _ h => List.mem_cons_of_mem _ (List.mem_append_right _ h)) (by decide +kernel))
set_option maxRecDepth 20000 in
theorem gX6_merge_X6_requireMove : GoodIn wsX6_merge (wsV RX6 96 RX6 yX6_requireMove wsX6_requireMove) := goodIn_app (goodIn_of _ (by decide +kernel)) ggX6_merge_X6_requireMove
set_option maxRecDepth 20000 in
theorem ggX6_merge_X0_save : GoodIn wsX6_merge wsX0_save := goodIn_r _ [41, 42, 43, 44, 45, 6, 7, 8, 46, 47, 48, 19, 49, 33, 50, 51, 52, 53, 21, 32, 34, 35, 54, 55, 92, 93, 94, 85, 86, 87, 88, 89, 90, 91] (by decide +kernel) (by decide +kernel)
set_option maxRecDepth 20000 in
theorem gX6_merge_X0_save : GoodIn wsX6_merge (wsV RX6 44 RX0 yX0_save wsX0_save) := goodIn_app (goodIn_of _ (by decide +kernel)) ggX6_merge_X0_save
set_option maxRecDepth 20000 in
theorem ggX6_merge_X4_carryOut : GoodIn wsX6_merge wsX4_carryOut := goodIn_r _ [59, 33, 60, 6, 7, 8, 61, 62, 63, 55, 64, 65, 66, 19, 67, 68, 69, 70, 71, 21, 36, 17, 18, 20, 72, 73, 74, 75, 85, 86, 87, 88, 89, 90, 91] (by decide +kernel) (by decide +kernel)
set_option maxRecDepth 20000 in
theorem gX6_merge_X4_carryOut : GoodIn wsX6_merge (wsV RX6 100 RX4 yX4_carryOut wsX4_carryOut) := goodIn_app (goodIn_of _ (by decide +kernel)) ggX6_merge_X4_carryOut
set_option maxRecDepth 20000 in
theorem ggX6_merge_X4_sizeAt : GoodIn wsX6_merge wsX4_sizeAt := goodIn_r _ [79, 33, 36, 17, 18, 19, 20, 21, 85, 86, 87, 88, 89, 90, 91] (by decide +kernel) (by decide +kernel)
set_option maxRecDepth 20000 in
theorem gX6_merge_X4_sizeAt : GoodIn wsX6_merge (wsV RX6 113 RX4 yX4_sizeAt wsX4_sizeAt) := goodIn_app (goodIn_of _ (by decide +kernel)) ggX6_merge_X4_sizeAt
theorem dX6_merge_0 : decode cX6_merge 0 = .ok (.aload_n 0, 1) := by decide +kernel
theorem dX6_merge_1 : decode cX6_merge 1 = .ok (.iload_n 1, 1) := by decide +kernel
theorem dX6_merge_2 : decode cX6_merge 2 = .ok (.invokevirtual 90, 3) := by decide +kernel
theorem dX6_merge_5 : decode cX6_merge 5 = .ok (.aload_n 0, 1) := by decide +kernel
theorem dX6_merge_6 : decode cX6_merge 6 = .ok (.iload_n 2, 1) := by decide +kernel
theorem dX6_merge_7 : decode cX6_merge 7 = .ok (.invokevirtual 90, 3) := by decide +kernel
theorem dX6_merge_10 : decode cX6_merge 10 = .ok (.iload_n 1, 1) := by decide +kernel
theorem dX6_merge_11 : decode cX6_merge 11 = .ok (.iload_n 2, 1) := by decide +kernel
theorem dX6_merge_12 : decode cX6_merge 12 = .ok (.if_icmp .ne 13, 3) := by decide +kernel
theorem dX6_merge_15 : decode cX6_merge 15 = .ok (.new 55, 3) := by decide +kernel
theorem dX6_merge_18 : decode cX6_merge 18 = .ok (.dup, 1) := by decide +kernel
theorem dX6_merge_19 : decode cX6_merge 19 = .ok (.ldc 105, 2) := by decide +kernel
theorem dX6_merge_21 : decode cX6_merge 21 = .ok (.invokespecial 59, 3) := by decide +kernel
theorem dX6_merge_24 : decode cX6_merge 24 = .ok (.athrow, 1) := by decide +kernel
theorem dX6_merge_25 : decode cX6_merge 25 = .ok (.aload_n 0, 1) := by decide +kernel
theorem dX6_merge_26 : decode cX6_merge 26 = .ok (.iconst 2, 1) := by decide +kernel
theorem dX6_merge_27 : decode cX6_merge 27 = .ok (.iload_n 1, 1) := by decide +kernel
theorem dX6_merge_28 : decode cX6_merge 28 = .ok (.iload_n 2, 1) := by decide +kernel
theorem dX6_merge_29 : decode cX6_merge 29 = .ok (.invokevirtual 96, 3) := by decide +kernel
theorem dX6_merge_32 : decode cX6_merge 32 = .ok (.aload_n 0, 1) := by decide +kernel
theorem dX6_merge_33 : decode cX6_merge 33 = .ok (.getfield 19, 3) := by decide +kernel
theorem dX6_merge_36 : decode cX6_merge 36 = .ok (.aload_n 0, 1) := by decide +kernel
theorem dX6_merge_37 : decode cX6_merge 37 = .ok (.getfield 12, 3) := by decide +kernel
theorem dX6_merge_40 : decode cX6_merge 40 = .ok (.invokevirtual 44, 3) := by decide +kernel
theorem dX6_merge_43 : decode cX6_merge 43 = .ok (.aload_n 0, 1) := by decide +kernel
theorem dX6_merge_44 : decode cX6_merge 44 = .ok (.getfield 12, 3) := by decide +kernel
theorem dX6_merge_47 : decode cX6_merge 47 = .ok (.iconst 2, 1) := by decide +kernel
theorem dX6_merge_48 : decode cX6_merge 48 = .ok (.iload_n 1, 1) := by decide +kernel
theorem dX6_merge_49 : decode cX6_merge 49 = .ok (.iload_n 2, 1) := by decide +kernel
theorem dX6_merge_50 : decode cX6_merge 50 = .ok (.invokevirtual 100, 3) := by decide +kernel
theorem dX6_merge_53 : decode cX6_merge 53 = .ok (.aload_n 0, 1) := by decide +kernel
theorem dX6_merge_54 : decode cX6_merge 54 = .ok (.getfield 12, 3) := by decide +kernel
theorem dX6_merge_57 : decode cX6_merge 57 = .ok (.iload_n 1, 1) := by decide +kernel
theorem dX6_merge_58 : decode cX6_merge 58 = .ok (.iload_n 2, 1) := by decide +kernel
theorem dX6_merge_59 : decode cX6_merge 59 = .ok (.invokestatic 107, 3) := by decide +kernel
theorem dX6_merge_62 : decode cX6_merge 62 = .ok (.invokevirtual 113, 3) := by decide +kernel
theorem dX6_merge_65 : decode cX6_merge 65 = .ok (.ireturn, 1) := by decide +kernel
set_option maxRecDepth 20000 in
theorem ggX6_make_X6_requireListed : GoodIn wsX6_make wsX6_requireListed := goodIn_ca (goodIn_r _ [11, 12, 13, 3, 2, 14, 15, 16, 17, 18, 19, 20, 21, 22, 23, 24, 25, 26, 27, 28, 29, 30, 10, 31, 32, 33, 34, 35, 36, 37, 38, 39, 40, 41, 42, 43, 44, 45, 46, 47, 48, 49, 50, 51, 52, 53, 54, 55, 56, 57, 58, 59, 106, 107, 108, 109, 110, 111, 112, 113, 114, 115, 116, 117, 118, 119, 120, 121, 122] (by decide +kernel) (by decide +kernel)) (goodIn_sub (fun _ h => List.mem_cons_of_mem _ (List.mem_append_right _ h)) (by decide +kernel))
set_option maxRecDepth 20000 in
theorem gX6_make_X6_requireListed : GoodIn wsX6_make (wsV RX6 117 RX6 yX6_requireListed wsX6_requireListed) := goodIn_app (goodIn_of _ (by decide +kernel)) ggX6_make_X6_requireListed
set_option maxRecDepth 20000 in
theorem ggX6_make_X0_save : GoodIn wsX6_make wsX0_save := goodIn_r _ [64, 65, 66, 67, 68, 41, 42, 43, 69, 70, 71, 26, 72, 29, 73, 74, 75, 76, 28, 77, 78, 79, 80, 81, 123, 124, 125, 116, 117, 118, 119, 120, 121, 122] (by decide +kernel) (by decide +kernel)
set_option maxRecDepth 20000 in
theorem gX6_make_X0_save : GoodIn wsX6_make (wsV RX6 44 RX0 yX0_save wsX0_save) := goodIn_app (goodIn_of _ (by decide +kernel)) ggX6_make_X0_save
set_option maxRecDepth 20000 in
theorem ggX6_make_X4_carryOut : GoodIn wsX6_make wsX4_carryOut := goodIn_r _ [85, 29, 86, 41, 42, 43, 87, 88, 89, 81, 90, 91, 92, 26, 93, 94, 95, 96, 97, 28, 98, 99, 100, 101, 102, 103, 104, 105, 116, 117, 118, 119, 120, 121, 122] (by decide +kernel) (by decide +kernel)
set_option maxRecDepth 20000 in
theorem gX6_make_X4_carryOut : GoodIn wsX6_make (wsV RX6 100 RX4 yX4_carryOut wsX4_carryOut) := goodIn_app (goodIn_of _ (by decide +kernel)) ggX6_make_X4_carryOut
theorem dX6_make_0 : decode cX6_make 0 = .ok (.aload_n 0, 1) := by decide +kernel
theorem dX6_make_1 : decode cX6_make 1 = .ok (.iload_n 1, 1) := by decide +kernel
theorem dX6_make_2 : decode cX6_make 2 = .ok (.invokevirtual 117, 3) := by decide +kernel
theorem dX6_make_5 : decode cX6_make 5 = .ok (.aload_n 0, 1) := by decide +kernel
theorem dX6_make_6 : decode cX6_make 6 = .ok (.getfield 19, 3) := by decide +kernel
theorem dX6_make_9 : decode cX6_make 9 = .ok (.aload_n 0, 1) := by decide +kernel
theorem dX6_make_10 : decode cX6_make 10 = .ok (.getfield 12, 3) := by decide +kernel
theorem dX6_make_13 : decode cX6_make 13 = .ok (.invokevirtual 44, 3) := by decide +kernel
theorem dX6_make_16 : decode cX6_make 16 = .ok (.aload_n 0, 1) := by decide +kernel
theorem dX6_make_17 : decode cX6_make 17 = .ok (.getfield 26, 3) := by decide +kernel
theorem dX6_make_20 : decode cX6_make 20 = .ok (.getfield 120, 3) := by decide +kernel
theorem dX6_make_23 : decode cX6_make 23 = .ok (.iload_n 1, 1) := by decide +kernel
theorem dX6_make_24 : decode cX6_make 24 = .ok (.iaload, 1) := by decide +kernel
theorem dX6_make_25 : decode cX6_make 25 = .ok (.istore_n 2, 1) := by decide +kernel
theorem dX6_make_26 : decode cX6_make 26 = .ok (.aload_n 0, 1) := by decide +kernel
theorem dX6_make_27 : decode cX6_make 27 = .ok (.getfield 12, 3) := by decide +kernel
theorem dX6_make_30 : decode cX6_make 30 = .ok (.iload_n 2, 1) := by decide +kernel
theorem dX6_make_31 : decode cX6_make 31 = .ok (.aload_n 0, 1) := by decide +kernel
theorem dX6_make_32 : decode cX6_make 32 = .ok (.getfield 26, 3) := by decide +kernel
theorem dX6_make_35 : decode cX6_make 35 = .ok (.getfield 124, 3) := by decide +kernel
theorem dX6_make_38 : decode cX6_make 38 = .ok (.iload_n 1, 1) := by decide +kernel
theorem dX6_make_39 : decode cX6_make 39 = .ok (.iaload, 1) := by decide +kernel
theorem dX6_make_40 : decode cX6_make 40 = .ok (.aload_n 0, 1) := by decide +kernel
theorem dX6_make_41 : decode cX6_make 41 = .ok (.getfield 26, 3) := by decide +kernel
theorem dX6_make_44 : decode cX6_make 44 = .ok (.getfield 127, 3) := by decide +kernel
theorem dX6_make_47 : decode cX6_make 47 = .ok (.iload_n 1, 1) := by decide +kernel
theorem dX6_make_48 : decode cX6_make 48 = .ok (.iaload, 1) := by decide +kernel
theorem dX6_make_49 : decode cX6_make 49 = .ok (.invokevirtual 100, 3) := by decide +kernel
theorem dX6_make_52 : decode cX6_make 52 = .ok (.iload_n 2, 1) := by decide +kernel
theorem dX6_make_53 : decode cX6_make 53 = .ok (.ireturn, 1) := by decide +kernel
theorem dX6_heaps_0 : decode cX6_heaps 0 = .ok (.aload_n 0, 1) := by decide +kernel
theorem dX6_heaps_1 : decode cX6_heaps 1 = .ok (.getfield 12, 3) := by decide +kernel
theorem dX6_heaps_4 : decode cX6_heaps 4 = .ok (.getfield 67, 3) := by decide +kernel
theorem dX6_heaps_7 : decode cX6_heaps 7 = .ok (.ireturn, 1) := by decide +kernel
set_option maxRecDepth 20000 in
theorem ggX6_stonesOf_X6_requireHeap : GoodIn wsX6_stonesOf wsX6_requireHeap := goodIn_ca (goodIn_r _ [6, 7, 8, 1, 9, 10, 11, 12, 13, 14, 21, 22, 23, 24, 25, 26, 27, 28, 29, 30, 31, 32] (by decide +kernel) (by decide +kernel)) (goodIn_sub (fun _ h => List.mem_cons_of_mem _ (List.mem_append_right _ h)) (by decide +kernel))
set_option maxRecDepth 20000 in
theorem gX6_stonesOf_X6_requireHeap : GoodIn wsX6_stonesOf (wsV RX6 90 RX6 yX6_requireHeap wsX6_requireHeap) := goodIn_app (goodIn_of _ (by decide +kernel)) ggX6_stonesOf_X6_requireHeap
set_option maxRecDepth 20000 in
theorem ggX6_stonesOf_X4_sizeAt : GoodIn wsX6_stonesOf wsX4_sizeAt := goodIn_r _ [18, 19, 20, 10, 11, 12, 13, 14, 26, 27, 28, 29, 30, 31, 32] (by decide +kernel) (by decide +kernel)
set_option maxRecDepth 20000 in
theorem gX6_stonesOf_X4_sizeAt : GoodIn wsX6_stonesOf (wsV RX6 113 RX4 yX4_sizeAt wsX4_sizeAt) := goodIn_app (goodIn_of _ (by decide +kernel)) ggX6_stonesOf_X4_sizeAt
theorem dX6_stonesOf_0 : decode cX6_stonesOf 0 = .ok (.aload_n 0, 1) := by decide +kernel
theorem dX6_stonesOf_1 : decode cX6_stonesOf 1 = .ok (.iload_n 1, 1) := by decide +kernel
theorem dX6_stonesOf_2 : decode cX6_stonesOf 2 = .ok (.invokevirtual 90, 3) := by decide +kernel
theorem dX6_stonesOf_5 : decode cX6_stonesOf 5 = .ok (.aload_n 0, 1) := by decide +kernel
theorem dX6_stonesOf_6 : decode cX6_stonesOf 6 = .ok (.getfield 12, 3) := by decide +kernel
theorem dX6_stonesOf_9 : decode cX6_stonesOf 9 = .ok (.iload_n 1, 1) := by decide +kernel
theorem dX6_stonesOf_10 : decode cX6_stonesOf 10 = .ok (.invokevirtual 113, 3) := by decide +kernel
theorem dX6_stonesOf_13 : decode cX6_stonesOf 13 = .ok (.ireturn, 1) := by decide +kernel
set_option maxRecDepth 20000 in
theorem ggX6_stones_X4_total : GoodIn wsX6_stones wsX4_total := goodIn_r _ [6, 7, 8, 14, 15, 16, 17, 18, 19, 20] (by decide +kernel) (by decide +kernel)
set_option maxRecDepth 20000 in
theorem gX6_stones_X4_total : GoodIn wsX6_stones (wsV RX6 48 RX4 yX4_total wsX4_total) := goodIn_app (goodIn_of _ (by decide +kernel)) ggX6_stones_X4_total
theorem dX6_stones_0 : decode cX6_stones 0 = .ok (.aload_n 0, 1) := by decide +kernel
theorem dX6_stones_1 : decode cX6_stones 1 = .ok (.getfield 12, 3) := by decide +kernel
theorem dX6_stones_4 : decode cX6_stones 4 = .ok (.invokevirtual 48, 3) := by decide +kernel
theorem dX6_stones_7 : decode cX6_stones 7 = .ok (.ireturn, 1) := by decide +kernel
theorem dX6_greatestTake_0 : decode cX6_greatestTake 0 = .ok (.aload_n 0, 1) := by decide +kernel
theorem dX6_greatestTake_1 : decode cX6_greatestTake 1 = .ok (.getfield 12, 3) := by decide +kernel
theorem dX6_greatestTake_4 : decode cX6_greatestTake 4 = .ok (.getfield 77, 3) := by decide +kernel
theorem dX6_greatestTake_7 : decode cX6_greatestTake 7 = .ok (.ireturn, 1) := by decide +kernel
theorem dX6_isSplitting_0 : decode cX6_isSplitting 0 = .ok (.aload_n 0, 1) := by decide +kernel
theorem dX6_isSplitting_1 : decode cX6_isSplitting 1 = .ok (.getfield 12, 3) := by decide +kernel
theorem dX6_isSplitting_4 : decode cX6_isSplitting 4 = .ok (.getfield 80, 3) := by decide +kernel
theorem dX6_isSplitting_7 : decode cX6_isSplitting 7 = .ok (.ireturn, 1) := by decide +kernel
theorem dX6_isMerging_0 : decode cX6_isMerging 0 = .ok (.aload_n 0, 1) := by decide +kernel
theorem dX6_isMerging_1 : decode cX6_isMerging 1 = .ok (.getfield 12, 3) := by decide +kernel
theorem dX6_isMerging_4 : decode cX6_isMerging 4 = .ok (.getfield 84, 3) := by decide +kernel
theorem dX6_isMerging_7 : decode cX6_isMerging 7 = .ok (.ireturn, 1) := by decide +kernel
theorem dX6_isNormal_0 : decode cX6_isNormal 0 = .ok (.aload_n 0, 1) := by decide +kernel
theorem dX6_isNormal_1 : decode cX6_isNormal 1 = .ok (.getfield 12, 3) := by decide +kernel
theorem dX6_isNormal_4 : decode cX6_isNormal 4 = .ok (.getfield 87, 3) := by decide +kernel
theorem dX6_isNormal_7 : decode cX6_isNormal 7 = .ok (.ireturn, 1) := by decide +kernel
set_option maxRecDepth 20000 in
theorem ggX6_player_X6_made : GoodIn wsX6_player wsX6_made := goodIn_r _ [5, 6, 7, 8, 9, 10, 11, 12, 13, 14, 15, 16, 17, 18, 19] (by decide +kernel) (by decide +kernel)
set_option maxRecDepth 20000 in
theorem gX6_player_X6_made : GoodIn wsX6_player (wsV RX6 130 RX6 yX6_made wsX6_made) := goodIn_app (goodIn_of _ (by decide +kernel)) ggX6_player_X6_made
theorem dX6_player_0 : decode cX6_player 0 = .ok (.aload_n 0, 1) := by decide +kernel
theorem dX6_player_1 : decode cX6_player 1 = .ok (.invokevirtual 130, 3) := by decide +kernel
theorem dX6_player_4 : decode cX6_player 4 = .ok (.iconst 2, 1) := by decide +kernel
theorem dX6_player_5 : decode cX6_player 5 = .ok (.irem, 1) := by decide +kernel
theorem dX6_player_6 : decode cX6_player 6 = .ok (.ireturn, 1) := by decide +kernel
theorem dX6_made_0 : decode cX6_made 0 = .ok (.aload_n 0, 1) := by decide +kernel
theorem dX6_made_1 : decode cX6_made 1 = .ok (.getfield 12, 3) := by decide +kernel
theorem dX6_made_4 : decode cX6_made 4 = .ok (.getfield 133, 3) := by decide +kernel
theorem dX6_made_7 : decode cX6_made 7 = .ok (.iconst 0, 1) := by decide +kernel
theorem dX6_made_8 : decode cX6_made 8 = .ok (.iaload, 1) := by decide +kernel
theorem dX6_made_9 : decode cX6_made 9 = .ok (.aload_n 0, 1) := by decide +kernel
theorem dX6_made_10 : decode cX6_made 10 = .ok (.getfield 12, 3) := by decide +kernel
theorem dX6_made_13 : decode cX6_made 13 = .ok (.getfield 133, 3) := by decide +kernel
theorem dX6_made_16 : decode cX6_made 16 = .ok (.iconst 1, 1) := by decide +kernel
theorem dX6_made_17 : decode cX6_made 17 = .ok (.iaload, 1) := by decide +kernel
theorem dX6_made_18 : decode cX6_made 18 = .ok (.iadd, 1) := by decide +kernel
theorem dX6_made_19 : decode cX6_made 19 = .ok (.aload_n 0, 1) := by decide +kernel
theorem dX6_made_20 : decode cX6_made 20 = .ok (.getfield 12, 3) := by decide +kernel
theorem dX6_made_23 : decode cX6_made 23 = .ok (.getfield 133, 3) := by decide +kernel
theorem dX6_made_26 : decode cX6_made 26 = .ok (.iconst 2, 1) := by decide +kernel
theorem dX6_made_27 : decode cX6_made 27 = .ok (.iaload, 1) := by decide +kernel
theorem dX6_made_28 : decode cX6_made 28 = .ok (.iadd, 1) := by decide +kernel
theorem dX6_made_29 : decode cX6_made 29 = .ok (.ireturn, 1) := by decide +kernel
theorem dX6_madeOf_0 : decode cX6_madeOf 0 = .ok (.iload_n 1, 1) := by decide +kernel
theorem dX6_madeOf_1 : decode cX6_madeOf 1 = .ok (.ifCond .lt 8, 3) := by decide +kernel
theorem dX6_madeOf_4 : decode cX6_madeOf 4 = .ok (.iload_n 1, 1) := by decide +kernel
theorem dX6_madeOf_5 : decode cX6_madeOf 5 = .ok (.iconst 3, 1) := by decide +kernel
theorem dX6_madeOf_6 : decode cX6_madeOf 6 = .ok (.if_icmp .lt 13, 3) := by decide +kernel
theorem dX6_madeOf_9 : decode cX6_madeOf 9 = .ok (.new 55, 3) := by decide +kernel
theorem dX6_madeOf_12 : decode cX6_madeOf 12 = .ok (.dup, 1) := by decide +kernel
theorem dX6_madeOf_13 : decode cX6_madeOf 13 = .ok (.ldc 136, 2) := by decide +kernel
theorem dX6_madeOf_15 : decode cX6_madeOf 15 = .ok (.invokespecial 59, 3) := by decide +kernel
theorem dX6_madeOf_18 : decode cX6_madeOf 18 = .ok (.athrow, 1) := by decide +kernel
theorem dX6_madeOf_19 : decode cX6_madeOf 19 = .ok (.aload_n 0, 1) := by decide +kernel
theorem dX6_madeOf_20 : decode cX6_madeOf 20 = .ok (.getfield 12, 3) := by decide +kernel
theorem dX6_madeOf_23 : decode cX6_madeOf 23 = .ok (.getfield 133, 3) := by decide +kernel
theorem dX6_madeOf_26 : decode cX6_madeOf 26 = .ok (.iload_n 1, 1) := by decide +kernel
theorem dX6_madeOf_27 : decode cX6_madeOf 27 = .ok (.iaload, 1) := by decide +kernel
theorem dX6_madeOf_28 : decode cX6_madeOf 28 = .ok (.ireturn, 1) := by decide +kernel
set_option maxRecDepth 20000 in
theorem ggX6_winner_X6_made : GoodIn wsX6_winner wsX6_made := goodIn_r _ [8, 1, 9, 14, 15, 16, 17, 18, 19, 20, 21, 22, 23, 24, 25] (by decide +kernel) (by decide +kernel)
set_option maxRecDepth 20000 in
theorem gX6_winner_X6_made : GoodIn wsX6_winner (wsV RX6 130 RX6 yX6_made wsX6_made) := goodIn_app (goodIn_of _ (by decide +kernel)) ggX6_winner_X6_made
set_option maxRecDepth 20000 in
theorem ggX6_winner_X6_player : GoodIn wsX6_winner wsX6_player := goodIn_r _ [13, 4, 5, 6, 7, 8, 1, 9, 14, 15, 16, 17, 18, 19, 20, 21, 22, 23, 24, 25] (by decide +kernel) (by decide +kernel)
set_option maxRecDepth 20000 in
theorem gX6_winner_X6_player : GoodIn wsX6_winner (wsV RX6 138 RX6 yX6_player wsX6_player) := goodIn_app (goodIn_of _ (by decide +kernel)) ggX6_winner_X6_player
theorem dX6_winner_0 : decode cX6_winner 0 = .ok (.aload_n 0, 1) := by decide +kernel
theorem dX6_winner_1 : decode cX6_winner 1 = .ok (.getfield 12, 3) := by decide +kernel
theorem dX6_winner_4 : decode cX6_winner 4 = .ok (.getfield 67, 3) := by decide +kernel
theorem dX6_winner_7 : decode cX6_winner 7 = .ok (.ifCond .gt 10, 3) := by decide +kernel
theorem dX6_winner_10 : decode cX6_winner 10 = .ok (.aload_n 0, 1) := by decide +kernel
theorem dX6_winner_11 : decode cX6_winner 11 = .ok (.invokevirtual 130, 3) := by decide +kernel
theorem dX6_winner_14 : decode cX6_winner 14 = .ok (.ifCond .ne 5, 3) := by decide +kernel
theorem dX6_winner_17 : decode cX6_winner 17 = .ok (.iconst (-1), 1) := by decide +kernel
theorem dX6_winner_18 : decode cX6_winner 18 = .ok (.ireturn, 1) := by decide +kernel
theorem dX6_winner_19 : decode cX6_winner 19 = .ok (.aload_n 0, 1) := by decide +kernel
theorem dX6_winner_20 : decode cX6_winner 20 = .ok (.getfield 12, 3) := by decide +kernel
theorem dX6_winner_23 : decode cX6_winner 23 = .ok (.getfield 87, 3) := by decide +kernel
theorem dX6_winner_26 : decode cX6_winner 26 = .ok (.ifCond .eq 12, 3) := by decide +kernel
theorem dX6_winner_29 : decode cX6_winner 29 = .ok (.iconst 1, 1) := by decide +kernel
theorem dX6_winner_30 : decode cX6_winner 30 = .ok (.aload_n 0, 1) := by decide +kernel
theorem dX6_winner_31 : decode cX6_winner 31 = .ok (.invokevirtual 138, 3) := by decide +kernel
theorem dX6_winner_34 : decode cX6_winner 34 = .ok (.isub, 1) := by decide +kernel
theorem dX6_winner_35 : decode cX6_winner 35 = .ok (.goto 7, 3) := by decide +kernel
theorem dX6_winner_38 : decode cX6_winner 38 = .ok (.aload_n 0, 1) := by decide +kernel
theorem dX6_winner_39 : decode cX6_winner 39 = .ok (.invokevirtual 138, 3) := by decide +kernel
theorem dX6_winner_42 : decode cX6_winner 42 = .ok (.ireturn, 1) := by decide +kernel
set_option maxRecDepth 20000 in
theorem ggX6_moves_X1_fill : GoodIn wsX6_moves wsX1_fill := goodIn_r _ [8, 9, 10, 11, 12, 13, 14, 15, 16, 17, 18, 19, 20, 21, 22, 23, 24, 25, 7, 26, 27, 28, 29, 30, 31, 32, 33, 34, 35, 36, 37, 38, 39, 40, 41, 42, 43, 44, 45, 46, 47, 48, 49, 55, 56, 57, 58, 59, 60, 61, 62, 63, 64, 65, 66] (by decide +kernel) (by decide +kernel)
set_option maxRecDepth 20000 in
theorem gX6_moves_X1_fill : GoodIn wsX6_moves (wsV RX6 141 RX1 yX1_fill wsX1_fill) := goodIn_app (goodIn_of _ (by decide +kernel)) ggX6_moves_X1_fill
theorem dX6_moves_0 : decode cX6_moves 0 = .ok (.aload_n 0, 1) := by decide +kernel
theorem dX6_moves_1 : decode cX6_moves 1 = .ok (.getfield 26, 3) := by decide +kernel
theorem dX6_moves_4 : decode cX6_moves 4 = .ok (.aload_n 0, 1) := by decide +kernel
theorem dX6_moves_5 : decode cX6_moves 5 = .ok (.getfield 12, 3) := by decide +kernel
theorem dX6_moves_8 : decode cX6_moves 8 = .ok (.invokevirtual 141, 3) := by decide +kernel
theorem dX6_moves_11 : decode cX6_moves 11 = .ok (.aload_n 0, 1) := by decide +kernel
theorem dX6_moves_12 : decode cX6_moves 12 = .ok (.getfield 26, 3) := by decide +kernel
theorem dX6_moves_15 : decode cX6_moves 15 = .ok (.getfield 144, 3) := by decide +kernel
theorem dX6_moves_18 : decode cX6_moves 18 = .ok (.ireturn, 1) := by decide +kernel
set_option maxRecDepth 20000 in
theorem ggX6_kindOf_X6_requireListed : GoodIn wsX6_kindOf wsX6_requireListed := goodIn_ca (goodIn_r _ [7, 8, 9, 1, 10, 11, 12, 13, 14, 15, 16, 17, 18, 19, 20, 21, 22, 23, 24, 25, 26, 27, 6, 28, 29, 30, 31, 32, 33, 34, 35, 36, 37, 38, 39, 40, 41, 42, 43, 44, 45, 46, 47, 48, 49, 50, 51, 52, 53, 54, 55, 56, 57, 58, 59, 60, 61, 62, 63, 64, 65, 66, 67, 68, 69, 70, 71, 72, 73] (by decide +kernel) (by decide +kernel)) (goodIn_sub (fun _ h => List.mem_cons_of_mem _ (List.mem_append_right _ h)) (by decide +kernel))
set_option maxRecDepth 20000 in
theorem gX6_kindOf_X6_requireListed : GoodIn wsX6_kindOf (wsV RX6 117 RX6 yX6_requireListed wsX6_requireListed) := goodIn_app (goodIn_of _ (by decide +kernel)) ggX6_kindOf_X6_requireListed
theorem dX6_kindOf_0 : decode cX6_kindOf 0 = .ok (.aload_n 0, 1) := by decide +kernel
theorem dX6_kindOf_1 : decode cX6_kindOf 1 = .ok (.iload_n 1, 1) := by decide +kernel
theorem dX6_kindOf_2 : decode cX6_kindOf 2 = .ok (.invokevirtual 117, 3) := by decide +kernel
theorem dX6_kindOf_5 : decode cX6_kindOf 5 = .ok (.aload_n 0, 1) := by decide +kernel
theorem dX6_kindOf_6 : decode cX6_kindOf 6 = .ok (.getfield 26, 3) := by decide +kernel
theorem dX6_kindOf_9 : decode cX6_kindOf 9 = .ok (.getfield 120, 3) := by decide +kernel
theorem dX6_kindOf_12 : decode cX6_kindOf 12 = .ok (.iload_n 1, 1) := by decide +kernel
theorem dX6_kindOf_13 : decode cX6_kindOf 13 = .ok (.iaload, 1) := by decide +kernel
theorem dX6_kindOf_14 : decode cX6_kindOf 14 = .ok (.ireturn, 1) := by decide +kernel
set_option maxRecDepth 20000 in
theorem ggX6_heapOf_X6_requireListed : GoodIn wsX6_heapOf wsX6_requireListed := goodIn_ca (goodIn_r _ [7, 8, 9, 1, 10, 11, 12, 13, 14, 15, 16, 17, 18, 19, 20, 21, 22, 23, 24, 25, 26, 27, 6, 28, 29, 30, 31, 32, 33, 34, 35, 36, 37, 38, 39, 40, 41, 42, 43, 44, 45, 46, 47, 48, 49, 50, 51, 52, 53, 54, 55, 56, 57, 58, 59, 60, 61, 62, 63, 64, 65, 66, 67, 68, 69, 70, 71, 72, 73] (by decide +kernel) (by decide +kernel)) (goodIn_sub (fun _ h => List.mem_cons_of_mem _ (List.mem_append_right _ h)) (by decide +kernel))
set_option maxRecDepth 20000 in
theorem gX6_heapOf_X6_requireListed : GoodIn wsX6_heapOf (wsV RX6 117 RX6 yX6_requireListed wsX6_requireListed) := goodIn_app (goodIn_of _ (by decide +kernel)) ggX6_heapOf_X6_requireListed
theorem dX6_heapOf_0 : decode cX6_heapOf 0 = .ok (.aload_n 0, 1) := by decide +kernel
theorem dX6_heapOf_1 : decode cX6_heapOf 1 = .ok (.iload_n 1, 1) := by decide +kernel
theorem dX6_heapOf_2 : decode cX6_heapOf 2 = .ok (.invokevirtual 117, 3) := by decide +kernel
theorem dX6_heapOf_5 : decode cX6_heapOf 5 = .ok (.aload_n 0, 1) := by decide +kernel
theorem dX6_heapOf_6 : decode cX6_heapOf 6 = .ok (.getfield 26, 3) := by decide +kernel
theorem dX6_heapOf_9 : decode cX6_heapOf 9 = .ok (.getfield 124, 3) := by decide +kernel
theorem dX6_heapOf_12 : decode cX6_heapOf 12 = .ok (.iload_n 1, 1) := by decide +kernel
theorem dX6_heapOf_13 : decode cX6_heapOf 13 = .ok (.iaload, 1) := by decide +kernel
theorem dX6_heapOf_14 : decode cX6_heapOf 14 = .ok (.ireturn, 1) := by decide +kernel
set_option maxRecDepth 20000 in
theorem ggX6_amountOf_X6_requireListed : GoodIn wsX6_amountOf wsX6_requireListed := goodIn_ca (goodIn_r _ [7, 8, 9, 1, 10, 11, 12, 13, 14, 15, 16, 17, 18, 19, 20, 21, 22, 23, 24, 25, 26, 27, 6, 28, 29, 30, 31, 32, 33, 34, 35, 36, 37, 38, 39, 40, 41, 42, 43, 44, 45, 46, 47, 48, 49, 50, 51, 52, 53, 54, 55, 56, 57, 58, 59, 60, 61, 62, 63, 64, 65, 66, 67, 68, 69, 70, 71, 72, 73] (by decide +kernel) (by decide +kernel)) (goodIn_sub (fun _ h => List.mem_cons_of_mem _ (List.mem_append_right _ h)) (by decide +kernel))
set_option maxRecDepth 20000 in
theorem gX6_amountOf_X6_requireListed : GoodIn wsX6_amountOf (wsV RX6 117 RX6 yX6_requireListed wsX6_requireListed) := goodIn_app (goodIn_of _ (by decide +kernel)) ggX6_amountOf_X6_requireListed
theorem dX6_amountOf_0 : decode cX6_amountOf 0 = .ok (.aload_n 0, 1) := by decide +kernel
theorem dX6_amountOf_1 : decode cX6_amountOf 1 = .ok (.iload_n 1, 1) := by decide +kernel
theorem dX6_amountOf_2 : decode cX6_amountOf 2 = .ok (.invokevirtual 117, 3) := by decide +kernel
theorem dX6_amountOf_5 : decode cX6_amountOf 5 = .ok (.aload_n 0, 1) := by decide +kernel
theorem dX6_amountOf_6 : decode cX6_amountOf 6 = .ok (.getfield 26, 3) := by decide +kernel
theorem dX6_amountOf_9 : decode cX6_amountOf 9 = .ok (.getfield 127, 3) := by decide +kernel
theorem dX6_amountOf_12 : decode cX6_amountOf 12 = .ok (.iload_n 1, 1) := by decide +kernel
theorem dX6_amountOf_13 : decode cX6_amountOf 13 = .ok (.iaload, 1) := by decide +kernel
theorem dX6_amountOf_14 : decode cX6_amountOf 14 = .ok (.ireturn, 1) := by decide +kernel
set_option maxRecDepth 20000 in
theorem ggX6_number_X3_solve : GoodIn wsX6_number wsX3_solve := goodIn_r _ [8, 9, 10, 11, 12, 13, 14, 15, 16, 17, 18, 19, 20, 21, 22, 23, 24, 25, 26, 27, 28, 29, 30, 31, 32, 33, 34, 35, 36, 37, 38, 39, 40, 41, 42, 43, 44, 45, 46, 47, 48, 49, 50, 51, 52, 53, 54, 55, 56, 57, 7, 58, 59, 60, 61, 62, 63, 64, 65, 66, 67, 68, 69, 70, 71, 72, 73, 74, 75, 76, 77, 78, 79, 80, 81, 82, 83, 84, 85, 86, 87, 88, 89, 90, 91, 92, 93, 94, 95, 96, 97, 98, 99, 100, 101, 102, 103, 104, 105, 106, 107, 108, 109, 110, 111, 112, 113, 114, 115, 116, 117, 118, 119, 120, 121, 122, 123, 124, 125, 126, 127, 128, 129, 130, 131, 132, 133, 145, 146, 147, 140, 141, 142, 143, 144, 148, 149, 150, 151, 152, 153, 154, 155, 156, 157, 158, 159] (by decide +kernel) (by decide +kernel)
set_option maxRecDepth 20000 in
theorem gX6_number_X3_solve : GoodIn wsX6_number (wsV RX6 145 RX3 yX3_solve wsX3_solve) := goodIn_app (goodIn_of _ (by decide +kernel)) ggX6_number_X3_solve
set_option maxRecDepth 20000 in
theorem ggX6_number_X4_slot : GoodIn wsX6_number wsX4_slot := goodIn_r _ [84, 43, 44, 85, 24, 86, 87, 148, 149, 150, 151, 152, 153, 154] (by decide +kernel) (by decide +kernel)
set_option maxRecDepth 20000 in
theorem gX6_number_X4_slot : GoodIn wsX6_number (wsV RX6 154 RX4 yX4_slot wsX4_slot) := goodIn_app (goodIn_of _ (by decide +kernel)) ggX6_number_X4_slot
theorem dX6_number_0 : decode cX6_number 0 = .ok (.aload_n 0, 1) := by decide +kernel
theorem dX6_number_1 : decode cX6_number 1 = .ok (.getfield 33, 3) := by decide +kernel
theorem dX6_number_4 : decode cX6_number 4 = .ok (.aload_n 0, 1) := by decide +kernel
theorem dX6_number_5 : decode cX6_number 5 = .ok (.getfield 12, 3) := by decide +kernel
theorem dX6_number_8 : decode cX6_number 8 = .ok (.invokevirtual 145, 3) := by decide +kernel
theorem dX6_number_11 : decode cX6_number 11 = .ok (.getfield 149, 3) := by decide +kernel
theorem dX6_number_14 : decode cX6_number 14 = .ok (.aload_n 0, 1) := by decide +kernel
theorem dX6_number_15 : decode cX6_number 15 = .ok (.getfield 12, 3) := by decide +kernel
theorem dX6_number_18 : decode cX6_number 18 = .ok (.invokevirtual 154, 3) := by decide +kernel
theorem dX6_number_21 : decode cX6_number 21 = .ok (.iaload, 1) := by decide +kernel
theorem dX6_number_22 : decode cX6_number 22 = .ok (.ireturn, 1) := by decide +kernel
set_option maxRecDepth 20000 in
theorem ggX6_numberByHeaps_X3_solve : GoodIn wsX6_numberByHeaps wsX3_solve := goodIn_r _ [9, 10, 11, 12, 13, 14, 15, 16, 17, 18, 19, 20, 21, 22, 23, 24, 25, 26, 27, 28, 29, 30, 31, 32, 33, 34, 35, 36, 37, 38, 39, 40, 41, 42, 43, 44, 45, 46, 47, 48, 49, 50, 51, 52, 53, 54, 55, 56, 57, 58, 8, 59, 60, 61, 62, 63, 64, 65, 66, 67, 68, 69, 70, 71, 72, 73, 74, 75, 76, 77, 78, 79, 80, 81, 82, 83, 84, 85, 86, 87, 88, 89, 90, 91, 92, 93, 94, 95, 96, 97, 98, 99, 100, 101, 102, 103, 104, 105, 106, 107, 108, 109, 110, 111, 112, 113, 114, 115, 116, 117, 118, 119, 120, 121, 122, 123, 124, 125, 126, 127, 128, 129, 130, 131, 132, 133, 134, 161, 162, 163, 156, 157, 158, 159, 160, 149, 150, 151, 152, 153, 154, 155, 164, 165, 166, 167, 168] (by decide +kernel) (by decide +kernel)
set_option maxRecDepth 20000 in
theorem gX6_numberByHeaps_X3_solve : GoodIn wsX6_numberByHeaps (wsV RX6 145 RX3 yX3_solve wsX3_solve) := goodIn_app (goodIn_of _ (by decide +kernel)) ggX6_numberByHeaps_X3_solve
set_option maxRecDepth 20000 in
theorem ggX6_numberByHeaps_X4_sizeAt : GoodIn wsX6_numberByHeaps wsX4_sizeAt := goodIn_r _ [138, 45, 139, 140, 141, 19, 142, 44, 149, 150, 151, 152, 153, 154, 155] (by decide +kernel) (by decide +kernel)
set_option maxRecDepth 20000 in
theorem gX6_numberByHeaps_X4_sizeAt : GoodIn wsX6_numberByHeaps (wsV RX6 113 RX4 yX4_sizeAt wsX4_sizeAt) := goodIn_app (goodIn_of _ (by decide +kernel)) ggX6_numberByHeaps_X4_sizeAt
set_option maxRecDepth 20000 in
theorem ggX6_numberByHeaps_X6_weightOf : GoodIn wsX6_numberByHeaps wsX6_weightOf := goodIn_r _ [87, 88] (by decide +kernel) (by decide +kernel)
set_option maxRecDepth 20000 in
theorem gX6_numberByHeaps_X6_weightOf : GoodIn wsX6_numberByHeaps (va_wsS RX6 157 yX6_weightOf wsX6_weightOf) := goodIn_app (goodIn_of _ (by decide +kernel)) ggX6_numberByHeaps_X6_weightOf
theorem dX6_numberByHeaps_0 : decode cX6_numberByHeaps 0 = .ok (.aload_n 0, 1) := by decide +kernel
theorem dX6_numberByHeaps_1 : decode cX6_numberByHeaps 1 = .ok (.getfield 33, 3) := by decide +kernel
theorem dX6_numberByHeaps_4 : decode cX6_numberByHeaps 4 = .ok (.aload_n 0, 1) := by decide +kernel
theorem dX6_numberByHeaps_5 : decode cX6_numberByHeaps 5 = .ok (.getfield 12, 3) := by decide +kernel
theorem dX6_numberByHeaps_8 : decode cX6_numberByHeaps 8 = .ok (.invokevirtual 145, 3) := by decide +kernel
theorem dX6_numberByHeaps_11 : decode cX6_numberByHeaps 11 = .ok (.astore_n 1, 1) := by decide +kernel
theorem dX6_numberByHeaps_12 : decode cX6_numberByHeaps 12 = .ok (.iconst 0, 1) := by decide +kernel
theorem dX6_numberByHeaps_13 : decode cX6_numberByHeaps 13 = .ok (.istore_n 2, 1) := by decide +kernel
theorem dX6_numberByHeaps_14 : decode cX6_numberByHeaps 14 = .ok (.iconst 0, 1) := by decide +kernel
theorem dX6_numberByHeaps_15 : decode cX6_numberByHeaps 15 = .ok (.istore_n 3, 1) := by decide +kernel
theorem dX6_numberByHeaps_16 : decode cX6_numberByHeaps 16 = .ok (.iload_n 3, 1) := by decide +kernel
theorem dX6_numberByHeaps_17 : decode cX6_numberByHeaps 17 = .ok (.aload_n 0, 1) := by decide +kernel
theorem dX6_numberByHeaps_18 : decode cX6_numberByHeaps 18 = .ok (.getfield 12, 3) := by decide +kernel
theorem dX6_numberByHeaps_21 : decode cX6_numberByHeaps 21 = .ok (.getfield 67, 3) := by decide +kernel
theorem dX6_numberByHeaps_24 : decode cX6_numberByHeaps 24 = .ok (.if_icmp .ge 28, 3) := by decide +kernel
theorem dX6_numberByHeaps_27 : decode cX6_numberByHeaps 27 = .ok (.iload_n 2, 1) := by decide +kernel
theorem dX6_numberByHeaps_28 : decode cX6_numberByHeaps 28 = .ok (.aload_n 1, 1) := by decide +kernel
theorem dX6_numberByHeaps_29 : decode cX6_numberByHeaps 29 = .ok (.getfield 149, 3) := by decide +kernel
theorem dX6_numberByHeaps_32 : decode cX6_numberByHeaps 32 = .ok (.aload_n 0, 1) := by decide +kernel
theorem dX6_numberByHeaps_33 : decode cX6_numberByHeaps 33 = .ok (.getfield 12, 3) := by decide +kernel
theorem dX6_numberByHeaps_36 : decode cX6_numberByHeaps 36 = .ok (.iload_n 3, 1) := by decide +kernel
theorem dX6_numberByHeaps_37 : decode cX6_numberByHeaps 37 = .ok (.invokevirtual 113, 3) := by decide +kernel
theorem dX6_numberByHeaps_40 : decode cX6_numberByHeaps 40 = .ok (.invokestatic 157, 3) := by decide +kernel
theorem dX6_numberByHeaps_43 : decode cX6_numberByHeaps 43 = .ok (.iaload, 1) := by decide +kernel
theorem dX6_numberByHeaps_44 : decode cX6_numberByHeaps 44 = .ok (.ixor, 1) := by decide +kernel
theorem dX6_numberByHeaps_45 : decode cX6_numberByHeaps 45 = .ok (.istore_n 2, 1) := by decide +kernel
theorem dX6_numberByHeaps_46 : decode cX6_numberByHeaps 46 = .ok (.iinc 3 1, 3) := by decide +kernel
theorem dX6_numberByHeaps_49 : decode cX6_numberByHeaps 49 = .ok (.goto (-33), 3) := by decide +kernel
theorem dX6_numberByHeaps_52 : decode cX6_numberByHeaps 52 = .ok (.iload_n 2, 1) := by decide +kernel
theorem dX6_numberByHeaps_53 : decode cX6_numberByHeaps 53 = .ok (.ireturn, 1) := by decide +kernel
set_option maxRecDepth 20000 in
theorem ggX6_isWon_X3_solve : GoodIn wsX6_isWon wsX3_solve := goodIn_r _ [8, 9, 10, 11, 12, 13, 14, 15, 16, 17, 18, 19, 20, 21, 22, 23, 24, 25, 26, 27, 28, 29, 30, 31, 32, 33, 34, 35, 36, 37, 38, 39, 40, 41, 42, 43, 44, 45, 46, 47, 48, 49, 50, 51, 52, 53, 54, 55, 56, 57, 7, 58, 59, 60, 61, 62, 63, 64, 65, 66, 67, 68, 69, 70, 71, 72, 73, 74, 75, 76, 77, 78, 79, 80, 81, 82, 83, 84, 85, 86, 87, 88, 89, 90, 91, 92, 93, 94, 95, 96, 97, 98, 99, 100, 101, 102, 103, 104, 105, 106, 107, 108, 109, 110, 111, 112, 113, 114, 115, 116, 117, 118, 119, 120, 121, 122, 123, 124, 125, 126, 127, 128, 129, 130, 131, 132, 133, 151, 152, 153, 154, 155, 156, 157, 158, 144, 145, 146, 147, 148, 149, 150, 159, 160, 161, 162, 163] (by decide +kernel) (by decide +kernel)
set_option maxRecDepth 20000 in
theorem gX6_isWon_X3_solve : GoodIn wsX6_isWon (wsV RX6 145 RX3 yX3_solve wsX3_solve) := goodIn_app (goodIn_of _ (by decide +kernel)) ggX6_isWon_X3_solve
set_option maxRecDepth 20000 in
theorem ggX6_isWon_X4_slot : GoodIn wsX6_isWon wsX4_slot := goodIn_r _ [84, 43, 44, 85, 24, 86, 87, 144, 145, 146, 147, 148, 149, 150] (by decide +kernel) (by decide +kernel)
set_option maxRecDepth 20000 in
theorem gX6_isWon_X4_slot : GoodIn wsX6_isWon (wsV RX6 154 RX4 yX4_slot wsX4_slot) := goodIn_app (goodIn_of _ (by decide +kernel)) ggX6_isWon_X4_slot
set_option maxRecDepth 20000 in
theorem ggX6_isWon_X2_isWonAt : GoodIn wsX6_isWon wsX2_isWonAt := goodIn_r _ [138, 33, 37, 154, 155, 156, 157, 158] (by decide +kernel) (by decide +kernel)
set_option maxRecDepth 20000 in
theorem gX6_isWon_X2_isWonAt : GoodIn wsX6_isWon (wsV RX6 160 RX2 yX2_isWonAt wsX2_isWonAt) := goodIn_app (goodIn_of _ (by decide +kernel)) ggX6_isWon_X2_isWonAt
theorem dX6_isWon_0 : decode cX6_isWon 0 = .ok (.aload_n 0, 1) := by decide +kernel
theorem dX6_isWon_1 : decode cX6_isWon 1 = .ok (.getfield 33, 3) := by decide +kernel
theorem dX6_isWon_4 : decode cX6_isWon 4 = .ok (.aload_n 0, 1) := by decide +kernel
theorem dX6_isWon_5 : decode cX6_isWon 5 = .ok (.getfield 12, 3) := by decide +kernel
theorem dX6_isWon_8 : decode cX6_isWon 8 = .ok (.invokevirtual 145, 3) := by decide +kernel
theorem dX6_isWon_11 : decode cX6_isWon 11 = .ok (.aload_n 0, 1) := by decide +kernel
theorem dX6_isWon_12 : decode cX6_isWon 12 = .ok (.getfield 12, 3) := by decide +kernel
theorem dX6_isWon_15 : decode cX6_isWon 15 = .ok (.invokevirtual 154, 3) := by decide +kernel
theorem dX6_isWon_18 : decode cX6_isWon 18 = .ok (.aload_n 0, 1) := by decide +kernel
theorem dX6_isWon_19 : decode cX6_isWon 19 = .ok (.getfield 12, 3) := by decide +kernel
theorem dX6_isWon_22 : decode cX6_isWon 22 = .ok (.getfield 87, 3) := by decide +kernel
theorem dX6_isWon_25 : decode cX6_isWon 25 = .ok (.invokevirtual 160, 3) := by decide +kernel
theorem dX6_isWon_28 : decode cX6_isWon 28 = .ok (.ireturn, 1) := by decide +kernel
set_option maxRecDepth 20000 in
theorem ggX6_wins_X6_requireListed : GoodIn wsX6_wins wsX6_requireListed := goodIn_ca (goodIn_r _ [7, 8, 9, 10, 2, 11, 12, 13, 14, 15, 16, 17, 18, 19, 20, 21, 22, 23, 24, 25, 26, 27, 6, 28, 29, 30, 31, 32, 33, 34, 35, 36, 37, 38, 39, 40, 41, 42, 43, 44, 45, 46, 47, 48, 49, 50, 51, 52, 53, 54, 55, 56, 152, 153, 154, 155, 156, 157, 158, 159, 160, 161, 162, 163, 164, 165, 166, 167, 168] (by decide +kernel) (by decide +kernel)) (goodIn_sub (fun _ h => List.mem_cons_of_mem _ (List.mem_append_right _ h)) (by decide +kernel))
set_option maxRecDepth 20000 in
theorem gX6_wins_X6_requireListed : GoodIn wsX6_wins (wsV RX6 117 RX6 yX6_requireListed wsX6_requireListed) := goodIn_app (goodIn_of _ (by decide +kernel)) ggX6_wins_X6_requireListed
set_option maxRecDepth 20000 in
theorem ggX6_wins_X3_solve : GoodIn wsX6_wins wsX3_solve := goodIn_r _ [61, 62, 63, 64, 65, 66, 67, 68, 69, 70, 23, 71, 72, 73, 74, 75, 6, 76, 77, 78, 79, 80, 81, 82, 83, 84, 85, 86, 87, 88, 89, 90, 91, 92, 93, 25, 26, 94, 95, 96, 97, 98, 99, 100, 101, 102, 103, 104, 105, 106, 60, 107, 108, 109, 110, 111, 112, 113, 114, 115, 116, 117, 118, 119, 120, 121, 122, 13, 14, 15, 16, 17, 18, 19, 20, 21, 22, 24, 27, 28, 29, 30, 31, 32, 33, 34, 35, 36, 37, 38, 39, 40, 41, 42, 43, 44, 45, 46, 47, 48, 49, 50, 51, 52, 53, 54, 55, 56, 123, 124, 125, 126, 127, 128, 129, 130, 131, 132, 133, 134, 135, 136, 137, 138, 139, 140, 141, 169, 170, 171, 172, 173, 174, 175, 176, 162, 163, 164, 165, 166, 167, 168, 157, 158, 159, 160, 161] (by decide +kernel) (by decide +kernel)
set_option maxRecDepth 20000 in
theorem gX6_wins_X3_solve : GoodIn wsX6_wins (wsV RX6 145 RX3 yX3_solve wsX3_solve) := goodIn_app (goodIn_of _ (by decide +kernel)) ggX6_wins_X3_solve
set_option maxRecDepth 20000 in
theorem ggX6_wins_X6_isWinner : GoodIn wsX6_wins wsX6_isWinner := goodIn_r _ [145, 10, 146, 2, 147, 148, 149, 150, 65, 151, 84, 88, 152, 153, 154, 155, 156, 157, 158, 159, 160, 161, 162, 163, 164, 165, 166, 167, 168, 172, 173, 174, 175, 176] (by decide +kernel) (by decide +kernel)
set_option maxRecDepth 20000 in
theorem gX6_wins_X6_isWinner : GoodIn wsX6_wins (wsV RX6 164 RX6 yX6_isWinner wsX6_isWinner) := goodIn_app (goodIn_of _ (by decide +kernel)) ggX6_wins_X6_isWinner
theorem dX6_wins_0 : decode cX6_wins 0 = .ok (.aload_n 0, 1) := by decide +kernel
theorem dX6_wins_1 : decode cX6_wins 1 = .ok (.iload_n 1, 1) := by decide +kernel
theorem dX6_wins_2 : decode cX6_wins 2 = .ok (.invokevirtual 117, 3) := by decide +kernel
theorem dX6_wins_5 : decode cX6_wins 5 = .ok (.aload_n 0, 1) := by decide +kernel
theorem dX6_wins_6 : decode cX6_wins 6 = .ok (.aload_n 0, 1) := by decide +kernel
theorem dX6_wins_7 : decode cX6_wins 7 = .ok (.getfield 33, 3) := by decide +kernel
theorem dX6_wins_10 : decode cX6_wins 10 = .ok (.aload_n 0, 1) := by decide +kernel
theorem dX6_wins_11 : decode cX6_wins 11 = .ok (.getfield 12, 3) := by decide +kernel
theorem dX6_wins_14 : decode cX6_wins 14 = .ok (.invokevirtual 145, 3) := by decide +kernel
theorem dX6_wins_17 : decode cX6_wins 17 = .ok (.iload_n 1, 1) := by decide +kernel
theorem dX6_wins_18 : decode cX6_wins 18 = .ok (.invokevirtual 164, 3) := by decide +kernel
theorem dX6_wins_21 : decode cX6_wins 21 = .ok (.ireturn, 1) := by decide +kernel
set_option maxRecDepth 20000 in
theorem ggX6_winningMoves_X3_solve : GoodIn wsX6_winningMoves wsX3_solve := goodIn_r _ [9, 10, 11, 12, 13, 14, 15, 16, 17, 18, 19, 20, 21, 22, 23, 24, 25, 26, 27, 28, 29, 30, 31, 32, 33, 34, 35, 36, 37, 38, 39, 40, 41, 42, 43, 44, 45, 46, 47, 48, 49, 50, 51, 52, 53, 54, 55, 56, 57, 58, 8, 59, 60, 61, 62, 63, 64, 65, 66, 67, 68, 69, 70, 71, 72, 73, 74, 75, 76, 77, 78, 79, 80, 81, 82, 83, 84, 85, 86, 87, 88, 89, 90, 91, 92, 93, 94, 95, 96, 97, 98, 99, 100, 101, 102, 103, 104, 105, 106, 107, 108, 109, 110, 111, 112, 113, 114, 115, 116, 117, 118, 119, 120, 121, 122, 123, 124, 125, 126, 127, 128, 129, 130, 131, 132, 133, 134, 156, 157, 158, 159, 160, 161, 162, 163, 164, 165, 166, 167, 168, 169, 170, 151, 152, 153, 154, 155] (by decide +kernel) (by decide +kernel)
set_option maxRecDepth 20000 in
theorem gX6_winningMoves_X3_solve : GoodIn wsX6_winningMoves (wsV RX6 145 RX3 yX3_solve wsX3_solve) := goodIn_app (goodIn_of _ (by decide +kernel)) ggX6_winningMoves_X3_solve
set_option maxRecDepth 20000 in
theorem ggX6_winningMoves_X1_fill : GoodIn wsX6_winningMoves wsX1_fill := goodIn_r _ [78, 79, 80, 81, 82, 83, 84, 19, 85, 44, 45, 86, 25, 87, 88, 89, 90, 91, 77, 92, 93, 94, 95, 96, 97, 98, 99, 100, 101, 102, 103, 104, 105, 106, 107, 108, 109, 110, 111, 112, 113, 114, 115, 151, 152, 153, 154, 155, 164, 165, 166, 167, 168, 169, 170] (by decide +kernel) (by decide +kernel)
set_option maxRecDepth 20000 in
theorem gX6_winningMoves_X1_fill : GoodIn wsX6_winningMoves (wsV RX6 141 RX1 yX1_fill wsX1_fill) := goodIn_app (goodIn_of _ (by decide +kernel)) ggX6_winningMoves_X1_fill
set_option maxRecDepth 20000 in
theorem ggX6_winningMoves_X6_isWinner : GoodIn wsX6_winningMoves wsX6_isWinner := goodIn_r _ [139, 3, 140, 2, 141, 142, 143, 144, 13, 145, 34, 38, 146, 147, 148, 149, 150, 151, 152, 153, 154, 155, 164, 165, 166, 167, 168, 169, 170, 159, 160, 161, 162, 163] (by decide +kernel) (by decide +kernel)
set_option maxRecDepth 20000 in
theorem gX6_winningMoves_X6_isWinner : GoodIn wsX6_winningMoves (wsV RX6 164 RX6 yX6_isWinner wsX6_isWinner) := goodIn_app (goodIn_of _ (by decide +kernel)) ggX6_winningMoves_X6_isWinner
theorem dX6_winningMoves_0 : decode cX6_winningMoves 0 = .ok (.aload_n 0, 1) := by decide +kernel
theorem dX6_winningMoves_1 : decode cX6_winningMoves 1 = .ok (.getfield 33, 3) := by decide +kernel
theorem dX6_winningMoves_4 : decode cX6_winningMoves 4 = .ok (.aload_n 0, 1) := by decide +kernel
theorem dX6_winningMoves_5 : decode cX6_winningMoves 5 = .ok (.getfield 12, 3) := by decide +kernel
theorem dX6_winningMoves_8 : decode cX6_winningMoves 8 = .ok (.invokevirtual 145, 3) := by decide +kernel
theorem dX6_winningMoves_11 : decode cX6_winningMoves 11 = .ok (.astore_n 1, 1) := by decide +kernel
theorem dX6_winningMoves_12 : decode cX6_winningMoves 12 = .ok (.aload_n 0, 1) := by decide +kernel
theorem dX6_winningMoves_13 : decode cX6_winningMoves 13 = .ok (.getfield 26, 3) := by decide +kernel
theorem dX6_winningMoves_16 : decode cX6_winningMoves 16 = .ok (.aload_n 0, 1) := by decide +kernel
theorem dX6_winningMoves_17 : decode cX6_winningMoves 17 = .ok (.getfield 12, 3) := by decide +kernel
theorem dX6_winningMoves_20 : decode cX6_winningMoves 20 = .ok (.invokevirtual 141, 3) := by decide +kernel
theorem dX6_winningMoves_23 : decode cX6_winningMoves 23 = .ok (.iconst 0, 1) := by decide +kernel
theorem dX6_winningMoves_24 : decode cX6_winningMoves 24 = .ok (.istore_n 2, 1) := by decide +kernel
theorem dX6_winningMoves_25 : decode cX6_winningMoves 25 = .ok (.iconst 0, 1) := by decide +kernel
theorem dX6_winningMoves_26 : decode cX6_winningMoves 26 = .ok (.istore_n 3, 1) := by decide +kernel
theorem dX6_winningMoves_27 : decode cX6_winningMoves 27 = .ok (.iload_n 3, 1) := by decide +kernel
theorem dX6_winningMoves_28 : decode cX6_winningMoves 28 = .ok (.aload_n 0, 1) := by decide +kernel
theorem dX6_winningMoves_29 : decode cX6_winningMoves 29 = .ok (.getfield 26, 3) := by decide +kernel
theorem dX6_winningMoves_32 : decode cX6_winningMoves 32 = .ok (.getfield 144, 3) := by decide +kernel
theorem dX6_winningMoves_35 : decode cX6_winningMoves 35 = .ok (.if_icmp .ge 21, 3) := by decide +kernel
theorem dX6_winningMoves_38 : decode cX6_winningMoves 38 = .ok (.aload_n 0, 1) := by decide +kernel
theorem dX6_winningMoves_39 : decode cX6_winningMoves 39 = .ok (.aload_n 1, 1) := by decide +kernel
theorem dX6_winningMoves_40 : decode cX6_winningMoves 40 = .ok (.iload_n 3, 1) := by decide +kernel
theorem dX6_winningMoves_41 : decode cX6_winningMoves 41 = .ok (.invokevirtual 164, 3) := by decide +kernel
theorem dX6_winningMoves_44 : decode cX6_winningMoves 44 = .ok (.ifCond .eq 6, 3) := by decide +kernel
theorem dX6_winningMoves_47 : decode cX6_winningMoves 47 = .ok (.iinc 2 1, 3) := by decide +kernel
theorem dX6_winningMoves_50 : decode cX6_winningMoves 50 = .ok (.iinc 3 1, 3) := by decide +kernel
theorem dX6_winningMoves_53 : decode cX6_winningMoves 53 = .ok (.goto (-26), 3) := by decide +kernel
theorem dX6_winningMoves_56 : decode cX6_winningMoves 56 = .ok (.iload_n 2, 1) := by decide +kernel
theorem dX6_winningMoves_57 : decode cX6_winningMoves 57 = .ok (.ireturn, 1) := by decide +kernel
set_option maxRecDepth 20000 in
theorem ggX6_bestReply_X3_solve : GoodIn wsX6_bestReply wsX3_solve := goodIn_r _ [11, 12, 13, 14, 15, 16, 17, 18, 19, 20, 21, 22, 23, 24, 25, 26, 27, 28, 29, 30, 31, 32, 33, 34, 35, 36, 37, 38, 39, 40, 41, 42, 43, 44, 45, 46, 47, 48, 49, 50, 51, 52, 53, 54, 55, 56, 57, 58, 59, 60, 10, 61, 62, 63, 64, 65, 66, 67, 68, 69, 70, 71, 72, 73, 74, 75, 76, 77, 78, 79, 80, 81, 82, 83, 84, 85, 86, 87, 88, 89, 90, 91, 92, 93, 94, 95, 96, 97, 98, 99, 100, 101, 102, 103, 104, 105, 106, 107, 108, 109, 110, 111, 112, 113, 114, 115, 116, 117, 118, 119, 120, 121, 122, 123, 124, 125, 126, 127, 128, 129, 130, 131, 132, 133, 134, 135, 136, 162, 163, 164, 157, 158, 159, 160, 161, 165, 166, 167, 168, 169, 170, 171, 152, 153, 154, 155, 156] (by decide +kernel) (by decide +kernel)
set_option maxRecDepth 20000 in
theorem gX6_bestReply_X3_solve : GoodIn wsX6_bestReply (wsV RX6 145 RX3 yX3_solve wsX3_solve) := goodIn_app (goodIn_of _ (by decide +kernel)) ggX6_bestReply_X3_solve
set_option maxRecDepth 20000 in
theorem ggX6_bestReply_X1_fill : GoodIn wsX6_bestReply wsX1_fill := goodIn_r _ [80, 81, 82, 83, 84, 85, 86, 21, 87, 46, 47, 88, 27, 89, 90, 91, 92, 93, 79, 94, 95, 96, 97, 98, 99, 100, 101, 102, 103, 104, 105, 106, 107, 108, 109, 110, 111, 112, 113, 114, 115, 116, 117, 152, 153, 154, 155, 156, 165, 166, 167, 168, 169, 170, 171] (by decide +kernel) (by decide +kernel)
set_option maxRecDepth 20000 in
theorem gX6_bestReply_X1_fill : GoodIn wsX6_bestReply (wsV RX6 141 RX1 yX1_fill wsX1_fill) := goodIn_app (goodIn_of _ (by decide +kernel)) ggX6_bestReply_X1_fill
set_option maxRecDepth 20000 in
theorem ggX6_bestReply_X6_isWinner : GoodIn wsX6_bestReply wsX6_isWinner := goodIn_r _ [141, 3, 6, 2, 142, 143, 144, 145, 15, 146, 36, 40, 147, 148, 149, 150, 151, 152, 153, 154, 155, 156, 165, 166, 167, 168, 169, 170, 171, 157, 158, 159, 160, 161] (by decide +kernel) (by decide +kernel)
set_option maxRecDepth 20000 in
theorem gX6_bestReply_X6_isWinner : GoodIn wsX6_bestReply (wsV RX6 164 RX6 yX6_isWinner wsX6_isWinner) := goodIn_app (goodIn_of _ (by decide +kernel)) ggX6_bestReply_X6_isWinner
theorem dX6_bestReply_0 : decode cX6_bestReply 0 = .ok (.aload_n 0, 1) := by decide +kernel
theorem dX6_bestReply_1 : decode cX6_bestReply 1 = .ok (.getfield 33, 3) := by decide +kernel
theorem dX6_bestReply_4 : decode cX6_bestReply 4 = .ok (.aload_n 0, 1) := by decide +kernel
theorem dX6_bestReply_5 : decode cX6_bestReply 5 = .ok (.getfield 12, 3) := by decide +kernel
theorem dX6_bestReply_8 : decode cX6_bestReply 8 = .ok (.invokevirtual 145, 3) := by decide +kernel
theorem dX6_bestReply_11 : decode cX6_bestReply 11 = .ok (.astore_n 1, 1) := by decide +kernel
theorem dX6_bestReply_12 : decode cX6_bestReply 12 = .ok (.aload_n 0, 1) := by decide +kernel
theorem dX6_bestReply_13 : decode cX6_bestReply 13 = .ok (.getfield 26, 3) := by decide +kernel
theorem dX6_bestReply_16 : decode cX6_bestReply 16 = .ok (.aload_n 0, 1) := by decide +kernel
theorem dX6_bestReply_17 : decode cX6_bestReply 17 = .ok (.getfield 12, 3) := by decide +kernel
theorem dX6_bestReply_20 : decode cX6_bestReply 20 = .ok (.invokevirtual 141, 3) := by decide +kernel
theorem dX6_bestReply_23 : decode cX6_bestReply 23 = .ok (.iconst (-1), 1) := by decide +kernel
theorem dX6_bestReply_24 : decode cX6_bestReply 24 = .ok (.istore_n 2, 1) := by decide +kernel
theorem dX6_bestReply_25 : decode cX6_bestReply 25 = .ok (.iconst (-1), 1) := by decide +kernel
theorem dX6_bestReply_26 : decode cX6_bestReply 26 = .ok (.istore_n 3, 1) := by decide +kernel
theorem dX6_bestReply_27 : decode cX6_bestReply 27 = .ok (.iconst 0, 1) := by decide +kernel
theorem dX6_bestReply_28 : decode cX6_bestReply 28 = .ok (.istore 4, 2) := by decide +kernel
theorem dX6_bestReply_30 : decode cX6_bestReply 30 = .ok (.iload 4, 2) := by decide +kernel
theorem dX6_bestReply_32 : decode cX6_bestReply 32 = .ok (.aload_n 0, 1) := by decide +kernel
theorem dX6_bestReply_33 : decode cX6_bestReply 33 = .ok (.getfield 26, 3) := by decide +kernel
theorem dX6_bestReply_36 : decode cX6_bestReply 36 = .ok (.getfield 144, 3) := by decide +kernel
theorem dX6_bestReply_39 : decode cX6_bestReply 39 = .ok (.if_icmp .ge 51, 3) := by decide +kernel
theorem dX6_bestReply_42 : decode cX6_bestReply 42 = .ok (.aload_n 0, 1) := by decide +kernel
theorem dX6_bestReply_43 : decode cX6_bestReply 43 = .ok (.aload_n 1, 1) := by decide +kernel
theorem dX6_bestReply_44 : decode cX6_bestReply 44 = .ok (.iload 4, 2) := by decide +kernel
theorem dX6_bestReply_46 : decode cX6_bestReply 46 = .ok (.invokevirtual 164, 3) := by decide +kernel
theorem dX6_bestReply_49 : decode cX6_bestReply 49 = .ok (.ifCond .eq 6, 3) := by decide +kernel
theorem dX6_bestReply_52 : decode cX6_bestReply 52 = .ok (.iload 4, 2) := by decide +kernel
theorem dX6_bestReply_54 : decode cX6_bestReply 54 = .ok (.ireturn, 1) := by decide +kernel
theorem dX6_bestReply_55 : decode cX6_bestReply 55 = .ok (.aload_n 1, 1) := by decide +kernel
theorem dX6_bestReply_56 : decode cX6_bestReply 56 = .ok (.getfield 168, 3) := by decide +kernel
theorem dX6_bestReply_59 : decode cX6_bestReply 59 = .ok (.aload_n 0, 1) := by decide +kernel
theorem dX6_bestReply_60 : decode cX6_bestReply 60 = .ok (.getfield 26, 3) := by decide +kernel
theorem dX6_bestReply_63 : decode cX6_bestReply 63 = .ok (.getfield 171, 3) := by decide +kernel
theorem dX6_bestReply_66 : decode cX6_bestReply 66 = .ok (.iload 4, 2) := by decide +kernel
theorem dX6_bestReply_68 : decode cX6_bestReply 68 = .ok (.iaload, 1) := by decide +kernel
theorem dX6_bestReply_69 : decode cX6_bestReply 69 = .ok (.iaload, 1) := by decide +kernel
theorem dX6_bestReply_70 : decode cX6_bestReply 70 = .ok (.istore 5, 2) := by decide +kernel
theorem dX6_bestReply_72 : decode cX6_bestReply 72 = .ok (.iload 5, 2) := by decide +kernel
theorem dX6_bestReply_74 : decode cX6_bestReply 74 = .ok (.iload_n 3, 1) := by decide +kernel
theorem dX6_bestReply_75 : decode cX6_bestReply 75 = .ok (.if_icmp .le 9, 3) := by decide +kernel
theorem dX6_bestReply_78 : decode cX6_bestReply 78 = .ok (.iload 5, 2) := by decide +kernel
theorem dX6_bestReply_80 : decode cX6_bestReply 80 = .ok (.istore_n 3, 1) := by decide +kernel
theorem dX6_bestReply_81 : decode cX6_bestReply 81 = .ok (.iload 4, 2) := by decide +kernel
theorem dX6_bestReply_83 : decode cX6_bestReply 83 = .ok (.istore_n 2, 1) := by decide +kernel
theorem dX6_bestReply_84 : decode cX6_bestReply 84 = .ok (.iinc 4 1, 3) := by decide +kernel
theorem dX6_bestReply_87 : decode cX6_bestReply 87 = .ok (.goto (-57), 3) := by decide +kernel
theorem dX6_bestReply_90 : decode cX6_bestReply 90 = .ok (.iload_n 2, 1) := by decide +kernel
theorem dX6_bestReply_91 : decode cX6_bestReply 91 = .ok (.ireturn, 1) := by decide +kernel
set_option maxRecDepth 20000 in
theorem ggX6_longestGame_X3_solve : GoodIn wsX6_longestGame wsX3_solve := goodIn_r _ [8, 9, 10, 11, 12, 13, 14, 15, 16, 17, 18, 19, 20, 21, 22, 23, 24, 25, 26, 27, 28, 29, 30, 31, 32, 33, 34, 35, 36, 37, 38, 39, 40, 41, 42, 43, 44, 45, 46, 47, 48, 49, 50, 51, 52, 53, 54, 55, 56, 57, 7, 58, 59, 60, 61, 62, 63, 64, 65, 66, 67, 68, 69, 70, 71, 72, 73, 74, 75, 76, 77, 78, 79, 80, 81, 82, 83, 84, 85, 86, 87, 88, 89, 90, 91, 92, 93, 94, 95, 96, 97, 98, 99, 100, 101, 102, 103, 104, 105, 106, 107, 108, 109, 110, 111, 112, 113, 114, 115, 116, 117, 118, 119, 120, 121, 122, 123, 124, 125, 126, 127, 128, 129, 130, 131, 132, 133, 145, 146, 147, 140, 141, 142, 143, 144, 148, 149, 150, 151, 152, 153, 154, 155, 156, 157, 158, 159] (by decide +kernel) (by decide +kernel)
set_option maxRecDepth 20000 in
theorem gX6_longestGame_X3_solve : GoodIn wsX6_longestGame (wsV RX6 145 RX3 yX3_solve wsX3_solve) := goodIn_app (goodIn_of _ (by decide +kernel)) ggX6_longestGame_X3_solve
set_option maxRecDepth 20000 in
theorem ggX6_longestGame_X4_slot : GoodIn wsX6_longestGame wsX4_slot := goodIn_r _ [84, 43, 44, 85, 24, 86, 87, 148, 149, 150, 151, 152, 153, 154] (by decide +kernel) (by decide +kernel)
set_option maxRecDepth 20000 in
theorem gX6_longestGame_X4_slot : GoodIn wsX6_longestGame (wsV RX6 154 RX4 yX4_slot wsX4_slot) := goodIn_app (goodIn_of _ (by decide +kernel)) ggX6_longestGame_X4_slot
theorem dX6_longestGame_0 : decode cX6_longestGame 0 = .ok (.aload_n 0, 1) := by decide +kernel
theorem dX6_longestGame_1 : decode cX6_longestGame 1 = .ok (.getfield 33, 3) := by decide +kernel
theorem dX6_longestGame_4 : decode cX6_longestGame 4 = .ok (.aload_n 0, 1) := by decide +kernel
theorem dX6_longestGame_5 : decode cX6_longestGame 5 = .ok (.getfield 12, 3) := by decide +kernel
theorem dX6_longestGame_8 : decode cX6_longestGame 8 = .ok (.invokevirtual 145, 3) := by decide +kernel
theorem dX6_longestGame_11 : decode cX6_longestGame 11 = .ok (.getfield 168, 3) := by decide +kernel
theorem dX6_longestGame_14 : decode cX6_longestGame 14 = .ok (.aload_n 0, 1) := by decide +kernel
theorem dX6_longestGame_15 : decode cX6_longestGame 15 = .ok (.getfield 12, 3) := by decide +kernel
theorem dX6_longestGame_18 : decode cX6_longestGame 18 = .ok (.invokevirtual 154, 3) := by decide +kernel
theorem dX6_longestGame_21 : decode cX6_longestGame 21 = .ok (.iaload, 1) := by decide +kernel
theorem dX6_longestGame_22 : decode cX6_longestGame 22 = .ok (.ireturn, 1) := by decide +kernel
set_option maxRecDepth 20000 in
theorem ggX6_shortestGame_X3_solve : GoodIn wsX6_shortestGame wsX3_solve := goodIn_r _ [8, 9, 10, 11, 12, 13, 14, 15, 16, 17, 18, 19, 20, 21, 22, 23, 24, 25, 26, 27, 28, 29, 30, 31, 32, 33, 34, 35, 36, 37, 38, 39, 40, 41, 42, 43, 44, 45, 46, 47, 48, 49, 50, 51, 52, 53, 54, 55, 56, 57, 7, 58, 59, 60, 61, 62, 63, 64, 65, 66, 67, 68, 69, 70, 71, 72, 73, 74, 75, 76, 77, 78, 79, 80, 81, 82, 83, 84, 85, 86, 87, 88, 89, 90, 91, 92, 93, 94, 95, 96, 97, 98, 99, 100, 101, 102, 103, 104, 105, 106, 107, 108, 109, 110, 111, 112, 113, 114, 115, 116, 117, 118, 119, 120, 121, 122, 123, 124, 125, 126, 127, 128, 129, 130, 131, 132, 133, 145, 146, 147, 140, 141, 142, 143, 144, 148, 149, 150, 151, 152, 153, 154, 155, 156, 157, 158, 159] (by decide +kernel) (by decide +kernel)
set_option maxRecDepth 20000 in
theorem gX6_shortestGame_X3_solve : GoodIn wsX6_shortestGame (wsV RX6 145 RX3 yX3_solve wsX3_solve) := goodIn_app (goodIn_of _ (by decide +kernel)) ggX6_shortestGame_X3_solve
set_option maxRecDepth 20000 in
theorem ggX6_shortestGame_X4_slot : GoodIn wsX6_shortestGame wsX4_slot := goodIn_r _ [84, 43, 44, 85, 24, 86, 87, 148, 149, 150, 151, 152, 153, 154] (by decide +kernel) (by decide +kernel)
set_option maxRecDepth 20000 in
theorem gX6_shortestGame_X4_slot : GoodIn wsX6_shortestGame (wsV RX6 154 RX4 yX4_slot wsX4_slot) := goodIn_app (goodIn_of _ (by decide +kernel)) ggX6_shortestGame_X4_slot
theorem dX6_shortestGame_0 : decode cX6_shortestGame 0 = .ok (.aload_n 0, 1) := by decide +kernel
theorem dX6_shortestGame_1 : decode cX6_shortestGame 1 = .ok (.getfield 33, 3) := by decide +kernel
theorem dX6_shortestGame_4 : decode cX6_shortestGame 4 = .ok (.aload_n 0, 1) := by decide +kernel
theorem dX6_shortestGame_5 : decode cX6_shortestGame 5 = .ok (.getfield 12, 3) := by decide +kernel
theorem dX6_shortestGame_8 : decode cX6_shortestGame 8 = .ok (.invokevirtual 145, 3) := by decide +kernel
theorem dX6_shortestGame_11 : decode cX6_shortestGame 11 = .ok (.getfield 174, 3) := by decide +kernel
theorem dX6_shortestGame_14 : decode cX6_shortestGame 14 = .ok (.aload_n 0, 1) := by decide +kernel
theorem dX6_shortestGame_15 : decode cX6_shortestGame 15 = .ok (.getfield 12, 3) := by decide +kernel
theorem dX6_shortestGame_18 : decode cX6_shortestGame 18 = .ok (.invokevirtual 154, 3) := by decide +kernel
theorem dX6_shortestGame_21 : decode cX6_shortestGame 21 = .ok (.iaload, 1) := by decide +kernel
theorem dX6_shortestGame_22 : decode cX6_shortestGame 22 = .ok (.ireturn, 1) := by decide +kernel
set_option maxRecDepth 20000 in
theorem ggX6_winningShare_X6_winningMoves : GoodIn wsX6_winningShare wsX6_winningMoves := goodIn_r _ [5, 6, 7, 8, 9, 10, 11, 12, 13, 14, 15, 16, 17, 18, 19, 20, 21, 22, 23, 24, 25, 26, 27, 28, 29, 4, 30, 31, 32, 33, 34, 35, 36, 37, 38, 39, 40, 41, 42, 43, 44, 45, 46, 47, 48, 49, 50, 51, 52, 53, 54, 55, 56, 57, 58, 59, 60, 61, 62, 63, 64, 65, 66, 67, 68, 69, 70, 71, 72, 73, 74, 75, 76, 77, 78, 79, 80, 81, 82, 83, 84, 85, 86, 87, 88, 89, 90, 91, 92, 93, 94, 95, 96, 97, 98, 99, 100, 101, 102, 103, 104, 105, 106, 107, 108, 109, 110, 111, 112, 113, 114, 115, 116, 117, 118, 119, 120, 121, 122, 123, 124, 125, 126, 127, 128, 129, 130, 131, 132, 133, 134, 135, 136, 137, 138, 139, 140, 141, 142, 143, 144, 145, 146, 147, 148, 149, 154, 155, 156, 157, 158, 159, 160, 161, 162, 163, 164, 165, 166, 167, 168, 169, 170, 171, 172, 173, 174, 175, 176, 177, 178] (by decide +kernel) (by decide +kernel)
set_option maxRecDepth 20000 in
theorem gX6_winningShare_X6_winningMoves : GoodIn wsX6_winningShare (wsV RX6 177 RX6 yX6_winningMoves wsX6_winningMoves) := goodIn_app (goodIn_of _ (by decide +kernel)) ggX6_winningShare_X6_winningMoves
set_option maxRecDepth 20000 in
theorem ggX6_winningShare_X6_moves : GoodIn wsX6_winningShare wsX6_moves := goodIn_r _ [153, 8, 7, 9, 139, 79, 80, 81, 82, 83, 84, 85, 86, 87, 88, 24, 89, 48, 49, 90, 4, 91, 92, 93, 94, 95, 96, 97, 98, 99, 100, 101, 102, 103, 104, 105, 106, 107, 108, 109, 110, 111, 112, 113, 114, 115, 116, 117, 118, 119, 154, 155, 156, 157, 158, 159, 160, 161, 162, 163, 172, 173, 174, 175, 176, 177, 178] (by decide +kernel) (by decide +kernel)
set_option maxRecDepth 20000 in
theorem gX6_winningShare_X6_moves : GoodIn wsX6_winningShare (wsV RX6 180 RX6 yX6_moves wsX6_moves) := goodIn_app (goodIn_of _ (by decide +kernel)) ggX6_winningShare_X6_moves
theorem dX6_winningShare_0 : decode cX6_winningShare 0 = .ok (.aload_n 0, 1) := by decide +kernel
theorem dX6_winningShare_1 : decode cX6_winningShare 1 = .ok (.invokevirtual 177, 3) := by decide +kernel
theorem dX6_winningShare_4 : decode cX6_winningShare 4 = .ok (.istore_n 1, 1) := by decide +kernel
theorem dX6_winningShare_5 : decode cX6_winningShare 5 = .ok (.aload_n 0, 1) := by decide +kernel
theorem dX6_winningShare_6 : decode cX6_winningShare 6 = .ok (.invokevirtual 180, 3) := by decide +kernel
theorem dX6_winningShare_9 : decode cX6_winningShare 9 = .ok (.istore_n 2, 1) := by decide +kernel
theorem dX6_winningShare_10 : decode cX6_winningShare 10 = .ok (.iload_n 2, 1) := by decide +kernel
theorem dX6_winningShare_11 : decode cX6_winningShare 11 = .ok (.ifCond .le 11, 3) := by decide +kernel
theorem dX6_winningShare_14 : decode cX6_winningShare 14 = .ok (.iload_n 1, 1) := by decide +kernel
theorem dX6_winningShare_15 : decode cX6_winningShare 15 = .ok (.i2d, 1) := by decide +kernel
theorem dX6_winningShare_16 : decode cX6_winningShare 16 = .ok (.iload_n 2, 1) := by decide +kernel
theorem dX6_winningShare_17 : decode cX6_winningShare 17 = .ok (.i2d, 1) := by decide +kernel
theorem dX6_winningShare_18 : decode cX6_winningShare 18 = .ok (.ddiv, 1) := by decide +kernel
theorem dX6_winningShare_19 : decode cX6_winningShare 19 = .ok (.goto 4, 3) := by decide +kernel
theorem dX6_winningShare_22 : decode cX6_winningShare 22 = .ok (.dconst 0, 1) := by decide +kernel
theorem dX6_winningShare_23 : decode cX6_winningShare 23 = .ok (.dreturn, 1) := by decide +kernel
theorem dX6_bit_0 : decode cX6_bit 0 = .ok (.iload_n 0, 1) := by decide +kernel
theorem dX6_bit_1 : decode cX6_bit 1 = .ok (.ifCond .eq 7, 3) := by decide +kernel
theorem dX6_bit_4 : decode cX6_bit 4 = .ok (.iconst 1, 1) := by decide +kernel
theorem dX6_bit_5 : decode cX6_bit 5 = .ok (.goto 4, 3) := by decide +kernel
theorem dX6_bit_8 : decode cX6_bit 8 = .ok (.iconst 0, 1) := by decide +kernel
theorem dX6_bit_9 : decode cX6_bit 9 = .ok (.ireturn, 1) := by decide +kernel
theorem dX6_weightOf_0 : decode cX6_weightOf 0 = .ok (.iload_n 0, 1) := by decide +kernel
theorem dX6_weightOf_1 : decode cX6_weightOf 1 = .ok (.ifCond .lt 19, 3) := by decide +kernel
theorem dX6_weightOf_4 : decode cX6_weightOf 4 = .ok (.iload_n 0, 1) := by decide +kernel
theorem dX6_weightOf_5 : decode cX6_weightOf 5 = .ok (.getstatic 276, 3) := by decide +kernel
theorem dX6_weightOf_8 : decode cX6_weightOf 8 = .ok (.arraylength, 1) := by decide +kernel
theorem dX6_weightOf_9 : decode cX6_weightOf 9 = .ok (.if_icmp .ge 11, 3) := by decide +kernel
theorem dX6_weightOf_12 : decode cX6_weightOf 12 = .ok (.getstatic 276, 3) := by decide +kernel
theorem dX6_weightOf_15 : decode cX6_weightOf 15 = .ok (.iload_n 0, 1) := by decide +kernel
theorem dX6_weightOf_16 : decode cX6_weightOf 16 = .ok (.iaload, 1) := by decide +kernel
theorem dX6_weightOf_17 : decode cX6_weightOf 17 = .ok (.goto 4, 3) := by decide +kernel
theorem dX6_weightOf_20 : decode cX6_weightOf 20 = .ok (.iconst 0, 1) := by decide +kernel
theorem dX6_weightOf_21 : decode cX6_weightOf 21 = .ok (.ireturn, 1) := by decide +kernel
set_option maxRecDepth 20000 in
theorem ggX6_requireHeap_X4_hasHeap : GoodIn wsX6_requireHeap wsX4_hasHeap := goodIn_r _ [8, 9, 15, 16, 17, 18, 19, 20, 21] (by decide +kernel) (by decide +kernel)
set_option maxRecDepth 20000 in
theorem gX6_requireHeap_X4_hasHeap : GoodIn wsX6_requireHeap (wsV RX6 279 RX4 yX4_hasHeap wsX4_hasHeap) := goodIn_app (goodIn_of _ (by decide +kernel)) ggX6_requireHeap_X4_hasHeap
theorem dX6_requireHeap_0 : decode cX6_requireHeap 0 = .ok (.aload_n 0, 1) := by decide +kernel
theorem dX6_requireHeap_1 : decode cX6_requireHeap 1 = .ok (.getfield 12, 3) := by decide +kernel
theorem dX6_requireHeap_4 : decode cX6_requireHeap 4 = .ok (.iload_n 1, 1) := by decide +kernel
theorem dX6_requireHeap_5 : decode cX6_requireHeap 5 = .ok (.invokevirtual 279, 3) := by decide +kernel
theorem dX6_requireHeap_8 : decode cX6_requireHeap 8 = .ok (.ifCond .ne 14, 3) := by decide +kernel
theorem dX6_requireHeap_11 : decode cX6_requireHeap 11 = .ok (.new 283, 3) := by decide +kernel
theorem dX6_requireHeap_14 : decode cX6_requireHeap 14 = .ok (.dup, 1) := by decide +kernel
theorem dX6_requireHeap_15 : decode cX6_requireHeap 15 = .ok (.ldc_w 285, 3) := by decide +kernel
theorem dX6_requireHeap_18 : decode cX6_requireHeap 18 = .ok (.invokespecial 287, 3) := by decide +kernel
theorem dX6_requireHeap_21 : decode cX6_requireHeap 21 = .ok (.athrow, 1) := by decide +kernel
theorem dX6_requireHeap_22 : decode cX6_requireHeap 22 = .ok (.return_, 1) := by decide +kernel
set_option maxRecDepth 20000 in
theorem ggX6_requireMove_X4_isMove : GoodIn wsX6_requireMove wsX4_isMove := goodIn_r _ [8, 9, 10, 11, 12, 13, 14, 15, 7, 16, 17, 23, 24, 25, 26, 27, 28, 29] (by decide +kernel) (by decide +kernel)
set_option maxRecDepth 20000 in
theorem gX6_requireMove_X4_isMove : GoodIn wsX6_requireMove (wsV RX6 215 RX4 yX4_isMove wsX4_isMove) := goodIn_app (goodIn_of _ (by decide +kernel)) ggX6_requireMove_X4_isMove
theorem dX6_requireMove_0 : decode cX6_requireMove 0 = .ok (.aload_n 0, 1) := by decide +kernel
theorem dX6_requireMove_1 : decode cX6_requireMove 1 = .ok (.getfield 12, 3) := by decide +kernel
theorem dX6_requireMove_4 : decode cX6_requireMove 4 = .ok (.iload_n 1, 1) := by decide +kernel
theorem dX6_requireMove_5 : decode cX6_requireMove 5 = .ok (.iload_n 2, 1) := by decide +kernel
theorem dX6_requireMove_6 : decode cX6_requireMove 6 = .ok (.iload_n 3, 1) := by decide +kernel
theorem dX6_requireMove_7 : decode cX6_requireMove 7 = .ok (.invokevirtual 215, 3) := by decide +kernel
theorem dX6_requireMove_10 : decode cX6_requireMove 10 = .ok (.ifCond .ne 14, 3) := by decide +kernel
theorem dX6_requireMove_13 : decode cX6_requireMove 13 = .ok (.new 62, 3) := by decide +kernel
theorem dX6_requireMove_16 : decode cX6_requireMove 16 = .ok (.dup, 1) := by decide +kernel
theorem dX6_requireMove_17 : decode cX6_requireMove 17 = .ok (.ldc_w 288, 3) := by decide +kernel
theorem dX6_requireMove_20 : decode cX6_requireMove 20 = .ok (.invokespecial 66, 3) := by decide +kernel
theorem dX6_requireMove_23 : decode cX6_requireMove 23 = .ok (.athrow, 1) := by decide +kernel
theorem dX6_requireMove_24 : decode cX6_requireMove 24 = .ok (.return_, 1) := by decide +kernel
set_option maxRecDepth 20000 in
theorem ggX6_requireListed_X1_fill : GoodIn wsX6_requireListed wsX1_fill := goodIn_r _ [10, 11, 12, 13, 14, 15, 16, 17, 18, 19, 20, 21, 22, 23, 24, 25, 26, 27, 9, 28, 29, 30, 31, 32, 33, 34, 35, 36, 37, 38, 39, 40, 41, 42, 43, 44, 45, 46, 47, 48, 49, 50, 51, 57, 58, 59, 60, 61, 62, 63, 64, 65, 66, 67, 68] (by decide +kernel) (by decide +kernel)
set_option maxRecDepth 20000 in
theorem gX6_requireListed_X1_fill : GoodIn wsX6_requireListed (wsV RX6 141 RX1 yX1_fill wsX1_fill) := goodIn_app (goodIn_of _ (by decide +kernel)) ggX6_requireListed_X1_fill
theorem dX6_requireListed_0 : decode cX6_requireListed 0 = .ok (.aload_n 0, 1) := by decide +kernel
theorem dX6_requireListed_1 : decode cX6_requireListed 1 = .ok (.getfield 26, 3) := by decide +kernel
theorem dX6_requireListed_4 : decode cX6_requireListed 4 = .ok (.aload_n 0, 1) := by decide +kernel
theorem dX6_requireListed_5 : decode cX6_requireListed 5 = .ok (.getfield 12, 3) := by decide +kernel
theorem dX6_requireListed_8 : decode cX6_requireListed 8 = .ok (.invokevirtual 141, 3) := by decide +kernel
theorem dX6_requireListed_11 : decode cX6_requireListed 11 = .ok (.iload_n 1, 1) := by decide +kernel
theorem dX6_requireListed_12 : decode cX6_requireListed 12 = .ok (.ifCond .lt 14, 3) := by decide +kernel
theorem dX6_requireListed_15 : decode cX6_requireListed 15 = .ok (.iload_n 1, 1) := by decide +kernel
theorem dX6_requireListed_16 : decode cX6_requireListed 16 = .ok (.aload_n 0, 1) := by decide +kernel
theorem dX6_requireListed_17 : decode cX6_requireListed 17 = .ok (.getfield 26, 3) := by decide +kernel
theorem dX6_requireListed_20 : decode cX6_requireListed 20 = .ok (.getfield 144, 3) := by decide +kernel
theorem dX6_requireListed_23 : decode cX6_requireListed 23 = .ok (.if_icmp .lt 14, 3) := by decide +kernel
theorem dX6_requireListed_26 : decode cX6_requireListed 26 = .ok (.new 283, 3) := by decide +kernel
theorem dX6_requireListed_29 : decode cX6_requireListed 29 = .ok (.dup, 1) := by decide +kernel
theorem dX6_requireListed_30 : decode cX6_requireListed 30 = .ok (.ldc_w 290, 3) := by decide +kernel
theorem dX6_requireListed_33 : decode cX6_requireListed 33 = .ok (.invokespecial 287, 3) := by decide +kernel
theorem dX6_requireListed_36 : decode cX6_requireListed 36 = .ok (.athrow, 1) := by decide +kernel
theorem dX6_requireListed_37 : decode cX6_requireListed 37 = .ok (.return_, 1) := by decide +kernel
set_option maxRecDepth 20000 in
theorem ggX6_isWinner_X2_isWonAt : GoodIn wsX6_isWinner wsX2_isWonAt := goodIn_r _ [9, 10, 11, 29, 30, 31, 32, 33] (by decide +kernel) (by decide +kernel)
set_option maxRecDepth 20000 in
theorem gX6_isWinner_X2_isWonAt : GoodIn wsX6_isWinner (wsV RX6 160 RX2 yX2_isWonAt wsX2_isWonAt) := goodIn_app (goodIn_of _ (by decide +kernel)) ggX6_isWinner_X2_isWonAt
theorem dX6_isWinner_0 : decode cX6_isWinner 0 = .ok (.aload_n 1, 1) := by decide +kernel
theorem dX6_isWinner_1 : decode cX6_isWinner 1 = .ok (.aload_n 0, 1) := by decide +kernel
theorem dX6_isWinner_2 : decode cX6_isWinner 2 = .ok (.getfield 26, 3) := by decide +kernel
theorem dX6_isWinner_5 : decode cX6_isWinner 5 = .ok (.getfield 171, 3) := by decide +kernel
theorem dX6_isWinner_8 : decode cX6_isWinner 8 = .ok (.iload_n 2, 1) := by decide +kernel
theorem dX6_isWinner_9 : decode cX6_isWinner 9 = .ok (.iaload, 1) := by decide +kernel
theorem dX6_isWinner_10 : decode cX6_isWinner 10 = .ok (.aload_n 0, 1) := by decide +kernel
theorem dX6_isWinner_11 : decode cX6_isWinner 11 = .ok (.getfield 12, 3) := by decide +kernel
theorem dX6_isWinner_14 : decode cX6_isWinner 14 = .ok (.getfield 87, 3) := by decide +kernel
theorem dX6_isWinner_17 : decode cX6_isWinner 17 = .ok (.invokevirtual 160, 3) := by decide +kernel
theorem dX6_isWinner_20 : decode cX6_isWinner 20 = .ok (.ifCond .ne 7, 3) := by decide +kernel
theorem dX6_isWinner_23 : decode cX6_isWinner 23 = .ok (.iconst 1, 1) := by decide +kernel
theorem dX6_isWinner_24 : decode cX6_isWinner 24 = .ok (.goto 4, 3) := by decide +kernel
theorem dX6_isWinner_27 : decode cX6_isWinner 27 = .ok (.iconst 0, 1) := by decide +kernel
theorem dX6_isWinner_28 : decode cX6_isWinner 28 = .ok (.ireturn, 1) := by decide +kernel
theorem dJ9_max_7cf53_0 : decode cJ9_max_7cf53 0 = .ok (.iload_n 0, 1) := by decide +kernel
theorem dJ9_max_7cf53_1 : decode cJ9_max_7cf53 1 = .ok (.iload_n 1, 1) := by decide +kernel
theorem dJ9_max_7cf53_2 : decode cJ9_max_7cf53 2 = .ok (.if_icmp .lt 7, 3) := by decide +kernel
theorem dJ9_max_7cf53_5 : decode cJ9_max_7cf53 5 = .ok (.iload_n 0, 1) := by decide +kernel
theorem dJ9_max_7cf53_6 : decode cJ9_max_7cf53 6 = .ok (.goto 4, 3) := by decide +kernel
theorem dJ9_max_7cf53_9 : decode cJ9_max_7cf53 9 = .ok (.iload_n 1, 1) := by decide +kernel
theorem dJ9_max_7cf53_10 : decode cJ9_max_7cf53 10 = .ok (.ireturn, 1) := by decide +kernel
theorem dJ9_min_7cf53_0 : decode cJ9_min_7cf53 0 = .ok (.iload_n 0, 1) := by decide +kernel
theorem dJ9_min_7cf53_1 : decode cJ9_min_7cf53 1 = .ok (.iload_n 1, 1) := by decide +kernel
theorem dJ9_min_7cf53_2 : decode cJ9_min_7cf53 2 = .ok (.if_icmp .gt 7, 3) := by decide +kernel
theorem dJ9_min_7cf53_5 : decode cJ9_min_7cf53 5 = .ok (.iload_n 0, 1) := by decide +kernel
theorem dJ9_min_7cf53_6 : decode cJ9_min_7cf53 6 = .ok (.goto 4, 3) := by decide +kernel
theorem dJ9_min_7cf53_9 : decode cJ9_min_7cf53 9 = .ok (.iload_n 1, 1) := by decide +kernel
theorem dJ9_min_7cf53_10 : decode cJ9_min_7cf53 10 = .ok (.ireturn, 1) := by decide +kernel
set_option maxRecDepth 20000 in
theorem ggL_code_L_radix : GoodIn wsL_code wsL_radix := goodIn_r _ [4] (by decide +kernel) (by decide +kernel)
set_option maxRecDepth 20000 in
theorem gL_code_L_radix : GoodIn wsL_code (va_wsS RL 10 yL_radix wsL_radix) := goodIn_app (goodIn_of _ (by decide +kernel)) ggL_code_L_radix
set_option maxRecDepth 20000 in
theorem ggL_decode_L_radix : GoodIn wsL_decode wsL_radix := goodIn_r _ [4] (by decide +kernel) (by decide +kernel)
set_option maxRecDepth 20000 in
theorem gL_decode_L_radix : GoodIn wsL_decode (va_wsS RL 10 yL_radix wsL_radix) := goodIn_app (goodIn_of _ (by decide +kernel)) ggL_decode_L_radix
set_option maxRecDepth 20000 in
theorem ggL_lay_L_decode : GoodIn wsL_lay wsL_decode := goodIn_r _ [5, 6, 7, 4, 8] (by decide +kernel) (by decide +kernel)
set_option maxRecDepth 20000 in
theorem gL_lay_L_decode : GoodIn wsL_lay (va_wsS RL 16 yL_decode wsL_decode) := goodIn_app (goodIn_of _ (by decide +kernel)) ggL_lay_L_decode
set_option maxRecDepth 20000 in
theorem ggL_learn_L_decode : GoodIn wsL_learn wsL_decode := goodIn_r _ [5, 6, 7, 4, 8] (by decide +kernel) (by decide +kernel)
set_option maxRecDepth 20000 in
theorem gL_learn_L_decode : GoodIn wsL_learn (va_wsS RL 16 yL_decode wsL_decode) := goodIn_app (goodIn_of _ (by decide +kernel)) ggL_learn_L_decode
set_option maxRecDepth 20000 in
theorem ggL_learn_L_code : GoodIn wsL_learn wsL_code := goodIn_r _ [11, 6, 7, 4, 8] (by decide +kernel) (by decide +kernel)
set_option maxRecDepth 20000 in
theorem gL_learn_L_code : GoodIn wsL_learn (va_wsS RL 20 yL_code wsL_code) := goodIn_app (goodIn_of _ (by decide +kernel)) ggL_learn_L_code
set_option maxRecDepth 20000 in
theorem ggL_learn_L_find : GoodIn wsL_learn wsL_find := goodIn_r _ [14] (by decide +kernel) (by decide +kernel)
set_option maxRecDepth 20000 in
theorem gL_learn_L_find : GoodIn wsL_learn (va_wsS RL 24 yL_find wsL_find) := goodIn_app (goodIn_of _ (by decide +kernel)) ggL_learn_L_find
set_option maxRecDepth 20000 in
theorem ggL_learn_L_note : GoodIn wsL_learn wsL_note := goodIn_r _ [17] (by decide +kernel) (by decide +kernel)
set_option maxRecDepth 20000 in
theorem gL_learn_L_note : GoodIn wsL_learn (va_wsS RL 28 yL_note wsL_note) := goodIn_app (goodIn_of _ (by decide +kernel)) ggL_learn_L_note
set_option maxRecDepth 20000 in
theorem ggL_here_L_code : GoodIn wsL_here wsL_code := goodIn_r _ [5, 6, 7, 4, 8] (by decide +kernel) (by decide +kernel)
set_option maxRecDepth 20000 in
theorem gL_here_L_code : GoodIn wsL_here (va_wsS RL 20 yL_code wsL_code) := goodIn_app (goodIn_of _ (by decide +kernel)) ggL_here_L_code
abbrev vwCl : List vw_C := [(RX0, TX0, 3), (RX1, TX1, 5), (RX2, TX2, 5), (RX3, TX3, 3), (RX4, TX4, 7), (RX5, TX5, 6), (RX6, TX6, 5)]
