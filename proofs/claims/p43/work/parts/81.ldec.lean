theorem dL_cell_0 : decode cL_cell 0 = .ok (.iload_n 1, 1) := by decide +kernel
theorem dL_cell_1 : decode cL_cell 1 = .ok (.aload_n 0, 1) := by decide +kernel
theorem dL_cell_2 : decode cL_cell 2 = .ok (.arraylength, 1) := by decide +kernel
theorem dL_cell_3 : decode cL_cell 3 = .ok (.if_icmp .ge 9, 3) := by decide +kernel
theorem dL_cell_6 : decode cL_cell 6 = .ok (.aload_n 0, 1) := by decide +kernel
theorem dL_cell_7 : decode cL_cell 7 = .ok (.iload_n 1, 1) := by decide +kernel
theorem dL_cell_8 : decode cL_cell 8 = .ok (.iaload, 1) := by decide +kernel
theorem dL_cell_9 : decode cL_cell 9 = .ok (.goto 12, 3) := by decide +kernel
theorem dL_cell_12 : decode cL_cell 12 = .ok (.ldc 7, 2) := by decide +kernel
theorem dL_cell_14 : decode cL_cell 14 = .ok (.iload_n 1, 1) := by decide +kernel
theorem dL_cell_15 : decode cL_cell 15 = .ok (.iconst 1, 1) := by decide +kernel
theorem dL_cell_16 : decode cL_cell 16 = .ok (.iadd, 1) := by decide +kernel
theorem dL_cell_17 : decode cL_cell 17 = .ok (.imul, 1) := by decide +kernel
theorem dL_cell_18 : decode cL_cell 18 = .ok (.ldc 8, 2) := by decide +kernel
theorem dL_cell_20 : decode cL_cell 20 = .ok (.iadd, 1) := by decide +kernel
theorem dL_cell_21 : decode cL_cell 21 = .ok (.ireturn, 1) := by decide +kernel
theorem dL_low_0 : decode cL_low 0 = .ok (.iload_n 0, 1) := by decide +kernel
theorem dL_low_1 : decode cL_low 1 = .ok (.ldc 9, 2) := by decide +kernel
theorem dL_low_3 : decode cL_low 3 = .ok (.iand, 1) := by decide +kernel
theorem dL_low_4 : decode cL_low 4 = .ok (.iload_n 1, 1) := by decide +kernel
theorem dL_low_5 : decode cL_low 5 = .ok (.irem, 1) := by decide +kernel
theorem dL_low_6 : decode cL_low 6 = .ok (.ireturn, 1) := by decide +kernel
theorem dL_radix_0 : decode cL_radix 0 = .ok (.iload_n 0, 1) := by decide +kernel
theorem dL_radix_1 : decode cL_radix 1 = .ok (.iconst 1, 1) := by decide +kernel
theorem dL_radix_2 : decode cL_radix 2 = .ok (.if_icmp .ne 8, 3) := by decide +kernel
theorem dL_radix_5 : decode cL_radix 5 = .ok (.bipush 8, 2) := by decide +kernel
theorem dL_radix_7 : decode cL_radix 7 = .ok (.goto 22, 3) := by decide +kernel
theorem dL_radix_10 : decode cL_radix 10 = .ok (.iload_n 0, 1) := by decide +kernel
theorem dL_radix_11 : decode cL_radix 11 = .ok (.iconst 2, 1) := by decide +kernel
theorem dL_radix_12 : decode cL_radix 12 = .ok (.if_icmp .ne 7, 3) := by decide +kernel
theorem dL_radix_15 : decode cL_radix 15 = .ok (.iconst 4, 1) := by decide +kernel
theorem dL_radix_16 : decode cL_radix 16 = .ok (.goto 13, 3) := by decide +kernel
theorem dL_radix_19 : decode cL_radix 19 = .ok (.iload_n 0, 1) := by decide +kernel
theorem dL_radix_20 : decode cL_radix 20 = .ok (.iconst 3, 1) := by decide +kernel
theorem dL_radix_21 : decode cL_radix 21 = .ok (.if_icmp .ne 7, 3) := by decide +kernel
theorem dL_radix_24 : decode cL_radix 24 = .ok (.iconst 3, 1) := by decide +kernel
theorem dL_radix_25 : decode cL_radix 25 = .ok (.goto 4, 3) := by decide +kernel
theorem dL_radix_28 : decode cL_radix 28 = .ok (.iconst 2, 1) := by decide +kernel
theorem dL_radix_29 : decode cL_radix 29 = .ok (.ireturn, 1) := by decide +kernel
theorem dL_code_0 : decode cL_code 0 = .ok (.iconst 0, 1) := by decide +kernel
theorem dL_code_1 : decode cL_code 1 = .ok (.istore_n 1, 1) := by decide +kernel
theorem dL_code_2 : decode cL_code 2 = .ok (.bipush 7, 2) := by decide +kernel
theorem dL_code_4 : decode cL_code 4 = .ok (.istore_n 2, 1) := by decide +kernel
theorem dL_code_5 : decode cL_code 5 = .ok (.iload_n 2, 1) := by decide +kernel
theorem dL_code_6 : decode cL_code 6 = .ok (.ifCond .le 20, 3) := by decide +kernel
theorem dL_code_9 : decode cL_code 9 = .ok (.iload_n 1, 1) := by decide +kernel
theorem dL_code_10 : decode cL_code 10 = .ok (.iload_n 2, 1) := by decide +kernel
theorem dL_code_11 : decode cL_code 11 = .ok (.invokestatic 10, 3) := by decide +kernel
theorem dL_code_14 : decode cL_code 14 = .ok (.imul, 1) := by decide +kernel
theorem dL_code_15 : decode cL_code 15 = .ok (.aload_n 0, 1) := by decide +kernel
theorem dL_code_16 : decode cL_code 16 = .ok (.iload_n 2, 1) := by decide +kernel
theorem dL_code_17 : decode cL_code 17 = .ok (.iaload, 1) := by decide +kernel
theorem dL_code_18 : decode cL_code 18 = .ok (.iadd, 1) := by decide +kernel
theorem dL_code_19 : decode cL_code 19 = .ok (.istore_n 1, 1) := by decide +kernel
theorem dL_code_20 : decode cL_code 20 = .ok (.iinc 2 (-1), 3) := by decide +kernel
theorem dL_code_23 : decode cL_code 23 = .ok (.goto (-18), 3) := by decide +kernel
theorem dL_code_26 : decode cL_code 26 = .ok (.iload_n 1, 1) := by decide +kernel
theorem dL_code_27 : decode cL_code 27 = .ok (.ireturn, 1) := by decide +kernel
theorem dL_decode_0 : decode cL_decode 0 = .ok (.iload_n 0, 1) := by decide +kernel
theorem dL_decode_1 : decode cL_decode 1 = .ok (.istore_n 2, 1) := by decide +kernel
theorem dL_decode_2 : decode cL_decode 2 = .ok (.iconst 1, 1) := by decide +kernel
theorem dL_decode_3 : decode cL_decode 3 = .ok (.istore_n 3, 1) := by decide +kernel
theorem dL_decode_4 : decode cL_decode 4 = .ok (.iload_n 3, 1) := by decide +kernel
theorem dL_decode_5 : decode cL_decode 5 = .ok (.bipush 8, 2) := by decide +kernel
theorem dL_decode_7 : decode cL_decode 7 = .ok (.if_icmp .ge 25, 3) := by decide +kernel
theorem dL_decode_10 : decode cL_decode 10 = .ok (.aload_n 1, 1) := by decide +kernel
theorem dL_decode_11 : decode cL_decode 11 = .ok (.iload_n 3, 1) := by decide +kernel
theorem dL_decode_12 : decode cL_decode 12 = .ok (.iload_n 2, 1) := by decide +kernel
theorem dL_decode_13 : decode cL_decode 13 = .ok (.iload_n 3, 1) := by decide +kernel
theorem dL_decode_14 : decode cL_decode 14 = .ok (.invokestatic 10, 3) := by decide +kernel
theorem dL_decode_17 : decode cL_decode 17 = .ok (.irem, 1) := by decide +kernel
theorem dL_decode_18 : decode cL_decode 18 = .ok (.iastore, 1) := by decide +kernel
theorem dL_decode_19 : decode cL_decode 19 = .ok (.iload_n 2, 1) := by decide +kernel
theorem dL_decode_20 : decode cL_decode 20 = .ok (.iload_n 3, 1) := by decide +kernel
theorem dL_decode_21 : decode cL_decode 21 = .ok (.invokestatic 10, 3) := by decide +kernel
theorem dL_decode_24 : decode cL_decode 24 = .ok (.idiv, 1) := by decide +kernel
theorem dL_decode_25 : decode cL_decode 25 = .ok (.istore_n 2, 1) := by decide +kernel
theorem dL_decode_26 : decode cL_decode 26 = .ok (.iinc 3 1, 3) := by decide +kernel
theorem dL_decode_29 : decode cL_decode 29 = .ok (.goto (-25), 3) := by decide +kernel
theorem dL_decode_32 : decode cL_decode 32 = .ok (.return_, 1) := by decide +kernel
theorem dL_find_0 : decode cL_find 0 = .ok (.iconst 0, 1) := by decide +kernel
theorem dL_find_1 : decode cL_find 1 = .ok (.istore_n 2, 1) := by decide +kernel
theorem dL_find_2 : decode cL_find 2 = .ok (.aload_n 1, 1) := by decide +kernel
theorem dL_find_3 : decode cL_find 3 = .ok (.iload_n 2, 1) := by decide +kernel
theorem dL_find_4 : decode cL_find 4 = .ok (.iaload, 1) := by decide +kernel
theorem dL_find_5 : decode cL_find 5 = .ok (.iload_n 0, 1) := by decide +kernel
theorem dL_find_6 : decode cL_find 6 = .ok (.if_icmp .eq 9, 3) := by decide +kernel
theorem dL_find_9 : decode cL_find 9 = .ok (.iinc 2 1, 3) := by decide +kernel
theorem dL_find_12 : decode cL_find 12 = .ok (.goto (-10), 3) := by decide +kernel
theorem dL_find_15 : decode cL_find 15 = .ok (.iload_n 2, 1) := by decide +kernel
theorem dL_find_16 : decode cL_find 16 = .ok (.ireturn, 1) := by decide +kernel
theorem dL_lay_0 : decode cL_lay 0 = .ok (.bipush 8, 2) := by decide +kernel
theorem dL_lay_2 : decode cL_lay 2 = .ok (.newarray .int, 2) := by decide +kernel
theorem dL_lay_4 : decode cL_lay 4 = .ok (.astore_n 1, 1) := by decide +kernel
theorem dL_lay_5 : decode cL_lay 5 = .ok (.aload_n 0, 1) := by decide +kernel
theorem dL_lay_6 : decode cL_lay 6 = .ok (.bipush 63, 2) := by decide +kernel
theorem dL_lay_8 : decode cL_lay 8 = .ok (.iconst 0, 1) := by decide +kernel
theorem dL_lay_9 : decode cL_lay 9 = .ok (.iastore, 1) := by decide +kernel
theorem dL_lay_10 : decode cL_lay 10 = .ok (.iconst 0, 1) := by decide +kernel
theorem dL_lay_11 : decode cL_lay 11 = .ok (.istore_n 2, 1) := by decide +kernel
theorem dL_lay_12 : decode cL_lay 12 = .ok (.iload_n 2, 1) := by decide +kernel
theorem dL_lay_13 : decode cL_lay 13 = .ok (.bipush 8, 2) := by decide +kernel
theorem dL_lay_15 : decode cL_lay 15 = .ok (.if_icmp .ge 118, 3) := by decide +kernel
theorem dL_lay_18 : decode cL_lay 18 = .ok (.iload_n 2, 1) := by decide +kernel
theorem dL_lay_19 : decode cL_lay 19 = .ok (.istore_n 3, 1) := by decide +kernel
theorem dL_lay_20 : decode cL_lay 20 = .ok (.iload_n 3, 1) := by decide +kernel
theorem dL_lay_21 : decode cL_lay 21 = .ok (.ifCond .lt 106, 3) := by decide +kernel
theorem dL_lay_24 : decode cL_lay 24 = .ok (.iconst 0, 1) := by decide +kernel
theorem dL_lay_25 : decode cL_lay 25 = .ok (.istore 4, 2) := by decide +kernel
theorem dL_lay_27 : decode cL_lay 27 = .ok (.iload 4, 2) := by decide +kernel
theorem dL_lay_29 : decode cL_lay 29 = .ok (.sipush 1536, 3) := by decide +kernel
theorem dL_lay_32 : decode cL_lay 32 = .ok (.if_icmp .ge 89, 3) := by decide +kernel
theorem dL_lay_35 : decode cL_lay 35 = .ok (.iload 4, 2) := by decide +kernel
theorem dL_lay_37 : decode cL_lay 37 = .ok (.aload_n 1, 1) := by decide +kernel
theorem dL_lay_38 : decode cL_lay 38 = .ok (.invokestatic 16, 3) := by decide +kernel
theorem dL_lay_41 : decode cL_lay 41 = .ok (.iconst 0, 1) := by decide +kernel
theorem dL_lay_42 : decode cL_lay 42 = .ok (.istore 5, 2) := by decide +kernel
theorem dL_lay_44 : decode cL_lay 44 = .ok (.iconst 0, 1) := by decide +kernel
theorem dL_lay_45 : decode cL_lay 45 = .ok (.istore 6, 2) := by decide +kernel
theorem dL_lay_47 : decode cL_lay 47 = .ok (.iconst 1, 1) := by decide +kernel
theorem dL_lay_48 : decode cL_lay 48 = .ok (.istore 7, 2) := by decide +kernel
theorem dL_lay_50 : decode cL_lay 50 = .ok (.iload 7, 2) := by decide +kernel
theorem dL_lay_52 : decode cL_lay 52 = .ok (.bipush 8, 2) := by decide +kernel
theorem dL_lay_54 : decode cL_lay 54 = .ok (.if_icmp .ge 30, 3) := by decide +kernel
theorem dL_lay_57 : decode cL_lay 57 = .ok (.iload 5, 2) := by decide +kernel
theorem dL_lay_59 : decode cL_lay 59 = .ok (.aload_n 1, 1) := by decide +kernel
theorem dL_lay_60 : decode cL_lay 60 = .ok (.iload 7, 2) := by decide +kernel
theorem dL_lay_62 : decode cL_lay 62 = .ok (.iaload, 1) := by decide +kernel
theorem dL_lay_63 : decode cL_lay 63 = .ok (.iadd, 1) := by decide +kernel
theorem dL_lay_64 : decode cL_lay 64 = .ok (.istore 5, 2) := by decide +kernel
theorem dL_lay_66 : decode cL_lay 66 = .ok (.iload 6, 2) := by decide +kernel
theorem dL_lay_68 : decode cL_lay 68 = .ok (.iload 7, 2) := by decide +kernel
theorem dL_lay_70 : decode cL_lay 70 = .ok (.aload_n 1, 1) := by decide +kernel
theorem dL_lay_71 : decode cL_lay 71 = .ok (.iload 7, 2) := by decide +kernel
theorem dL_lay_73 : decode cL_lay 73 = .ok (.iaload, 1) := by decide +kernel
theorem dL_lay_74 : decode cL_lay 74 = .ok (.imul, 1) := by decide +kernel
theorem dL_lay_75 : decode cL_lay 75 = .ok (.iadd, 1) := by decide +kernel
theorem dL_lay_76 : decode cL_lay 76 = .ok (.istore 6, 2) := by decide +kernel
theorem dL_lay_78 : decode cL_lay 78 = .ok (.iinc 7 1, 3) := by decide +kernel
theorem dL_lay_81 : decode cL_lay 81 = .ok (.goto (-31), 3) := by decide +kernel
theorem dL_lay_84 : decode cL_lay 84 = .ok (.iload 6, 2) := by decide +kernel
theorem dL_lay_86 : decode cL_lay 86 = .ok (.iload_n 2, 1) := by decide +kernel
theorem dL_lay_87 : decode cL_lay 87 = .ok (.if_icmp .ne 28, 3) := by decide +kernel
theorem dL_lay_90 : decode cL_lay 90 = .ok (.iload 5, 2) := by decide +kernel
theorem dL_lay_92 : decode cL_lay 92 = .ok (.iload_n 3, 1) := by decide +kernel
theorem dL_lay_93 : decode cL_lay 93 = .ok (.if_icmp .eq 6, 3) := by decide +kernel
theorem dL_lay_96 : decode cL_lay 96 = .ok (.goto 19, 3) := by decide +kernel
theorem dL_lay_99 : decode cL_lay 99 = .ok (.aload_n 0, 1) := by decide +kernel
theorem dL_lay_100 : decode cL_lay 100 = .ok (.aload_n 0, 1) := by decide +kernel
theorem dL_lay_101 : decode cL_lay 101 = .ok (.bipush 63, 2) := by decide +kernel
theorem dL_lay_103 : decode cL_lay 103 = .ok (.iaload, 1) := by decide +kernel
theorem dL_lay_104 : decode cL_lay 104 = .ok (.iload 4, 2) := by decide +kernel
theorem dL_lay_106 : decode cL_lay 106 = .ok (.iastore, 1) := by decide +kernel
theorem dL_lay_107 : decode cL_lay 107 = .ok (.aload_n 0, 1) := by decide +kernel
theorem dL_lay_108 : decode cL_lay 108 = .ok (.bipush 63, 2) := by decide +kernel
theorem dL_lay_110 : decode cL_lay 110 = .ok (.dup2, 1) := by decide +kernel
theorem dL_lay_111 : decode cL_lay 111 = .ok (.iaload, 1) := by decide +kernel
theorem dL_lay_112 : decode cL_lay 112 = .ok (.iconst 1, 1) := by decide +kernel
theorem dL_lay_113 : decode cL_lay 113 = .ok (.iadd, 1) := by decide +kernel
theorem dL_lay_114 : decode cL_lay 114 = .ok (.iastore, 1) := by decide +kernel
theorem dL_lay_115 : decode cL_lay 115 = .ok (.iinc 4 1, 3) := by decide +kernel
theorem dL_lay_118 : decode cL_lay 118 = .ok (.goto (-91), 3) := by decide +kernel
theorem dL_lay_121 : decode cL_lay 121 = .ok (.iinc 3 (-1), 3) := by decide +kernel
theorem dL_lay_124 : decode cL_lay 124 = .ok (.goto (-104), 3) := by decide +kernel
theorem dL_lay_127 : decode cL_lay 127 = .ok (.iinc 2 1, 3) := by decide +kernel
theorem dL_lay_130 : decode cL_lay 130 = .ok (.goto (-118), 3) := by decide +kernel
theorem dL_lay_133 : decode cL_lay 133 = .ok (.return_, 1) := by decide +kernel
theorem dL_note_0 : decode cL_note 0 = .ok (.aload 5, 2) := by decide +kernel
theorem dL_note_2 : decode cL_note 2 = .ok (.iload_n 2, 1) := by decide +kernel
theorem dL_note_3 : decode cL_note 3 = .ok (.iaload, 1) := by decide +kernel
theorem dL_note_4 : decode cL_note 4 = .ok (.ifCond .ne 8, 3) := by decide +kernel
theorem dL_note_7 : decode cL_note 7 = .ok (.aload 5, 2) := by decide +kernel
theorem dL_note_9 : decode cL_note 9 = .ok (.iload_n 3, 1) := by decide +kernel
theorem dL_note_10 : decode cL_note 10 = .ok (.iconst 1, 1) := by decide +kernel
theorem dL_note_11 : decode cL_note 11 = .ok (.iastore, 1) := by decide +kernel
theorem dL_note_12 : decode cL_note 12 = .ok (.aload 6, 2) := by decide +kernel
theorem dL_note_14 : decode cL_note 14 = .ok (.iload_n 3, 1) := by decide +kernel
theorem dL_note_15 : decode cL_note 15 = .ok (.aload 6, 2) := by decide +kernel
theorem dL_note_17 : decode cL_note 17 = .ok (.iload_n 2, 1) := by decide +kernel
theorem dL_note_18 : decode cL_note 18 = .ok (.iaload, 1) := by decide +kernel
theorem dL_note_19 : decode cL_note 19 = .ok (.iconst 1, 1) := by decide +kernel
theorem dL_note_20 : decode cL_note 20 = .ok (.iadd, 1) := by decide +kernel
theorem dL_note_21 : decode cL_note 21 = .ok (.aload 6, 2) := by decide +kernel
theorem dL_note_23 : decode cL_note 23 = .ok (.iload_n 3, 1) := by decide +kernel
theorem dL_note_24 : decode cL_note 24 = .ok (.iaload, 1) := by decide +kernel
theorem dL_note_25 : decode cL_note 25 = .ok (.if_icmp .le 12, 3) := by decide +kernel
theorem dL_note_28 : decode cL_note 28 = .ok (.aload 6, 2) := by decide +kernel
theorem dL_note_30 : decode cL_note 30 = .ok (.iload_n 2, 1) := by decide +kernel
theorem dL_note_31 : decode cL_note 31 = .ok (.iaload, 1) := by decide +kernel
theorem dL_note_32 : decode cL_note 32 = .ok (.iconst 1, 1) := by decide +kernel
theorem dL_note_33 : decode cL_note 33 = .ok (.iadd, 1) := by decide +kernel
theorem dL_note_34 : decode cL_note 34 = .ok (.goto 7, 3) := by decide +kernel
theorem dL_note_37 : decode cL_note 37 = .ok (.aload 6, 2) := by decide +kernel
theorem dL_note_39 : decode cL_note 39 = .ok (.iload_n 3, 1) := by decide +kernel
theorem dL_note_40 : decode cL_note 40 = .ok (.iaload, 1) := by decide +kernel
theorem dL_note_41 : decode cL_note 41 = .ok (.iastore, 1) := by decide +kernel
theorem dL_note_42 : decode cL_note 42 = .ok (.aload 7, 2) := by decide +kernel
theorem dL_note_44 : decode cL_note 44 = .ok (.iload_n 3, 1) := by decide +kernel
theorem dL_note_45 : decode cL_note 45 = .ok (.aload 7, 2) := by decide +kernel
theorem dL_note_47 : decode cL_note 47 = .ok (.iload_n 2, 1) := by decide +kernel
theorem dL_note_48 : decode cL_note 48 = .ok (.iaload, 1) := by decide +kernel
theorem dL_note_49 : decode cL_note 49 = .ok (.iconst 1, 1) := by decide +kernel
theorem dL_note_50 : decode cL_note 50 = .ok (.iadd, 1) := by decide +kernel
theorem dL_note_51 : decode cL_note 51 = .ok (.aload 7, 2) := by decide +kernel
theorem dL_note_53 : decode cL_note 53 = .ok (.iload_n 3, 1) := by decide +kernel
theorem dL_note_54 : decode cL_note 54 = .ok (.iaload, 1) := by decide +kernel
theorem dL_note_55 : decode cL_note 55 = .ok (.if_icmp .ge 12, 3) := by decide +kernel
theorem dL_note_58 : decode cL_note 58 = .ok (.aload 7, 2) := by decide +kernel
theorem dL_note_60 : decode cL_note 60 = .ok (.iload_n 2, 1) := by decide +kernel
theorem dL_note_61 : decode cL_note 61 = .ok (.iaload, 1) := by decide +kernel
theorem dL_note_62 : decode cL_note 62 = .ok (.iconst 1, 1) := by decide +kernel
theorem dL_note_63 : decode cL_note 63 = .ok (.iadd, 1) := by decide +kernel
theorem dL_note_64 : decode cL_note 64 = .ok (.goto 7, 3) := by decide +kernel
theorem dL_note_67 : decode cL_note 67 = .ok (.aload 7, 2) := by decide +kernel
theorem dL_note_69 : decode cL_note 69 = .ok (.iload_n 3, 1) := by decide +kernel
theorem dL_note_70 : decode cL_note 70 = .ok (.iaload, 1) := by decide +kernel
theorem dL_note_71 : decode cL_note 71 = .ok (.iastore, 1) := by decide +kernel
theorem dL_note_72 : decode cL_note 72 = .ok (.lload_n 0, 1) := by decide +kernel
theorem dL_note_73 : decode cL_note 73 = .ok (.lconst 1, 1) := by decide +kernel
theorem dL_note_74 : decode cL_note 74 = .ok (.aload 4, 2) := by decide +kernel
theorem dL_note_76 : decode cL_note 76 = .ok (.iload_n 2, 1) := by decide +kernel
theorem dL_note_77 : decode cL_note 77 = .ok (.iaload, 1) := by decide +kernel
theorem dL_note_78 : decode cL_note 78 = .ok (.lshl, 1) := by decide +kernel
theorem dL_note_79 : decode cL_note 79 = .ok (.lor, 1) := by decide +kernel
theorem dL_note_80 : decode cL_note 80 = .ok (.lreturn, 1) := by decide +kernel
theorem dL_learn_0 : decode cL_learn 0 = .ok (.bipush 8, 2) := by decide +kernel
theorem dL_learn_2 : decode cL_learn 2 = .ok (.newarray .int, 2) := by decide +kernel
theorem dL_learn_4 : decode cL_learn 4 = .ok (.astore 6, 2) := by decide +kernel
theorem dL_learn_6 : decode cL_learn 6 = .ok (.iconst 0, 1) := by decide +kernel
theorem dL_learn_7 : decode cL_learn 7 = .ok (.istore 7, 2) := by decide +kernel
theorem dL_learn_9 : decode cL_learn 9 = .ok (.iload 7, 2) := by decide +kernel
theorem dL_learn_11 : decode cL_learn 11 = .ok (.aload_n 1, 1) := by decide +kernel
theorem dL_learn_12 : decode cL_learn 12 = .ok (.bipush 63, 2) := by decide +kernel
theorem dL_learn_14 : decode cL_learn 14 = .ok (.iaload, 1) := by decide +kernel
theorem dL_learn_15 : decode cL_learn 15 = .ok (.if_icmp .ge 403, 3) := by decide +kernel
theorem dL_learn_18 : decode cL_learn 18 = .ok (.aload_n 1, 1) := by decide +kernel
theorem dL_learn_19 : decode cL_learn 19 = .ok (.iload 7, 2) := by decide +kernel
theorem dL_learn_21 : decode cL_learn 21 = .ok (.iaload, 1) := by decide +kernel
theorem dL_learn_22 : decode cL_learn 22 = .ok (.aload 6, 2) := by decide +kernel
theorem dL_learn_24 : decode cL_learn 24 = .ok (.invokestatic 16, 3) := by decide +kernel
theorem dL_learn_27 : decode cL_learn 27 = .ok (.lconst 0, 1) := by decide +kernel
theorem dL_learn_28 : decode cL_learn 28 = .ok (.lstore 8, 2) := by decide +kernel
theorem dL_learn_30 : decode cL_learn 30 = .ok (.aload_n 3, 1) := by decide +kernel
theorem dL_learn_31 : decode cL_learn 31 = .ok (.iload 7, 2) := by decide +kernel
theorem dL_learn_33 : decode cL_learn 33 = .ok (.aload_n 1, 1) := by decide +kernel
theorem dL_learn_34 : decode cL_learn 34 = .ok (.iload 7, 2) := by decide +kernel
theorem dL_learn_36 : decode cL_learn 36 = .ok (.iaload, 1) := by decide +kernel
theorem dL_learn_37 : decode cL_learn 37 = .ok (.ifCond .ne 7, 3) := by decide +kernel
theorem dL_learn_40 : decode cL_learn 40 = .ok (.iconst 1, 1) := by decide +kernel
theorem dL_learn_41 : decode cL_learn 41 = .ok (.goto 4, 3) := by decide +kernel
theorem dL_learn_44 : decode cL_learn 44 = .ok (.iconst 0, 1) := by decide +kernel
theorem dL_learn_45 : decode cL_learn 45 = .ok (.iastore, 1) := by decide +kernel
theorem dL_learn_46 : decode cL_learn 46 = .ok (.aload 4, 2) := by decide +kernel
theorem dL_learn_48 : decode cL_learn 48 = .ok (.iload 7, 2) := by decide +kernel
theorem dL_learn_50 : decode cL_learn 50 = .ok (.iconst 0, 1) := by decide +kernel
theorem dL_learn_51 : decode cL_learn 51 = .ok (.iastore, 1) := by decide +kernel
theorem dL_learn_52 : decode cL_learn 52 = .ok (.aload 5, 2) := by decide +kernel
theorem dL_learn_54 : decode cL_learn 54 = .ok (.iload 7, 2) := by decide +kernel
theorem dL_learn_56 : decode cL_learn 56 = .ok (.aload_n 1, 1) := by decide +kernel
theorem dL_learn_57 : decode cL_learn 57 = .ok (.iload 7, 2) := by decide +kernel
theorem dL_learn_59 : decode cL_learn 59 = .ok (.iaload, 1) := by decide +kernel
theorem dL_learn_60 : decode cL_learn 60 = .ok (.ifCond .ne 7, 3) := by decide +kernel
theorem dL_learn_63 : decode cL_learn 63 = .ok (.iconst 0, 1) := by decide +kernel
theorem dL_learn_64 : decode cL_learn 64 = .ok (.goto 5, 3) := by decide +kernel
theorem dL_learn_67 : decode cL_learn 67 = .ok (.bipush 99, 2) := by decide +kernel
theorem dL_learn_69 : decode cL_learn 69 = .ok (.iastore, 1) := by decide +kernel
theorem dL_learn_70 : decode cL_learn 70 = .ok (.iconst 1, 1) := by decide +kernel
theorem dL_learn_71 : decode cL_learn 71 = .ok (.istore 10, 2) := by decide +kernel
theorem dL_learn_73 : decode cL_learn 73 = .ok (.iload 10, 2) := by decide +kernel
theorem dL_learn_75 : decode cL_learn 75 = .ok (.bipush 8, 2) := by decide +kernel
theorem dL_learn_77 : decode cL_learn 77 = .ok (.if_icmp .ge 305, 3) := by decide +kernel
theorem dL_learn_80 : decode cL_learn 80 = .ok (.aload 6, 2) := by decide +kernel
theorem dL_learn_82 : decode cL_learn 82 = .ok (.iload 10, 2) := by decide +kernel
theorem dL_learn_84 : decode cL_learn 84 = .ok (.iaload, 1) := by decide +kernel
theorem dL_learn_85 : decode cL_learn 85 = .ok (.ifCond .ne 6, 3) := by decide +kernel
theorem dL_learn_88 : decode cL_learn 88 = .ok (.goto 288, 3) := by decide +kernel
theorem dL_learn_91 : decode cL_learn 91 = .ok (.aload 6, 2) := by decide +kernel
theorem dL_learn_93 : decode cL_learn 93 = .ok (.iload 10, 2) := by decide +kernel
theorem dL_learn_95 : decode cL_learn 95 = .ok (.dup2, 1) := by decide +kernel
theorem dL_learn_96 : decode cL_learn 96 = .ok (.iaload, 1) := by decide +kernel
theorem dL_learn_97 : decode cL_learn 97 = .ok (.iconst 1, 1) := by decide +kernel
theorem dL_learn_98 : decode cL_learn 98 = .ok (.isub, 1) := by decide +kernel
theorem dL_learn_99 : decode cL_learn 99 = .ok (.iastore, 1) := by decide +kernel
theorem dL_learn_100 : decode cL_learn 100 = .ok (.iconst 1, 1) := by decide +kernel
theorem dL_learn_101 : decode cL_learn 101 = .ok (.istore 11, 2) := by decide +kernel
theorem dL_learn_103 : decode cL_learn 103 = .ok (.iload 11, 2) := by decide +kernel
theorem dL_learn_105 : decode cL_learn 105 = .ok (.aload_n 0, 1) := by decide +kernel
theorem dL_learn_106 : decode cL_learn 106 = .ok (.iconst 0, 1) := by decide +kernel
theorem dL_learn_107 : decode cL_learn 107 = .ok (.iaload, 1) := by decide +kernel
theorem dL_learn_108 : decode cL_learn 108 = .ok (.if_icmp .gt 64, 3) := by decide +kernel
theorem dL_learn_111 : decode cL_learn 111 = .ok (.iload 11, 2) := by decide +kernel
theorem dL_learn_113 : decode cL_learn 113 = .ok (.iload 10, 2) := by decide +kernel
theorem dL_learn_115 : decode cL_learn 115 = .ok (.if_icmp .gt 57, 3) := by decide +kernel
theorem dL_learn_118 : decode cL_learn 118 = .ok (.aload 6, 2) := by decide +kernel
theorem dL_learn_120 : decode cL_learn 120 = .ok (.iload 10, 2) := by decide +kernel
theorem dL_learn_122 : decode cL_learn 122 = .ok (.iload 11, 2) := by decide +kernel
theorem dL_learn_124 : decode cL_learn 124 = .ok (.isub, 1) := by decide +kernel
theorem dL_learn_125 : decode cL_learn 125 = .ok (.dup2, 1) := by decide +kernel
theorem dL_learn_126 : decode cL_learn 126 = .ok (.iaload, 1) := by decide +kernel
theorem dL_learn_127 : decode cL_learn 127 = .ok (.iconst 1, 1) := by decide +kernel
theorem dL_learn_128 : decode cL_learn 128 = .ok (.iadd, 1) := by decide +kernel
theorem dL_learn_129 : decode cL_learn 129 = .ok (.iastore, 1) := by decide +kernel
theorem dL_learn_130 : decode cL_learn 130 = .ok (.lload 8, 2) := by decide +kernel
theorem dL_learn_132 : decode cL_learn 132 = .ok (.aload 6, 2) := by decide +kernel
theorem dL_learn_134 : decode cL_learn 134 = .ok (.invokestatic 20, 3) := by decide +kernel
theorem dL_learn_137 : decode cL_learn 137 = .ok (.aload_n 1, 1) := by decide +kernel
theorem dL_learn_138 : decode cL_learn 138 = .ok (.invokestatic 24, 3) := by decide +kernel
theorem dL_learn_141 : decode cL_learn 141 = .ok (.iload 7, 2) := by decide +kernel
theorem dL_learn_143 : decode cL_learn 143 = .ok (.aload_n 2, 1) := by decide +kernel
theorem dL_learn_144 : decode cL_learn 144 = .ok (.aload_n 3, 1) := by decide +kernel
theorem dL_learn_145 : decode cL_learn 145 = .ok (.aload 4, 2) := by decide +kernel
theorem dL_learn_147 : decode cL_learn 147 = .ok (.aload 5, 2) := by decide +kernel
theorem dL_learn_149 : decode cL_learn 149 = .ok (.invokestatic 28, 3) := by decide +kernel
theorem dL_learn_152 : decode cL_learn 152 = .ok (.lstore 8, 2) := by decide +kernel
theorem dL_learn_154 : decode cL_learn 154 = .ok (.aload 6, 2) := by decide +kernel
theorem dL_learn_156 : decode cL_learn 156 = .ok (.iload 10, 2) := by decide +kernel
theorem dL_learn_158 : decode cL_learn 158 = .ok (.iload 11, 2) := by decide +kernel
theorem dL_learn_160 : decode cL_learn 160 = .ok (.isub, 1) := by decide +kernel
theorem dL_learn_161 : decode cL_learn 161 = .ok (.dup2, 1) := by decide +kernel
theorem dL_learn_162 : decode cL_learn 162 = .ok (.iaload, 1) := by decide +kernel
theorem dL_learn_163 : decode cL_learn 163 = .ok (.iconst 1, 1) := by decide +kernel
theorem dL_learn_164 : decode cL_learn 164 = .ok (.isub, 1) := by decide +kernel
theorem dL_learn_165 : decode cL_learn 165 = .ok (.iastore, 1) := by decide +kernel
theorem dL_learn_166 : decode cL_learn 166 = .ok (.iinc 11 1, 3) := by decide +kernel
theorem dL_learn_169 : decode cL_learn 169 = .ok (.goto (-66), 3) := by decide +kernel
theorem dL_learn_172 : decode cL_learn 172 = .ok (.iconst 1, 1) := by decide +kernel
theorem dL_learn_173 : decode cL_learn 173 = .ok (.istore 11, 2) := by decide +kernel
theorem dL_learn_175 : decode cL_learn 175 = .ok (.aload_n 0, 1) := by decide +kernel
theorem dL_learn_176 : decode cL_learn 176 = .ok (.iconst 1, 1) := by decide +kernel
theorem dL_learn_177 : decode cL_learn 177 = .ok (.iaload, 1) := by decide +kernel
theorem dL_learn_178 : decode cL_learn 178 = .ok (.iconst 1, 1) := by decide +kernel
theorem dL_learn_179 : decode cL_learn 179 = .ok (.if_icmp .ne 84, 3) := by decide +kernel
theorem dL_learn_182 : decode cL_learn 182 = .ok (.iconst 2, 1) := by decide +kernel
theorem dL_learn_183 : decode cL_learn 183 = .ok (.iload 11, 2) := by decide +kernel
theorem dL_learn_185 : decode cL_learn 185 = .ok (.imul, 1) := by decide +kernel
theorem dL_learn_186 : decode cL_learn 186 = .ok (.iload 10, 2) := by decide +kernel
theorem dL_learn_188 : decode cL_learn 188 = .ok (.if_icmp .gt 75, 3) := by decide +kernel
theorem dL_learn_191 : decode cL_learn 191 = .ok (.aload 6, 2) := by decide +kernel
theorem dL_learn_193 : decode cL_learn 193 = .ok (.iload 11, 2) := by decide +kernel
theorem dL_learn_195 : decode cL_learn 195 = .ok (.dup2, 1) := by decide +kernel
theorem dL_learn_196 : decode cL_learn 196 = .ok (.iaload, 1) := by decide +kernel
theorem dL_learn_197 : decode cL_learn 197 = .ok (.iconst 1, 1) := by decide +kernel
theorem dL_learn_198 : decode cL_learn 198 = .ok (.iadd, 1) := by decide +kernel
theorem dL_learn_199 : decode cL_learn 199 = .ok (.iastore, 1) := by decide +kernel
theorem dL_learn_200 : decode cL_learn 200 = .ok (.aload 6, 2) := by decide +kernel
theorem dL_learn_202 : decode cL_learn 202 = .ok (.iload 10, 2) := by decide +kernel
theorem dL_learn_204 : decode cL_learn 204 = .ok (.iload 11, 2) := by decide +kernel
theorem dL_learn_206 : decode cL_learn 206 = .ok (.isub, 1) := by decide +kernel
theorem dL_learn_207 : decode cL_learn 207 = .ok (.dup2, 1) := by decide +kernel
theorem dL_learn_208 : decode cL_learn 208 = .ok (.iaload, 1) := by decide +kernel
theorem dL_learn_209 : decode cL_learn 209 = .ok (.iconst 1, 1) := by decide +kernel
theorem dL_learn_210 : decode cL_learn 210 = .ok (.iadd, 1) := by decide +kernel
theorem dL_learn_211 : decode cL_learn 211 = .ok (.iastore, 1) := by decide +kernel
theorem dL_learn_212 : decode cL_learn 212 = .ok (.lload 8, 2) := by decide +kernel
theorem dL_learn_214 : decode cL_learn 214 = .ok (.aload 6, 2) := by decide +kernel
theorem dL_learn_216 : decode cL_learn 216 = .ok (.invokestatic 20, 3) := by decide +kernel
theorem dL_learn_219 : decode cL_learn 219 = .ok (.aload_n 1, 1) := by decide +kernel
theorem dL_learn_220 : decode cL_learn 220 = .ok (.invokestatic 24, 3) := by decide +kernel
theorem dL_learn_223 : decode cL_learn 223 = .ok (.iload 7, 2) := by decide +kernel
theorem dL_learn_225 : decode cL_learn 225 = .ok (.aload_n 2, 1) := by decide +kernel
theorem dL_learn_226 : decode cL_learn 226 = .ok (.aload_n 3, 1) := by decide +kernel
theorem dL_learn_227 : decode cL_learn 227 = .ok (.aload 4, 2) := by decide +kernel
theorem dL_learn_229 : decode cL_learn 229 = .ok (.aload 5, 2) := by decide +kernel
theorem dL_learn_231 : decode cL_learn 231 = .ok (.invokestatic 28, 3) := by decide +kernel
theorem dL_learn_234 : decode cL_learn 234 = .ok (.lstore 8, 2) := by decide +kernel
theorem dL_learn_236 : decode cL_learn 236 = .ok (.aload 6, 2) := by decide +kernel
theorem dL_learn_238 : decode cL_learn 238 = .ok (.iload 11, 2) := by decide +kernel
theorem dL_learn_240 : decode cL_learn 240 = .ok (.dup2, 1) := by decide +kernel
theorem dL_learn_241 : decode cL_learn 241 = .ok (.iaload, 1) := by decide +kernel
theorem dL_learn_242 : decode cL_learn 242 = .ok (.iconst 1, 1) := by decide +kernel
theorem dL_learn_243 : decode cL_learn 243 = .ok (.isub, 1) := by decide +kernel
theorem dL_learn_244 : decode cL_learn 244 = .ok (.iastore, 1) := by decide +kernel
theorem dL_learn_245 : decode cL_learn 245 = .ok (.aload 6, 2) := by decide +kernel
theorem dL_learn_247 : decode cL_learn 247 = .ok (.iload 10, 2) := by decide +kernel
theorem dL_learn_249 : decode cL_learn 249 = .ok (.iload 11, 2) := by decide +kernel
theorem dL_learn_251 : decode cL_learn 251 = .ok (.isub, 1) := by decide +kernel
theorem dL_learn_252 : decode cL_learn 252 = .ok (.dup2, 1) := by decide +kernel
theorem dL_learn_253 : decode cL_learn 253 = .ok (.iaload, 1) := by decide +kernel
theorem dL_learn_254 : decode cL_learn 254 = .ok (.iconst 1, 1) := by decide +kernel
theorem dL_learn_255 : decode cL_learn 255 = .ok (.isub, 1) := by decide +kernel
theorem dL_learn_256 : decode cL_learn 256 = .ok (.iastore, 1) := by decide +kernel
theorem dL_learn_257 : decode cL_learn 257 = .ok (.iinc 11 1, 3) := by decide +kernel
theorem dL_learn_260 : decode cL_learn 260 = .ok (.goto (-85), 3) := by decide +kernel
theorem dL_learn_263 : decode cL_learn 263 = .ok (.iconst 1, 1) := by decide +kernel
theorem dL_learn_264 : decode cL_learn 264 = .ok (.istore 11, 2) := by decide +kernel
theorem dL_learn_266 : decode cL_learn 266 = .ok (.aload_n 0, 1) := by decide +kernel
theorem dL_learn_267 : decode cL_learn 267 = .ok (.iconst 2, 1) := by decide +kernel
theorem dL_learn_268 : decode cL_learn 268 = .ok (.iaload, 1) := by decide +kernel
theorem dL_learn_269 : decode cL_learn 269 = .ok (.iconst 1, 1) := by decide +kernel
theorem dL_learn_270 : decode cL_learn 270 = .ok (.if_icmp .ne 97, 3) := by decide +kernel
theorem dL_learn_273 : decode cL_learn 273 = .ok (.iload 11, 2) := by decide +kernel
theorem dL_learn_275 : decode cL_learn 275 = .ok (.bipush 8, 2) := by decide +kernel
theorem dL_learn_277 : decode cL_learn 277 = .ok (.if_icmp .ge 90, 3) := by decide +kernel
theorem dL_learn_280 : decode cL_learn 280 = .ok (.aload 6, 2) := by decide +kernel
theorem dL_learn_282 : decode cL_learn 282 = .ok (.iload 11, 2) := by decide +kernel
theorem dL_learn_284 : decode cL_learn 284 = .ok (.iaload, 1) := by decide +kernel
theorem dL_learn_285 : decode cL_learn 285 = .ok (.ifCond .ne 6, 3) := by decide +kernel
theorem dL_learn_288 : decode cL_learn 288 = .ok (.goto 73, 3) := by decide +kernel
theorem dL_learn_291 : decode cL_learn 291 = .ok (.aload 6, 2) := by decide +kernel
theorem dL_learn_293 : decode cL_learn 293 = .ok (.iload 11, 2) := by decide +kernel
theorem dL_learn_295 : decode cL_learn 295 = .ok (.dup2, 1) := by decide +kernel
theorem dL_learn_296 : decode cL_learn 296 = .ok (.iaload, 1) := by decide +kernel
theorem dL_learn_297 : decode cL_learn 297 = .ok (.iconst 1, 1) := by decide +kernel
theorem dL_learn_298 : decode cL_learn 298 = .ok (.isub, 1) := by decide +kernel
theorem dL_learn_299 : decode cL_learn 299 = .ok (.iastore, 1) := by decide +kernel
theorem dL_learn_300 : decode cL_learn 300 = .ok (.aload 6, 2) := by decide +kernel
theorem dL_learn_302 : decode cL_learn 302 = .ok (.iload 10, 2) := by decide +kernel
theorem dL_learn_304 : decode cL_learn 304 = .ok (.iload 11, 2) := by decide +kernel
theorem dL_learn_306 : decode cL_learn 306 = .ok (.iadd, 1) := by decide +kernel
theorem dL_learn_307 : decode cL_learn 307 = .ok (.iconst 1, 1) := by decide +kernel
theorem dL_learn_308 : decode cL_learn 308 = .ok (.isub, 1) := by decide +kernel
theorem dL_learn_309 : decode cL_learn 309 = .ok (.dup2, 1) := by decide +kernel
theorem dL_learn_310 : decode cL_learn 310 = .ok (.iaload, 1) := by decide +kernel
theorem dL_learn_311 : decode cL_learn 311 = .ok (.iconst 1, 1) := by decide +kernel
theorem dL_learn_312 : decode cL_learn 312 = .ok (.iadd, 1) := by decide +kernel
theorem dL_learn_313 : decode cL_learn 313 = .ok (.iastore, 1) := by decide +kernel
theorem dL_learn_314 : decode cL_learn 314 = .ok (.lload 8, 2) := by decide +kernel
theorem dL_learn_316 : decode cL_learn 316 = .ok (.aload 6, 2) := by decide +kernel
theorem dL_learn_318 : decode cL_learn 318 = .ok (.invokestatic 20, 3) := by decide +kernel
theorem dL_learn_321 : decode cL_learn 321 = .ok (.aload_n 1, 1) := by decide +kernel
theorem dL_learn_322 : decode cL_learn 322 = .ok (.invokestatic 24, 3) := by decide +kernel
theorem dL_learn_325 : decode cL_learn 325 = .ok (.iload 7, 2) := by decide +kernel
theorem dL_learn_327 : decode cL_learn 327 = .ok (.aload_n 2, 1) := by decide +kernel
theorem dL_learn_328 : decode cL_learn 328 = .ok (.aload_n 3, 1) := by decide +kernel
theorem dL_learn_329 : decode cL_learn 329 = .ok (.aload 4, 2) := by decide +kernel
theorem dL_learn_331 : decode cL_learn 331 = .ok (.aload 5, 2) := by decide +kernel
theorem dL_learn_333 : decode cL_learn 333 = .ok (.invokestatic 28, 3) := by decide +kernel
theorem dL_learn_336 : decode cL_learn 336 = .ok (.lstore 8, 2) := by decide +kernel
theorem dL_learn_338 : decode cL_learn 338 = .ok (.aload 6, 2) := by decide +kernel
theorem dL_learn_340 : decode cL_learn 340 = .ok (.iload 10, 2) := by decide +kernel
theorem dL_learn_342 : decode cL_learn 342 = .ok (.iload 11, 2) := by decide +kernel
theorem dL_learn_344 : decode cL_learn 344 = .ok (.iadd, 1) := by decide +kernel
theorem dL_learn_345 : decode cL_learn 345 = .ok (.iconst 1, 1) := by decide +kernel
theorem dL_learn_346 : decode cL_learn 346 = .ok (.isub, 1) := by decide +kernel
theorem dL_learn_347 : decode cL_learn 347 = .ok (.dup2, 1) := by decide +kernel
theorem dL_learn_348 : decode cL_learn 348 = .ok (.iaload, 1) := by decide +kernel
theorem dL_learn_349 : decode cL_learn 349 = .ok (.iconst 1, 1) := by decide +kernel
theorem dL_learn_350 : decode cL_learn 350 = .ok (.isub, 1) := by decide +kernel
theorem dL_learn_351 : decode cL_learn 351 = .ok (.iastore, 1) := by decide +kernel
theorem dL_learn_352 : decode cL_learn 352 = .ok (.aload 6, 2) := by decide +kernel
theorem dL_learn_354 : decode cL_learn 354 = .ok (.iload 11, 2) := by decide +kernel
theorem dL_learn_356 : decode cL_learn 356 = .ok (.dup2, 1) := by decide +kernel
theorem dL_learn_357 : decode cL_learn 357 = .ok (.iaload, 1) := by decide +kernel
theorem dL_learn_358 : decode cL_learn 358 = .ok (.iconst 1, 1) := by decide +kernel
theorem dL_learn_359 : decode cL_learn 359 = .ok (.iadd, 1) := by decide +kernel
theorem dL_learn_360 : decode cL_learn 360 = .ok (.iastore, 1) := by decide +kernel
theorem dL_learn_361 : decode cL_learn 361 = .ok (.iinc 11 1, 3) := by decide +kernel
theorem dL_learn_364 : decode cL_learn 364 = .ok (.goto (-98), 3) := by decide +kernel
theorem dL_learn_367 : decode cL_learn 367 = .ok (.aload 6, 2) := by decide +kernel
theorem dL_learn_369 : decode cL_learn 369 = .ok (.iload 10, 2) := by decide +kernel
theorem dL_learn_371 : decode cL_learn 371 = .ok (.dup2, 1) := by decide +kernel
theorem dL_learn_372 : decode cL_learn 372 = .ok (.iaload, 1) := by decide +kernel
theorem dL_learn_373 : decode cL_learn 373 = .ok (.iconst 1, 1) := by decide +kernel
theorem dL_learn_374 : decode cL_learn 374 = .ok (.iadd, 1) := by decide +kernel
theorem dL_learn_375 : decode cL_learn 375 = .ok (.iastore, 1) := by decide +kernel
theorem dL_learn_376 : decode cL_learn 376 = .ok (.iinc 10 1, 3) := by decide +kernel
theorem dL_learn_379 : decode cL_learn 379 = .ok (.goto (-306), 3) := by decide +kernel
theorem dL_learn_382 : decode cL_learn 382 = .ok (.aload_n 2, 1) := by decide +kernel
theorem dL_learn_383 : decode cL_learn 383 = .ok (.iload 7, 2) := by decide +kernel
theorem dL_learn_385 : decode cL_learn 385 = .ok (.iconst 0, 1) := by decide +kernel
theorem dL_learn_386 : decode cL_learn 386 = .ok (.iastore, 1) := by decide +kernel
theorem dL_learn_387 : decode cL_learn 387 = .ok (.lload 8, 2) := by decide +kernel
theorem dL_learn_389 : decode cL_learn 389 = .ok (.aload_n 2, 1) := by decide +kernel
theorem dL_learn_390 : decode cL_learn 390 = .ok (.iload 7, 2) := by decide +kernel
theorem dL_learn_392 : decode cL_learn 392 = .ok (.iaload, 1) := by decide +kernel
theorem dL_learn_393 : decode cL_learn 393 = .ok (.lshr, 1) := by decide +kernel
theorem dL_learn_394 : decode cL_learn 394 = .ok (.lconst 1, 1) := by decide +kernel
theorem dL_learn_395 : decode cL_learn 395 = .ok (.land, 1) := by decide +kernel
theorem dL_learn_396 : decode cL_learn 396 = .ok (.lconst 1, 1) := by decide +kernel
theorem dL_learn_397 : decode cL_learn 397 = .ok (.lcmp, 1) := by decide +kernel
theorem dL_learn_398 : decode cL_learn 398 = .ok (.ifCond .ne 14, 3) := by decide +kernel
theorem dL_learn_401 : decode cL_learn 401 = .ok (.aload_n 2, 1) := by decide +kernel
theorem dL_learn_402 : decode cL_learn 402 = .ok (.iload 7, 2) := by decide +kernel
theorem dL_learn_404 : decode cL_learn 404 = .ok (.dup2, 1) := by decide +kernel
theorem dL_learn_405 : decode cL_learn 405 = .ok (.iaload, 1) := by decide +kernel
theorem dL_learn_406 : decode cL_learn 406 = .ok (.iconst 1, 1) := by decide +kernel
theorem dL_learn_407 : decode cL_learn 407 = .ok (.iadd, 1) := by decide +kernel
theorem dL_learn_408 : decode cL_learn 408 = .ok (.iastore, 1) := by decide +kernel
theorem dL_learn_409 : decode cL_learn 409 = .ok (.goto (-22), 3) := by decide +kernel
theorem dL_learn_412 : decode cL_learn 412 = .ok (.iinc 7 1, 3) := by decide +kernel
theorem dL_learn_415 : decode cL_learn 415 = .ok (.goto (-406), 3) := by decide +kernel
theorem dL_learn_418 : decode cL_learn 418 = .ok (.return_, 1) := by decide +kernel
theorem dL_here_0 : decode cL_here 0 = .ok (.bipush 8, 2) := by decide +kernel
theorem dL_here_2 : decode cL_here 2 = .ok (.newarray .int, 2) := by decide +kernel
theorem dL_here_4 : decode cL_here 4 = .ok (.astore_n 2, 1) := by decide +kernel
theorem dL_here_5 : decode cL_here 5 = .ok (.iconst 0, 1) := by decide +kernel
theorem dL_here_6 : decode cL_here 6 = .ok (.istore_n 3, 1) := by decide +kernel
theorem dL_here_7 : decode cL_here 7 = .ok (.iload_n 3, 1) := by decide +kernel
theorem dL_here_8 : decode cL_here 8 = .ok (.iload_n 0, 1) := by decide +kernel
theorem dL_here_9 : decode cL_here 9 = .ok (.if_icmp .ge 18, 3) := by decide +kernel
theorem dL_here_12 : decode cL_here 12 = .ok (.aload_n 2, 1) := by decide +kernel
theorem dL_here_13 : decode cL_here 13 = .ok (.aload_n 1, 1) := by decide +kernel
theorem dL_here_14 : decode cL_here 14 = .ok (.iload_n 3, 1) := by decide +kernel
theorem dL_here_15 : decode cL_here 15 = .ok (.iaload, 1) := by decide +kernel
theorem dL_here_16 : decode cL_here 16 = .ok (.dup2, 1) := by decide +kernel
theorem dL_here_17 : decode cL_here 17 = .ok (.iaload, 1) := by decide +kernel
theorem dL_here_18 : decode cL_here 18 = .ok (.iconst 1, 1) := by decide +kernel
theorem dL_here_19 : decode cL_here 19 = .ok (.iadd, 1) := by decide +kernel
theorem dL_here_20 : decode cL_here 20 = .ok (.iastore, 1) := by decide +kernel
theorem dL_here_21 : decode cL_here 21 = .ok (.iinc 3 1, 3) := by decide +kernel
theorem dL_here_24 : decode cL_here 24 = .ok (.goto (-17), 3) := by decide +kernel
theorem dL_here_27 : decode cL_here 27 = .ok (.aload_n 2, 1) := by decide +kernel
theorem dL_here_28 : decode cL_here 28 = .ok (.invokestatic 20, 3) := by decide +kernel
theorem dL_here_31 : decode cL_here 31 = .ok (.ireturn, 1) := by decide +kernel
theorem dL_move_0 : decode cL_move 0 = .ok (.iload_n 0, 1) := by decide +kernel
theorem dL_move_1 : decode cL_move 1 = .ok (.iconst 1, 1) := by decide +kernel
theorem dL_move_2 : decode cL_move 2 = .ok (.if_icmp .ne 53, 3) := by decide +kernel
theorem dL_move_5 : decode cL_move 5 = .ok (.iload_n 3, 1) := by decide +kernel
theorem dL_move_6 : decode cL_move 6 = .ok (.istore 5, 2) := by decide +kernel
theorem dL_move_8 : decode cL_move 8 = .ok (.iload 5, 2) := by decide +kernel
theorem dL_move_10 : decode cL_move 10 = .ok (.iload_n 1, 1) := by decide +kernel
theorem dL_move_11 : decode cL_move 11 = .ok (.iconst 1, 1) := by decide +kernel
theorem dL_move_12 : decode cL_move 12 = .ok (.iadd, 1) := by decide +kernel
theorem dL_move_13 : decode cL_move 13 = .ok (.if_icmp .le 21, 3) := by decide +kernel
theorem dL_move_16 : decode cL_move 16 = .ok (.aload 4, 2) := by decide +kernel
theorem dL_move_18 : decode cL_move 18 = .ok (.iload 5, 2) := by decide +kernel
theorem dL_move_20 : decode cL_move 20 = .ok (.aload 4, 2) := by decide +kernel
theorem dL_move_22 : decode cL_move 22 = .ok (.iload 5, 2) := by decide +kernel
theorem dL_move_24 : decode cL_move 24 = .ok (.iconst 1, 1) := by decide +kernel
theorem dL_move_25 : decode cL_move 25 = .ok (.isub, 1) := by decide +kernel
theorem dL_move_26 : decode cL_move 26 = .ok (.iaload, 1) := by decide +kernel
theorem dL_move_27 : decode cL_move 27 = .ok (.iastore, 1) := by decide +kernel
theorem dL_move_28 : decode cL_move 28 = .ok (.iinc 5 (-1), 3) := by decide +kernel
theorem dL_move_31 : decode cL_move 31 = .ok (.goto (-23), 3) := by decide +kernel
theorem dL_move_34 : decode cL_move 34 = .ok (.aload 4, 2) := by decide +kernel
theorem dL_move_36 : decode cL_move 36 = .ok (.iload_n 1, 1) := by decide +kernel
theorem dL_move_37 : decode cL_move 37 = .ok (.iconst 1, 1) := by decide +kernel
theorem dL_move_38 : decode cL_move 38 = .ok (.iadd, 1) := by decide +kernel
theorem dL_move_39 : decode cL_move 39 = .ok (.aload 4, 2) := by decide +kernel
theorem dL_move_41 : decode cL_move 41 = .ok (.iload_n 1, 1) := by decide +kernel
theorem dL_move_42 : decode cL_move 42 = .ok (.iaload, 1) := by decide +kernel
theorem dL_move_43 : decode cL_move 43 = .ok (.iload_n 2, 1) := by decide +kernel
theorem dL_move_44 : decode cL_move 44 = .ok (.isub, 1) := by decide +kernel
theorem dL_move_45 : decode cL_move 45 = .ok (.iastore, 1) := by decide +kernel
theorem dL_move_46 : decode cL_move 46 = .ok (.aload 4, 2) := by decide +kernel
theorem dL_move_48 : decode cL_move 48 = .ok (.iload_n 1, 1) := by decide +kernel
theorem dL_move_49 : decode cL_move 49 = .ok (.iload_n 2, 1) := by decide +kernel
theorem dL_move_50 : decode cL_move 50 = .ok (.iastore, 1) := by decide +kernel
theorem dL_move_51 : decode cL_move 51 = .ok (.iload_n 3, 1) := by decide +kernel
theorem dL_move_52 : decode cL_move 52 = .ok (.iconst 1, 1) := by decide +kernel
theorem dL_move_53 : decode cL_move 53 = .ok (.iadd, 1) := by decide +kernel
theorem dL_move_54 : decode cL_move 54 = .ok (.ireturn, 1) := by decide +kernel
theorem dL_move_55 : decode cL_move 55 = .ok (.iload_n 0, 1) := by decide +kernel
theorem dL_move_56 : decode cL_move 56 = .ok (.ifCond .ne 7, 3) := by decide +kernel
theorem dL_move_59 : decode cL_move 59 = .ok (.iload_n 1, 1) := by decide +kernel
theorem dL_move_60 : decode cL_move 60 = .ok (.goto 4, 3) := by decide +kernel
theorem dL_move_63 : decode cL_move 63 = .ok (.iload_n 2, 1) := by decide +kernel
theorem dL_move_64 : decode cL_move 64 = .ok (.istore 5, 2) := by decide +kernel
theorem dL_move_66 : decode cL_move 66 = .ok (.iload_n 0, 1) := by decide +kernel
theorem dL_move_67 : decode cL_move 67 = .ok (.ifCond .ne 14, 3) := by decide +kernel
theorem dL_move_70 : decode cL_move 70 = .ok (.aload 4, 2) := by decide +kernel
theorem dL_move_72 : decode cL_move 72 = .ok (.iload_n 1, 1) := by decide +kernel
theorem dL_move_73 : decode cL_move 73 = .ok (.dup2, 1) := by decide +kernel
theorem dL_move_74 : decode cL_move 74 = .ok (.iaload, 1) := by decide +kernel
theorem dL_move_75 : decode cL_move 75 = .ok (.iload_n 2, 1) := by decide +kernel
theorem dL_move_76 : decode cL_move 76 = .ok (.isub, 1) := by decide +kernel
theorem dL_move_77 : decode cL_move 77 = .ok (.iastore, 1) := by decide +kernel
theorem dL_move_78 : decode cL_move 78 = .ok (.goto 16, 3) := by decide +kernel
theorem dL_move_81 : decode cL_move 81 = .ok (.aload 4, 2) := by decide +kernel
theorem dL_move_83 : decode cL_move 83 = .ok (.iload_n 1, 1) := by decide +kernel
theorem dL_move_84 : decode cL_move 84 = .ok (.dup2, 1) := by decide +kernel
theorem dL_move_85 : decode cL_move 85 = .ok (.iaload, 1) := by decide +kernel
theorem dL_move_86 : decode cL_move 86 = .ok (.aload 4, 2) := by decide +kernel
theorem dL_move_88 : decode cL_move 88 = .ok (.iload_n 2, 1) := by decide +kernel
theorem dL_move_89 : decode cL_move 89 = .ok (.iaload, 1) := by decide +kernel
theorem dL_move_90 : decode cL_move 90 = .ok (.iconst 1, 1) := by decide +kernel
theorem dL_move_91 : decode cL_move 91 = .ok (.isub, 1) := by decide +kernel
theorem dL_move_92 : decode cL_move 92 = .ok (.iadd, 1) := by decide +kernel
theorem dL_move_93 : decode cL_move 93 = .ok (.iastore, 1) := by decide +kernel
theorem dL_move_94 : decode cL_move 94 = .ok (.iload_n 0, 1) := by decide +kernel
theorem dL_move_95 : decode cL_move 95 = .ok (.ifCond .ne 12, 3) := by decide +kernel
theorem dL_move_98 : decode cL_move 98 = .ok (.aload 4, 2) := by decide +kernel
theorem dL_move_100 : decode cL_move 100 = .ok (.iload_n 1, 1) := by decide +kernel
theorem dL_move_101 : decode cL_move 101 = .ok (.iaload, 1) := by decide +kernel
theorem dL_move_102 : decode cL_move 102 = .ok (.ifCond .le 5, 3) := by decide +kernel
theorem dL_move_105 : decode cL_move 105 = .ok (.iload_n 3, 1) := by decide +kernel
theorem dL_move_106 : decode cL_move 106 = .ok (.ireturn, 1) := by decide +kernel
theorem dL_move_107 : decode cL_move 107 = .ok (.iload 5, 2) := by decide +kernel
theorem dL_move_109 : decode cL_move 109 = .ok (.istore 6, 2) := by decide +kernel
theorem dL_move_111 : decode cL_move 111 = .ok (.iload 6, 2) := by decide +kernel
theorem dL_move_113 : decode cL_move 113 = .ok (.iload_n 3, 1) := by decide +kernel
theorem dL_move_114 : decode cL_move 114 = .ok (.iconst 1, 1) := by decide +kernel
theorem dL_move_115 : decode cL_move 115 = .ok (.isub, 1) := by decide +kernel
theorem dL_move_116 : decode cL_move 116 = .ok (.if_icmp .ge 21, 3) := by decide +kernel
theorem dL_move_119 : decode cL_move 119 = .ok (.aload 4, 2) := by decide +kernel
theorem dL_move_121 : decode cL_move 121 = .ok (.iload 6, 2) := by decide +kernel
theorem dL_move_123 : decode cL_move 123 = .ok (.aload 4, 2) := by decide +kernel
theorem dL_move_125 : decode cL_move 125 = .ok (.iload 6, 2) := by decide +kernel
theorem dL_move_127 : decode cL_move 127 = .ok (.iconst 1, 1) := by decide +kernel
theorem dL_move_128 : decode cL_move 128 = .ok (.iadd, 1) := by decide +kernel
theorem dL_move_129 : decode cL_move 129 = .ok (.iaload, 1) := by decide +kernel
theorem dL_move_130 : decode cL_move 130 = .ok (.iastore, 1) := by decide +kernel
theorem dL_move_131 : decode cL_move 131 = .ok (.iinc 6 1, 3) := by decide +kernel
theorem dL_move_134 : decode cL_move 134 = .ok (.goto (-23), 3) := by decide +kernel
theorem dL_move_137 : decode cL_move 137 = .ok (.iload_n 3, 1) := by decide +kernel
theorem dL_move_138 : decode cL_move 138 = .ok (.iconst 1, 1) := by decide +kernel
theorem dL_move_139 : decode cL_move 139 = .ok (.isub, 1) := by decide +kernel
theorem dL_move_140 : decode cL_move 140 = .ok (.ireturn, 1) := by decide +kernel
theorem dL_won_0 : decode cL_won 0 = .ok (.aload_n 1, 1) := by decide +kernel
theorem dL_won_1 : decode cL_won 1 = .ok (.iconst 3, 1) := by decide +kernel
theorem dL_won_2 : decode cL_won 2 = .ok (.iaload, 1) := by decide +kernel
theorem dL_won_3 : decode cL_won 3 = .ok (.iconst 1, 1) := by decide +kernel
theorem dL_won_4 : decode cL_won 4 = .ok (.if_icmp .ne 17, 3) := by decide +kernel
theorem dL_won_7 : decode cL_won 7 = .ok (.aload_n 2, 1) := by decide +kernel
theorem dL_won_8 : decode cL_won 8 = .ok (.iload_n 0, 1) := by decide +kernel
theorem dL_won_9 : decode cL_won 9 = .ok (.iaload, 1) := by decide +kernel
theorem dL_won_10 : decode cL_won 10 = .ok (.ifCond .le 7, 3) := by decide +kernel
theorem dL_won_13 : decode cL_won 13 = .ok (.iconst 1, 1) := by decide +kernel
theorem dL_won_14 : decode cL_won 14 = .ok (.goto 19, 3) := by decide +kernel
theorem dL_won_17 : decode cL_won 17 = .ok (.iconst 0, 1) := by decide +kernel
theorem dL_won_18 : decode cL_won 18 = .ok (.goto 15, 3) := by decide +kernel
theorem dL_won_21 : decode cL_won 21 = .ok (.aload_n 3, 1) := by decide +kernel
theorem dL_won_22 : decode cL_won 22 = .ok (.iload_n 0, 1) := by decide +kernel
theorem dL_won_23 : decode cL_won 23 = .ok (.iaload, 1) := by decide +kernel
theorem dL_won_24 : decode cL_won 24 = .ok (.iconst 1, 1) := by decide +kernel
theorem dL_won_25 : decode cL_won 25 = .ok (.if_icmp .ne 7, 3) := by decide +kernel
theorem dL_won_28 : decode cL_won 28 = .ok (.iconst 1, 1) := by decide +kernel
theorem dL_won_29 : decode cL_won 29 = .ok (.goto 4, 3) := by decide +kernel
theorem dL_won_32 : decode cL_won 32 = .ok (.iconst 0, 1) := by decide +kernel
theorem dL_won_33 : decode cL_won 33 = .ok (.ireturn, 1) := by decide +kernel
theorem dL_same_0 : decode cL_same 0 = .ok (.aload_n 1, 1) := by decide +kernel
theorem dL_same_1 : decode cL_same 1 = .ok (.iconst 4, 1) := by decide +kernel
theorem dL_same_2 : decode cL_same 2 = .ok (.iaload, 1) := by decide +kernel
theorem dL_same_3 : decode cL_same 3 = .ok (.istore 8, 2) := by decide +kernel
theorem dL_same_5 : decode cL_same 5 = .ok (.iconst 0, 1) := by decide +kernel
theorem dL_same_6 : decode cL_same 6 = .ok (.istore 9, 2) := by decide +kernel
theorem dL_same_8 : decode cL_same 8 = .ok (.iconst 0, 1) := by decide +kernel
theorem dL_same_9 : decode cL_same 9 = .ok (.istore 10, 2) := by decide +kernel
theorem dL_same_11 : decode cL_same 11 = .ok (.bipush 8, 2) := by decide +kernel
theorem dL_same_13 : decode cL_same 13 = .ok (.newarray .int, 2) := by decide +kernel
theorem dL_same_15 : decode cL_same 15 = .ok (.astore 11, 2) := by decide +kernel
theorem dL_same_17 : decode cL_same 17 = .ok (.iconst 0, 1) := by decide +kernel
theorem dL_same_18 : decode cL_same 18 = .ok (.istore 12, 2) := by decide +kernel
theorem dL_same_20 : decode cL_same 20 = .ok (.iload 12, 2) := by decide +kernel
theorem dL_same_22 : decode cL_same 22 = .ok (.iload 8, 2) := by decide +kernel
theorem dL_same_24 : decode cL_same 24 = .ok (.if_icmp .ge 85, 3) := by decide +kernel
theorem dL_same_27 : decode cL_same 27 = .ok (.iload 9, 2) := by decide +kernel
theorem dL_same_29 : decode cL_same 29 = .ok (.aload_n 2, 1) := by decide +kernel
theorem dL_same_30 : decode cL_same 30 = .ok (.iload 12, 2) := by decide +kernel
theorem dL_same_32 : decode cL_same 32 = .ok (.iaload, 1) := by decide +kernel
theorem dL_same_33 : decode cL_same 33 = .ok (.iadd, 1) := by decide +kernel
theorem dL_same_34 : decode cL_same 34 = .ok (.istore 9, 2) := by decide +kernel
theorem dL_same_36 : decode cL_same 36 = .ok (.iconst 0, 1) := by decide +kernel
theorem dL_same_37 : decode cL_same 37 = .ok (.istore 13, 2) := by decide +kernel
theorem dL_same_39 : decode cL_same 39 = .ok (.iload 13, 2) := by decide +kernel
theorem dL_same_41 : decode cL_same 41 = .ok (.bipush 8, 2) := by decide +kernel
theorem dL_same_43 : decode cL_same 43 = .ok (.if_icmp .ge 28, 3) := by decide +kernel
theorem dL_same_46 : decode cL_same 46 = .ok (.aload 11, 2) := by decide +kernel
theorem dL_same_48 : decode cL_same 48 = .ok (.iload 13, 2) := by decide +kernel
theorem dL_same_50 : decode cL_same 50 = .ok (.iload 13, 2) := by decide +kernel
theorem dL_same_52 : decode cL_same 52 = .ok (.aload_n 2, 1) := by decide +kernel
theorem dL_same_53 : decode cL_same 53 = .ok (.iload 12, 2) := by decide +kernel
theorem dL_same_55 : decode cL_same 55 = .ok (.iaload, 1) := by decide +kernel
theorem dL_same_56 : decode cL_same 56 = .ok (.if_icmp .ne 7, 3) := by decide +kernel
theorem dL_same_59 : decode cL_same 59 = .ok (.iconst 1, 1) := by decide +kernel
theorem dL_same_60 : decode cL_same 60 = .ok (.goto 4, 3) := by decide +kernel
theorem dL_same_63 : decode cL_same 63 = .ok (.iconst 0, 1) := by decide +kernel
theorem dL_same_64 : decode cL_same 64 = .ok (.iastore, 1) := by decide +kernel
theorem dL_same_65 : decode cL_same 65 = .ok (.iinc 13 1, 3) := by decide +kernel
theorem dL_same_68 : decode cL_same 68 = .ok (.goto (-29), 3) := by decide +kernel
theorem dL_same_71 : decode cL_same 71 = .ok (.iload 10, 2) := by decide +kernel
theorem dL_same_73 : decode cL_same 73 = .ok (.aload 4, 2) := by decide +kernel
theorem dL_same_75 : decode cL_same 75 = .ok (.aload 11, 2) := by decide +kernel
theorem dL_same_77 : decode cL_same 77 = .ok (.invokestatic 20, 3) := by decide +kernel
theorem dL_same_80 : decode cL_same 80 = .ok (.aload_n 3, 1) := by decide +kernel
theorem dL_same_81 : decode cL_same 81 = .ok (.invokestatic 24, 3) := by decide +kernel
theorem dL_same_84 : decode cL_same 84 = .ok (.iaload, 1) := by decide +kernel
theorem dL_same_85 : decode cL_same 85 = .ok (.ixor, 1) := by decide +kernel
theorem dL_same_86 : decode cL_same 86 = .ok (.istore 10, 2) := by decide +kernel
theorem dL_same_88 : decode cL_same 88 = .ok (.aload_n 0, 1) := by decide +kernel
theorem dL_same_89 : decode cL_same 89 = .ok (.iload 12, 2) := by decide +kernel
theorem dL_same_91 : decode cL_same 91 = .ok (.invokevirtual 32, 3) := by decide +kernel
theorem dL_same_94 : decode cL_same 94 = .ok (.aload_n 2, 1) := by decide +kernel
theorem dL_same_95 : decode cL_same 95 = .ok (.iload 12, 2) := by decide +kernel
theorem dL_same_97 : decode cL_same 97 = .ok (.iaload, 1) := by decide +kernel
theorem dL_same_98 : decode cL_same 98 = .ok (.if_icmp .eq 5, 3) := by decide +kernel
theorem dL_same_101 : decode cL_same 101 = .ok (.iconst 0, 1) := by decide +kernel
theorem dL_same_102 : decode cL_same 102 = .ok (.ireturn, 1) := by decide +kernel
theorem dL_same_103 : decode cL_same 103 = .ok (.iinc 12 1, 3) := by decide +kernel
theorem dL_same_106 : decode cL_same 106 = .ok (.goto (-86), 3) := by decide +kernel
theorem dL_same_109 : decode cL_same 109 = .ok (.iconst 0, 1) := by decide +kernel
theorem dL_same_110 : decode cL_same 110 = .ok (.istore 12, 2) := by decide +kernel
theorem dL_same_112 : decode cL_same 112 = .ok (.iconst 0, 1) := by decide +kernel
theorem dL_same_113 : decode cL_same 113 = .ok (.istore 13, 2) := by decide +kernel
theorem dL_same_115 : decode cL_same 115 = .ok (.iconst (-1), 1) := by decide +kernel
theorem dL_same_116 : decode cL_same 116 = .ok (.istore 14, 2) := by decide +kernel
theorem dL_same_118 : decode cL_same 118 = .ok (.iconst (-1), 1) := by decide +kernel
theorem dL_same_119 : decode cL_same 119 = .ok (.istore 15, 2) := by decide +kernel
theorem dL_same_121 : decode cL_same 121 = .ok (.bipush 12, 2) := by decide +kernel
theorem dL_same_123 : decode cL_same 123 = .ok (.newarray .int, 2) := by decide +kernel
theorem dL_same_125 : decode cL_same 125 = .ok (.astore 16, 2) := by decide +kernel
theorem dL_same_127 : decode cL_same 127 = .ok (.iconst 0, 1) := by decide +kernel
theorem dL_same_128 : decode cL_same 128 = .ok (.istore 17, 2) := by decide +kernel
theorem dL_same_130 : decode cL_same 130 = .ok (.iload 17, 2) := by decide +kernel
theorem dL_same_132 : decode cL_same 132 = .ok (.iconst 3, 1) := by decide +kernel
theorem dL_same_133 : decode cL_same 133 = .ok (.if_icmp .ge 289, 3) := by decide +kernel
theorem dL_same_136 : decode cL_same 136 = .ok (.iconst 0, 1) := by decide +kernel
theorem dL_same_137 : decode cL_same 137 = .ok (.istore 18, 2) := by decide +kernel
theorem dL_same_139 : decode cL_same 139 = .ok (.iload 18, 2) := by decide +kernel
theorem dL_same_141 : decode cL_same 141 = .ok (.iload 8, 2) := by decide +kernel
theorem dL_same_143 : decode cL_same 143 = .ok (.if_icmp .ge 273, 3) := by decide +kernel
theorem dL_same_146 : decode cL_same 146 = .ok (.iconst 1, 1) := by decide +kernel
theorem dL_same_147 : decode cL_same 147 = .ok (.istore 19, 2) := by decide +kernel
theorem dL_same_149 : decode cL_same 149 = .ok (.iload 19, 2) := by decide +kernel
theorem dL_same_151 : decode cL_same 151 = .ok (.bipush 12, 2) := by decide +kernel
theorem dL_same_153 : decode cL_same 153 = .ok (.if_icmp .ge 257, 3) := by decide +kernel
theorem dL_same_156 : decode cL_same 156 = .ok (.iload 17, 2) := by decide +kernel
theorem dL_same_158 : decode cL_same 158 = .ok (.ifCond .ne 20, 3) := by decide +kernel
theorem dL_same_161 : decode cL_same 161 = .ok (.iload 19, 2) := by decide +kernel
theorem dL_same_163 : decode cL_same 163 = .ok (.aload_n 1, 1) := by decide +kernel
theorem dL_same_164 : decode cL_same 164 = .ok (.iconst 0, 1) := by decide +kernel
theorem dL_same_165 : decode cL_same 165 = .ok (.iaload, 1) := by decide +kernel
theorem dL_same_166 : decode cL_same 166 = .ok (.if_icmp .gt 238, 3) := by decide +kernel
theorem dL_same_169 : decode cL_same 169 = .ok (.iload 19, 2) := by decide +kernel
theorem dL_same_171 : decode cL_same 171 = .ok (.aload_n 2, 1) := by decide +kernel
theorem dL_same_172 : decode cL_same 172 = .ok (.iload 18, 2) := by decide +kernel
theorem dL_same_174 : decode cL_same 174 = .ok (.iaload, 1) := by decide +kernel
theorem dL_same_175 : decode cL_same 175 = .ok (.if_icmp .gt 229, 3) := by decide +kernel
theorem dL_same_178 : decode cL_same 178 = .ok (.iload 17, 2) := by decide +kernel
theorem dL_same_180 : decode cL_same 180 = .ok (.iconst 1, 1) := by decide +kernel
theorem dL_same_181 : decode cL_same 181 = .ok (.if_icmp .ne 20, 3) := by decide +kernel
theorem dL_same_184 : decode cL_same 184 = .ok (.aload_n 1, 1) := by decide +kernel
theorem dL_same_185 : decode cL_same 185 = .ok (.iconst 1, 1) := by decide +kernel
theorem dL_same_186 : decode cL_same 186 = .ok (.iaload, 1) := by decide +kernel
theorem dL_same_187 : decode cL_same 187 = .ok (.ifCond .eq 217, 3) := by decide +kernel
theorem dL_same_190 : decode cL_same 190 = .ok (.iconst 2, 1) := by decide +kernel
theorem dL_same_191 : decode cL_same 191 = .ok (.iload 19, 2) := by decide +kernel
theorem dL_same_193 : decode cL_same 193 = .ok (.imul, 1) := by decide +kernel
theorem dL_same_194 : decode cL_same 194 = .ok (.aload_n 2, 1) := by decide +kernel
theorem dL_same_195 : decode cL_same 195 = .ok (.iload 18, 2) := by decide +kernel
theorem dL_same_197 : decode cL_same 197 = .ok (.iaload, 1) := by decide +kernel
theorem dL_same_198 : decode cL_same 198 = .ok (.if_icmp .gt 206, 3) := by decide +kernel
theorem dL_same_201 : decode cL_same 201 = .ok (.iload 17, 2) := by decide +kernel
theorem dL_same_203 : decode cL_same 203 = .ok (.iconst 2, 1) := by decide +kernel
theorem dL_same_204 : decode cL_same 204 = .ok (.if_icmp .ne 26, 3) := by decide +kernel
theorem dL_same_207 : decode cL_same 207 = .ok (.aload_n 1, 1) := by decide +kernel
theorem dL_same_208 : decode cL_same 208 = .ok (.iconst 2, 1) := by decide +kernel
theorem dL_same_209 : decode cL_same 209 = .ok (.iaload, 1) := by decide +kernel
theorem dL_same_210 : decode cL_same 210 = .ok (.ifCond .eq 194, 3) := by decide +kernel
theorem dL_same_213 : decode cL_same 213 = .ok (.iload 19, 2) := by decide +kernel
theorem dL_same_215 : decode cL_same 215 = .ok (.iload 18, 2) := by decide +kernel
theorem dL_same_217 : decode cL_same 217 = .ok (.if_icmp .le 187, 3) := by decide +kernel
theorem dL_same_220 : decode cL_same 220 = .ok (.iload 19, 2) := by decide +kernel
theorem dL_same_222 : decode cL_same 222 = .ok (.iload 8, 2) := by decide +kernel
theorem dL_same_224 : decode cL_same 224 = .ok (.if_icmp .lt 6, 3) := by decide +kernel
theorem dL_same_227 : decode cL_same 227 = .ok (.goto 177, 3) := by decide +kernel
theorem dL_same_230 : decode cL_same 230 = .ok (.iconst 0, 1) := by decide +kernel
theorem dL_same_231 : decode cL_same 231 = .ok (.istore 20, 2) := by decide +kernel
theorem dL_same_233 : decode cL_same 233 = .ok (.iload 20, 2) := by decide +kernel
theorem dL_same_235 : decode cL_same 235 = .ok (.iload 8, 2) := by decide +kernel
theorem dL_same_237 : decode cL_same 237 = .ok (.if_icmp .ge 18, 3) := by decide +kernel
theorem dL_same_240 : decode cL_same 240 = .ok (.aload 16, 2) := by decide +kernel
theorem dL_same_242 : decode cL_same 242 = .ok (.iload 20, 2) := by decide +kernel
theorem dL_same_244 : decode cL_same 244 = .ok (.aload_n 2, 1) := by decide +kernel
theorem dL_same_245 : decode cL_same 245 = .ok (.iload 20, 2) := by decide +kernel
theorem dL_same_247 : decode cL_same 247 = .ok (.iaload, 1) := by decide +kernel
theorem dL_same_248 : decode cL_same 248 = .ok (.iastore, 1) := by decide +kernel
theorem dL_same_249 : decode cL_same 249 = .ok (.iinc 20 1, 3) := by decide +kernel
theorem dL_same_252 : decode cL_same 252 = .ok (.goto (-19), 3) := by decide +kernel
theorem dL_same_255 : decode cL_same 255 = .ok (.iload 17, 2) := by decide +kernel
theorem dL_same_257 : decode cL_same 257 = .ok (.iload 18, 2) := by decide +kernel
theorem dL_same_259 : decode cL_same 259 = .ok (.iload 19, 2) := by decide +kernel
theorem dL_same_261 : decode cL_same 261 = .ok (.iload 8, 2) := by decide +kernel
theorem dL_same_263 : decode cL_same 263 = .ok (.aload 16, 2) := by decide +kernel
theorem dL_same_265 : decode cL_same 265 = .ok (.invokestatic 37, 3) := by decide +kernel
theorem dL_same_268 : decode cL_same 268 = .ok (.aload 16, 2) := by decide +kernel
theorem dL_same_270 : decode cL_same 270 = .ok (.invokestatic 41, 3) := by decide +kernel
theorem dL_same_273 : decode cL_same 273 = .ok (.aload_n 3, 1) := by decide +kernel
theorem dL_same_274 : decode cL_same 274 = .ok (.invokestatic 24, 3) := by decide +kernel
theorem dL_same_277 : decode cL_same 277 = .ok (.istore 20, 2) := by decide +kernel
theorem dL_same_279 : decode cL_same 279 = .ok (.iload 20, 2) := by decide +kernel
theorem dL_same_281 : decode cL_same 281 = .ok (.aload_n 1, 1) := by decide +kernel
theorem dL_same_282 : decode cL_same 282 = .ok (.aload 4, 2) := by decide +kernel
theorem dL_same_284 : decode cL_same 284 = .ok (.aload 5, 2) := by decide +kernel
theorem dL_same_286 : decode cL_same 286 = .ok (.invokestatic 44, 3) := by decide +kernel
theorem dL_same_289 : decode cL_same 289 = .ok (.ifCond .ne 7, 3) := by decide +kernel
theorem dL_same_292 : decode cL_same 292 = .ok (.iconst 1, 1) := by decide +kernel
theorem dL_same_293 : decode cL_same 293 = .ok (.goto 4, 3) := by decide +kernel
theorem dL_same_296 : decode cL_same 296 = .ok (.iconst 0, 1) := by decide +kernel
theorem dL_same_297 : decode cL_same 297 = .ok (.istore 21, 2) := by decide +kernel
theorem dL_same_299 : decode cL_same 299 = .ok (.iload 13, 2) := by decide +kernel
theorem dL_same_301 : decode cL_same 301 = .ok (.iload 21, 2) := by decide +kernel
theorem dL_same_303 : decode cL_same 303 = .ok (.ifCond .eq 7, 3) := by decide +kernel
theorem dL_same_306 : decode cL_same 306 = .ok (.iconst 1, 1) := by decide +kernel
theorem dL_same_307 : decode cL_same 307 = .ok (.goto 4, 3) := by decide +kernel
theorem dL_same_310 : decode cL_same 310 = .ok (.iconst 0, 1) := by decide +kernel
theorem dL_same_311 : decode cL_same 311 = .ok (.iadd, 1) := by decide +kernel
theorem dL_same_312 : decode cL_same 312 = .ok (.istore 13, 2) := by decide +kernel
theorem dL_same_314 : decode cL_same 314 = .ok (.iload 21, 2) := by decide +kernel
theorem dL_same_316 : decode cL_same 316 = .ok (.ifCond .eq 13, 3) := by decide +kernel
theorem dL_same_319 : decode cL_same 319 = .ok (.iload 13, 2) := by decide +kernel
theorem dL_same_321 : decode cL_same 321 = .ok (.iconst 1, 1) := by decide +kernel
theorem dL_same_322 : decode cL_same 322 = .ok (.if_icmp .ne 7, 3) := by decide +kernel
theorem dL_same_325 : decode cL_same 325 = .ok (.iload 12, 2) := by decide +kernel
theorem dL_same_327 : decode cL_same 327 = .ok (.istore 14, 2) := by decide +kernel
theorem dL_same_329 : decode cL_same 329 = .ok (.iload 13, 2) := by decide +kernel
theorem dL_same_331 : decode cL_same 331 = .ok (.ifCond .ne 24, 3) := by decide +kernel
theorem dL_same_334 : decode cL_same 334 = .ok (.aload 6, 2) := by decide +kernel
theorem dL_same_336 : decode cL_same 336 = .ok (.iload 20, 2) := by decide +kernel
theorem dL_same_338 : decode cL_same 338 = .ok (.iaload, 1) := by decide +kernel
theorem dL_same_339 : decode cL_same 339 = .ok (.iload 15, 2) := by decide +kernel
theorem dL_same_341 : decode cL_same 341 = .ok (.if_icmp .le 14, 3) := by decide +kernel
theorem dL_same_344 : decode cL_same 344 = .ok (.aload 6, 2) := by decide +kernel
theorem dL_same_346 : decode cL_same 346 = .ok (.iload 20, 2) := by decide +kernel
theorem dL_same_348 : decode cL_same 348 = .ok (.iaload, 1) := by decide +kernel
theorem dL_same_349 : decode cL_same 349 = .ok (.istore 15, 2) := by decide +kernel
theorem dL_same_351 : decode cL_same 351 = .ok (.iload 12, 2) := by decide +kernel
theorem dL_same_353 : decode cL_same 353 = .ok (.istore 14, 2) := by decide +kernel
theorem dL_same_355 : decode cL_same 355 = .ok (.aload_n 0, 1) := by decide +kernel
theorem dL_same_356 : decode cL_same 356 = .ok (.iload 12, 2) := by decide +kernel
theorem dL_same_358 : decode cL_same 358 = .ok (.invokevirtual 48, 3) := by decide +kernel
theorem dL_same_361 : decode cL_same 361 = .ok (.iload 17, 2) := by decide +kernel
theorem dL_same_363 : decode cL_same 363 = .ok (.if_icmp .ne 36, 3) := by decide +kernel
theorem dL_same_366 : decode cL_same 366 = .ok (.aload_n 0, 1) := by decide +kernel
theorem dL_same_367 : decode cL_same 367 = .ok (.iload 12, 2) := by decide +kernel
theorem dL_same_369 : decode cL_same 369 = .ok (.invokevirtual 51, 3) := by decide +kernel
theorem dL_same_372 : decode cL_same 372 = .ok (.iload 18, 2) := by decide +kernel
theorem dL_same_374 : decode cL_same 374 = .ok (.if_icmp .ne 25, 3) := by decide +kernel
theorem dL_same_377 : decode cL_same 377 = .ok (.aload_n 0, 1) := by decide +kernel
theorem dL_same_378 : decode cL_same 378 = .ok (.iload 12, 2) := by decide +kernel
theorem dL_same_380 : decode cL_same 380 = .ok (.invokevirtual 54, 3) := by decide +kernel
theorem dL_same_383 : decode cL_same 383 = .ok (.iload 19, 2) := by decide +kernel
theorem dL_same_385 : decode cL_same 385 = .ok (.if_icmp .ne 14, 3) := by decide +kernel
theorem dL_same_388 : decode cL_same 388 = .ok (.aload_n 0, 1) := by decide +kernel
theorem dL_same_389 : decode cL_same 389 = .ok (.iload 12, 2) := by decide +kernel
theorem dL_same_391 : decode cL_same 391 = .ok (.invokevirtual 57, 3) := by decide +kernel
theorem dL_same_394 : decode cL_same 394 = .ok (.iload 21, 2) := by decide +kernel
theorem dL_same_396 : decode cL_same 396 = .ok (.if_icmp .eq 5, 3) := by decide +kernel
theorem dL_same_399 : decode cL_same 399 = .ok (.iconst 0, 1) := by decide +kernel
theorem dL_same_400 : decode cL_same 400 = .ok (.ireturn, 1) := by decide +kernel
theorem dL_same_401 : decode cL_same 401 = .ok (.iinc 12 1, 3) := by decide +kernel
theorem dL_same_404 : decode cL_same 404 = .ok (.iinc 19 1, 3) := by decide +kernel
theorem dL_same_407 : decode cL_same 407 = .ok (.goto (-258), 3) := by decide +kernel
theorem dL_same_410 : decode cL_same 410 = .ok (.iinc 18 1, 3) := by decide +kernel
theorem dL_same_413 : decode cL_same 413 = .ok (.goto (-274), 3) := by decide +kernel
theorem dL_same_416 : decode cL_same 416 = .ok (.iinc 17 1, 3) := by decide +kernel
theorem dL_same_419 : decode cL_same 419 = .ok (.goto (-289), 3) := by decide +kernel
theorem dL_same_422 : decode cL_same 422 = .ok (.iload 8, 2) := by decide +kernel
theorem dL_same_424 : decode cL_same 424 = .ok (.aload_n 2, 1) := by decide +kernel
theorem dL_same_425 : decode cL_same 425 = .ok (.invokestatic 41, 3) := by decide +kernel
theorem dL_same_428 : decode cL_same 428 = .ok (.aload_n 3, 1) := by decide +kernel
theorem dL_same_429 : decode cL_same 429 = .ok (.invokestatic 24, 3) := by decide +kernel
theorem dL_same_432 : decode cL_same 432 = .ok (.istore 17, 2) := by decide +kernel
theorem dL_same_434 : decode cL_same 434 = .ok (.aload_n 1, 1) := by decide +kernel
theorem dL_same_435 : decode cL_same 435 = .ok (.iconst 5, 1) := by decide +kernel
theorem dL_same_436 : decode cL_same 436 = .ok (.iaload, 1) := by decide +kernel
theorem dL_same_437 : decode cL_same 437 = .ok (.aload_n 1, 1) := by decide +kernel
theorem dL_same_438 : decode cL_same 438 = .ok (.bipush 6, 2) := by decide +kernel
theorem dL_same_440 : decode cL_same 440 = .ok (.iaload, 1) := by decide +kernel
theorem dL_same_441 : decode cL_same 441 = .ok (.iadd, 1) := by decide +kernel
theorem dL_same_442 : decode cL_same 442 = .ok (.aload_n 1, 1) := by decide +kernel
theorem dL_same_443 : decode cL_same 443 = .ok (.bipush 7, 2) := by decide +kernel
theorem dL_same_445 : decode cL_same 445 = .ok (.iaload, 1) := by decide +kernel
theorem dL_same_446 : decode cL_same 446 = .ok (.iadd, 1) := by decide +kernel
theorem dL_same_447 : decode cL_same 447 = .ok (.istore 18, 2) := by decide +kernel
theorem dL_same_449 : decode cL_same 449 = .ok (.iload 18, 2) := by decide +kernel
theorem dL_same_451 : decode cL_same 451 = .ok (.iconst 1, 1) := by decide +kernel
theorem dL_same_452 : decode cL_same 452 = .ok (.iadd, 1) := by decide +kernel
theorem dL_same_453 : decode cL_same 453 = .ok (.iconst 2, 1) := by decide +kernel
theorem dL_same_454 : decode cL_same 454 = .ok (.irem, 1) := by decide +kernel
theorem dL_same_455 : decode cL_same 455 = .ok (.istore 19, 2) := by decide +kernel
theorem dL_same_457 : decode cL_same 457 = .ok (.iload 8, 2) := by decide +kernel
theorem dL_same_459 : decode cL_same 459 = .ok (.ifCond .gt 8, 3) := by decide +kernel
theorem dL_same_462 : decode cL_same 462 = .ok (.iload 18, 2) := by decide +kernel
theorem dL_same_464 : decode cL_same 464 = .ok (.ifCond .ne 7, 3) := by decide +kernel
theorem dL_same_467 : decode cL_same 467 = .ok (.iconst (-1), 1) := by decide +kernel
theorem dL_same_468 : decode cL_same 468 = .ok (.goto 19, 3) := by decide +kernel
theorem dL_same_471 : decode cL_same 471 = .ok (.aload_n 1, 1) := by decide +kernel
theorem dL_same_472 : decode cL_same 472 = .ok (.iconst 3, 1) := by decide +kernel
theorem dL_same_473 : decode cL_same 473 = .ok (.iaload, 1) := by decide +kernel
theorem dL_same_474 : decode cL_same 474 = .ok (.iconst 1, 1) := by decide +kernel
theorem dL_same_475 : decode cL_same 475 = .ok (.if_icmp .ne 8, 3) := by decide +kernel
theorem dL_same_478 : decode cL_same 478 = .ok (.iload 19, 2) := by decide +kernel
theorem dL_same_480 : decode cL_same 480 = .ok (.goto 7, 3) := by decide +kernel
theorem dL_same_483 : decode cL_same 483 = .ok (.iconst 1, 1) := by decide +kernel
theorem dL_same_484 : decode cL_same 484 = .ok (.iload 19, 2) := by decide +kernel
theorem dL_same_486 : decode cL_same 486 = .ok (.isub, 1) := by decide +kernel
theorem dL_same_487 : decode cL_same 487 = .ok (.istore 20, 2) := by decide +kernel
theorem dL_same_489 : decode cL_same 489 = .ok (.iload 12, 2) := by decide +kernel
theorem dL_same_491 : decode cL_same 491 = .ok (.ifCond .ne 7, 3) := by decide +kernel
theorem dL_same_494 : decode cL_same 494 = .ok (.dconst 0, 1) := by decide +kernel
theorem dL_same_495 : decode cL_same 495 = .ok (.goto 10, 3) := by decide +kernel
theorem dL_same_498 : decode cL_same 498 = .ok (.iload 13, 2) := by decide +kernel
theorem dL_same_500 : decode cL_same 500 = .ok (.i2d, 1) := by decide +kernel
theorem dL_same_501 : decode cL_same 501 = .ok (.iload 12, 2) := by decide +kernel
theorem dL_same_503 : decode cL_same 503 = .ok (.i2d, 1) := by decide +kernel
theorem dL_same_504 : decode cL_same 504 = .ok (.ddiv, 1) := by decide +kernel
theorem dL_same_505 : decode cL_same 505 = .ok (.dstore 21, 2) := by decide +kernel
theorem dL_same_507 : decode cL_same 507 = .ok (.aload_n 0, 1) := by decide +kernel
theorem dL_same_508 : decode cL_same 508 = .ok (.invokevirtual 61, 3) := by decide +kernel
theorem dL_same_511 : decode cL_same 511 = .ok (.iload 12, 2) := by decide +kernel
theorem dL_same_513 : decode cL_same 513 = .ok (.if_icmp .ne 246, 3) := by decide +kernel
theorem dL_same_516 : decode cL_same 516 = .ok (.aload_n 0, 1) := by decide +kernel
theorem dL_same_517 : decode cL_same 517 = .ok (.invokevirtual 65, 3) := by decide +kernel
theorem dL_same_520 : decode cL_same 520 = .ok (.iload 13, 2) := by decide +kernel
theorem dL_same_522 : decode cL_same 522 = .ok (.if_icmp .ne 237, 3) := by decide +kernel
theorem dL_same_525 : decode cL_same 525 = .ok (.aload_n 0, 1) := by decide +kernel
theorem dL_same_526 : decode cL_same 526 = .ok (.invokevirtual 68, 3) := by decide +kernel
theorem dL_same_529 : decode cL_same 529 = .ok (.iload 14, 2) := by decide +kernel
theorem dL_same_531 : decode cL_same 531 = .ok (.if_icmp .ne 228, 3) := by decide +kernel
theorem dL_same_534 : decode cL_same 534 = .ok (.aload_n 0, 1) := by decide +kernel
theorem dL_same_535 : decode cL_same 535 = .ok (.invokevirtual 71, 3) := by decide +kernel
theorem dL_same_538 : decode cL_same 538 = .ok (.dload 21, 2) := by decide +kernel
theorem dL_same_540 : decode cL_same 540 = .ok (.dcmp .l, 1) := by decide +kernel
theorem dL_same_541 : decode cL_same 541 = .ok (.ifCond .ne 218, 3) := by decide +kernel
theorem dL_same_544 : decode cL_same 544 = .ok (.aload_n 0, 1) := by decide +kernel
theorem dL_same_545 : decode cL_same 545 = .ok (.invokevirtual 75, 3) := by decide +kernel
theorem dL_same_548 : decode cL_same 548 = .ok (.aload 4, 2) := by decide +kernel
theorem dL_same_550 : decode cL_same 550 = .ok (.iload 17, 2) := by decide +kernel
theorem dL_same_552 : decode cL_same 552 = .ok (.iaload, 1) := by decide +kernel
theorem dL_same_553 : decode cL_same 553 = .ok (.if_icmp .ne 206, 3) := by decide +kernel
theorem dL_same_556 : decode cL_same 556 = .ok (.aload_n 0, 1) := by decide +kernel
theorem dL_same_557 : decode cL_same 557 = .ok (.invokevirtual 78, 3) := by decide +kernel
theorem dL_same_560 : decode cL_same 560 = .ok (.iload 10, 2) := by decide +kernel
theorem dL_same_562 : decode cL_same 562 = .ok (.if_icmp .ne 197, 3) := by decide +kernel
theorem dL_same_565 : decode cL_same 565 = .ok (.aload_n 0, 1) := by decide +kernel
theorem dL_same_566 : decode cL_same 566 = .ok (.invokevirtual 81, 3) := by decide +kernel
theorem dL_same_569 : decode cL_same 569 = .ok (.iload 17, 2) := by decide +kernel
theorem dL_same_571 : decode cL_same 571 = .ok (.aload_n 1, 1) := by decide +kernel
theorem dL_same_572 : decode cL_same 572 = .ok (.aload 4, 2) := by decide +kernel
theorem dL_same_574 : decode cL_same 574 = .ok (.aload 5, 2) := by decide +kernel
theorem dL_same_576 : decode cL_same 576 = .ok (.invokestatic 44, 3) := by decide +kernel
theorem dL_same_579 : decode cL_same 579 = .ok (.if_icmp .ne 180, 3) := by decide +kernel
theorem dL_same_582 : decode cL_same 582 = .ok (.aload_n 0, 1) := by decide +kernel
theorem dL_same_583 : decode cL_same 583 = .ok (.invokevirtual 85, 3) := by decide +kernel
theorem dL_same_586 : decode cL_same 586 = .ok (.aload 6, 2) := by decide +kernel
theorem dL_same_588 : decode cL_same 588 = .ok (.iload 17, 2) := by decide +kernel
theorem dL_same_590 : decode cL_same 590 = .ok (.iaload, 1) := by decide +kernel
theorem dL_same_591 : decode cL_same 591 = .ok (.if_icmp .ne 168, 3) := by decide +kernel
theorem dL_same_594 : decode cL_same 594 = .ok (.aload_n 0, 1) := by decide +kernel
theorem dL_same_595 : decode cL_same 595 = .ok (.invokevirtual 88, 3) := by decide +kernel
theorem dL_same_598 : decode cL_same 598 = .ok (.aload 7, 2) := by decide +kernel
theorem dL_same_600 : decode cL_same 600 = .ok (.iload 17, 2) := by decide +kernel
theorem dL_same_602 : decode cL_same 602 = .ok (.iaload, 1) := by decide +kernel
theorem dL_same_603 : decode cL_same 603 = .ok (.if_icmp .ne 156, 3) := by decide +kernel
theorem dL_same_606 : decode cL_same 606 = .ok (.aload_n 0, 1) := by decide +kernel
theorem dL_same_607 : decode cL_same 607 = .ok (.invokevirtual 91, 3) := by decide +kernel
theorem dL_same_610 : decode cL_same 610 = .ok (.iload 8, 2) := by decide +kernel
theorem dL_same_612 : decode cL_same 612 = .ok (.if_icmp .ne 147, 3) := by decide +kernel
theorem dL_same_615 : decode cL_same 615 = .ok (.aload_n 0, 1) := by decide +kernel
theorem dL_same_616 : decode cL_same 616 = .ok (.invokevirtual 94, 3) := by decide +kernel
theorem dL_same_619 : decode cL_same 619 = .ok (.iload 9, 2) := by decide +kernel
theorem dL_same_621 : decode cL_same 621 = .ok (.if_icmp .ne 138, 3) := by decide +kernel
theorem dL_same_624 : decode cL_same 624 = .ok (.aload_n 0, 1) := by decide +kernel
theorem dL_same_625 : decode cL_same 625 = .ok (.invokevirtual 97, 3) := by decide +kernel
theorem dL_same_628 : decode cL_same 628 = .ok (.aload_n 1, 1) := by decide +kernel
theorem dL_same_629 : decode cL_same 629 = .ok (.iconst 0, 1) := by decide +kernel
theorem dL_same_630 : decode cL_same 630 = .ok (.iaload, 1) := by decide +kernel
theorem dL_same_631 : decode cL_same 631 = .ok (.if_icmp .ne 128, 3) := by decide +kernel
theorem dL_same_634 : decode cL_same 634 = .ok (.aload_n 0, 1) := by decide +kernel
theorem dL_same_635 : decode cL_same 635 = .ok (.invokevirtual 100, 3) := by decide +kernel
theorem dL_same_638 : decode cL_same 638 = .ok (.aload_n 1, 1) := by decide +kernel
theorem dL_same_639 : decode cL_same 639 = .ok (.iconst 1, 1) := by decide +kernel
theorem dL_same_640 : decode cL_same 640 = .ok (.iaload, 1) := by decide +kernel
theorem dL_same_641 : decode cL_same 641 = .ok (.iconst 1, 1) := by decide +kernel
theorem dL_same_642 : decode cL_same 642 = .ok (.if_icmp .ne 7, 3) := by decide +kernel
theorem dL_same_645 : decode cL_same 645 = .ok (.iconst 1, 1) := by decide +kernel
theorem dL_same_646 : decode cL_same 646 = .ok (.goto 4, 3) := by decide +kernel
theorem dL_same_649 : decode cL_same 649 = .ok (.iconst 0, 1) := by decide +kernel
theorem dL_same_650 : decode cL_same 650 = .ok (.if_icmp .ne 109, 3) := by decide +kernel
theorem dL_same_653 : decode cL_same 653 = .ok (.aload_n 0, 1) := by decide +kernel
theorem dL_same_654 : decode cL_same 654 = .ok (.invokevirtual 103, 3) := by decide +kernel
theorem dL_same_657 : decode cL_same 657 = .ok (.aload_n 1, 1) := by decide +kernel
theorem dL_same_658 : decode cL_same 658 = .ok (.iconst 2, 1) := by decide +kernel
theorem dL_same_659 : decode cL_same 659 = .ok (.iaload, 1) := by decide +kernel
theorem dL_same_660 : decode cL_same 660 = .ok (.iconst 1, 1) := by decide +kernel
theorem dL_same_661 : decode cL_same 661 = .ok (.if_icmp .ne 7, 3) := by decide +kernel
theorem dL_same_664 : decode cL_same 664 = .ok (.iconst 1, 1) := by decide +kernel
theorem dL_same_665 : decode cL_same 665 = .ok (.goto 4, 3) := by decide +kernel
theorem dL_same_668 : decode cL_same 668 = .ok (.iconst 0, 1) := by decide +kernel
theorem dL_same_669 : decode cL_same 669 = .ok (.if_icmp .ne 90, 3) := by decide +kernel
theorem dL_same_672 : decode cL_same 672 = .ok (.aload_n 0, 1) := by decide +kernel
theorem dL_same_673 : decode cL_same 673 = .ok (.invokevirtual 106, 3) := by decide +kernel
theorem dL_same_676 : decode cL_same 676 = .ok (.aload_n 1, 1) := by decide +kernel
theorem dL_same_677 : decode cL_same 677 = .ok (.iconst 3, 1) := by decide +kernel
theorem dL_same_678 : decode cL_same 678 = .ok (.iaload, 1) := by decide +kernel
theorem dL_same_679 : decode cL_same 679 = .ok (.iconst 1, 1) := by decide +kernel
theorem dL_same_680 : decode cL_same 680 = .ok (.if_icmp .ne 7, 3) := by decide +kernel
theorem dL_same_683 : decode cL_same 683 = .ok (.iconst 1, 1) := by decide +kernel
theorem dL_same_684 : decode cL_same 684 = .ok (.goto 4, 3) := by decide +kernel
theorem dL_same_687 : decode cL_same 687 = .ok (.iconst 0, 1) := by decide +kernel
theorem dL_same_688 : decode cL_same 688 = .ok (.if_icmp .ne 71, 3) := by decide +kernel
theorem dL_same_691 : decode cL_same 691 = .ok (.aload_n 0, 1) := by decide +kernel
theorem dL_same_692 : decode cL_same 692 = .ok (.invokevirtual 109, 3) := by decide +kernel
theorem dL_same_695 : decode cL_same 695 = .ok (.iload 18, 2) := by decide +kernel
theorem dL_same_697 : decode cL_same 697 = .ok (.iconst 2, 1) := by decide +kernel
theorem dL_same_698 : decode cL_same 698 = .ok (.irem, 1) := by decide +kernel
theorem dL_same_699 : decode cL_same 699 = .ok (.if_icmp .ne 60, 3) := by decide +kernel
theorem dL_same_702 : decode cL_same 702 = .ok (.aload_n 0, 1) := by decide +kernel
theorem dL_same_703 : decode cL_same 703 = .ok (.invokevirtual 112, 3) := by decide +kernel
theorem dL_same_706 : decode cL_same 706 = .ok (.iload 18, 2) := by decide +kernel
theorem dL_same_708 : decode cL_same 708 = .ok (.if_icmp .ne 51, 3) := by decide +kernel
theorem dL_same_711 : decode cL_same 711 = .ok (.aload_n 0, 1) := by decide +kernel
theorem dL_same_712 : decode cL_same 712 = .ok (.iconst 0, 1) := by decide +kernel
theorem dL_same_713 : decode cL_same 713 = .ok (.invokevirtual 115, 3) := by decide +kernel
theorem dL_same_716 : decode cL_same 716 = .ok (.aload_n 1, 1) := by decide +kernel
theorem dL_same_717 : decode cL_same 717 = .ok (.iconst 5, 1) := by decide +kernel
theorem dL_same_718 : decode cL_same 718 = .ok (.iaload, 1) := by decide +kernel
theorem dL_same_719 : decode cL_same 719 = .ok (.if_icmp .ne 40, 3) := by decide +kernel
theorem dL_same_722 : decode cL_same 722 = .ok (.aload_n 0, 1) := by decide +kernel
theorem dL_same_723 : decode cL_same 723 = .ok (.iconst 1, 1) := by decide +kernel
theorem dL_same_724 : decode cL_same 724 = .ok (.invokevirtual 115, 3) := by decide +kernel
theorem dL_same_727 : decode cL_same 727 = .ok (.aload_n 1, 1) := by decide +kernel
theorem dL_same_728 : decode cL_same 728 = .ok (.bipush 6, 2) := by decide +kernel
theorem dL_same_730 : decode cL_same 730 = .ok (.iaload, 1) := by decide +kernel
theorem dL_same_731 : decode cL_same 731 = .ok (.if_icmp .ne 28, 3) := by decide +kernel
theorem dL_same_734 : decode cL_same 734 = .ok (.aload_n 0, 1) := by decide +kernel
theorem dL_same_735 : decode cL_same 735 = .ok (.iconst 2, 1) := by decide +kernel
theorem dL_same_736 : decode cL_same 736 = .ok (.invokevirtual 115, 3) := by decide +kernel
theorem dL_same_739 : decode cL_same 739 = .ok (.aload_n 1, 1) := by decide +kernel
theorem dL_same_740 : decode cL_same 740 = .ok (.bipush 7, 2) := by decide +kernel
theorem dL_same_742 : decode cL_same 742 = .ok (.iaload, 1) := by decide +kernel
theorem dL_same_743 : decode cL_same 743 = .ok (.if_icmp .ne 16, 3) := by decide +kernel
theorem dL_same_746 : decode cL_same 746 = .ok (.aload_n 0, 1) := by decide +kernel
theorem dL_same_747 : decode cL_same 747 = .ok (.invokevirtual 118, 3) := by decide +kernel
theorem dL_same_750 : decode cL_same 750 = .ok (.iload 20, 2) := by decide +kernel
theorem dL_same_752 : decode cL_same 752 = .ok (.if_icmp .ne 7, 3) := by decide +kernel
theorem dL_same_755 : decode cL_same 755 = .ok (.iconst 1, 1) := by decide +kernel
theorem dL_same_756 : decode cL_same 756 = .ok (.goto 4, 3) := by decide +kernel
theorem dL_same_759 : decode cL_same 759 = .ok (.iconst 0, 1) := by decide +kernel
theorem dL_same_760 : decode cL_same 760 = .ok (.ireturn, 1) := by decide +kernel
theorem dL_refused_0 : decode cL_refused 0 = .ok (.iload_n 1, 1) := by decide +kernel
theorem dL_refused_1 : decode cL_refused 1 = .ok (.ifCond .ne 12, 3) := by decide +kernel
theorem dL_refused_4 : decode cL_refused 4 = .ok (.aload_n 0, 1) := by decide +kernel
theorem dL_refused_5 : decode cL_refused 5 = .ok (.iload_n 2, 1) := by decide +kernel
theorem dL_refused_6 : decode cL_refused 6 = .ok (.iload_n 3, 1) := by decide +kernel
theorem dL_refused_7 : decode cL_refused 7 = .ok (.invokevirtual 121, 3) := by decide +kernel
theorem dL_refused_10 : decode cL_refused 10 = .ok (.goto 23, 3) := by decide +kernel
theorem dL_refused_13 : decode cL_refused 13 = .ok (.iload_n 1, 1) := by decide +kernel
theorem dL_refused_14 : decode cL_refused 14 = .ok (.iconst 1, 1) := by decide +kernel
theorem dL_refused_15 : decode cL_refused 15 = .ok (.if_icmp .ne 12, 3) := by decide +kernel
theorem dL_refused_18 : decode cL_refused 18 = .ok (.aload_n 0, 1) := by decide +kernel
theorem dL_refused_19 : decode cL_refused 19 = .ok (.iload_n 2, 1) := by decide +kernel
theorem dL_refused_20 : decode cL_refused 20 = .ok (.iload_n 3, 1) := by decide +kernel
theorem dL_refused_21 : decode cL_refused 21 = .ok (.invokevirtual 125, 3) := by decide +kernel
theorem dL_refused_24 : decode cL_refused 24 = .ok (.goto 9, 3) := by decide +kernel
theorem dL_refused_27 : decode cL_refused 27 = .ok (.aload_n 0, 1) := by decide +kernel
theorem dL_refused_28 : decode cL_refused 28 = .ok (.iload_n 2, 1) := by decide +kernel
theorem dL_refused_29 : decode cL_refused 29 = .ok (.iload_n 3, 1) := by decide +kernel
theorem dL_refused_30 : decode cL_refused 30 = .ok (.invokevirtual 128, 3) := by decide +kernel
theorem dL_refused_33 : decode cL_refused 33 = .ok (.istore 4, 2) := by decide +kernel
theorem dL_refused_35 : decode cL_refused 35 = .ok (.iload 4, 2) := by decide +kernel
theorem dL_refused_37 : decode cL_refused 37 = .ok (.ifCond .ge 7, 3) := by decide +kernel
theorem dL_refused_40 : decode cL_refused 40 = .ok (.iconst 1, 1) := by decide +kernel
theorem dL_refused_41 : decode cL_refused 41 = .ok (.goto 4, 3) := by decide +kernel
theorem dL_refused_44 : decode cL_refused 44 = .ok (.iconst 0, 1) := by decide +kernel
theorem dL_refused_45 : decode cL_refused 45 = .ok (.ireturn, 1) := by decide +kernel
theorem dL_refused_46 : decode cL_refused 46 = .ok (.astore 4, 2) := by decide +kernel
theorem dL_refused_48 : decode cL_refused 48 = .ok (.iconst 1, 1) := by decide +kernel
theorem dL_refused_49 : decode cL_refused 49 = .ok (.ireturn, 1) := by decide +kernel
theorem dL_law_0 : decode cL_law 0 = .ok (.new 33, 3) := by decide +kernel
theorem dL_law_3 : decode cL_law 3 = .ok (.dup, 1) := by decide +kernel
theorem dL_law_4 : decode cL_law 4 = .ok (.invokespecial 133, 3) := by decide +kernel
theorem dL_law_7 : decode cL_law 7 = .ok (.astore_n 1, 1) := by decide +kernel
theorem dL_law_8 : decode cL_law 8 = .ok (.bipush 8, 2) := by decide +kernel
theorem dL_law_10 : decode cL_law 10 = .ok (.newarray .int, 2) := by decide +kernel
theorem dL_law_12 : decode cL_law 12 = .ok (.astore_n 2, 1) := by decide +kernel
theorem dL_law_13 : decode cL_law 13 = .ok (.bipush 12, 2) := by decide +kernel
theorem dL_law_15 : decode cL_law 15 = .ok (.newarray .int, 2) := by decide +kernel
theorem dL_law_17 : decode cL_law 17 = .ok (.astore_n 3, 1) := by decide +kernel
theorem dL_law_18 : decode cL_law 18 = .ok (.bipush 64, 2) := by decide +kernel
theorem dL_law_20 : decode cL_law 20 = .ok (.newarray .int, 2) := by decide +kernel
theorem dL_law_22 : decode cL_law 22 = .ok (.astore 4, 2) := by decide +kernel
theorem dL_law_24 : decode cL_law 24 = .ok (.bipush 64, 2) := by decide +kernel
theorem dL_law_26 : decode cL_law 26 = .ok (.newarray .int, 2) := by decide +kernel
theorem dL_law_28 : decode cL_law 28 = .ok (.astore 5, 2) := by decide +kernel
theorem dL_law_30 : decode cL_law 30 = .ok (.bipush 64, 2) := by decide +kernel
theorem dL_law_32 : decode cL_law 32 = .ok (.newarray .int, 2) := by decide +kernel
theorem dL_law_34 : decode cL_law 34 = .ok (.astore 6, 2) := by decide +kernel
theorem dL_law_36 : decode cL_law 36 = .ok (.bipush 64, 2) := by decide +kernel
theorem dL_law_38 : decode cL_law 38 = .ok (.newarray .int, 2) := by decide +kernel
theorem dL_law_40 : decode cL_law 40 = .ok (.astore 7, 2) := by decide +kernel
theorem dL_law_42 : decode cL_law 42 = .ok (.bipush 64, 2) := by decide +kernel
theorem dL_law_44 : decode cL_law 44 = .ok (.newarray .int, 2) := by decide +kernel
theorem dL_law_46 : decode cL_law 46 = .ok (.astore 8, 2) := by decide +kernel
theorem dL_law_48 : decode cL_law 48 = .ok (.aload_n 2, 1) := by decide +kernel
theorem dL_law_49 : decode cL_law 49 = .ok (.iconst 0, 1) := by decide +kernel
theorem dL_law_50 : decode cL_law 50 = .ok (.iconst 3, 1) := by decide +kernel
theorem dL_law_51 : decode cL_law 51 = .ok (.iastore, 1) := by decide +kernel
theorem dL_law_52 : decode cL_law 52 = .ok (.aload_n 2, 1) := by decide +kernel
theorem dL_law_53 : decode cL_law 53 = .ok (.iconst 1, 1) := by decide +kernel
theorem dL_law_54 : decode cL_law 54 = .ok (.iconst 1, 1) := by decide +kernel
theorem dL_law_55 : decode cL_law 55 = .ok (.iastore, 1) := by decide +kernel
theorem dL_law_56 : decode cL_law 56 = .ok (.aload_n 2, 1) := by decide +kernel
theorem dL_law_57 : decode cL_law 57 = .ok (.iconst 3, 1) := by decide +kernel
theorem dL_law_58 : decode cL_law 58 = .ok (.iconst 1, 1) := by decide +kernel
theorem dL_law_59 : decode cL_law 59 = .ok (.iastore, 1) := by decide +kernel
theorem dL_law_60 : decode cL_law 60 = .ok (.aload 4, 2) := by decide +kernel
theorem dL_law_62 : decode cL_law 62 = .ok (.invokestatic 134, 3) := by decide +kernel
theorem dL_law_65 : decode cL_law 65 = .ok (.aload_n 2, 1) := by decide +kernel
theorem dL_law_66 : decode cL_law 66 = .ok (.aload 4, 2) := by decide +kernel
theorem dL_law_68 : decode cL_law 68 = .ok (.aload 5, 2) := by decide +kernel
theorem dL_law_70 : decode cL_law 70 = .ok (.aload 6, 2) := by decide +kernel
theorem dL_law_72 : decode cL_law 72 = .ok (.aload 7, 2) := by decide +kernel
theorem dL_law_74 : decode cL_law 74 = .ok (.aload 8, 2) := by decide +kernel
theorem dL_law_76 : decode cL_law 76 = .ok (.invokestatic 138, 3) := by decide +kernel
theorem dL_law_79 : decode cL_law 79 = .ok (.iconst 0, 1) := by decide +kernel
theorem dL_law_80 : decode cL_law 80 = .ok (.istore 9, 2) := by decide +kernel
theorem dL_law_82 : decode cL_law 82 = .ok (.iload 9, 2) := by decide +kernel
theorem dL_law_84 : decode cL_law 84 = .ok (.bipush 40, 2) := by decide +kernel
theorem dL_law_86 : decode cL_law 86 = .ok (.if_icmp .ge 787, 3) := by decide +kernel
theorem dL_law_89 : decode cL_law 89 = .ok (.aload_n 0, 1) := by decide +kernel
theorem dL_law_90 : decode cL_law 90 = .ok (.iconst 2, 1) := by decide +kernel
theorem dL_law_91 : decode cL_law 91 = .ok (.iload 9, 2) := by decide +kernel
theorem dL_law_93 : decode cL_law 93 = .ok (.imul, 1) := by decide +kernel
theorem dL_law_94 : decode cL_law 94 = .ok (.invokestatic 142, 3) := by decide +kernel
theorem dL_law_97 : decode cL_law 97 = .ok (.istore 10, 2) := by decide +kernel
theorem dL_law_99 : decode cL_law 99 = .ok (.aload_n 0, 1) := by decide +kernel
theorem dL_law_100 : decode cL_law 100 = .ok (.iconst 2, 1) := by decide +kernel
theorem dL_law_101 : decode cL_law 101 = .ok (.iload 9, 2) := by decide +kernel
theorem dL_law_103 : decode cL_law 103 = .ok (.imul, 1) := by decide +kernel
theorem dL_law_104 : decode cL_law 104 = .ok (.iconst 1, 1) := by decide +kernel
theorem dL_law_105 : decode cL_law 105 = .ok (.iadd, 1) := by decide +kernel
theorem dL_law_106 : decode cL_law 106 = .ok (.invokestatic 142, 3) := by decide +kernel
theorem dL_law_109 : decode cL_law 109 = .ok (.istore 11, 2) := by decide +kernel
theorem dL_law_111 : decode cL_law 111 = .ok (.iload 10, 2) := by decide +kernel
theorem dL_law_113 : decode cL_law 113 = .ok (.bipush 24, 2) := by decide +kernel
theorem dL_law_115 : decode cL_law 115 = .ok (.invokestatic 146, 3) := by decide +kernel
theorem dL_law_118 : decode cL_law 118 = .ok (.istore 12, 2) := by decide +kernel
theorem dL_law_120 : decode cL_law 120 = .ok (.aload_n 2, 1) := by decide +kernel
theorem dL_law_121 : decode cL_law 121 = .ok (.iconst 4, 1) := by decide +kernel
theorem dL_law_122 : decode cL_law 122 = .ok (.iaload, 1) := by decide +kernel
theorem dL_law_123 : decode cL_law 123 = .ok (.istore 13, 2) := by decide +kernel
theorem dL_law_125 : decode cL_law 125 = .ok (.iconst 0, 1) := by decide +kernel
theorem dL_law_126 : decode cL_law 126 = .ok (.istore 14, 2) := by decide +kernel
theorem dL_law_128 : decode cL_law 128 = .ok (.iconst 0, 1) := by decide +kernel
theorem dL_law_129 : decode cL_law 129 = .ok (.istore 15, 2) := by decide +kernel
theorem dL_law_131 : decode cL_law 131 = .ok (.iload 15, 2) := by decide +kernel
theorem dL_law_133 : decode cL_law 133 = .ok (.iload 13, 2) := by decide +kernel
theorem dL_law_135 : decode cL_law 135 = .ok (.if_icmp .ge 18, 3) := by decide +kernel
theorem dL_law_138 : decode cL_law 138 = .ok (.iload 14, 2) := by decide +kernel
theorem dL_law_140 : decode cL_law 140 = .ok (.aload_n 3, 1) := by decide +kernel
theorem dL_law_141 : decode cL_law 141 = .ok (.iload 15, 2) := by decide +kernel
theorem dL_law_143 : decode cL_law 143 = .ok (.iaload, 1) := by decide +kernel
theorem dL_law_144 : decode cL_law 144 = .ok (.iadd, 1) := by decide +kernel
theorem dL_law_145 : decode cL_law 145 = .ok (.istore 14, 2) := by decide +kernel
theorem dL_law_147 : decode cL_law 147 = .ok (.iinc 15 1, 3) := by decide +kernel
theorem dL_law_150 : decode cL_law 150 = .ok (.goto (-19), 3) := by decide +kernel
theorem dL_law_153 : decode cL_law 153 = .ok (.iload 12, 2) := by decide +kernel
theorem dL_law_155 : decode cL_law 155 = .ok (.iconst 5, 1) := by decide +kernel
theorem dL_law_156 : decode cL_law 156 = .ok (.if_icmp .lt 15, 3) := by decide +kernel
theorem dL_law_159 : decode cL_law 159 = .ok (.iload 13, 2) := by decide +kernel
theorem dL_law_161 : decode cL_law 161 = .ok (.ifCond .ne 63, 3) := by decide +kernel
theorem dL_law_164 : decode cL_law 164 = .ok (.iload 12, 2) := by decide +kernel
theorem dL_law_166 : decode cL_law 166 = .ok (.bipush 14, 2) := by decide +kernel
theorem dL_law_168 : decode cL_law 168 = .ok (.if_icmp .ge 56, 3) := by decide +kernel
theorem dL_law_171 : decode cL_law 171 = .ok (.iconst 1, 1) := by decide +kernel
theorem dL_law_172 : decode cL_law 172 = .ok (.iload 11, 2) := by decide +kernel
theorem dL_law_174 : decode cL_law 174 = .ok (.iconst 5, 1) := by decide +kernel
theorem dL_law_175 : decode cL_law 175 = .ok (.invokestatic 146, 3) := by decide +kernel
theorem dL_law_178 : decode cL_law 178 = .ok (.iadd, 1) := by decide +kernel
theorem dL_law_179 : decode cL_law 179 = .ok (.istore 15, 2) := by decide +kernel
theorem dL_law_181 : decode cL_law 181 = .ok (.iload 14, 2) := by decide +kernel
theorem dL_law_183 : decode cL_law 183 = .ok (.iload 15, 2) := by decide +kernel
theorem dL_law_185 : decode cL_law 185 = .ok (.iadd, 1) := by decide +kernel
theorem dL_law_186 : decode cL_law 186 = .ok (.bipush 7, 2) := by decide +kernel
theorem dL_law_188 : decode cL_law 188 = .ok (.if_icmp .le 6, 3) := by decide +kernel
theorem dL_law_191 : decode cL_law 191 = .ok (.goto 676, 3) := by decide +kernel
theorem dL_law_194 : decode cL_law 194 = .ok (.aload_n 3, 1) := by decide +kernel
theorem dL_law_195 : decode cL_law 195 = .ok (.iload 13, 2) := by decide +kernel
theorem dL_law_197 : decode cL_law 197 = .ok (.iload 15, 2) := by decide +kernel
theorem dL_law_199 : decode cL_law 199 = .ok (.iastore, 1) := by decide +kernel
theorem dL_law_200 : decode cL_law 200 = .ok (.aload_n 2, 1) := by decide +kernel
theorem dL_law_201 : decode cL_law 201 = .ok (.iconst 4, 1) := by decide +kernel
theorem dL_law_202 : decode cL_law 202 = .ok (.dup2, 1) := by decide +kernel
theorem dL_law_203 : decode cL_law 203 = .ok (.iaload, 1) := by decide +kernel
theorem dL_law_204 : decode cL_law 204 = .ok (.iconst 1, 1) := by decide +kernel
theorem dL_law_205 : decode cL_law 205 = .ok (.iadd, 1) := by decide +kernel
theorem dL_law_206 : decode cL_law 206 = .ok (.iastore, 1) := by decide +kernel
theorem dL_law_207 : decode cL_law 207 = .ok (.aload_n 1, 1) := by decide +kernel
theorem dL_law_208 : decode cL_law 208 = .ok (.iload 15, 2) := by decide +kernel
theorem dL_law_210 : decode cL_law 210 = .ok (.invokevirtual 149, 3) := by decide +kernel
theorem dL_law_213 : decode cL_law 213 = .ok (.aload_n 2, 1) := by decide +kernel
theorem dL_law_214 : decode cL_law 214 = .ok (.iconst 4, 1) := by decide +kernel
theorem dL_law_215 : decode cL_law 215 = .ok (.iaload, 1) := by decide +kernel
theorem dL_law_216 : decode cL_law 216 = .ok (.if_icmp .eq 5, 3) := by decide +kernel
theorem dL_law_219 : decode cL_law 219 = .ok (.iconst 0, 1) := by decide +kernel
theorem dL_law_220 : decode cL_law 220 = .ok (.ireturn, 1) := by decide +kernel
theorem dL_law_221 : decode cL_law 221 = .ok (.goto 625, 3) := by decide +kernel
theorem dL_law_224 : decode cL_law 224 = .ok (.iload 12, 2) := by decide +kernel
theorem dL_law_226 : decode cL_law 226 = .ok (.iconst 5, 1) := by decide +kernel
theorem dL_law_227 : decode cL_law 227 = .ok (.if_icmp .ne 49, 3) := by decide +kernel
theorem dL_law_230 : decode cL_law 230 = .ok (.iload 10, 2) := by decide +kernel
theorem dL_law_232 : decode cL_law 232 = .ok (.iconst 5, 1) := by decide +kernel
theorem dL_law_233 : decode cL_law 233 = .ok (.ishr, 1) := by decide +kernel
theorem dL_law_234 : decode cL_law 234 = .ok (.iconst 3, 1) := by decide +kernel
theorem dL_law_235 : decode cL_law 235 = .ok (.invokestatic 146, 3) := by decide +kernel
theorem dL_law_238 : decode cL_law 238 = .ok (.ifCond .le 6, 3) := by decide +kernel
theorem dL_law_241 : decode cL_law 241 = .ok (.goto 626, 3) := by decide +kernel
theorem dL_law_244 : decode cL_law 244 = .ok (.iconst 4, 1) := by decide +kernel
theorem dL_law_245 : decode cL_law 245 = .ok (.istore 15, 2) := by decide +kernel
theorem dL_law_247 : decode cL_law 247 = .ok (.iload 15, 2) := by decide +kernel
theorem dL_law_249 : decode cL_law 249 = .ok (.bipush 8, 2) := by decide +kernel
theorem dL_law_251 : decode cL_law 251 = .ok (.if_icmp .ge 14, 3) := by decide +kernel
theorem dL_law_254 : decode cL_law 254 = .ok (.aload_n 2, 1) := by decide +kernel
theorem dL_law_255 : decode cL_law 255 = .ok (.iload 15, 2) := by decide +kernel
theorem dL_law_257 : decode cL_law 257 = .ok (.iconst 0, 1) := by decide +kernel
theorem dL_law_258 : decode cL_law 258 = .ok (.iastore, 1) := by decide +kernel
theorem dL_law_259 : decode cL_law 259 = .ok (.iinc 15 1, 3) := by decide +kernel
theorem dL_law_262 : decode cL_law 262 = .ok (.goto (-15), 3) := by decide +kernel
theorem dL_law_265 : decode cL_law 265 = .ok (.aload_n 1, 1) := by decide +kernel
theorem dL_law_266 : decode cL_law 266 = .ok (.invokevirtual 152, 3) := by decide +kernel
theorem dL_law_269 : decode cL_law 269 = .ok (.iload 14, 2) := by decide +kernel
theorem dL_law_271 : decode cL_law 271 = .ok (.if_icmp .eq 575, 3) := by decide +kernel
theorem dL_law_274 : decode cL_law 274 = .ok (.iconst 0, 1) := by decide +kernel
theorem dL_law_275 : decode cL_law 275 = .ok (.ireturn, 1) := by decide +kernel
theorem dL_law_276 : decode cL_law 276 = .ok (.iload 12, 2) := by decide +kernel
theorem dL_law_278 : decode cL_law 278 = .ok (.bipush 6, 2) := by decide +kernel
theorem dL_law_280 : decode cL_law 280 = .ok (.if_icmp .ne 50, 3) := by decide +kernel
theorem dL_law_283 : decode cL_law 283 = .ok (.aload_n 2, 1) := by decide +kernel
theorem dL_law_284 : decode cL_law 284 = .ok (.iconst 0, 1) := by decide +kernel
theorem dL_law_285 : decode cL_law 285 = .ok (.iaload, 1) := by decide +kernel
theorem dL_law_286 : decode cL_law 286 = .ok (.istore 15, 2) := by decide +kernel
theorem dL_law_288 : decode cL_law 288 = .ok (.aload_n 2, 1) := by decide +kernel
theorem dL_law_289 : decode cL_law 289 = .ok (.iconst 0, 1) := by decide +kernel
theorem dL_law_290 : decode cL_law 290 = .ok (.iconst 1, 1) := by decide +kernel
theorem dL_law_291 : decode cL_law 291 = .ok (.iload 11, 2) := by decide +kernel
theorem dL_law_293 : decode cL_law 293 = .ok (.iconst 5, 1) := by decide +kernel
theorem dL_law_294 : decode cL_law 294 = .ok (.invokestatic 146, 3) := by decide +kernel
theorem dL_law_297 : decode cL_law 297 = .ok (.iadd, 1) := by decide +kernel
theorem dL_law_298 : decode cL_law 298 = .ok (.iastore, 1) := by decide +kernel
theorem dL_law_299 : decode cL_law 299 = .ok (.aload_n 2, 1) := by decide +kernel
theorem dL_law_300 : decode cL_law 300 = .ok (.aload 4, 2) := by decide +kernel
theorem dL_law_302 : decode cL_law 302 = .ok (.aload 5, 2) := by decide +kernel
theorem dL_law_304 : decode cL_law 304 = .ok (.aload 6, 2) := by decide +kernel
theorem dL_law_306 : decode cL_law 306 = .ok (.aload 7, 2) := by decide +kernel
theorem dL_law_308 : decode cL_law 308 = .ok (.aload 8, 2) := by decide +kernel
theorem dL_law_310 : decode cL_law 310 = .ok (.invokestatic 138, 3) := by decide +kernel
theorem dL_law_313 : decode cL_law 313 = .ok (.aload_n 1, 1) := by decide +kernel
theorem dL_law_314 : decode cL_law 314 = .ok (.aload_n 2, 1) := by decide +kernel
theorem dL_law_315 : decode cL_law 315 = .ok (.iconst 0, 1) := by decide +kernel
theorem dL_law_316 : decode cL_law 316 = .ok (.iaload, 1) := by decide +kernel
theorem dL_law_317 : decode cL_law 317 = .ok (.invokevirtual 155, 3) := by decide +kernel
theorem dL_law_320 : decode cL_law 320 = .ok (.iload 15, 2) := by decide +kernel
theorem dL_law_322 : decode cL_law 322 = .ok (.if_icmp .eq 5, 3) := by decide +kernel
theorem dL_law_325 : decode cL_law 325 = .ok (.iconst 0, 1) := by decide +kernel
theorem dL_law_326 : decode cL_law 326 = .ok (.ireturn, 1) := by decide +kernel
theorem dL_law_327 : decode cL_law 327 = .ok (.goto 519, 3) := by decide +kernel
theorem dL_law_330 : decode cL_law 330 = .ok (.iload 12, 2) := by decide +kernel
theorem dL_law_332 : decode cL_law 332 = .ok (.bipush 10, 2) := by decide +kernel
theorem dL_law_334 : decode cL_law 334 = .ok (.if_icmp .ge 91, 3) := by decide +kernel
theorem dL_law_337 : decode cL_law 337 = .ok (.iload 12, 2) := by decide +kernel
theorem dL_law_339 : decode cL_law 339 = .ok (.bipush 6, 2) := by decide +kernel
theorem dL_law_341 : decode cL_law 341 = .ok (.isub, 1) := by decide +kernel
theorem dL_law_342 : decode cL_law 342 = .ok (.istore 15, 2) := by decide +kernel
theorem dL_law_344 : decode cL_law 344 = .ok (.aload_n 2, 1) := by decide +kernel
theorem dL_law_345 : decode cL_law 345 = .ok (.iload 15, 2) := by decide +kernel
theorem dL_law_347 : decode cL_law 347 = .ok (.iconst 1, 1) := by decide +kernel
theorem dL_law_348 : decode cL_law 348 = .ok (.aload_n 2, 1) := by decide +kernel
theorem dL_law_349 : decode cL_law 349 = .ok (.iload 15, 2) := by decide +kernel
theorem dL_law_351 : decode cL_law 351 = .ok (.iaload, 1) := by decide +kernel
theorem dL_law_352 : decode cL_law 352 = .ok (.isub, 1) := by decide +kernel
theorem dL_law_353 : decode cL_law 353 = .ok (.iastore, 1) := by decide +kernel
theorem dL_law_354 : decode cL_law 354 = .ok (.iload 15, 2) := by decide +kernel
theorem dL_law_356 : decode cL_law 356 = .ok (.iconst 3, 1) := by decide +kernel
theorem dL_law_357 : decode cL_law 357 = .ok (.if_icmp .ge 17, 3) := by decide +kernel
theorem dL_law_360 : decode cL_law 360 = .ok (.aload_n 2, 1) := by decide +kernel
theorem dL_law_361 : decode cL_law 361 = .ok (.aload 4, 2) := by decide +kernel
theorem dL_law_363 : decode cL_law 363 = .ok (.aload 5, 2) := by decide +kernel
theorem dL_law_365 : decode cL_law 365 = .ok (.aload 6, 2) := by decide +kernel
theorem dL_law_367 : decode cL_law 367 = .ok (.aload 7, 2) := by decide +kernel
theorem dL_law_369 : decode cL_law 369 = .ok (.aload 8, 2) := by decide +kernel
theorem dL_law_371 : decode cL_law 371 = .ok (.invokestatic 138, 3) := by decide +kernel
theorem dL_law_374 : decode cL_law 374 = .ok (.iload 15, 2) := by decide +kernel
theorem dL_law_376 : decode cL_law 376 = .ok (.iconst 1, 1) := by decide +kernel
theorem dL_law_377 : decode cL_law 377 = .ok (.if_icmp .ne 10, 3) := by decide +kernel
theorem dL_law_380 : decode cL_law 380 = .ok (.aload_n 1, 1) := by decide +kernel
theorem dL_law_381 : decode cL_law 381 = .ok (.invokevirtual 158, 3) := by decide +kernel
theorem dL_law_384 : decode cL_law 384 = .ok (.goto 20, 3) := by decide +kernel
theorem dL_law_387 : decode cL_law 387 = .ok (.iload 15, 2) := by decide +kernel
theorem dL_law_389 : decode cL_law 389 = .ok (.iconst 2, 1) := by decide +kernel
theorem dL_law_390 : decode cL_law 390 = .ok (.if_icmp .ne 10, 3) := by decide +kernel
theorem dL_law_393 : decode cL_law 393 = .ok (.aload_n 1, 1) := by decide +kernel
theorem dL_law_394 : decode cL_law 394 = .ok (.invokevirtual 161, 3) := by decide +kernel
theorem dL_law_397 : decode cL_law 397 = .ok (.goto 7, 3) := by decide +kernel
theorem dL_law_400 : decode cL_law 400 = .ok (.aload_n 1, 1) := by decide +kernel
theorem dL_law_401 : decode cL_law 401 = .ok (.invokevirtual 164, 3) := by decide +kernel
theorem dL_law_404 : decode cL_law 404 = .ok (.aload_n 2, 1) := by decide +kernel
theorem dL_law_405 : decode cL_law 405 = .ok (.iload 15, 2) := by decide +kernel
theorem dL_law_407 : decode cL_law 407 = .ok (.iaload, 1) := by decide +kernel
theorem dL_law_408 : decode cL_law 408 = .ok (.iconst 1, 1) := by decide +kernel
theorem dL_law_409 : decode cL_law 409 = .ok (.if_icmp .ne 7, 3) := by decide +kernel
theorem dL_law_412 : decode cL_law 412 = .ok (.iconst 1, 1) := by decide +kernel
theorem dL_law_413 : decode cL_law 413 = .ok (.goto 4, 3) := by decide +kernel
theorem dL_law_416 : decode cL_law 416 = .ok (.iconst 0, 1) := by decide +kernel
theorem dL_law_417 : decode cL_law 417 = .ok (.if_icmp .eq 5, 3) := by decide +kernel
theorem dL_law_420 : decode cL_law 420 = .ok (.iconst 0, 1) := by decide +kernel
theorem dL_law_421 : decode cL_law 421 = .ok (.ireturn, 1) := by decide +kernel
theorem dL_law_422 : decode cL_law 422 = .ok (.goto 424, 3) := by decide +kernel
theorem dL_law_425 : decode cL_law 425 = .ok (.iload 12, 2) := by decide +kernel
theorem dL_law_427 : decode cL_law 427 = .ok (.bipush 21, 2) := by decide +kernel
theorem dL_law_429 : decode cL_law 429 = .ok (.if_icmp .ge 314, 3) := by decide +kernel
theorem dL_law_432 : decode cL_law 432 = .ok (.iload 13, 2) := by decide +kernel
theorem dL_law_434 : decode cL_law 434 = .ok (.ifCond .ne 6, 3) := by decide +kernel
theorem dL_law_437 : decode cL_law 437 = .ok (.goto 430, 3) := by decide +kernel
theorem dL_law_440 : decode cL_law 440 = .ok (.iload 10, 2) := by decide +kernel
theorem dL_law_442 : decode cL_law 442 = .ok (.iconst 5, 1) := by decide +kernel
theorem dL_law_443 : decode cL_law 443 = .ok (.ishr, 1) := by decide +kernel
theorem dL_law_444 : decode cL_law 444 = .ok (.iconst 3, 1) := by decide +kernel
theorem dL_law_445 : decode cL_law 445 = .ok (.invokestatic 146, 3) := by decide +kernel
theorem dL_law_448 : decode cL_law 448 = .ok (.istore 15, 2) := by decide +kernel
theorem dL_law_450 : decode cL_law 450 = .ok (.iload 11, 2) := by decide +kernel
theorem dL_law_452 : decode cL_law 452 = .ok (.iload 13, 2) := by decide +kernel
theorem dL_law_454 : decode cL_law 454 = .ok (.invokestatic 146, 3) := by decide +kernel
theorem dL_law_457 : decode cL_law 457 = .ok (.istore 16, 2) := by decide +kernel
theorem dL_law_459 : decode cL_law 459 = .ok (.iload 15, 2) := by decide +kernel
theorem dL_law_461 : decode cL_law 461 = .ok (.ifCond .ne 16, 3) := by decide +kernel
theorem dL_law_464 : decode cL_law 464 = .ok (.iconst 1, 1) := by decide +kernel
theorem dL_law_465 : decode cL_law 465 = .ok (.iload 11, 2) := by decide +kernel
theorem dL_law_467 : decode cL_law 467 = .ok (.iconst 4, 1) := by decide +kernel
theorem dL_law_468 : decode cL_law 468 = .ok (.ishr, 1) := by decide +kernel
theorem dL_law_469 : decode cL_law 469 = .ok (.iconst 5, 1) := by decide +kernel
theorem dL_law_470 : decode cL_law 470 = .ok (.invokestatic 146, 3) := by decide +kernel
theorem dL_law_473 : decode cL_law 473 = .ok (.iadd, 1) := by decide +kernel
theorem dL_law_474 : decode cL_law 474 = .ok (.goto 31, 3) := by decide +kernel
theorem dL_law_477 : decode cL_law 477 = .ok (.iload 15, 2) := by decide +kernel
theorem dL_law_479 : decode cL_law 479 = .ok (.iconst 1, 1) := by decide +kernel
theorem dL_law_480 : decode cL_law 480 = .ok (.if_icmp .ne 16, 3) := by decide +kernel
theorem dL_law_483 : decode cL_law 483 = .ok (.iconst 1, 1) := by decide +kernel
theorem dL_law_484 : decode cL_law 484 = .ok (.iload 11, 2) := by decide +kernel
theorem dL_law_486 : decode cL_law 486 = .ok (.iconst 4, 1) := by decide +kernel
theorem dL_law_487 : decode cL_law 487 = .ok (.ishr, 1) := by decide +kernel
theorem dL_law_488 : decode cL_law 488 = .ok (.iconst 3, 1) := by decide +kernel
theorem dL_law_489 : decode cL_law 489 = .ok (.invokestatic 146, 3) := by decide +kernel
theorem dL_law_492 : decode cL_law 492 = .ok (.iadd, 1) := by decide +kernel
theorem dL_law_493 : decode cL_law 493 = .ok (.goto 12, 3) := by decide +kernel
theorem dL_law_496 : decode cL_law 496 = .ok (.iload 11, 2) := by decide +kernel
theorem dL_law_498 : decode cL_law 498 = .ok (.iconst 4, 1) := by decide +kernel
theorem dL_law_499 : decode cL_law 499 = .ok (.ishr, 1) := by decide +kernel
theorem dL_law_500 : decode cL_law 500 = .ok (.iload 13, 2) := by decide +kernel
theorem dL_law_502 : decode cL_law 502 = .ok (.invokestatic 146, 3) := by decide +kernel
theorem dL_law_505 : decode cL_law 505 = .ok (.istore 17, 2) := by decide +kernel
theorem dL_law_507 : decode cL_law 507 = .ok (.iload 15, 2) := by decide +kernel
theorem dL_law_509 : decode cL_law 509 = .ok (.iconst 2, 1) := by decide +kernel
theorem dL_law_510 : decode cL_law 510 = .ok (.if_icmp .ne 13, 3) := by decide +kernel
theorem dL_law_513 : decode cL_law 513 = .ok (.iload 17, 2) := by decide +kernel
theorem dL_law_515 : decode cL_law 515 = .ok (.iload 16, 2) := by decide +kernel
theorem dL_law_517 : decode cL_law 517 = .ok (.if_icmp .ne 6, 3) := by decide +kernel
theorem dL_law_520 : decode cL_law 520 = .ok (.goto 347, 3) := by decide +kernel
theorem dL_law_523 : decode cL_law 523 = .ok (.iload 15, 2) := by decide +kernel
theorem dL_law_525 : decode cL_law 525 = .ok (.ifCond .ne 23, 3) := by decide +kernel
theorem dL_law_528 : decode cL_law 528 = .ok (.iload 17, 2) := by decide +kernel
theorem dL_law_530 : decode cL_law 530 = .ok (.aload_n 2, 1) := by decide +kernel
theorem dL_law_531 : decode cL_law 531 = .ok (.iconst 0, 1) := by decide +kernel
theorem dL_law_532 : decode cL_law 532 = .ok (.iaload, 1) := by decide +kernel
theorem dL_law_533 : decode cL_law 533 = .ok (.if_icmp .gt 47, 3) := by decide +kernel
theorem dL_law_536 : decode cL_law 536 = .ok (.iload 17, 2) := by decide +kernel
theorem dL_law_538 : decode cL_law 538 = .ok (.aload_n 3, 1) := by decide +kernel
theorem dL_law_539 : decode cL_law 539 = .ok (.iload 16, 2) := by decide +kernel
theorem dL_law_541 : decode cL_law 541 = .ok (.iaload, 1) := by decide +kernel
theorem dL_law_542 : decode cL_law 542 = .ok (.if_icmp .le 53, 3) := by decide +kernel
theorem dL_law_545 : decode cL_law 545 = .ok (.goto 35, 3) := by decide +kernel
theorem dL_law_548 : decode cL_law 548 = .ok (.iload 15, 2) := by decide +kernel
theorem dL_law_550 : decode cL_law 550 = .ok (.iconst 1, 1) := by decide +kernel
theorem dL_law_551 : decode cL_law 551 = .ok (.if_icmp .ne 23, 3) := by decide +kernel
theorem dL_law_554 : decode cL_law 554 = .ok (.aload_n 2, 1) := by decide +kernel
theorem dL_law_555 : decode cL_law 555 = .ok (.iconst 1, 1) := by decide +kernel
theorem dL_law_556 : decode cL_law 556 = .ok (.iaload, 1) := by decide +kernel
theorem dL_law_557 : decode cL_law 557 = .ok (.ifCond .eq 23, 3) := by decide +kernel
theorem dL_law_560 : decode cL_law 560 = .ok (.iconst 2, 1) := by decide +kernel
theorem dL_law_561 : decode cL_law 561 = .ok (.iload 17, 2) := by decide +kernel
theorem dL_law_563 : decode cL_law 563 = .ok (.imul, 1) := by decide +kernel
theorem dL_law_564 : decode cL_law 564 = .ok (.aload_n 3, 1) := by decide +kernel
theorem dL_law_565 : decode cL_law 565 = .ok (.iload 16, 2) := by decide +kernel
theorem dL_law_567 : decode cL_law 567 = .ok (.iaload, 1) := by decide +kernel
theorem dL_law_568 : decode cL_law 568 = .ok (.if_icmp .le 27, 3) := by decide +kernel
theorem dL_law_571 : decode cL_law 571 = .ok (.goto 9, 3) := by decide +kernel
theorem dL_law_574 : decode cL_law 574 = .ok (.aload_n 2, 1) := by decide +kernel
theorem dL_law_575 : decode cL_law 575 = .ok (.iconst 2, 1) := by decide +kernel
theorem dL_law_576 : decode cL_law 576 = .ok (.iaload, 1) := by decide +kernel
theorem dL_law_577 : decode cL_law 577 = .ok (.ifCond .ne 18, 3) := by decide +kernel
theorem dL_law_580 : decode cL_law 580 = .ok (.aload_n 1, 1) := by decide +kernel
theorem dL_law_581 : decode cL_law 581 = .ok (.iload 15, 2) := by decide +kernel
theorem dL_law_583 : decode cL_law 583 = .ok (.iload 16, 2) := by decide +kernel
theorem dL_law_585 : decode cL_law 585 = .ok (.iload 17, 2) := by decide +kernel
theorem dL_law_587 : decode cL_law 587 = .ok (.invokestatic 167, 3) := by decide +kernel
theorem dL_law_590 : decode cL_law 590 = .ok (.ifCond .ne 277, 3) := by decide +kernel
theorem dL_law_593 : decode cL_law 593 = .ok (.iconst 0, 1) := by decide +kernel
theorem dL_law_594 : decode cL_law 594 = .ok (.ireturn, 1) := by decide +kernel
theorem dL_law_595 : decode cL_law 595 = .ok (.iload 15, 2) := by decide +kernel
theorem dL_law_597 : decode cL_law 597 = .ok (.iconst 2, 1) := by decide +kernel
theorem dL_law_598 : decode cL_law 598 = .ok (.if_icmp .ne 15, 3) := by decide +kernel
theorem dL_law_601 : decode cL_law 601 = .ok (.iload 17, 2) := by decide +kernel
theorem dL_law_603 : decode cL_law 603 = .ok (.iload 16, 2) := by decide +kernel
theorem dL_law_605 : decode cL_law 605 = .ok (.if_icmp .ge 8, 3) := by decide +kernel
theorem dL_law_608 : decode cL_law 608 = .ok (.iload 17, 2) := by decide +kernel
theorem dL_law_610 : decode cL_law 610 = .ok (.goto 5, 3) := by decide +kernel
theorem dL_law_613 : decode cL_law 613 = .ok (.iload 16, 2) := by decide +kernel
theorem dL_law_615 : decode cL_law 615 = .ok (.istore 18, 2) := by decide +kernel
theorem dL_law_617 : decode cL_law 617 = .ok (.aload_n 2, 1) := by decide +kernel
theorem dL_law_618 : decode cL_law 618 = .ok (.iconst 4, 1) := by decide +kernel
theorem dL_law_619 : decode cL_law 619 = .ok (.iload 15, 2) := by decide +kernel
theorem dL_law_621 : decode cL_law 621 = .ok (.iload 18, 2) := by decide +kernel
theorem dL_law_623 : decode cL_law 623 = .ok (.iload 15, 2) := by decide +kernel
theorem dL_law_625 : decode cL_law 625 = .ok (.iconst 2, 1) := by decide +kernel
theorem dL_law_626 : decode cL_law 626 = .ok (.if_icmp .ne 15, 3) := by decide +kernel
theorem dL_law_629 : decode cL_law 629 = .ok (.iload 17, 2) := by decide +kernel
theorem dL_law_631 : decode cL_law 631 = .ok (.iload 16, 2) := by decide +kernel
theorem dL_law_633 : decode cL_law 633 = .ok (.if_icmp .ge 8, 3) := by decide +kernel
theorem dL_law_636 : decode cL_law 636 = .ok (.iload 16, 2) := by decide +kernel
theorem dL_law_638 : decode cL_law 638 = .ok (.goto 5, 3) := by decide +kernel
theorem dL_law_641 : decode cL_law 641 = .ok (.iload 17, 2) := by decide +kernel
theorem dL_law_643 : decode cL_law 643 = .ok (.iload 13, 2) := by decide +kernel
theorem dL_law_645 : decode cL_law 645 = .ok (.aload_n 3, 1) := by decide +kernel
theorem dL_law_646 : decode cL_law 646 = .ok (.invokestatic 37, 3) := by decide +kernel
theorem dL_law_649 : decode cL_law 649 = .ok (.iastore, 1) := by decide +kernel
theorem dL_law_650 : decode cL_law 650 = .ok (.aload_n 2, 1) := by decide +kernel
theorem dL_law_651 : decode cL_law 651 = .ok (.iconst 5, 1) := by decide +kernel
theorem dL_law_652 : decode cL_law 652 = .ok (.iload 15, 2) := by decide +kernel
theorem dL_law_654 : decode cL_law 654 = .ok (.iadd, 1) := by decide +kernel
theorem dL_law_655 : decode cL_law 655 = .ok (.dup2, 1) := by decide +kernel
theorem dL_law_656 : decode cL_law 656 = .ok (.iaload, 1) := by decide +kernel
theorem dL_law_657 : decode cL_law 657 = .ok (.iconst 1, 1) := by decide +kernel
theorem dL_law_658 : decode cL_law 658 = .ok (.iadd, 1) := by decide +kernel
theorem dL_law_659 : decode cL_law 659 = .ok (.iastore, 1) := by decide +kernel
theorem dL_law_660 : decode cL_law 660 = .ok (.iload 15, 2) := by decide +kernel
theorem dL_law_662 : decode cL_law 662 = .ok (.iconst 1, 1) := by decide +kernel
theorem dL_law_663 : decode cL_law 663 = .ok (.if_icmp .ne 9, 3) := by decide +kernel
theorem dL_law_666 : decode cL_law 666 = .ok (.aload_n 2, 1) := by decide +kernel
theorem dL_law_667 : decode cL_law 667 = .ok (.iconst 4, 1) := by decide +kernel
theorem dL_law_668 : decode cL_law 668 = .ok (.iaload, 1) := by decide +kernel
theorem dL_law_669 : decode cL_law 669 = .ok (.goto 21, 3) := by decide +kernel
theorem dL_law_672 : decode cL_law 672 = .ok (.iload 15, 2) := by decide +kernel
theorem dL_law_674 : decode cL_law 674 = .ok (.iconst 2, 1) := by decide +kernel
theorem dL_law_675 : decode cL_law 675 = .ok (.if_icmp .ne 10, 3) := by decide +kernel
theorem dL_law_678 : decode cL_law 678 = .ok (.aload_n 3, 1) := by decide +kernel
theorem dL_law_679 : decode cL_law 679 = .ok (.iload 18, 2) := by decide +kernel
theorem dL_law_681 : decode cL_law 681 = .ok (.iaload, 1) := by decide +kernel
theorem dL_law_682 : decode cL_law 682 = .ok (.goto 8, 3) := by decide +kernel
theorem dL_law_685 : decode cL_law 685 = .ok (.iload 14, 2) := by decide +kernel
theorem dL_law_687 : decode cL_law 687 = .ok (.iload 17, 2) := by decide +kernel
theorem dL_law_689 : decode cL_law 689 = .ok (.isub, 1) := by decide +kernel
theorem dL_law_690 : decode cL_law 690 = .ok (.istore 19, 2) := by decide +kernel
theorem dL_law_692 : decode cL_law 692 = .ok (.iload 15, 2) := by decide +kernel
theorem dL_law_694 : decode cL_law 694 = .ok (.ifCond .ne 14, 3) := by decide +kernel
theorem dL_law_697 : decode cL_law 697 = .ok (.aload_n 1, 1) := by decide +kernel
theorem dL_law_698 : decode cL_law 698 = .ok (.iload 16, 2) := by decide +kernel
theorem dL_law_700 : decode cL_law 700 = .ok (.iload 17, 2) := by decide +kernel
theorem dL_law_702 : decode cL_law 702 = .ok (.invokevirtual 121, 3) := by decide +kernel
theorem dL_law_705 : decode cL_law 705 = .ok (.goto 28, 3) := by decide +kernel
theorem dL_law_708 : decode cL_law 708 = .ok (.iload 15, 2) := by decide +kernel
theorem dL_law_710 : decode cL_law 710 = .ok (.iconst 1, 1) := by decide +kernel
theorem dL_law_711 : decode cL_law 711 = .ok (.if_icmp .ne 14, 3) := by decide +kernel
theorem dL_law_714 : decode cL_law 714 = .ok (.aload_n 1, 1) := by decide +kernel
theorem dL_law_715 : decode cL_law 715 = .ok (.iload 16, 2) := by decide +kernel
theorem dL_law_717 : decode cL_law 717 = .ok (.iload 17, 2) := by decide +kernel
theorem dL_law_719 : decode cL_law 719 = .ok (.invokevirtual 125, 3) := by decide +kernel
theorem dL_law_722 : decode cL_law 722 = .ok (.goto 11, 3) := by decide +kernel
theorem dL_law_725 : decode cL_law 725 = .ok (.aload_n 1, 1) := by decide +kernel
theorem dL_law_726 : decode cL_law 726 = .ok (.iload 16, 2) := by decide +kernel
theorem dL_law_728 : decode cL_law 728 = .ok (.iload 17, 2) := by decide +kernel
theorem dL_law_730 : decode cL_law 730 = .ok (.invokevirtual 128, 3) := by decide +kernel
theorem dL_law_733 : decode cL_law 733 = .ok (.iload 19, 2) := by decide +kernel
theorem dL_law_735 : decode cL_law 735 = .ok (.if_icmp .eq 5, 3) := by decide +kernel
theorem dL_law_738 : decode cL_law 738 = .ok (.iconst 0, 1) := by decide +kernel
theorem dL_law_739 : decode cL_law 739 = .ok (.ireturn, 1) := by decide +kernel
theorem dL_law_740 : decode cL_law 740 = .ok (.goto 106, 3) := by decide +kernel
theorem dL_law_743 : decode cL_law 743 = .ok (.aload_n 1, 1) := by decide +kernel
theorem dL_law_744 : decode cL_law 744 = .ok (.invokevirtual 61, 3) := by decide +kernel
theorem dL_law_747 : decode cL_law 747 = .ok (.istore 15, 2) := by decide +kernel
theorem dL_law_749 : decode cL_law 749 = .ok (.iload 15, 2) := by decide +kernel
theorem dL_law_751 : decode cL_law 751 = .ok (.ifCond .ne 6, 3) := by decide +kernel
theorem dL_law_754 : decode cL_law 754 = .ok (.goto 113, 3) := by decide +kernel
theorem dL_law_757 : decode cL_law 757 = .ok (.iload 10, 2) := by decide +kernel
theorem dL_law_759 : decode cL_law 759 = .ok (.iconst 5, 1) := by decide +kernel
theorem dL_law_760 : decode cL_law 760 = .ok (.ishr, 1) := by decide +kernel
theorem dL_law_761 : decode cL_law 761 = .ok (.iconst 2, 1) := by decide +kernel
theorem dL_law_762 : decode cL_law 762 = .ok (.invokestatic 146, 3) := by decide +kernel
theorem dL_law_765 : decode cL_law 765 = .ok (.ifCond .ne 10, 3) := by decide +kernel
theorem dL_law_768 : decode cL_law 768 = .ok (.aload_n 1, 1) := by decide +kernel
theorem dL_law_769 : decode cL_law 769 = .ok (.invokevirtual 68, 3) := by decide +kernel
theorem dL_law_772 : decode cL_law 772 = .ok (.goto 10, 3) := by decide +kernel
theorem dL_law_775 : decode cL_law 775 = .ok (.iload 11, 2) := by decide +kernel
theorem dL_law_777 : decode cL_law 777 = .ok (.iload 15, 2) := by decide +kernel
theorem dL_law_779 : decode cL_law 779 = .ok (.invokestatic 146, 3) := by decide +kernel
theorem dL_law_782 : decode cL_law 782 = .ok (.istore 16, 2) := by decide +kernel
theorem dL_law_784 : decode cL_law 784 = .ok (.aload_n 1, 1) := by decide +kernel
theorem dL_law_785 : decode cL_law 785 = .ok (.iload 16, 2) := by decide +kernel
theorem dL_law_787 : decode cL_law 787 = .ok (.invokevirtual 48, 3) := by decide +kernel
theorem dL_law_790 : decode cL_law 790 = .ok (.istore 17, 2) := by decide +kernel
theorem dL_law_792 : decode cL_law 792 = .ok (.aload_n 1, 1) := by decide +kernel
theorem dL_law_793 : decode cL_law 793 = .ok (.iload 16, 2) := by decide +kernel
theorem dL_law_795 : decode cL_law 795 = .ok (.invokevirtual 51, 3) := by decide +kernel
theorem dL_law_798 : decode cL_law 798 = .ok (.istore 18, 2) := by decide +kernel
theorem dL_law_800 : decode cL_law 800 = .ok (.aload_n 1, 1) := by decide +kernel
theorem dL_law_801 : decode cL_law 801 = .ok (.iload 16, 2) := by decide +kernel
theorem dL_law_803 : decode cL_law 803 = .ok (.invokevirtual 54, 3) := by decide +kernel
theorem dL_law_806 : decode cL_law 806 = .ok (.istore 19, 2) := by decide +kernel
theorem dL_law_808 : decode cL_law 808 = .ok (.aload_n 2, 1) := by decide +kernel
theorem dL_law_809 : decode cL_law 809 = .ok (.iconst 4, 1) := by decide +kernel
theorem dL_law_810 : decode cL_law 810 = .ok (.iload 17, 2) := by decide +kernel
theorem dL_law_812 : decode cL_law 812 = .ok (.iload 18, 2) := by decide +kernel
theorem dL_law_814 : decode cL_law 814 = .ok (.iload 19, 2) := by decide +kernel
theorem dL_law_816 : decode cL_law 816 = .ok (.iload 13, 2) := by decide +kernel
theorem dL_law_818 : decode cL_law 818 = .ok (.aload_n 3, 1) := by decide +kernel
theorem dL_law_819 : decode cL_law 819 = .ok (.invokestatic 37, 3) := by decide +kernel
theorem dL_law_822 : decode cL_law 822 = .ok (.iastore, 1) := by decide +kernel
theorem dL_law_823 : decode cL_law 823 = .ok (.aload_n 2, 1) := by decide +kernel
theorem dL_law_824 : decode cL_law 824 = .ok (.iconst 5, 1) := by decide +kernel
theorem dL_law_825 : decode cL_law 825 = .ok (.iload 17, 2) := by decide +kernel
theorem dL_law_827 : decode cL_law 827 = .ok (.iadd, 1) := by decide +kernel
theorem dL_law_828 : decode cL_law 828 = .ok (.dup2, 1) := by decide +kernel
theorem dL_law_829 : decode cL_law 829 = .ok (.iaload, 1) := by decide +kernel
theorem dL_law_830 : decode cL_law 830 = .ok (.iconst 1, 1) := by decide +kernel
theorem dL_law_831 : decode cL_law 831 = .ok (.iadd, 1) := by decide +kernel
theorem dL_law_832 : decode cL_law 832 = .ok (.iastore, 1) := by decide +kernel
theorem dL_law_833 : decode cL_law 833 = .ok (.aload_n 1, 1) := by decide +kernel
theorem dL_law_834 : decode cL_law 834 = .ok (.iload 16, 2) := by decide +kernel
theorem dL_law_836 : decode cL_law 836 = .ok (.invokevirtual 171, 3) := by decide +kernel
theorem dL_law_839 : decode cL_law 839 = .ok (.iload 17, 2) := by decide +kernel
theorem dL_law_841 : decode cL_law 841 = .ok (.if_icmp .eq 5, 3) := by decide +kernel
theorem dL_law_844 : decode cL_law 844 = .ok (.iconst 0, 1) := by decide +kernel
theorem dL_law_845 : decode cL_law 845 = .ok (.ireturn, 1) := by decide +kernel
theorem dL_law_846 : decode cL_law 846 = .ok (.aload_n 1, 1) := by decide +kernel
theorem dL_law_847 : decode cL_law 847 = .ok (.aload_n 2, 1) := by decide +kernel
theorem dL_law_848 : decode cL_law 848 = .ok (.aload_n 3, 1) := by decide +kernel
theorem dL_law_849 : decode cL_law 849 = .ok (.aload 4, 2) := by decide +kernel
theorem dL_law_851 : decode cL_law 851 = .ok (.aload 5, 2) := by decide +kernel
theorem dL_law_853 : decode cL_law 853 = .ok (.aload 6, 2) := by decide +kernel
theorem dL_law_855 : decode cL_law 855 = .ok (.aload 7, 2) := by decide +kernel
theorem dL_law_857 : decode cL_law 857 = .ok (.aload 8, 2) := by decide +kernel
theorem dL_law_859 : decode cL_law 859 = .ok (.invokestatic 174, 3) := by decide +kernel
theorem dL_law_862 : decode cL_law 862 = .ok (.ifCond .ne 5, 3) := by decide +kernel
theorem dL_law_865 : decode cL_law 865 = .ok (.iconst 0, 1) := by decide +kernel
theorem dL_law_866 : decode cL_law 866 = .ok (.ireturn, 1) := by decide +kernel
theorem dL_law_867 : decode cL_law 867 = .ok (.iinc 9 1, 3) := by decide +kernel
theorem dL_law_870 : decode cL_law 870 = .ok (.goto (-788), 3) := by decide +kernel
theorem dL_law_873 : decode cL_law 873 = .ok (.iconst 1, 1) := by decide +kernel
theorem dL_law_874 : decode cL_law 874 = .ok (.ireturn, 1) := by decide +kernel
