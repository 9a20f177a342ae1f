theorem dX7_init_122 : decode cX7_init 122 = .ok (.getfield 7, 3) := by decide +kernel
theorem dX7_init_125 : decode cX7_init 125 = .ok (.iconst 0, 1) := by decide +kernel
theorem dX7_init_126 : decode cX7_init 126 = .ok (.iconst 3, 1) := by decide +kernel
theorem dX7_init_127 : decode cX7_init 127 = .ok (.iastore, 1) := by decide +kernel
theorem dX7_init_128 : decode cX7_init 128 = .ok (.aload_n 0, 1) := by decide +kernel
theorem dX7_init_129 : decode cX7_init 129 = .ok (.getfield 7, 3) := by decide +kernel
theorem dX7_init_132 : decode cX7_init 132 = .ok (.iconst 1, 1) := by decide +kernel
theorem dX7_init_133 : decode cX7_init 133 = .ok (.iconst 1, 1) := by decide +kernel
theorem dX7_init_134 : decode cX7_init 134 = .ok (.iastore, 1) := by decide +kernel
theorem dX7_init_135 : decode cX7_init 135 = .ok (.aload_n 0, 1) := by decide +kernel
theorem dX7_init_136 : decode cX7_init 136 = .ok (.getfield 7, 3) := by decide +kernel
theorem dX7_init_139 : decode cX7_init 139 = .ok (.iconst 3, 1) := by decide +kernel
theorem dX7_init_140 : decode cX7_init 140 = .ok (.iconst 1, 1) := by decide +kernel
theorem dX7_init_141 : decode cX7_init 141 = .ok (.iastore, 1) := by decide +kernel
theorem dX7_init_142 : decode cX7_init 142 = .ok (.iconst 0, 1) := by decide +kernel
theorem dX7_init_143 : decode cX7_init 143 = .ok (.istore_n 1, 1) := by decide +kernel
theorem dX7_init_144 : decode cX7_init 144 = .ok (.iload_n 1, 1) := by decide +kernel
theorem dX7_init_145 : decode cX7_init 145 = .ok (.bipush 12, 2) := by decide +kernel
theorem dX7_init_147 : decode cX7_init 147 = .ok (.if_icmp .gt 37, 3) := by decide +kernel
theorem dX7_init_150 : decode cX7_init 150 = .ok (.aload_n 0, 1) := by decide +kernel
theorem dX7_init_151 : decode cX7_init 151 = .ok (.getfield 22, 3) := by decide +kernel
theorem dX7_init_154 : decode cX7_init 154 = .ok (.iload_n 1, 1) := by decide +kernel
theorem dX7_init_155 : decode cX7_init 155 = .ok (.aload_n 0, 1) := by decide +kernel
theorem dX7_init_156 : decode cX7_init 156 = .ok (.getfield 52, 3) := by decide +kernel
theorem dX7_init_159 : decode cX7_init 159 = .ok (.iastore, 1) := by decide +kernel
theorem dX7_init_160 : decode cX7_init 160 = .ok (.iload_n 1, 1) := by decide +kernel
theorem dX7_init_161 : decode cX7_init 161 = .ok (.istore_n 2, 1) := by decide +kernel
theorem dX7_init_162 : decode cX7_init 162 = .ok (.iload_n 2, 1) := by decide +kernel
theorem dX7_init_163 : decode cX7_init 163 = .ok (.ifCond .lt 15, 3) := by decide +kernel
theorem dX7_init_166 : decode cX7_init 166 = .ok (.aload_n 0, 1) := by decide +kernel
theorem dX7_init_167 : decode cX7_init 167 = .ok (.iload_n 1, 1) := by decide +kernel
theorem dX7_init_168 : decode cX7_init 168 = .ok (.iload_n 2, 1) := by decide +kernel
theorem dX7_init_169 : decode cX7_init 169 = .ok (.invokevirtual 56, 3) := by decide +kernel
theorem dX7_init_172 : decode cX7_init 172 = .ok (.iinc 2 (-1), 3) := by decide +kernel
theorem dX7_init_175 : decode cX7_init 175 = .ok (.goto (-13), 3) := by decide +kernel
theorem dX7_init_178 : decode cX7_init 178 = .ok (.iinc 1 1, 3) := by decide +kernel
theorem dX7_init_181 : decode cX7_init 181 = .ok (.goto (-37), 3) := by decide +kernel
theorem dX7_init_184 : decode cX7_init 184 = .ok (.aload_n 0, 1) := by decide +kernel
theorem dX7_init_185 : decode cX7_init 185 = .ok (.getfield 22, 3) := by decide +kernel
theorem dX7_init_188 : decode cX7_init 188 = .ok (.bipush 13, 2) := by decide +kernel
theorem dX7_init_190 : decode cX7_init 190 = .ok (.aload_n 0, 1) := by decide +kernel
theorem dX7_init_191 : decode cX7_init 191 = .ok (.getfield 52, 3) := by decide +kernel
theorem dX7_init_194 : decode cX7_init 194 = .ok (.iastore, 1) := by decide +kernel
theorem dX7_init_195 : decode cX7_init 195 = .ok (.return_, 1) := by decide +kernel
theorem dX7_thrown_0 : decode cX7_thrown 0 = .ok (.aload_n 0, 1) := by decide +kernel
theorem dX7_thrown_1 : decode cX7_thrown 1 = .ok (.getfield 60, 3) := by decide +kernel
theorem dX7_thrown_4 : decode cX7_thrown 4 = .ok (.ireturn, 1) := by decide +kernel
theorem dX7_within_0 : decode cX7_within 0 = .ok (.iload_n 0, 1) := by decide +kernel
theorem dX7_within_1 : decode cX7_within 1 = .ok (.iload_n 1, 1) := by decide +kernel
theorem dX7_within_2 : decode cX7_within 2 = .ok (.if_icmp .lt 12, 3) := by decide +kernel
theorem dX7_within_5 : decode cX7_within 5 = .ok (.iload_n 0, 1) := by decide +kernel
theorem dX7_within_6 : decode cX7_within 6 = .ok (.iload_n 2, 1) := by decide +kernel
theorem dX7_within_7 : decode cX7_within 7 = .ok (.if_icmp .gt 7, 3) := by decide +kernel
theorem dX7_within_10 : decode cX7_within 10 = .ok (.iconst 1, 1) := by decide +kernel
theorem dX7_within_11 : decode cX7_within 11 = .ok (.goto 4, 3) := by decide +kernel
theorem dX7_within_14 : decode cX7_within 14 = .ok (.iconst 0, 1) := by decide +kernel
theorem dX7_within_15 : decode cX7_within 15 = .ok (.ireturn, 1) := by decide +kernel
theorem dX7_record_0 : decode cX7_record 0 = .ok (.aload_n 0, 1) := by decide +kernel
theorem dX7_record_1 : decode cX7_record 1 = .ok (.getfield 63, 3) := by decide +kernel
theorem dX7_record_4 : decode cX7_record 4 = .ok (.bipush 6, 2) := by decide +kernel
theorem dX7_record_6 : decode cX7_record 6 = .ok (.if_icmp .ne 42, 3) := by decide +kernel
theorem dX7_record_9 : decode cX7_record 9 = .ok (.iconst 0, 1) := by decide +kernel
theorem dX7_record_10 : decode cX7_record 10 = .ok (.istore_n 1, 1) := by decide +kernel
theorem dX7_record_11 : decode cX7_record 11 = .ok (.iload_n 1, 1) := by decide +kernel
theorem dX7_record_12 : decode cX7_record 12 = .ok (.bipush 100, 2) := by decide +kernel
theorem dX7_record_14 : decode cX7_record 14 = .ok (.if_icmp .ge 24, 3) := by decide +kernel
theorem dX7_record_17 : decode cX7_record 17 = .ok (.aload_n 0, 1) := by decide +kernel
theorem dX7_record_18 : decode cX7_record 18 = .ok (.getfield 13, 3) := by decide +kernel
theorem dX7_record_21 : decode cX7_record 21 = .ok (.iload_n 1, 1) := by decide +kernel
theorem dX7_record_22 : decode cX7_record 22 = .ok (.aload_n 0, 1) := by decide +kernel
theorem dX7_record_23 : decode cX7_record 23 = .ok (.getfield 13, 3) := by decide +kernel
theorem dX7_record_26 : decode cX7_record 26 = .ok (.iload_n 1, 1) := by decide +kernel
theorem dX7_record_27 : decode cX7_record 27 = .ok (.bipush 20, 2) := by decide +kernel
theorem dX7_record_29 : decode cX7_record 29 = .ok (.iadd, 1) := by decide +kernel
theorem dX7_record_30 : decode cX7_record 30 = .ok (.iaload, 1) := by decide +kernel
theorem dX7_record_31 : decode cX7_record 31 = .ok (.iastore, 1) := by decide +kernel
theorem dX7_record_32 : decode cX7_record 32 = .ok (.iinc 1 1, 3) := by decide +kernel
theorem dX7_record_35 : decode cX7_record 35 = .ok (.goto (-24), 3) := by decide +kernel
theorem dX7_record_38 : decode cX7_record 38 = .ok (.aload_n 0, 1) := by decide +kernel
theorem dX7_record_39 : decode cX7_record 39 = .ok (.dup, 1) := by decide +kernel
theorem dX7_record_40 : decode cX7_record 40 = .ok (.getfield 63, 3) := by decide +kernel
theorem dX7_record_43 : decode cX7_record 43 = .ok (.iconst 1, 1) := by decide +kernel
theorem dX7_record_44 : decode cX7_record 44 = .ok (.isub, 1) := by decide +kernel
theorem dX7_record_45 : decode cX7_record 45 = .ok (.putfield 63, 3) := by decide +kernel
theorem dX7_record_48 : decode cX7_record 48 = .ok (.iconst 0, 1) := by decide +kernel
theorem dX7_record_49 : decode cX7_record 49 = .ok (.istore_n 1, 1) := by decide +kernel
theorem dX7_record_50 : decode cX7_record 50 = .ok (.iload_n 1, 1) := by decide +kernel
theorem dX7_record_51 : decode cX7_record 51 = .ok (.bipush 20, 2) := by decide +kernel
theorem dX7_record_53 : decode cX7_record 53 = .ok (.if_icmp .ge 29, 3) := by decide +kernel
theorem dX7_record_56 : decode cX7_record 56 = .ok (.aload_n 0, 1) := by decide +kernel
theorem dX7_record_57 : decode cX7_record 57 = .ok (.getfield 13, 3) := by decide +kernel
theorem dX7_record_60 : decode cX7_record 60 = .ok (.aload_n 0, 1) := by decide +kernel
theorem dX7_record_61 : decode cX7_record 61 = .ok (.getfield 63, 3) := by decide +kernel
theorem dX7_record_64 : decode cX7_record 64 = .ok (.bipush 20, 2) := by decide +kernel
theorem dX7_record_66 : decode cX7_record 66 = .ok (.imul, 1) := by decide +kernel
theorem dX7_record_67 : decode cX7_record 67 = .ok (.iload_n 1, 1) := by decide +kernel
theorem dX7_record_68 : decode cX7_record 68 = .ok (.iadd, 1) := by decide +kernel
theorem dX7_record_69 : decode cX7_record 69 = .ok (.aload_n 0, 1) := by decide +kernel
theorem dX7_record_70 : decode cX7_record 70 = .ok (.getfield 7, 3) := by decide +kernel
theorem dX7_record_73 : decode cX7_record 73 = .ok (.iload_n 1, 1) := by decide +kernel
theorem dX7_record_74 : decode cX7_record 74 = .ok (.iaload, 1) := by decide +kernel
theorem dX7_record_75 : decode cX7_record 75 = .ok (.iastore, 1) := by decide +kernel
theorem dX7_record_76 : decode cX7_record 76 = .ok (.iinc 1 1, 3) := by decide +kernel
theorem dX7_record_79 : decode cX7_record 79 = .ok (.goto (-29), 3) := by decide +kernel
theorem dX7_record_82 : decode cX7_record 82 = .ok (.aload_n 0, 1) := by decide +kernel
theorem dX7_record_83 : decode cX7_record 83 = .ok (.dup, 1) := by decide +kernel
theorem dX7_record_84 : decode cX7_record 84 = .ok (.getfield 63, 3) := by decide +kernel
theorem dX7_record_87 : decode cX7_record 87 = .ok (.iconst 1, 1) := by decide +kernel
theorem dX7_record_88 : decode cX7_record 88 = .ok (.iadd, 1) := by decide +kernel
theorem dX7_record_89 : decode cX7_record 89 = .ok (.putfield 63, 3) := by decide +kernel
theorem dX7_record_92 : decode cX7_record 92 = .ok (.return_, 1) := by decide +kernel
set_option maxRecDepth 20000 in
theorem ggX7_laysPositions_X7_goesOn : GoodIn wsX7_laysPositions wsX7_goesOn := goodIn_r _ [8, 1, 9, 10, 11, 12, 13, 14, 15, 16, 17, 18, 19, 20, 21, 22, 23, 24, 25, 26, 27, 28, 29, 30, 31, 32, 33, 34, 35] (by decide +kernel) (by decide +kernel)
set_option maxRecDepth 20000 in
theorem gX7_laysPositions_X7_goesOn : GoodIn wsX7_laysPositions (wsV RX7 66 RX7 yX7_goesOn wsX7_goesOn) := goodIn_app (goodIn_of _ (by decide +kernel)) ggX7_laysPositions_X7_goesOn
theorem dX7_laysPositions_0 : decode cX7_laysPositions 0 = .ok (.iconst 0, 1) := by decide +kernel
theorem dX7_laysPositions_1 : decode cX7_laysPositions 1 = .ok (.istore_n 3, 1) := by decide +kernel
theorem dX7_laysPositions_2 : decode cX7_laysPositions 2 = .ok (.iload_n 3, 1) := by decide +kernel
theorem dX7_laysPositions_3 : decode cX7_laysPositions 3 = .ok (.bipush 12, 2) := by decide +kernel
theorem dX7_laysPositions_5 : decode cX7_laysPositions 5 = .ok (.if_icmp .ge 16, 3) := by decide +kernel
theorem dX7_laysPositions_8 : decode cX7_laysPositions 8 = .ok (.aload_n 0, 1) := by decide +kernel
theorem dX7_laysPositions_9 : decode cX7_laysPositions 9 = .ok (.getfield 37, 3) := by decide +kernel
theorem dX7_laysPositions_12 : decode cX7_laysPositions 12 = .ok (.iload_n 3, 1) := by decide +kernel
theorem dX7_laysPositions_13 : decode cX7_laysPositions 13 = .ok (.iconst 0, 1) := by decide +kernel
theorem dX7_laysPositions_14 : decode cX7_laysPositions 14 = .ok (.iastore, 1) := by decide +kernel
theorem dX7_laysPositions_15 : decode cX7_laysPositions 15 = .ok (.iinc 3 1, 3) := by decide +kernel
theorem dX7_laysPositions_18 : decode cX7_laysPositions 18 = .ok (.goto (-16), 3) := by decide +kernel
theorem dX7_laysPositions_21 : decode cX7_laysPositions 21 = .ok (.aload_n 0, 1) := by decide +kernel
theorem dX7_laysPositions_22 : decode cX7_laysPositions 22 = .ok (.getfield 37, 3) := by decide +kernel
theorem dX7_laysPositions_25 : decode cX7_laysPositions 25 = .ok (.iconst 0, 1) := by decide +kernel
theorem dX7_laysPositions_26 : decode cX7_laysPositions 26 = .ok (.iload_n 1, 1) := by decide +kernel
theorem dX7_laysPositions_27 : decode cX7_laysPositions 27 = .ok (.iastore, 1) := by decide +kernel
theorem dX7_laysPositions_28 : decode cX7_laysPositions 28 = .ok (.iconst 1, 1) := by decide +kernel
theorem dX7_laysPositions_29 : decode cX7_laysPositions 29 = .ok (.istore_n 3, 1) := by decide +kernel
theorem dX7_laysPositions_30 : decode cX7_laysPositions 30 = .ok (.iload_n 3, 1) := by decide +kernel
theorem dX7_laysPositions_31 : decode cX7_laysPositions 31 = .ok (.ifCond .eq 93, 3) := by decide +kernel
theorem dX7_laysPositions_34 : decode cX7_laysPositions 34 = .ok (.iconst 0, 1) := by decide +kernel
theorem dX7_laysPositions_35 : decode cX7_laysPositions 35 = .ok (.istore 4, 2) := by decide +kernel
theorem dX7_laysPositions_37 : decode cX7_laysPositions 37 = .ok (.iload 4, 2) := by decide +kernel
theorem dX7_laysPositions_39 : decode cX7_laysPositions 39 = .ok (.bipush 12, 2) := by decide +kernel
theorem dX7_laysPositions_41 : decode cX7_laysPositions 41 = .ok (.if_icmp .ge 19, 3) := by decide +kernel
theorem dX7_laysPositions_44 : decode cX7_laysPositions 44 = .ok (.aload_n 0, 1) := by decide +kernel
theorem dX7_laysPositions_45 : decode cX7_laysPositions 45 = .ok (.getfield 37, 3) := by decide +kernel
theorem dX7_laysPositions_48 : decode cX7_laysPositions 48 = .ok (.iload 4, 2) := by decide +kernel
theorem dX7_laysPositions_50 : decode cX7_laysPositions 50 = .ok (.iaload, 1) := by decide +kernel
theorem dX7_laysPositions_51 : decode cX7_laysPositions 51 = .ok (.ifCond .le 9, 3) := by decide +kernel
theorem dX7_laysPositions_54 : decode cX7_laysPositions 54 = .ok (.iinc 4 1, 3) := by decide +kernel
theorem dX7_laysPositions_57 : decode cX7_laysPositions 57 = .ok (.goto (-20), 3) := by decide +kernel
theorem dX7_laysPositions_60 : decode cX7_laysPositions 60 = .ok (.iload 4, 2) := by decide +kernel
theorem dX7_laysPositions_62 : decode cX7_laysPositions 62 = .ok (.iload_n 2, 1) := by decide +kernel
theorem dX7_laysPositions_63 : decode cX7_laysPositions 63 = .ok (.if_icmp .ne 51, 3) := by decide +kernel
theorem dX7_laysPositions_66 : decode cX7_laysPositions 66 = .ok (.iconst 0, 1) := by decide +kernel
theorem dX7_laysPositions_67 : decode cX7_laysPositions 67 = .ok (.istore 5, 2) := by decide +kernel
theorem dX7_laysPositions_69 : decode cX7_laysPositions 69 = .ok (.iload 5, 2) := by decide +kernel
theorem dX7_laysPositions_71 : decode cX7_laysPositions 71 = .ok (.bipush 12, 2) := by decide +kernel
theorem dX7_laysPositions_73 : decode cX7_laysPositions 73 = .ok (.if_icmp .ge 31, 3) := by decide +kernel
theorem dX7_laysPositions_76 : decode cX7_laysPositions 76 = .ok (.aload_n 0, 1) := by decide +kernel
theorem dX7_laysPositions_77 : decode cX7_laysPositions 77 = .ok (.getfield 19, 3) := by decide +kernel
theorem dX7_laysPositions_80 : decode cX7_laysPositions 80 = .ok (.bipush 12, 2) := by decide +kernel
theorem dX7_laysPositions_82 : decode cX7_laysPositions 82 = .ok (.aload_n 0, 1) := by decide +kernel
theorem dX7_laysPositions_83 : decode cX7_laysPositions 83 = .ok (.getfield 52, 3) := by decide +kernel
theorem dX7_laysPositions_86 : decode cX7_laysPositions 86 = .ok (.imul, 1) := by decide +kernel
theorem dX7_laysPositions_87 : decode cX7_laysPositions 87 = .ok (.iload 5, 2) := by decide +kernel
theorem dX7_laysPositions_89 : decode cX7_laysPositions 89 = .ok (.iadd, 1) := by decide +kernel
theorem dX7_laysPositions_90 : decode cX7_laysPositions 90 = .ok (.aload_n 0, 1) := by decide +kernel
theorem dX7_laysPositions_91 : decode cX7_laysPositions 91 = .ok (.getfield 37, 3) := by decide +kernel
theorem dX7_laysPositions_94 : decode cX7_laysPositions 94 = .ok (.iload 5, 2) := by decide +kernel
theorem dX7_laysPositions_96 : decode cX7_laysPositions 96 = .ok (.iaload, 1) := by decide +kernel
theorem dX7_laysPositions_97 : decode cX7_laysPositions 97 = .ok (.iastore, 1) := by decide +kernel
theorem dX7_laysPositions_98 : decode cX7_laysPositions 98 = .ok (.iinc 5 1, 3) := by decide +kernel
theorem dX7_laysPositions_101 : decode cX7_laysPositions 101 = .ok (.goto (-32), 3) := by decide +kernel
theorem dX7_laysPositions_104 : decode cX7_laysPositions 104 = .ok (.aload_n 0, 1) := by decide +kernel
theorem dX7_laysPositions_105 : decode cX7_laysPositions 105 = .ok (.dup, 1) := by decide +kernel
theorem dX7_laysPositions_106 : decode cX7_laysPositions 106 = .ok (.getfield 52, 3) := by decide +kernel
theorem dX7_laysPositions_109 : decode cX7_laysPositions 109 = .ok (.iconst 1, 1) := by decide +kernel
theorem dX7_laysPositions_110 : decode cX7_laysPositions 110 = .ok (.iadd, 1) := by decide +kernel
theorem dX7_laysPositions_111 : decode cX7_laysPositions 111 = .ok (.putfield 52, 3) := by decide +kernel
theorem dX7_laysPositions_114 : decode cX7_laysPositions 114 = .ok (.aload_n 0, 1) := by decide +kernel
theorem dX7_laysPositions_115 : decode cX7_laysPositions 115 = .ok (.iload 4, 2) := by decide +kernel
theorem dX7_laysPositions_117 : decode cX7_laysPositions 117 = .ok (.invokevirtual 66, 3) := by decide +kernel
theorem dX7_laysPositions_120 : decode cX7_laysPositions 120 = .ok (.istore_n 3, 1) := by decide +kernel
theorem dX7_laysPositions_121 : decode cX7_laysPositions 121 = .ok (.goto (-91), 3) := by decide +kernel
theorem dX7_laysPositions_124 : decode cX7_laysPositions 124 = .ok (.return_, 1) := by decide +kernel
theorem dX7_goesOn_0 : decode cX7_goesOn 0 = .ok (.iload_n 1, 1) := by decide +kernel
theorem dX7_goesOn_1 : decode cX7_goesOn 1 = .ok (.iconst 1, 1) := by decide +kernel
theorem dX7_goesOn_2 : decode cX7_goesOn 2 = .ok (.isub, 1) := by decide +kernel
theorem dX7_goesOn_3 : decode cX7_goesOn 3 = .ok (.istore_n 2, 1) := by decide +kernel
theorem dX7_goesOn_4 : decode cX7_goesOn 4 = .ok (.iconst 0, 1) := by decide +kernel
theorem dX7_goesOn_5 : decode cX7_goesOn 5 = .ok (.istore_n 3, 1) := by decide +kernel
theorem dX7_goesOn_6 : decode cX7_goesOn 6 = .ok (.iload_n 2, 1) := by decide +kernel
theorem dX7_goesOn_7 : decode cX7_goesOn 7 = .ok (.ifCond .lt 29, 3) := by decide +kernel
theorem dX7_goesOn_10 : decode cX7_goesOn 10 = .ok (.aload_n 0, 1) := by decide +kernel
theorem dX7_goesOn_11 : decode cX7_goesOn 11 = .ok (.getfield 37, 3) := by decide +kernel
theorem dX7_goesOn_14 : decode cX7_goesOn 14 = .ok (.iload_n 2, 1) := by decide +kernel
theorem dX7_goesOn_15 : decode cX7_goesOn 15 = .ok (.iaload, 1) := by decide +kernel
theorem dX7_goesOn_16 : decode cX7_goesOn 16 = .ok (.iconst 1, 1) := by decide +kernel
theorem dX7_goesOn_17 : decode cX7_goesOn 17 = .ok (.if_icmp .ne 19, 3) := by decide +kernel
theorem dX7_goesOn_20 : decode cX7_goesOn 20 = .ok (.iinc 3 1, 3) := by decide +kernel
theorem dX7_goesOn_23 : decode cX7_goesOn 23 = .ok (.aload_n 0, 1) := by decide +kernel
theorem dX7_goesOn_24 : decode cX7_goesOn 24 = .ok (.getfield 37, 3) := by decide +kernel
theorem dX7_goesOn_27 : decode cX7_goesOn 27 = .ok (.iload_n 2, 1) := by decide +kernel
theorem dX7_goesOn_28 : decode cX7_goesOn 28 = .ok (.iconst 0, 1) := by decide +kernel
theorem dX7_goesOn_29 : decode cX7_goesOn 29 = .ok (.iastore, 1) := by decide +kernel
theorem dX7_goesOn_30 : decode cX7_goesOn 30 = .ok (.iinc 2 (-1), 3) := by decide +kernel
theorem dX7_goesOn_33 : decode cX7_goesOn 33 = .ok (.goto (-27), 3) := by decide +kernel
theorem dX7_goesOn_36 : decode cX7_goesOn 36 = .ok (.iload_n 2, 1) := by decide +kernel
theorem dX7_goesOn_37 : decode cX7_goesOn 37 = .ok (.ifCond .ge 5, 3) := by decide +kernel
theorem dX7_goesOn_40 : decode cX7_goesOn 40 = .ok (.iconst 0, 1) := by decide +kernel
theorem dX7_goesOn_41 : decode cX7_goesOn 41 = .ok (.ireturn, 1) := by decide +kernel
theorem dX7_goesOn_42 : decode cX7_goesOn 42 = .ok (.aload_n 0, 1) := by decide +kernel
theorem dX7_goesOn_43 : decode cX7_goesOn 43 = .ok (.getfield 37, 3) := by decide +kernel
theorem dX7_goesOn_46 : decode cX7_goesOn 46 = .ok (.iload_n 2, 1) := by decide +kernel
theorem dX7_goesOn_47 : decode cX7_goesOn 47 = .ok (.dup2, 1) := by decide +kernel
theorem dX7_goesOn_48 : decode cX7_goesOn 48 = .ok (.iaload, 1) := by decide +kernel
theorem dX7_goesOn_49 : decode cX7_goesOn 49 = .ok (.iconst 1, 1) := by decide +kernel
theorem dX7_goesOn_50 : decode cX7_goesOn 50 = .ok (.isub, 1) := by decide +kernel
theorem dX7_goesOn_51 : decode cX7_goesOn 51 = .ok (.iastore, 1) := by decide +kernel
theorem dX7_goesOn_52 : decode cX7_goesOn 52 = .ok (.iinc 3 1, 3) := by decide +kernel
theorem dX7_goesOn_55 : decode cX7_goesOn 55 = .ok (.iload_n 2, 1) := by decide +kernel
theorem dX7_goesOn_56 : decode cX7_goesOn 56 = .ok (.iconst 1, 1) := by decide +kernel
theorem dX7_goesOn_57 : decode cX7_goesOn 57 = .ok (.iadd, 1) := by decide +kernel
theorem dX7_goesOn_58 : decode cX7_goesOn 58 = .ok (.istore 4, 2) := by decide +kernel
theorem dX7_goesOn_60 : decode cX7_goesOn 60 = .ok (.iload_n 3, 1) := by decide +kernel
theorem dX7_goesOn_61 : decode cX7_goesOn 61 = .ok (.ifCond .le 46, 3) := by decide +kernel
theorem dX7_goesOn_64 : decode cX7_goesOn 64 = .ok (.aload_n 0, 1) := by decide +kernel
theorem dX7_goesOn_65 : decode cX7_goesOn 65 = .ok (.getfield 37, 3) := by decide +kernel
theorem dX7_goesOn_68 : decode cX7_goesOn 68 = .ok (.iload 4, 2) := by decide +kernel
theorem dX7_goesOn_70 : decode cX7_goesOn 70 = .ok (.iload_n 3, 1) := by decide +kernel
theorem dX7_goesOn_71 : decode cX7_goesOn 71 = .ok (.aload_n 0, 1) := by decide +kernel
theorem dX7_goesOn_72 : decode cX7_goesOn 72 = .ok (.getfield 37, 3) := by decide +kernel
theorem dX7_goesOn_75 : decode cX7_goesOn 75 = .ok (.iload_n 2, 1) := by decide +kernel
theorem dX7_goesOn_76 : decode cX7_goesOn 76 = .ok (.iaload, 1) := by decide +kernel
theorem dX7_goesOn_77 : decode cX7_goesOn 77 = .ok (.if_icmp .ge 7, 3) := by decide +kernel
theorem dX7_goesOn_80 : decode cX7_goesOn 80 = .ok (.iload_n 3, 1) := by decide +kernel
theorem dX7_goesOn_81 : decode cX7_goesOn 81 = .ok (.goto 9, 3) := by decide +kernel
theorem dX7_goesOn_84 : decode cX7_goesOn 84 = .ok (.aload_n 0, 1) := by decide +kernel
theorem dX7_goesOn_85 : decode cX7_goesOn 85 = .ok (.getfield 37, 3) := by decide +kernel
theorem dX7_goesOn_88 : decode cX7_goesOn 88 = .ok (.iload_n 2, 1) := by decide +kernel
theorem dX7_goesOn_89 : decode cX7_goesOn 89 = .ok (.iaload, 1) := by decide +kernel
theorem dX7_goesOn_90 : decode cX7_goesOn 90 = .ok (.iastore, 1) := by decide +kernel
theorem dX7_goesOn_91 : decode cX7_goesOn 91 = .ok (.iload_n 3, 1) := by decide +kernel
theorem dX7_goesOn_92 : decode cX7_goesOn 92 = .ok (.aload_n 0, 1) := by decide +kernel
theorem dX7_goesOn_93 : decode cX7_goesOn 93 = .ok (.getfield 37, 3) := by decide +kernel
theorem dX7_goesOn_96 : decode cX7_goesOn 96 = .ok (.iload 4, 2) := by decide +kernel
theorem dX7_goesOn_98 : decode cX7_goesOn 98 = .ok (.iaload, 1) := by decide +kernel
theorem dX7_goesOn_99 : decode cX7_goesOn 99 = .ok (.isub, 1) := by decide +kernel
theorem dX7_goesOn_100 : decode cX7_goesOn 100 = .ok (.istore_n 3, 1) := by decide +kernel
theorem dX7_goesOn_101 : decode cX7_goesOn 101 = .ok (.iinc 4 1, 3) := by decide +kernel
theorem dX7_goesOn_104 : decode cX7_goesOn 104 = .ok (.goto (-44), 3) := by decide +kernel
theorem dX7_goesOn_107 : decode cX7_goesOn 107 = .ok (.iconst 1, 1) := by decide +kernel
theorem dX7_goesOn_108 : decode cX7_goesOn 108 = .ok (.ireturn, 1) := by decide +kernel
set_option maxRecDepth 20000 in
theorem ggX7_position_X7_isBehind : GoodIn wsX7_position wsX7_isBehind := goodIn_r _ [8, 9, 2, 10, 11, 12, 13, 14, 15, 16, 17, 18, 19, 20, 21, 22, 23, 24, 25, 26, 27, 28, 29, 30, 31, 32, 33, 34, 35, 36] (by decide +kernel) (by decide +kernel)
set_option maxRecDepth 20000 in
theorem gX7_position_X7_isBehind : GoodIn wsX7_position (wsV RX7 73 RX7 yX7_isBehind wsX7_isBehind) := goodIn_app (goodIn_of _ (by decide +kernel)) ggX7_position_X7_isBehind
theorem dX7_position_0 : decode cX7_position 0 = .ok (.iconst 0, 1) := by decide +kernel
theorem dX7_position_1 : decode cX7_position 1 = .ok (.istore_n 1, 1) := by decide +kernel
theorem dX7_position_2 : decode cX7_position 2 = .ok (.iconst 0, 1) := by decide +kernel
theorem dX7_position_3 : decode cX7_position 3 = .ok (.istore_n 2, 1) := by decide +kernel
theorem dX7_position_4 : decode cX7_position 4 = .ok (.iload_n 2, 1) := by decide +kernel
theorem dX7_position_5 : decode cX7_position 5 = .ok (.aload_n 0, 1) := by decide +kernel
theorem dX7_position_6 : decode cX7_position 6 = .ok (.getfield 70, 3) := by decide +kernel
theorem dX7_position_9 : decode cX7_position 9 = .ok (.if_icmp .ge 71, 3) := by decide +kernel
theorem dX7_position_12 : decode cX7_position 12 = .ok (.aload_n 0, 1) := by decide +kernel
theorem dX7_position_13 : decode cX7_position 13 = .ok (.getfield 49, 3) := by decide +kernel
theorem dX7_position_16 : decode cX7_position 16 = .ok (.iload_n 2, 1) := by decide +kernel
theorem dX7_position_17 : decode cX7_position 17 = .ok (.iaload, 1) := by decide +kernel
theorem dX7_position_18 : decode cX7_position 18 = .ok (.istore_n 3, 1) := by decide +kernel
theorem dX7_position_19 : decode cX7_position 19 = .ok (.iload_n 1, 1) := by decide +kernel
theorem dX7_position_20 : decode cX7_position 20 = .ok (.iload_n 3, 1) := by decide +kernel
theorem dX7_position_21 : decode cX7_position 21 = .ok (.iadd, 1) := by decide +kernel
theorem dX7_position_22 : decode cX7_position 22 = .ok (.istore_n 1, 1) := by decide +kernel
theorem dX7_position_23 : decode cX7_position 23 = .ok (.iload_n 2, 1) := by decide +kernel
theorem dX7_position_24 : decode cX7_position 24 = .ok (.istore 4, 2) := by decide +kernel
theorem dX7_position_26 : decode cX7_position 26 = .ok (.iload 4, 2) := by decide +kernel
theorem dX7_position_28 : decode cX7_position 28 = .ok (.ifCond .le 38, 3) := by decide +kernel
theorem dX7_position_31 : decode cX7_position 31 = .ok (.aload_n 0, 1) := by decide +kernel
theorem dX7_position_32 : decode cX7_position 32 = .ok (.getfield 49, 3) := by decide +kernel
theorem dX7_position_35 : decode cX7_position 35 = .ok (.iload 4, 2) := by decide +kernel
theorem dX7_position_37 : decode cX7_position 37 = .ok (.iconst 1, 1) := by decide +kernel
theorem dX7_position_38 : decode cX7_position 38 = .ok (.isub, 1) := by decide +kernel
theorem dX7_position_39 : decode cX7_position 39 = .ok (.iaload, 1) := by decide +kernel
theorem dX7_position_40 : decode cX7_position 40 = .ok (.iload_n 3, 1) := by decide +kernel
theorem dX7_position_41 : decode cX7_position 41 = .ok (.if_icmp .ge 25, 3) := by decide +kernel
theorem dX7_position_44 : decode cX7_position 44 = .ok (.aload_n 0, 1) := by decide +kernel
theorem dX7_position_45 : decode cX7_position 45 = .ok (.getfield 49, 3) := by decide +kernel
theorem dX7_position_48 : decode cX7_position 48 = .ok (.iload 4, 2) := by decide +kernel
theorem dX7_position_50 : decode cX7_position 50 = .ok (.aload_n 0, 1) := by decide +kernel
theorem dX7_position_51 : decode cX7_position 51 = .ok (.getfield 49, 3) := by decide +kernel
theorem dX7_position_54 : decode cX7_position 54 = .ok (.iload 4, 2) := by decide +kernel
theorem dX7_position_56 : decode cX7_position 56 = .ok (.iconst 1, 1) := by decide +kernel
theorem dX7_position_57 : decode cX7_position 57 = .ok (.isub, 1) := by decide +kernel
theorem dX7_position_58 : decode cX7_position 58 = .ok (.iaload, 1) := by decide +kernel
theorem dX7_position_59 : decode cX7_position 59 = .ok (.iastore, 1) := by decide +kernel
theorem dX7_position_60 : decode cX7_position 60 = .ok (.iinc 4 (-1), 3) := by decide +kernel
theorem dX7_position_63 : decode cX7_position 63 = .ok (.goto (-37), 3) := by decide +kernel
theorem dX7_position_66 : decode cX7_position 66 = .ok (.aload_n 0, 1) := by decide +kernel
theorem dX7_position_67 : decode cX7_position 67 = .ok (.getfield 49, 3) := by decide +kernel
theorem dX7_position_70 : decode cX7_position 70 = .ok (.iload 4, 2) := by decide +kernel
theorem dX7_position_72 : decode cX7_position 72 = .ok (.iload_n 3, 1) := by decide +kernel
theorem dX7_position_73 : decode cX7_position 73 = .ok (.iastore, 1) := by decide +kernel
theorem dX7_position_74 : decode cX7_position 74 = .ok (.iinc 2 1, 3) := by decide +kernel
theorem dX7_position_77 : decode cX7_position 77 = .ok (.goto (-73), 3) := by decide +kernel
theorem dX7_position_80 : decode cX7_position 80 = .ok (.aload_n 0, 1) := by decide +kernel
theorem dX7_position_81 : decode cX7_position 81 = .ok (.getfield 70, 3) := by decide +kernel
theorem dX7_position_84 : decode cX7_position 84 = .ok (.istore_n 2, 1) := by decide +kernel
theorem dX7_position_85 : decode cX7_position 85 = .ok (.iload_n 2, 1) := by decide +kernel
theorem dX7_position_86 : decode cX7_position 86 = .ok (.bipush 12, 2) := by decide +kernel
theorem dX7_position_88 : decode cX7_position 88 = .ok (.if_icmp .ge 16, 3) := by decide +kernel
theorem dX7_position_91 : decode cX7_position 91 = .ok (.aload_n 0, 1) := by decide +kernel
theorem dX7_position_92 : decode cX7_position 92 = .ok (.getfield 49, 3) := by decide +kernel
theorem dX7_position_95 : decode cX7_position 95 = .ok (.iload_n 2, 1) := by decide +kernel
theorem dX7_position_96 : decode cX7_position 96 = .ok (.iconst 0, 1) := by decide +kernel
theorem dX7_position_97 : decode cX7_position 97 = .ok (.iastore, 1) := by decide +kernel
theorem dX7_position_98 : decode cX7_position 98 = .ok (.iinc 2 1, 3) := by decide +kernel
theorem dX7_position_101 : decode cX7_position 101 = .ok (.goto (-16), 3) := by decide +kernel
theorem dX7_position_104 : decode cX7_position 104 = .ok (.aload_n 0, 1) := by decide +kernel
theorem dX7_position_105 : decode cX7_position 105 = .ok (.getfield 22, 3) := by decide +kernel
theorem dX7_position_108 : decode cX7_position 108 = .ok (.iload_n 1, 1) := by decide +kernel
theorem dX7_position_109 : decode cX7_position 109 = .ok (.iaload, 1) := by decide +kernel
theorem dX7_position_110 : decode cX7_position 110 = .ok (.istore_n 2, 1) := by decide +kernel
theorem dX7_position_111 : decode cX7_position 111 = .ok (.aload_n 0, 1) := by decide +kernel
theorem dX7_position_112 : decode cX7_position 112 = .ok (.iload_n 2, 1) := by decide +kernel
theorem dX7_position_113 : decode cX7_position 113 = .ok (.invokevirtual 73, 3) := by decide +kernel
theorem dX7_position_116 : decode cX7_position 116 = .ok (.ifCond .ne 9, 3) := by decide +kernel
theorem dX7_position_119 : decode cX7_position 119 = .ok (.iinc 2 1, 3) := by decide +kernel
theorem dX7_position_122 : decode cX7_position 122 = .ok (.goto (-11), 3) := by decide +kernel
theorem dX7_position_125 : decode cX7_position 125 = .ok (.iload_n 2, 1) := by decide +kernel
theorem dX7_position_126 : decode cX7_position 126 = .ok (.ireturn, 1) := by decide +kernel
theorem dX7_isBehind_0 : decode cX7_isBehind 0 = .ok (.iconst 1, 1) := by decide +kernel
theorem dX7_isBehind_1 : decode cX7_isBehind 1 = .ok (.istore_n 2, 1) := by decide +kernel
theorem dX7_isBehind_2 : decode cX7_isBehind 2 = .ok (.iconst 0, 1) := by decide +kernel
theorem dX7_isBehind_3 : decode cX7_isBehind 3 = .ok (.istore_n 3, 1) := by decide +kernel
theorem dX7_isBehind_4 : decode cX7_isBehind 4 = .ok (.iload_n 3, 1) := by decide +kernel
theorem dX7_isBehind_5 : decode cX7_isBehind 5 = .ok (.bipush 12, 2) := by decide +kernel
theorem dX7_isBehind_7 : decode cX7_isBehind 7 = .ok (.if_icmp .ge 39, 3) := by decide +kernel
theorem dX7_isBehind_10 : decode cX7_isBehind 10 = .ok (.iload_n 2, 1) := by decide +kernel
theorem dX7_isBehind_11 : decode cX7_isBehind 11 = .ok (.ifCond .eq 27, 3) := by decide +kernel
theorem dX7_isBehind_14 : decode cX7_isBehind 14 = .ok (.aload_n 0, 1) := by decide +kernel
theorem dX7_isBehind_15 : decode cX7_isBehind 15 = .ok (.getfield 19, 3) := by decide +kernel
theorem dX7_isBehind_18 : decode cX7_isBehind 18 = .ok (.bipush 12, 2) := by decide +kernel
theorem dX7_isBehind_20 : decode cX7_isBehind 20 = .ok (.iload_n 1, 1) := by decide +kernel
theorem dX7_isBehind_21 : decode cX7_isBehind 21 = .ok (.imul, 1) := by decide +kernel
theorem dX7_isBehind_22 : decode cX7_isBehind 22 = .ok (.iload_n 3, 1) := by decide +kernel
theorem dX7_isBehind_23 : decode cX7_isBehind 23 = .ok (.iadd, 1) := by decide +kernel
theorem dX7_isBehind_24 : decode cX7_isBehind 24 = .ok (.iaload, 1) := by decide +kernel
theorem dX7_isBehind_25 : decode cX7_isBehind 25 = .ok (.aload_n 0, 1) := by decide +kernel
theorem dX7_isBehind_26 : decode cX7_isBehind 26 = .ok (.getfield 49, 3) := by decide +kernel
theorem dX7_isBehind_29 : decode cX7_isBehind 29 = .ok (.iload_n 3, 1) := by decide +kernel
theorem dX7_isBehind_30 : decode cX7_isBehind 30 = .ok (.iaload, 1) := by decide +kernel
theorem dX7_isBehind_31 : decode cX7_isBehind 31 = .ok (.if_icmp .ne 7, 3) := by decide +kernel
theorem dX7_isBehind_34 : decode cX7_isBehind 34 = .ok (.iconst 1, 1) := by decide +kernel
theorem dX7_isBehind_35 : decode cX7_isBehind 35 = .ok (.goto 4, 3) := by decide +kernel
theorem dX7_isBehind_38 : decode cX7_isBehind 38 = .ok (.iconst 0, 1) := by decide +kernel
theorem dX7_isBehind_39 : decode cX7_isBehind 39 = .ok (.istore_n 2, 1) := by decide +kernel
theorem dX7_isBehind_40 : decode cX7_isBehind 40 = .ok (.iinc 3 1, 3) := by decide +kernel
theorem dX7_isBehind_43 : decode cX7_isBehind 43 = .ok (.goto (-39), 3) := by decide +kernel
theorem dX7_isBehind_46 : decode cX7_isBehind 46 = .ok (.iload_n 2, 1) := by decide +kernel
theorem dX7_isBehind_47 : decode cX7_isBehind 47 = .ok (.ireturn, 1) := by decide +kernel
theorem dX7_adds_0 : decode cX7_adds 0 = .ok (.aload_n 0, 1) := by decide +kernel
theorem dX7_adds_1 : decode cX7_adds 1 = .ok (.getfield 40, 3) := by decide +kernel
theorem dX7_adds_4 : decode cX7_adds 4 = .ok (.aload_n 0, 1) := by decide +kernel
theorem dX7_adds_5 : decode cX7_adds 5 = .ok (.getfield 76, 3) := by decide +kernel
theorem dX7_adds_8 : decode cX7_adds 8 = .ok (.iload_n 1, 1) := by decide +kernel
theorem dX7_adds_9 : decode cX7_adds 9 = .ok (.iastore, 1) := by decide +kernel
theorem dX7_adds_10 : decode cX7_adds 10 = .ok (.aload_n 0, 1) := by decide +kernel
theorem dX7_adds_11 : decode cX7_adds 11 = .ok (.getfield 43, 3) := by decide +kernel
theorem dX7_adds_14 : decode cX7_adds 14 = .ok (.aload_n 0, 1) := by decide +kernel
theorem dX7_adds_15 : decode cX7_adds 15 = .ok (.getfield 76, 3) := by decide +kernel
theorem dX7_adds_18 : decode cX7_adds 18 = .ok (.iload_n 2, 1) := by decide +kernel
theorem dX7_adds_19 : decode cX7_adds 19 = .ok (.iastore, 1) := by decide +kernel
theorem dX7_adds_20 : decode cX7_adds 20 = .ok (.aload_n 0, 1) := by decide +kernel
theorem dX7_adds_21 : decode cX7_adds 21 = .ok (.getfield 46, 3) := by decide +kernel
theorem dX7_adds_24 : decode cX7_adds 24 = .ok (.aload_n 0, 1) := by decide +kernel
theorem dX7_adds_25 : decode cX7_adds 25 = .ok (.getfield 76, 3) := by decide +kernel
theorem dX7_adds_28 : decode cX7_adds 28 = .ok (.iload_n 3, 1) := by decide +kernel
theorem dX7_adds_29 : decode cX7_adds 29 = .ok (.iastore, 1) := by decide +kernel
theorem dX7_adds_30 : decode cX7_adds 30 = .ok (.aload_n 0, 1) := by decide +kernel
theorem dX7_adds_31 : decode cX7_adds 31 = .ok (.dup, 1) := by decide +kernel
theorem dX7_adds_32 : decode cX7_adds 32 = .ok (.getfield 76, 3) := by decide +kernel
theorem dX7_adds_35 : decode cX7_adds 35 = .ok (.iconst 1, 1) := by decide +kernel
theorem dX7_adds_36 : decode cX7_adds 36 = .ok (.iadd, 1) := by decide +kernel
theorem dX7_adds_37 : decode cX7_adds 37 = .ok (.putfield 76, 3) := by decide +kernel
theorem dX7_adds_40 : decode cX7_adds 40 = .ok (.return_, 1) := by decide +kernel
set_option maxRecDepth 20000 in
theorem ggX7_lists_X7_adds : GoodIn wsX7_lists wsX7_adds := goodIn_r _ [9, 10, 1, 11, 12, 13, 14, 15, 16, 17, 18, 19, 20, 21, 22, 23, 24, 25, 26, 27, 28, 29, 30, 31, 32, 33, 34, 35, 36, 37, 38, 39] (by decide +kernel) (by decide +kernel)
set_option maxRecDepth 20000 in
theorem gX7_lists_X7_adds : GoodIn wsX7_lists (wsV RX7 82 RX7 yX7_adds wsX7_adds) := goodIn_app (goodIn_of _ (by decide +kernel)) ggX7_lists_X7_adds
theorem dX7_lists_0 : decode cX7_lists 0 = .ok (.aload_n 0, 1) := by decide +kernel
theorem dX7_lists_1 : decode cX7_lists 1 = .ok (.iconst 0, 1) := by decide +kernel
theorem dX7_lists_2 : decode cX7_lists 2 = .ok (.putfield 76, 3) := by decide +kernel
theorem dX7_lists_5 : decode cX7_lists 5 = .ok (.iconst 0, 1) := by decide +kernel
theorem dX7_lists_6 : decode cX7_lists 6 = .ok (.istore_n 1, 1) := by decide +kernel
theorem dX7_lists_7 : decode cX7_lists 7 = .ok (.iload_n 1, 1) := by decide +kernel
theorem dX7_lists_8 : decode cX7_lists 8 = .ok (.aload_n 0, 1) := by decide +kernel
theorem dX7_lists_9 : decode cX7_lists 9 = .ok (.getfield 79, 3) := by decide +kernel
theorem dX7_lists_12 : decode cX7_lists 12 = .ok (.if_icmp .ge 44, 3) := by decide +kernel
theorem dX7_lists_15 : decode cX7_lists 15 = .ok (.iconst 1, 1) := by decide +kernel
theorem dX7_lists_16 : decode cX7_lists 16 = .ok (.istore_n 2, 1) := by decide +kernel
theorem dX7_lists_17 : decode cX7_lists 17 = .ok (.iload_n 2, 1) := by decide +kernel
theorem dX7_lists_18 : decode cX7_lists 18 = .ok (.aload_n 0, 1) := by decide +kernel
theorem dX7_lists_19 : decode cX7_lists 19 = .ok (.getfield 7, 3) := by decide +kernel
theorem dX7_lists_22 : decode cX7_lists 22 = .ok (.iconst 0, 1) := by decide +kernel
theorem dX7_lists_23 : decode cX7_lists 23 = .ok (.iaload, 1) := by decide +kernel
theorem dX7_lists_24 : decode cX7_lists 24 = .ok (.if_icmp .gt 26, 3) := by decide +kernel
theorem dX7_lists_27 : decode cX7_lists 27 = .ok (.iload_n 2, 1) := by decide +kernel
theorem dX7_lists_28 : decode cX7_lists 28 = .ok (.aload_n 0, 1) := by decide +kernel
theorem dX7_lists_29 : decode cX7_lists 29 = .ok (.getfield 37, 3) := by decide +kernel
theorem dX7_lists_32 : decode cX7_lists 32 = .ok (.iload_n 1, 1) := by decide +kernel
theorem dX7_lists_33 : decode cX7_lists 33 = .ok (.iaload, 1) := by decide +kernel
theorem dX7_lists_34 : decode cX7_lists 34 = .ok (.if_icmp .gt 16, 3) := by decide +kernel
theorem dX7_lists_37 : decode cX7_lists 37 = .ok (.aload_n 0, 1) := by decide +kernel
theorem dX7_lists_38 : decode cX7_lists 38 = .ok (.iconst 0, 1) := by decide +kernel
theorem dX7_lists_39 : decode cX7_lists 39 = .ok (.iload_n 1, 1) := by decide +kernel
theorem dX7_lists_40 : decode cX7_lists 40 = .ok (.iload_n 2, 1) := by decide +kernel
theorem dX7_lists_41 : decode cX7_lists 41 = .ok (.invokevirtual 82, 3) := by decide +kernel
theorem dX7_lists_44 : decode cX7_lists 44 = .ok (.iinc 2 1, 3) := by decide +kernel
theorem dX7_lists_47 : decode cX7_lists 47 = .ok (.goto (-30), 3) := by decide +kernel
theorem dX7_lists_50 : decode cX7_lists 50 = .ok (.iinc 1 1, 3) := by decide +kernel
theorem dX7_lists_53 : decode cX7_lists 53 = .ok (.goto (-46), 3) := by decide +kernel
theorem dX7_lists_56 : decode cX7_lists 56 = .ok (.iconst 0, 1) := by decide +kernel
theorem dX7_lists_57 : decode cX7_lists 57 = .ok (.istore_n 1, 1) := by decide +kernel
theorem dX7_lists_58 : decode cX7_lists 58 = .ok (.iload_n 1, 1) := by decide +kernel
theorem dX7_lists_59 : decode cX7_lists 59 = .ok (.aload_n 0, 1) := by decide +kernel
theorem dX7_lists_60 : decode cX7_lists 60 = .ok (.getfield 79, 3) := by decide +kernel
theorem dX7_lists_63 : decode cX7_lists 63 = .ok (.if_icmp .ge 46, 3) := by decide +kernel
theorem dX7_lists_66 : decode cX7_lists 66 = .ok (.aload_n 0, 1) := by decide +kernel
theorem dX7_lists_67 : decode cX7_lists 67 = .ok (.getfield 7, 3) := by decide +kernel
theorem dX7_lists_70 : decode cX7_lists 70 = .ok (.iconst 1, 1) := by decide +kernel
theorem dX7_lists_71 : decode cX7_lists 71 = .ok (.iaload, 1) := by decide +kernel
theorem dX7_lists_72 : decode cX7_lists 72 = .ok (.iconst 1, 1) := by decide +kernel
theorem dX7_lists_73 : decode cX7_lists 73 = .ok (.if_icmp .ne 36, 3) := by decide +kernel
theorem dX7_lists_76 : decode cX7_lists 76 = .ok (.iconst 1, 1) := by decide +kernel
theorem dX7_lists_77 : decode cX7_lists 77 = .ok (.istore_n 2, 1) := by decide +kernel
theorem dX7_lists_78 : decode cX7_lists 78 = .ok (.iconst 2, 1) := by decide +kernel
theorem dX7_lists_79 : decode cX7_lists 79 = .ok (.iload_n 2, 1) := by decide +kernel
theorem dX7_lists_80 : decode cX7_lists 80 = .ok (.imul, 1) := by decide +kernel
theorem dX7_lists_81 : decode cX7_lists 81 = .ok (.aload_n 0, 1) := by decide +kernel
theorem dX7_lists_82 : decode cX7_lists 82 = .ok (.getfield 37, 3) := by decide +kernel
theorem dX7_lists_85 : decode cX7_lists 85 = .ok (.iload_n 1, 1) := by decide +kernel
theorem dX7_lists_86 : decode cX7_lists 86 = .ok (.iaload, 1) := by decide +kernel
theorem dX7_lists_87 : decode cX7_lists 87 = .ok (.if_icmp .gt 16, 3) := by decide +kernel
theorem dX7_lists_90 : decode cX7_lists 90 = .ok (.aload_n 0, 1) := by decide +kernel
theorem dX7_lists_91 : decode cX7_lists 91 = .ok (.iconst 1, 1) := by decide +kernel
theorem dX7_lists_92 : decode cX7_lists 92 = .ok (.iload_n 1, 1) := by decide +kernel
theorem dX7_lists_93 : decode cX7_lists 93 = .ok (.iload_n 2, 1) := by decide +kernel
theorem dX7_lists_94 : decode cX7_lists 94 = .ok (.invokevirtual 82, 3) := by decide +kernel
theorem dX7_lists_97 : decode cX7_lists 97 = .ok (.iinc 2 1, 3) := by decide +kernel
theorem dX7_lists_100 : decode cX7_lists 100 = .ok (.goto (-22), 3) := by decide +kernel
theorem dX7_lists_103 : decode cX7_lists 103 = .ok (.iinc 1 1, 3) := by decide +kernel
theorem dX7_lists_106 : decode cX7_lists 106 = .ok (.goto (-48), 3) := by decide +kernel
theorem dX7_lists_109 : decode cX7_lists 109 = .ok (.iconst 0, 1) := by decide +kernel
theorem dX7_lists_110 : decode cX7_lists 110 = .ok (.istore_n 1, 1) := by decide +kernel
theorem dX7_lists_111 : decode cX7_lists 111 = .ok (.iload_n 1, 1) := by decide +kernel
theorem dX7_lists_112 : decode cX7_lists 112 = .ok (.aload_n 0, 1) := by decide +kernel
theorem dX7_lists_113 : decode cX7_lists 113 = .ok (.getfield 79, 3) := by decide +kernel
theorem dX7_lists_116 : decode cX7_lists 116 = .ok (.if_icmp .ge 44, 3) := by decide +kernel
theorem dX7_lists_119 : decode cX7_lists 119 = .ok (.aload_n 0, 1) := by decide +kernel
theorem dX7_lists_120 : decode cX7_lists 120 = .ok (.getfield 7, 3) := by decide +kernel
theorem dX7_lists_123 : decode cX7_lists 123 = .ok (.iconst 2, 1) := by decide +kernel
theorem dX7_lists_124 : decode cX7_lists 124 = .ok (.iaload, 1) := by decide +kernel
theorem dX7_lists_125 : decode cX7_lists 125 = .ok (.iconst 1, 1) := by decide +kernel
theorem dX7_lists_126 : decode cX7_lists 126 = .ok (.if_icmp .ne 34, 3) := by decide +kernel
theorem dX7_lists_129 : decode cX7_lists 129 = .ok (.iload_n 1, 1) := by decide +kernel
theorem dX7_lists_130 : decode cX7_lists 130 = .ok (.iconst 1, 1) := by decide +kernel
theorem dX7_lists_131 : decode cX7_lists 131 = .ok (.iadd, 1) := by decide +kernel
theorem dX7_lists_132 : decode cX7_lists 132 = .ok (.istore_n 2, 1) := by decide +kernel
theorem dX7_lists_133 : decode cX7_lists 133 = .ok (.iload_n 2, 1) := by decide +kernel
theorem dX7_lists_134 : decode cX7_lists 134 = .ok (.aload_n 0, 1) := by decide +kernel
theorem dX7_lists_135 : decode cX7_lists 135 = .ok (.getfield 79, 3) := by decide +kernel
theorem dX7_lists_138 : decode cX7_lists 138 = .ok (.if_icmp .ge 16, 3) := by decide +kernel
theorem dX7_lists_141 : decode cX7_lists 141 = .ok (.aload_n 0, 1) := by decide +kernel
theorem dX7_lists_142 : decode cX7_lists 142 = .ok (.iconst 2, 1) := by decide +kernel
theorem dX7_lists_143 : decode cX7_lists 143 = .ok (.iload_n 1, 1) := by decide +kernel
theorem dX7_lists_144 : decode cX7_lists 144 = .ok (.iload_n 2, 1) := by decide +kernel
theorem dX7_lists_145 : decode cX7_lists 145 = .ok (.invokevirtual 82, 3) := by decide +kernel
theorem dX7_lists_148 : decode cX7_lists 148 = .ok (.iinc 2 1, 3) := by decide +kernel
theorem dX7_lists_151 : decode cX7_lists 151 = .ok (.goto (-18), 3) := by decide +kernel
theorem dX7_lists_154 : decode cX7_lists 154 = .ok (.iinc 1 1, 3) := by decide +kernel
theorem dX7_lists_157 : decode cX7_lists 157 = .ok (.goto (-46), 3) := by decide +kernel
theorem dX7_lists_160 : decode cX7_lists 160 = .ok (.return_, 1) := by decide +kernel
theorem dX7_goes_0 : decode cX7_goes 0 = .ok (.aload_n 0, 1) := by decide +kernel
theorem dX7_goes_1 : decode cX7_goes 1 = .ok (.iconst 0, 1) := by decide +kernel
theorem dX7_goes_2 : decode cX7_goes 2 = .ok (.putfield 70, 3) := by decide +kernel
theorem dX7_goes_5 : decode cX7_goes 5 = .ok (.iconst 0, 1) := by decide +kernel
theorem dX7_goes_6 : decode cX7_goes 6 = .ok (.istore 4, 2) := by decide +kernel
theorem dX7_goes_8 : decode cX7_goes 8 = .ok (.iload 4, 2) := by decide +kernel
theorem dX7_goes_10 : decode cX7_goes 10 = .ok (.aload_n 0, 1) := by decide +kernel
theorem dX7_goes_11 : decode cX7_goes 11 = .ok (.getfield 79, 3) := by decide +kernel
theorem dX7_goes_14 : decode cX7_goes 14 = .ok (.if_icmp .ge 133, 3) := by decide +kernel
theorem dX7_goes_17 : decode cX7_goes 17 = .ok (.aload_n 0, 1) := by decide +kernel
theorem dX7_goes_18 : decode cX7_goes 18 = .ok (.getfield 37, 3) := by decide +kernel
theorem dX7_goes_21 : decode cX7_goes 21 = .ok (.iload 4, 2) := by decide +kernel
theorem dX7_goes_23 : decode cX7_goes 23 = .ok (.iaload, 1) := by decide +kernel
theorem dX7_goes_24 : decode cX7_goes 24 = .ok (.istore 5, 2) := by decide +kernel
theorem dX7_goes_26 : decode cX7_goes 26 = .ok (.iload 4, 2) := by decide +kernel
theorem dX7_goes_28 : decode cX7_goes 28 = .ok (.iload_n 2, 1) := by decide +kernel
theorem dX7_goes_29 : decode cX7_goes 29 = .ok (.if_icmp .ne 36, 3) := by decide +kernel
theorem dX7_goes_32 : decode cX7_goes 32 = .ok (.iload_n 1, 1) := by decide +kernel
theorem dX7_goes_33 : decode cX7_goes 33 = .ok (.ifCond .ne 10, 3) := by decide +kernel
theorem dX7_goes_36 : decode cX7_goes 36 = .ok (.iload 5, 2) := by decide +kernel
theorem dX7_goes_38 : decode cX7_goes 38 = .ok (.iload_n 3, 1) := by decide +kernel
theorem dX7_goes_39 : decode cX7_goes 39 = .ok (.isub, 1) := by decide +kernel
theorem dX7_goes_40 : decode cX7_goes 40 = .ok (.goto 23, 3) := by decide +kernel
theorem dX7_goes_43 : decode cX7_goes 43 = .ok (.iload_n 1, 1) := by decide +kernel
theorem dX7_goes_44 : decode cX7_goes 44 = .ok (.iconst 1, 1) := by decide +kernel
theorem dX7_goes_45 : decode cX7_goes 45 = .ok (.if_icmp .ne 7, 3) := by decide +kernel
theorem dX7_goes_48 : decode cX7_goes 48 = .ok (.iload_n 3, 1) := by decide +kernel
theorem dX7_goes_49 : decode cX7_goes 49 = .ok (.goto 14, 3) := by decide +kernel
theorem dX7_goes_52 : decode cX7_goes 52 = .ok (.iload 5, 2) := by decide +kernel
theorem dX7_goes_54 : decode cX7_goes 54 = .ok (.aload_n 0, 1) := by decide +kernel
theorem dX7_goes_55 : decode cX7_goes 55 = .ok (.getfield 37, 3) := by decide +kernel
theorem dX7_goes_58 : decode cX7_goes 58 = .ok (.iload_n 3, 1) := by decide +kernel
theorem dX7_goes_59 : decode cX7_goes 59 = .ok (.iaload, 1) := by decide +kernel
theorem dX7_goes_60 : decode cX7_goes 60 = .ok (.iadd, 1) := by decide +kernel
theorem dX7_goes_61 : decode cX7_goes 61 = .ok (.iconst 1, 1) := by decide +kernel
theorem dX7_goes_62 : decode cX7_goes 62 = .ok (.isub, 1) := by decide +kernel
theorem dX7_goes_63 : decode cX7_goes 63 = .ok (.istore 5, 2) := by decide +kernel
theorem dX7_goes_65 : decode cX7_goes 65 = .ok (.iload 5, 2) := by decide +kernel
theorem dX7_goes_67 : decode cX7_goes 67 = .ok (.ifCond .le 35, 3) := by decide +kernel
theorem dX7_goes_70 : decode cX7_goes 70 = .ok (.iload_n 1, 1) := by decide +kernel
theorem dX7_goes_71 : decode cX7_goes 71 = .ok (.iconst 2, 1) := by decide +kernel
theorem dX7_goes_72 : decode cX7_goes 72 = .ok (.if_icmp .ne 9, 3) := by decide +kernel
theorem dX7_goes_75 : decode cX7_goes 75 = .ok (.iload 4, 2) := by decide +kernel
theorem dX7_goes_77 : decode cX7_goes 77 = .ok (.iload_n 3, 1) := by decide +kernel
theorem dX7_goes_78 : decode cX7_goes 78 = .ok (.if_icmp .eq 24, 3) := by decide +kernel
theorem dX7_goes_81 : decode cX7_goes 81 = .ok (.aload_n 0, 1) := by decide +kernel
theorem dX7_goes_82 : decode cX7_goes 82 = .ok (.getfield 49, 3) := by decide +kernel
theorem dX7_goes_85 : decode cX7_goes 85 = .ok (.aload_n 0, 1) := by decide +kernel
theorem dX7_goes_86 : decode cX7_goes 86 = .ok (.getfield 70, 3) := by decide +kernel
theorem dX7_goes_89 : decode cX7_goes 89 = .ok (.iload 5, 2) := by decide +kernel
theorem dX7_goes_91 : decode cX7_goes 91 = .ok (.iastore, 1) := by decide +kernel
theorem dX7_goes_92 : decode cX7_goes 92 = .ok (.aload_n 0, 1) := by decide +kernel
theorem dX7_goes_93 : decode cX7_goes 93 = .ok (.dup, 1) := by decide +kernel
theorem dX7_goes_94 : decode cX7_goes 94 = .ok (.getfield 70, 3) := by decide +kernel
theorem dX7_goes_97 : decode cX7_goes 97 = .ok (.iconst 1, 1) := by decide +kernel
theorem dX7_goes_98 : decode cX7_goes 98 = .ok (.iadd, 1) := by decide +kernel
theorem dX7_goes_99 : decode cX7_goes 99 = .ok (.putfield 70, 3) := by decide +kernel
theorem dX7_goes_102 : decode cX7_goes 102 = .ok (.iload 4, 2) := by decide +kernel
theorem dX7_goes_104 : decode cX7_goes 104 = .ok (.iload_n 2, 1) := by decide +kernel
theorem dX7_goes_105 : decode cX7_goes 105 = .ok (.if_icmp .ne 36, 3) := by decide +kernel
theorem dX7_goes_108 : decode cX7_goes 108 = .ok (.iload_n 1, 1) := by decide +kernel
theorem dX7_goes_109 : decode cX7_goes 109 = .ok (.iconst 1, 1) := by decide +kernel
theorem dX7_goes_110 : decode cX7_goes 110 = .ok (.if_icmp .ne 31, 3) := by decide +kernel
theorem dX7_goes_113 : decode cX7_goes 113 = .ok (.aload_n 0, 1) := by decide +kernel
theorem dX7_goes_114 : decode cX7_goes 114 = .ok (.getfield 49, 3) := by decide +kernel
theorem dX7_goes_117 : decode cX7_goes 117 = .ok (.aload_n 0, 1) := by decide +kernel
theorem dX7_goes_118 : decode cX7_goes 118 = .ok (.getfield 70, 3) := by decide +kernel
theorem dX7_goes_121 : decode cX7_goes 121 = .ok (.aload_n 0, 1) := by decide +kernel
theorem dX7_goes_122 : decode cX7_goes 122 = .ok (.getfield 37, 3) := by decide +kernel
theorem dX7_goes_125 : decode cX7_goes 125 = .ok (.iload 4, 2) := by decide +kernel
theorem dX7_goes_127 : decode cX7_goes 127 = .ok (.iaload, 1) := by decide +kernel
theorem dX7_goes_128 : decode cX7_goes 128 = .ok (.iload_n 3, 1) := by decide +kernel
theorem dX7_goes_129 : decode cX7_goes 129 = .ok (.isub, 1) := by decide +kernel
theorem dX7_goes_130 : decode cX7_goes 130 = .ok (.iastore, 1) := by decide +kernel
theorem dX7_goes_131 : decode cX7_goes 131 = .ok (.aload_n 0, 1) := by decide +kernel
theorem dX7_goes_132 : decode cX7_goes 132 = .ok (.dup, 1) := by decide +kernel
theorem dX7_goes_133 : decode cX7_goes 133 = .ok (.getfield 70, 3) := by decide +kernel
theorem dX7_goes_136 : decode cX7_goes 136 = .ok (.iconst 1, 1) := by decide +kernel
theorem dX7_goes_137 : decode cX7_goes 137 = .ok (.iadd, 1) := by decide +kernel
theorem dX7_goes_138 : decode cX7_goes 138 = .ok (.putfield 70, 3) := by decide +kernel
theorem dX7_goes_141 : decode cX7_goes 141 = .ok (.iinc 4 1, 3) := by decide +kernel
theorem dX7_goes_144 : decode cX7_goes 144 = .ok (.goto (-136), 3) := by decide +kernel
theorem dX7_goes_147 : decode cX7_goes 147 = .ok (.return_, 1) := by decide +kernel
set_option maxRecDepth 20000 in
theorem ggX7_positionBehind_X7_goes : GoodIn wsX7_positionBehind wsX7_goes := goodIn_r _ [8, 9, 10, 11, 12, 23, 24, 25, 26, 27, 28, 29, 30, 31, 32, 33, 34, 35, 36, 37, 38, 39, 40, 41, 42, 43, 44, 45, 46, 47, 48, 49] (by decide +kernel) (by decide +kernel)
set_option maxRecDepth 20000 in
theorem gX7_positionBehind_X7_goes : GoodIn wsX7_positionBehind (wsV RX7 86 RX7 yX7_goes wsX7_goes) := goodIn_app (goodIn_of _ (by decide +kernel)) ggX7_positionBehind_X7_goes
set_option maxRecDepth 20000 in
theorem ggX7_positionBehind_X7_position : GoodIn wsX7_positionBehind wsX7_position := goodIn_r _ [16, 9, 12, 17, 18, 19, 20, 7, 21, 22, 23, 24, 25, 26, 27, 28, 29, 30, 31, 32, 33, 34, 35, 36, 37, 38, 39, 40, 41, 42, 43, 44, 45, 46, 47, 48, 49] (by decide +kernel) (by decide +kernel)
set_option maxRecDepth 20000 in
theorem gX7_positionBehind_X7_position : GoodIn wsX7_positionBehind (wsV RX7 89 RX7 yX7_position wsX7_position) := goodIn_app (goodIn_of _ (by decide +kernel)) ggX7_positionBehind_X7_position
theorem dX7_positionBehind_0 : decode cX7_positionBehind 0 = .ok (.aload_n 0, 1) := by decide +kernel
theorem dX7_positionBehind_1 : decode cX7_positionBehind 1 = .ok (.aload_n 0, 1) := by decide +kernel
theorem dX7_positionBehind_2 : decode cX7_positionBehind 2 = .ok (.getfield 40, 3) := by decide +kernel
theorem dX7_positionBehind_5 : decode cX7_positionBehind 5 = .ok (.iload_n 1, 1) := by decide +kernel
theorem dX7_positionBehind_6 : decode cX7_positionBehind 6 = .ok (.iaload, 1) := by decide +kernel
theorem dX7_positionBehind_7 : decode cX7_positionBehind 7 = .ok (.aload_n 0, 1) := by decide +kernel
theorem dX7_positionBehind_8 : decode cX7_positionBehind 8 = .ok (.getfield 43, 3) := by decide +kernel
theorem dX7_positionBehind_11 : decode cX7_positionBehind 11 = .ok (.iload_n 1, 1) := by decide +kernel
theorem dX7_positionBehind_12 : decode cX7_positionBehind 12 = .ok (.iaload, 1) := by decide +kernel
theorem dX7_positionBehind_13 : decode cX7_positionBehind 13 = .ok (.aload_n 0, 1) := by decide +kernel
theorem dX7_positionBehind_14 : decode cX7_positionBehind 14 = .ok (.getfield 46, 3) := by decide +kernel
theorem dX7_positionBehind_17 : decode cX7_positionBehind 17 = .ok (.iload_n 1, 1) := by decide +kernel
theorem dX7_positionBehind_18 : decode cX7_positionBehind 18 = .ok (.iaload, 1) := by decide +kernel
theorem dX7_positionBehind_19 : decode cX7_positionBehind 19 = .ok (.invokevirtual 86, 3) := by decide +kernel
theorem dX7_positionBehind_22 : decode cX7_positionBehind 22 = .ok (.aload_n 0, 1) := by decide +kernel
theorem dX7_positionBehind_23 : decode cX7_positionBehind 23 = .ok (.invokevirtual 89, 3) := by decide +kernel
theorem dX7_positionBehind_26 : decode cX7_positionBehind 26 = .ok (.ireturn, 1) := by decide +kernel
set_option maxRecDepth 20000 in
theorem ggX7_looksAt_X7_lists : GoodIn wsX7_looksAt wsX7_lists := goodIn_r _ [8, 9, 1, 10, 2, 11, 12, 13, 7, 14, 15, 16, 17, 18, 19, 20, 21, 22, 23, 24, 25, 26, 27, 28, 29, 30, 31, 32, 33, 34, 35, 36, 37, 38, 39, 40, 41, 42, 43, 44] (by decide +kernel) (by decide +kernel)
set_option maxRecDepth 20000 in
theorem gX7_looksAt_X7_lists : GoodIn wsX7_looksAt (wsV RX7 93 RX7 yX7_lists wsX7_lists) := goodIn_app (goodIn_of _ (by decide +kernel)) ggX7_looksAt_X7_lists
theorem dX7_looksAt_0 : decode cX7_looksAt 0 = .ok (.aload_n 0, 1) := by decide +kernel
theorem dX7_looksAt_1 : decode cX7_looksAt 1 = .ok (.iconst 0, 1) := by decide +kernel
theorem dX7_looksAt_2 : decode cX7_looksAt 2 = .ok (.putfield 79, 3) := by decide +kernel
theorem dX7_looksAt_5 : decode cX7_looksAt 5 = .ok (.iconst 0, 1) := by decide +kernel
theorem dX7_looksAt_6 : decode cX7_looksAt 6 = .ok (.istore_n 2, 1) := by decide +kernel
theorem dX7_looksAt_7 : decode cX7_looksAt 7 = .ok (.iload_n 2, 1) := by decide +kernel
theorem dX7_looksAt_8 : decode cX7_looksAt 8 = .ok (.bipush 12, 2) := by decide +kernel
theorem dX7_looksAt_10 : decode cX7_looksAt 10 = .ok (.if_icmp .ge 49, 3) := by decide +kernel
theorem dX7_looksAt_13 : decode cX7_looksAt 13 = .ok (.aload_n 0, 1) := by decide +kernel
theorem dX7_looksAt_14 : decode cX7_looksAt 14 = .ok (.getfield 37, 3) := by decide +kernel
theorem dX7_looksAt_17 : decode cX7_looksAt 17 = .ok (.iload_n 2, 1) := by decide +kernel
theorem dX7_looksAt_18 : decode cX7_looksAt 18 = .ok (.aload_n 0, 1) := by decide +kernel
theorem dX7_looksAt_19 : decode cX7_looksAt 19 = .ok (.getfield 19, 3) := by decide +kernel
theorem dX7_looksAt_22 : decode cX7_looksAt 22 = .ok (.bipush 12, 2) := by decide +kernel
theorem dX7_looksAt_24 : decode cX7_looksAt 24 = .ok (.iload_n 1, 1) := by decide +kernel
theorem dX7_looksAt_25 : decode cX7_looksAt 25 = .ok (.imul, 1) := by decide +kernel
theorem dX7_looksAt_26 : decode cX7_looksAt 26 = .ok (.iload_n 2, 1) := by decide +kernel
theorem dX7_looksAt_27 : decode cX7_looksAt 27 = .ok (.iadd, 1) := by decide +kernel
theorem dX7_looksAt_28 : decode cX7_looksAt 28 = .ok (.iaload, 1) := by decide +kernel
theorem dX7_looksAt_29 : decode cX7_looksAt 29 = .ok (.iastore, 1) := by decide +kernel
theorem dX7_looksAt_30 : decode cX7_looksAt 30 = .ok (.aload_n 0, 1) := by decide +kernel
theorem dX7_looksAt_31 : decode cX7_looksAt 31 = .ok (.dup, 1) := by decide +kernel
theorem dX7_looksAt_32 : decode cX7_looksAt 32 = .ok (.getfield 79, 3) := by decide +kernel
theorem dX7_looksAt_35 : decode cX7_looksAt 35 = .ok (.aload_n 0, 1) := by decide +kernel
theorem dX7_looksAt_36 : decode cX7_looksAt 36 = .ok (.getfield 37, 3) := by decide +kernel
theorem dX7_looksAt_39 : decode cX7_looksAt 39 = .ok (.iload_n 2, 1) := by decide +kernel
theorem dX7_looksAt_40 : decode cX7_looksAt 40 = .ok (.iaload, 1) := by decide +kernel
theorem dX7_looksAt_41 : decode cX7_looksAt 41 = .ok (.ifCond .le 7, 3) := by decide +kernel
theorem dX7_looksAt_44 : decode cX7_looksAt 44 = .ok (.iconst 1, 1) := by decide +kernel
theorem dX7_looksAt_45 : decode cX7_looksAt 45 = .ok (.goto 4, 3) := by decide +kernel
theorem dX7_looksAt_48 : decode cX7_looksAt 48 = .ok (.iconst 0, 1) := by decide +kernel
theorem dX7_looksAt_49 : decode cX7_looksAt 49 = .ok (.iadd, 1) := by decide +kernel
theorem dX7_looksAt_50 : decode cX7_looksAt 50 = .ok (.putfield 79, 3) := by decide +kernel
theorem dX7_looksAt_53 : decode cX7_looksAt 53 = .ok (.iinc 2 1, 3) := by decide +kernel
theorem dX7_looksAt_56 : decode cX7_looksAt 56 = .ok (.goto (-49), 3) := by decide +kernel
theorem dX7_looksAt_59 : decode cX7_looksAt 59 = .ok (.aload_n 0, 1) := by decide +kernel
theorem dX7_looksAt_60 : decode cX7_looksAt 60 = .ok (.invokevirtual 93, 3) := by decide +kernel
theorem dX7_looksAt_63 : decode cX7_looksAt 63 = .ok (.return_, 1) := by decide +kernel
set_option maxRecDepth 20000 in
theorem ggX7_knows_X7_looksAt : GoodIn wsX7_knows wsX7_looksAt := goodIn_r _ [10, 11, 12, 13, 14, 15, 16, 9, 17, 1, 18, 19, 20, 21, 22, 23, 24, 25, 45, 46, 47, 48, 49, 50, 51, 52, 53, 54, 55, 56, 57, 58, 59, 60, 61, 62, 63, 64, 65, 66, 67, 68, 69, 70, 71] (by decide +kernel) (by decide +kernel)
set_option maxRecDepth 20000 in
theorem gX7_knows_X7_looksAt : GoodIn wsX7_knows (wsV RX7 96 RX7 yX7_looksAt wsX7_looksAt) := goodIn_app (goodIn_of _ (by decide +kernel)) ggX7_knows_X7_looksAt
set_option maxRecDepth 20000 in
theorem ggX7_knows_X7_positionBehind : GoodIn wsX7_knows wsX7_positionBehind := goodIn_r _ [29, 23, 24, 25, 30, 31, 32, 9, 33, 34, 11, 12, 35, 36, 37, 38, 39, 40, 41, 42, 43, 44, 13, 45, 46, 47, 48, 49, 50, 51, 52, 53, 54, 55, 56, 57, 58, 59, 60, 61, 62, 63, 64, 65, 66, 67, 68, 69, 70, 71] (by decide +kernel) (by decide +kernel)
set_option maxRecDepth 20000 in
theorem gX7_knows_X7_positionBehind : GoodIn wsX7_knows (wsV RX7 100 RX7 yX7_positionBehind wsX7_positionBehind) := goodIn_app (goodIn_of _ (by decide +kernel)) ggX7_knows_X7_positionBehind
theorem dX7_knows_0 : decode cX7_knows 0 = .ok (.aload_n 0, 1) := by decide +kernel
theorem dX7_knows_1 : decode cX7_knows 1 = .ok (.iload_n 1, 1) := by decide +kernel
theorem dX7_knows_2 : decode cX7_knows 2 = .ok (.invokevirtual 96, 3) := by decide +kernel
theorem dX7_knows_5 : decode cX7_knows 5 = .ok (.lconst 0, 1) := by decide +kernel
theorem dX7_knows_6 : decode cX7_knows 6 = .ok (.lstore_n 2, 1) := by decide +kernel
theorem dX7_knows_7 : decode cX7_knows 7 = .ok (.aload_n 0, 1) := by decide +kernel
theorem dX7_knows_8 : decode cX7_knows 8 = .ok (.getfield 76, 3) := by decide +kernel
theorem dX7_knows_11 : decode cX7_knows 11 = .ok (.ifCond .ne 7, 3) := by decide +kernel
theorem dX7_knows_14 : decode cX7_knows 14 = .ok (.iconst 1, 1) := by decide +kernel
theorem dX7_knows_15 : decode cX7_knows 15 = .ok (.goto 4, 3) := by decide +kernel
theorem dX7_knows_18 : decode cX7_knows 18 = .ok (.iconst 0, 1) := by decide +kernel
theorem dX7_knows_19 : decode cX7_knows 19 = .ok (.istore 4, 2) := by decide +kernel
theorem dX7_knows_21 : decode cX7_knows 21 = .ok (.iconst 0, 1) := by decide +kernel
theorem dX7_knows_22 : decode cX7_knows 22 = .ok (.istore 5, 2) := by decide +kernel
theorem dX7_knows_24 : decode cX7_knows 24 = .ok (.aload_n 0, 1) := by decide +kernel
theorem dX7_knows_25 : decode cX7_knows 25 = .ok (.getfield 76, 3) := by decide +kernel
theorem dX7_knows_28 : decode cX7_knows 28 = .ok (.ifCond .ne 7, 3) := by decide +kernel
theorem dX7_knows_31 : decode cX7_knows 31 = .ok (.iconst 0, 1) := by decide +kernel
theorem dX7_knows_32 : decode cX7_knows 32 = .ok (.goto 6, 3) := by decide +kernel
theorem dX7_knows_35 : decode cX7_knows 35 = .ok (.sipush 1000, 3) := by decide +kernel
theorem dX7_knows_38 : decode cX7_knows 38 = .ok (.istore 6, 2) := by decide +kernel
theorem dX7_knows_40 : decode cX7_knows 40 = .ok (.iconst 0, 1) := by decide +kernel
theorem dX7_knows_41 : decode cX7_knows 41 = .ok (.istore 7, 2) := by decide +kernel
theorem dX7_knows_43 : decode cX7_knows 43 = .ok (.iload 7, 2) := by decide +kernel
theorem dX7_knows_45 : decode cX7_knows 45 = .ok (.aload_n 0, 1) := by decide +kernel
theorem dX7_knows_46 : decode cX7_knows 46 = .ok (.getfield 76, 3) := by decide +kernel
theorem dX7_knows_49 : decode cX7_knows 49 = .ok (.if_icmp .ge 107, 3) := by decide +kernel
theorem dX7_knows_52 : decode cX7_knows 52 = .ok (.aload_n 0, 1) := by decide +kernel
theorem dX7_knows_53 : decode cX7_knows 53 = .ok (.iload 7, 2) := by decide +kernel
theorem dX7_knows_55 : decode cX7_knows 55 = .ok (.invokevirtual 100, 3) := by decide +kernel
theorem dX7_knows_58 : decode cX7_knows 58 = .ok (.istore 8, 2) := by decide +kernel
theorem dX7_knows_60 : decode cX7_knows 60 = .ok (.lload_n 2, 1) := by decide +kernel
theorem dX7_knows_61 : decode cX7_knows 61 = .ok (.lconst 1, 1) := by decide +kernel
theorem dX7_knows_62 : decode cX7_knows 62 = .ok (.aload_n 0, 1) := by decide +kernel
theorem dX7_knows_63 : decode cX7_knows 63 = .ok (.getfield 25, 3) := by decide +kernel
theorem dX7_knows_66 : decode cX7_knows 66 = .ok (.iload 8, 2) := by decide +kernel
theorem dX7_knows_68 : decode cX7_knows 68 = .ok (.iaload, 1) := by decide +kernel
theorem dX7_knows_69 : decode cX7_knows 69 = .ok (.lshl, 1) := by decide +kernel
theorem dX7_knows_70 : decode cX7_knows 70 = .ok (.lor, 1) := by decide +kernel
theorem dX7_knows_71 : decode cX7_knows 71 = .ok (.lstore_n 2, 1) := by decide +kernel
theorem dX7_knows_72 : decode cX7_knows 72 = .ok (.aload_n 0, 1) := by decide +kernel
theorem dX7_knows_73 : decode cX7_knows 73 = .ok (.getfield 28, 3) := by decide +kernel
theorem dX7_knows_76 : decode cX7_knows 76 = .ok (.iload 8, 2) := by decide +kernel
theorem dX7_knows_78 : decode cX7_knows 78 = .ok (.iaload, 1) := by decide +kernel
theorem dX7_knows_79 : decode cX7_knows 79 = .ok (.ifCond .ne 7, 3) := by decide +kernel
theorem dX7_knows_82 : decode cX7_knows 82 = .ok (.iconst 1, 1) := by decide +kernel
theorem dX7_knows_83 : decode cX7_knows 83 = .ok (.goto 5, 3) := by decide +kernel
theorem dX7_knows_86 : decode cX7_knows 86 = .ok (.iload 4, 2) := by decide +kernel
theorem dX7_knows_88 : decode cX7_knows 88 = .ok (.istore 4, 2) := by decide +kernel
theorem dX7_knows_90 : decode cX7_knows 90 = .ok (.aload_n 0, 1) := by decide +kernel
theorem dX7_knows_91 : decode cX7_knows 91 = .ok (.getfield 31, 3) := by decide +kernel
theorem dX7_knows_94 : decode cX7_knows 94 = .ok (.iload 8, 2) := by decide +kernel
theorem dX7_knows_96 : decode cX7_knows 96 = .ok (.iaload, 1) := by decide +kernel
theorem dX7_knows_97 : decode cX7_knows 97 = .ok (.iconst 1, 1) := by decide +kernel
theorem dX7_knows_98 : decode cX7_knows 98 = .ok (.iadd, 1) := by decide +kernel
theorem dX7_knows_99 : decode cX7_knows 99 = .ok (.iload 5, 2) := by decide +kernel
theorem dX7_knows_101 : decode cX7_knows 101 = .ok (.if_icmp .le 15, 3) := by decide +kernel
theorem dX7_knows_104 : decode cX7_knows 104 = .ok (.aload_n 0, 1) := by decide +kernel
theorem dX7_knows_105 : decode cX7_knows 105 = .ok (.getfield 31, 3) := by decide +kernel
theorem dX7_knows_108 : decode cX7_knows 108 = .ok (.iload 8, 2) := by decide +kernel
theorem dX7_knows_110 : decode cX7_knows 110 = .ok (.iaload, 1) := by decide +kernel
theorem dX7_knows_111 : decode cX7_knows 111 = .ok (.iconst 1, 1) := by decide +kernel
theorem dX7_knows_112 : decode cX7_knows 112 = .ok (.iadd, 1) := by decide +kernel
theorem dX7_knows_113 : decode cX7_knows 113 = .ok (.goto 5, 3) := by decide +kernel
theorem dX7_knows_116 : decode cX7_knows 116 = .ok (.iload 5, 2) := by decide +kernel
theorem dX7_knows_118 : decode cX7_knows 118 = .ok (.istore 5, 2) := by decide +kernel
theorem dX7_knows_120 : decode cX7_knows 120 = .ok (.aload_n 0, 1) := by decide +kernel
theorem dX7_knows_121 : decode cX7_knows 121 = .ok (.getfield 34, 3) := by decide +kernel
theorem dX7_knows_124 : decode cX7_knows 124 = .ok (.iload 8, 2) := by decide +kernel
theorem dX7_knows_126 : decode cX7_knows 126 = .ok (.iaload, 1) := by decide +kernel
theorem dX7_knows_127 : decode cX7_knows 127 = .ok (.iconst 1, 1) := by decide +kernel
theorem dX7_knows_128 : decode cX7_knows 128 = .ok (.iadd, 1) := by decide +kernel
theorem dX7_knows_129 : decode cX7_knows 129 = .ok (.iload 6, 2) := by decide +kernel
theorem dX7_knows_131 : decode cX7_knows 131 = .ok (.if_icmp .ge 15, 3) := by decide +kernel
theorem dX7_knows_134 : decode cX7_knows 134 = .ok (.aload_n 0, 1) := by decide +kernel
theorem dX7_knows_135 : decode cX7_knows 135 = .ok (.getfield 34, 3) := by decide +kernel
theorem dX7_knows_138 : decode cX7_knows 138 = .ok (.iload 8, 2) := by decide +kernel
theorem dX7_knows_140 : decode cX7_knows 140 = .ok (.iaload, 1) := by decide +kernel
theorem dX7_knows_141 : decode cX7_knows 141 = .ok (.iconst 1, 1) := by decide +kernel
theorem dX7_knows_142 : decode cX7_knows 142 = .ok (.iadd, 1) := by decide +kernel
theorem dX7_knows_143 : decode cX7_knows 143 = .ok (.goto 5, 3) := by decide +kernel
theorem dX7_knows_146 : decode cX7_knows 146 = .ok (.iload 6, 2) := by decide +kernel
theorem dX7_knows_148 : decode cX7_knows 148 = .ok (.istore 6, 2) := by decide +kernel
theorem dX7_knows_150 : decode cX7_knows 150 = .ok (.iinc 7 1, 3) := by decide +kernel
theorem dX7_knows_153 : decode cX7_knows 153 = .ok (.goto (-110), 3) := by decide +kernel
theorem dX7_knows_156 : decode cX7_knows 156 = .ok (.iconst 0, 1) := by decide +kernel
theorem dX7_knows_157 : decode cX7_knows 157 = .ok (.istore 7, 2) := by decide +kernel
theorem dX7_knows_159 : decode cX7_knows 159 = .ok (.lload_n 2, 1) := by decide +kernel
theorem dX7_knows_160 : decode cX7_knows 160 = .ok (.iload 7, 2) := by decide +kernel
theorem dX7_knows_162 : decode cX7_knows 162 = .ok (.lshr, 1) := by decide +kernel
theorem dX7_knows_163 : decode cX7_knows 163 = .ok (.lconst 1, 1) := by decide +kernel
theorem dX7_knows_164 : decode cX7_knows 164 = .ok (.land, 1) := by decide +kernel
theorem dX7_knows_165 : decode cX7_knows 165 = .ok (.lconst 1, 1) := by decide +kernel
theorem dX7_knows_166 : decode cX7_knows 166 = .ok (.lcmp, 1) := by decide +kernel
theorem dX7_knows_167 : decode cX7_knows 167 = .ok (.ifCond .ne 9, 3) := by decide +kernel
theorem dX7_knows_170 : decode cX7_knows 170 = .ok (.iinc 7 1, 3) := by decide +kernel
theorem dX7_knows_173 : decode cX7_knows 173 = .ok (.goto (-14), 3) := by decide +kernel
theorem dX7_knows_176 : decode cX7_knows 176 = .ok (.aload_n 0, 1) := by decide +kernel
theorem dX7_knows_177 : decode cX7_knows 177 = .ok (.getfield 25, 3) := by decide +kernel
theorem dX7_knows_180 : decode cX7_knows 180 = .ok (.iload_n 1, 1) := by decide +kernel
theorem dX7_knows_181 : decode cX7_knows 181 = .ok (.iload 7, 2) := by decide +kernel
theorem dX7_knows_183 : decode cX7_knows 183 = .ok (.iastore, 1) := by decide +kernel
theorem dX7_knows_184 : decode cX7_knows 184 = .ok (.aload_n 0, 1) := by decide +kernel
theorem dX7_knows_185 : decode cX7_knows 185 = .ok (.getfield 28, 3) := by decide +kernel
theorem dX7_knows_188 : decode cX7_knows 188 = .ok (.iload_n 1, 1) := by decide +kernel
theorem dX7_knows_189 : decode cX7_knows 189 = .ok (.iload 4, 2) := by decide +kernel
theorem dX7_knows_191 : decode cX7_knows 191 = .ok (.iastore, 1) := by decide +kernel
theorem dX7_knows_192 : decode cX7_knows 192 = .ok (.aload_n 0, 1) := by decide +kernel
theorem dX7_knows_193 : decode cX7_knows 193 = .ok (.getfield 31, 3) := by decide +kernel
theorem dX7_knows_196 : decode cX7_knows 196 = .ok (.iload_n 1, 1) := by decide +kernel
theorem dX7_knows_197 : decode cX7_knows 197 = .ok (.iload 5, 2) := by decide +kernel
theorem dX7_knows_199 : decode cX7_knows 199 = .ok (.iastore, 1) := by decide +kernel
theorem dX7_knows_200 : decode cX7_knows 200 = .ok (.aload_n 0, 1) := by decide +kernel
theorem dX7_knows_201 : decode cX7_knows 201 = .ok (.getfield 34, 3) := by decide +kernel
theorem dX7_knows_204 : decode cX7_knows 204 = .ok (.iload_n 1, 1) := by decide +kernel
theorem dX7_knows_205 : decode cX7_knows 205 = .ok (.iload 6, 2) := by decide +kernel
theorem dX7_knows_207 : decode cX7_knows 207 = .ok (.iastore, 1) := by decide +kernel
theorem dX7_knows_208 : decode cX7_knows 208 = .ok (.return_, 1) := by decide +kernel
set_option maxRecDepth 20000 in
theorem ggX7_learns_X7_knows : GoodIn wsX7_learns wsX7_knows := goodIn_r _ [8, 9, 10, 11, 12, 13, 14, 15, 16, 7, 17, 18, 19, 20, 21, 22, 23, 24, 1, 25, 26, 27, 28, 29, 30, 31, 32, 33, 34, 35, 36, 37, 38, 39, 40, 41, 42, 43, 44, 45, 46, 47, 48, 49, 50, 51, 52, 53, 54, 55, 56, 57, 58, 59, 60, 61, 62, 63, 64, 65, 66, 67, 68, 69, 70, 71, 72, 73, 74, 75, 76, 77] (by decide +kernel) (by decide +kernel)
set_option maxRecDepth 20000 in
theorem gX7_learns_X7_knows : GoodIn wsX7_learns (wsV RX7 107 RX7 yX7_knows wsX7_knows) := goodIn_app (goodIn_of _ (by decide +kernel)) ggX7_learns_X7_knows
theorem dX7_learns_0 : decode cX7_learns 0 = .ok (.bipush 100, 2) := by decide +kernel
theorem dX7_learns_2 : decode cX7_learns 2 = .ok (.aload_n 0, 1) := by decide +kernel
theorem dX7_learns_3 : decode cX7_learns 3 = .ok (.getfield 7, 3) := by decide +kernel
theorem dX7_learns_6 : decode cX7_learns 6 = .ok (.iconst 0, 1) := by decide +kernel
theorem dX7_learns_7 : decode cX7_learns 7 = .ok (.iaload, 1) := by decide +kernel
theorem dX7_learns_8 : decode cX7_learns 8 = .ok (.imul, 1) := by decide +kernel
theorem dX7_learns_9 : decode cX7_learns 9 = .ok (.bipush 10, 2) := by decide +kernel
theorem dX7_learns_11 : decode cX7_learns 11 = .ok (.aload_n 0, 1) := by decide +kernel
theorem dX7_learns_12 : decode cX7_learns 12 = .ok (.getfield 7, 3) := by decide +kernel
theorem dX7_learns_15 : decode cX7_learns 15 = .ok (.iconst 1, 1) := by decide +kernel
theorem dX7_learns_16 : decode cX7_learns 16 = .ok (.iaload, 1) := by decide +kernel
theorem dX7_learns_17 : decode cX7_learns 17 = .ok (.imul, 1) := by decide +kernel
theorem dX7_learns_18 : decode cX7_learns 18 = .ok (.iadd, 1) := by decide +kernel
theorem dX7_learns_19 : decode cX7_learns 19 = .ok (.aload_n 0, 1) := by decide +kernel
theorem dX7_learns_20 : decode cX7_learns 20 = .ok (.getfield 7, 3) := by decide +kernel
theorem dX7_learns_23 : decode cX7_learns 23 = .ok (.iconst 2, 1) := by decide +kernel
theorem dX7_learns_24 : decode cX7_learns 24 = .ok (.iaload, 1) := by decide +kernel
theorem dX7_learns_25 : decode cX7_learns 25 = .ok (.iadd, 1) := by decide +kernel
theorem dX7_learns_26 : decode cX7_learns 26 = .ok (.istore_n 1, 1) := by decide +kernel
theorem dX7_learns_27 : decode cX7_learns 27 = .ok (.iconst 0, 1) := by decide +kernel
theorem dX7_learns_28 : decode cX7_learns 28 = .ok (.istore_n 2, 1) := by decide +kernel
theorem dX7_learns_29 : decode cX7_learns 29 = .ok (.iload_n 2, 1) := by decide +kernel
theorem dX7_learns_30 : decode cX7_learns 30 = .ok (.aload_n 0, 1) := by decide +kernel
theorem dX7_learns_31 : decode cX7_learns 31 = .ok (.getfield 52, 3) := by decide +kernel
theorem dX7_learns_34 : decode cX7_learns 34 = .ok (.if_icmp .ge 22, 3) := by decide +kernel
theorem dX7_learns_37 : decode cX7_learns 37 = .ok (.iload_n 1, 1) := by decide +kernel
theorem dX7_learns_38 : decode cX7_learns 38 = .ok (.aload_n 0, 1) := by decide +kernel
theorem dX7_learns_39 : decode cX7_learns 39 = .ok (.getfield 104, 3) := by decide +kernel
theorem dX7_learns_42 : decode cX7_learns 42 = .ok (.if_icmp .eq 14, 3) := by decide +kernel
theorem dX7_learns_45 : decode cX7_learns 45 = .ok (.aload_n 0, 1) := by decide +kernel
theorem dX7_learns_46 : decode cX7_learns 46 = .ok (.iload_n 2, 1) := by decide +kernel
theorem dX7_learns_47 : decode cX7_learns 47 = .ok (.invokevirtual 107, 3) := by decide +kernel
theorem dX7_learns_50 : decode cX7_learns 50 = .ok (.iinc 2 1, 3) := by decide +kernel
theorem dX7_learns_53 : decode cX7_learns 53 = .ok (.goto (-24), 3) := by decide +kernel
theorem dX7_learns_56 : decode cX7_learns 56 = .ok (.aload_n 0, 1) := by decide +kernel
theorem dX7_learns_57 : decode cX7_learns 57 = .ok (.iload_n 1, 1) := by decide +kernel
theorem dX7_learns_58 : decode cX7_learns 58 = .ok (.putfield 104, 3) := by decide +kernel
theorem dX7_learns_61 : decode cX7_learns 61 = .ok (.return_, 1) := by decide +kernel
set_option maxRecDepth 20000 in
theorem ggX7_looks_X7_learns : GoodIn wsX7_looks wsX7_learns := goodIn_r _ [10, 1, 11, 12, 13, 14, 15, 9, 16, 17, 18, 19, 20, 21, 22, 23, 24, 25, 2, 4, 26, 27, 28, 29, 30, 31, 32, 33, 34, 35, 36, 37, 38, 39, 40, 41, 42, 43, 44, 45, 3, 5, 46, 47, 48, 49, 50, 51, 52, 53, 54, 55, 56, 57, 58, 59, 60, 61, 62, 63, 64, 65, 66, 67, 68, 69, 70, 71, 72, 73, 74, 75, 76, 77, 78, 79, 80, 81] (by decide +kernel) (by decide +kernel)
set_option maxRecDepth 20000 in
theorem gX7_looks_X7_learns : GoodIn wsX7_looks (wsV RX7 110 RX7 yX7_learns wsX7_learns) := goodIn_app (goodIn_of _ (by decide +kernel)) ggX7_looks_X7_learns
set_option maxRecDepth 20000 in
theorem ggX7_looks_X7_lists : GoodIn wsX7_looks wsX7_lists := goodIn_r _ [30, 17, 2, 1, 4, 31, 32, 33, 9, 34, 35, 36, 37, 55, 56, 57, 58, 59, 60, 61, 62, 63, 64, 65, 66, 67, 68, 69, 70, 71, 72, 73, 74, 75, 76, 77, 78, 79, 80, 81] (by decide +kernel) (by decide +kernel)
set_option maxRecDepth 20000 in
theorem gX7_looks_X7_lists : GoodIn wsX7_looks (wsV RX7 93 RX7 yX7_lists wsX7_lists) := goodIn_app (goodIn_of _ (by decide +kernel)) ggX7_looks_X7_lists
set_option maxRecDepth 20000 in
theorem ggX7_looks_X7_position : GoodIn wsX7_looks wsX7_position := goodIn_r _ [49, 3, 5, 50, 51, 52, 53, 9, 54, 26, 55, 56, 57, 58, 59, 60, 61, 62, 63, 64, 65, 66, 67, 68, 69, 70, 71, 72, 73, 74, 75, 76, 77, 78, 79, 80, 81] (by decide +kernel) (by decide +kernel)
set_option maxRecDepth 20000 in
theorem gX7_looks_X7_position : GoodIn wsX7_looks (wsV RX7 89 RX7 yX7_position wsX7_position) := goodIn_app (goodIn_of _ (by decide +kernel)) ggX7_looks_X7_position
theorem dX7_looks_0 : decode cX7_looks 0 = .ok (.aload_n 0, 1) := by decide +kernel
theorem dX7_looks_1 : decode cX7_looks 1 = .ok (.invokevirtual 110, 3) := by decide +kernel
theorem dX7_looks_4 : decode cX7_looks 4 = .ok (.aload_n 0, 1) := by decide +kernel
theorem dX7_looks_5 : decode cX7_looks 5 = .ok (.aload_n 0, 1) := by decide +kernel
theorem dX7_looks_6 : decode cX7_looks 6 = .ok (.getfield 7, 3) := by decide +kernel
theorem dX7_looks_9 : decode cX7_looks 9 = .ok (.iconst 4, 1) := by decide +kernel
theorem dX7_looks_10 : decode cX7_looks 10 = .ok (.iaload, 1) := by decide +kernel
theorem dX7_looks_11 : decode cX7_looks 11 = .ok (.putfield 79, 3) := by decide +kernel
theorem dX7_looks_14 : decode cX7_looks 14 = .ok (.aload_n 0, 1) := by decide +kernel
theorem dX7_looks_15 : decode cX7_looks 15 = .ok (.aload_n 0, 1) := by decide +kernel
theorem dX7_looks_16 : decode cX7_looks 16 = .ok (.getfield 7, 3) := by decide +kernel
theorem dX7_looks_19 : decode cX7_looks 19 = .ok (.iconst 4, 1) := by decide +kernel
theorem dX7_looks_20 : decode cX7_looks 20 = .ok (.iaload, 1) := by decide +kernel
theorem dX7_looks_21 : decode cX7_looks 21 = .ok (.putfield 70, 3) := by decide +kernel
theorem dX7_looks_24 : decode cX7_looks 24 = .ok (.iconst 0, 1) := by decide +kernel
theorem dX7_looks_25 : decode cX7_looks 25 = .ok (.istore_n 1, 1) := by decide +kernel
theorem dX7_looks_26 : decode cX7_looks 26 = .ok (.iload_n 1, 1) := by decide +kernel
theorem dX7_looks_27 : decode cX7_looks 27 = .ok (.aload_n 0, 1) := by decide +kernel
theorem dX7_looks_28 : decode cX7_looks 28 = .ok (.getfield 79, 3) := by decide +kernel
theorem dX7_looks_31 : decode cX7_looks 31 = .ok (.if_icmp .ge 37, 3) := by decide +kernel
theorem dX7_looks_34 : decode cX7_looks 34 = .ok (.aload_n 0, 1) := by decide +kernel
theorem dX7_looks_35 : decode cX7_looks 35 = .ok (.getfield 37, 3) := by decide +kernel
theorem dX7_looks_38 : decode cX7_looks 38 = .ok (.iload_n 1, 1) := by decide +kernel
theorem dX7_looks_39 : decode cX7_looks 39 = .ok (.aload_n 0, 1) := by decide +kernel
theorem dX7_looks_40 : decode cX7_looks 40 = .ok (.getfield 7, 3) := by decide +kernel
theorem dX7_looks_43 : decode cX7_looks 43 = .ok (.iconst 5, 1) := by decide +kernel
theorem dX7_looks_44 : decode cX7_looks 44 = .ok (.iload_n 1, 1) := by decide +kernel
theorem dX7_looks_45 : decode cX7_looks 45 = .ok (.iadd, 1) := by decide +kernel
theorem dX7_looks_46 : decode cX7_looks 46 = .ok (.iaload, 1) := by decide +kernel
theorem dX7_looks_47 : decode cX7_looks 47 = .ok (.iastore, 1) := by decide +kernel
theorem dX7_looks_48 : decode cX7_looks 48 = .ok (.aload_n 0, 1) := by decide +kernel
theorem dX7_looks_49 : decode cX7_looks 49 = .ok (.getfield 49, 3) := by decide +kernel
theorem dX7_looks_52 : decode cX7_looks 52 = .ok (.iload_n 1, 1) := by decide +kernel
theorem dX7_looks_53 : decode cX7_looks 53 = .ok (.aload_n 0, 1) := by decide +kernel
theorem dX7_looks_54 : decode cX7_looks 54 = .ok (.getfield 7, 3) := by decide +kernel
theorem dX7_looks_57 : decode cX7_looks 57 = .ok (.iconst 5, 1) := by decide +kernel
theorem dX7_looks_58 : decode cX7_looks 58 = .ok (.iload_n 1, 1) := by decide +kernel
theorem dX7_looks_59 : decode cX7_looks 59 = .ok (.iadd, 1) := by decide +kernel
theorem dX7_looks_60 : decode cX7_looks 60 = .ok (.iaload, 1) := by decide +kernel
theorem dX7_looks_61 : decode cX7_looks 61 = .ok (.iastore, 1) := by decide +kernel
theorem dX7_looks_62 : decode cX7_looks 62 = .ok (.iinc 1 1, 3) := by decide +kernel
theorem dX7_looks_65 : decode cX7_looks 65 = .ok (.goto (-39), 3) := by decide +kernel
theorem dX7_looks_68 : decode cX7_looks 68 = .ok (.aload_n 0, 1) := by decide +kernel
theorem dX7_looks_69 : decode cX7_looks 69 = .ok (.invokevirtual 93, 3) := by decide +kernel
theorem dX7_looks_72 : decode cX7_looks 72 = .ok (.aload_n 0, 1) := by decide +kernel
theorem dX7_looks_73 : decode cX7_looks 73 = .ok (.invokevirtual 89, 3) := by decide +kernel
theorem dX7_looks_76 : decode cX7_looks 76 = .ok (.ireturn, 1) := by decide +kernel
theorem dX7_sum_0 : decode cX7_sum 0 = .ok (.iconst 0, 1) := by decide +kernel
theorem dX7_sum_1 : decode cX7_sum 1 = .ok (.istore_n 1, 1) := by decide +kernel
theorem dX7_sum_2 : decode cX7_sum 2 = .ok (.iconst 0, 1) := by decide +kernel
theorem dX7_sum_3 : decode cX7_sum 3 = .ok (.istore_n 2, 1) := by decide +kernel
theorem dX7_sum_4 : decode cX7_sum 4 = .ok (.iload_n 2, 1) := by decide +kernel
theorem dX7_sum_5 : decode cX7_sum 5 = .ok (.aload_n 0, 1) := by decide +kernel
theorem dX7_sum_6 : decode cX7_sum 6 = .ok (.getfield 7, 3) := by decide +kernel
theorem dX7_sum_9 : decode cX7_sum 9 = .ok (.iconst 4, 1) := by decide +kernel
theorem dX7_sum_10 : decode cX7_sum 10 = .ok (.iaload, 1) := by decide +kernel
theorem dX7_sum_11 : decode cX7_sum 11 = .ok (.if_icmp .ge 20, 3) := by decide +kernel
theorem dX7_sum_14 : decode cX7_sum 14 = .ok (.iload_n 1, 1) := by decide +kernel
theorem dX7_sum_15 : decode cX7_sum 15 = .ok (.aload_n 0, 1) := by decide +kernel
theorem dX7_sum_16 : decode cX7_sum 16 = .ok (.getfield 7, 3) := by decide +kernel
theorem dX7_sum_19 : decode cX7_sum 19 = .ok (.iconst 5, 1) := by decide +kernel
theorem dX7_sum_20 : decode cX7_sum 20 = .ok (.iload_n 2, 1) := by decide +kernel
theorem dX7_sum_21 : decode cX7_sum 21 = .ok (.iadd, 1) := by decide +kernel
theorem dX7_sum_22 : decode cX7_sum 22 = .ok (.iaload, 1) := by decide +kernel
theorem dX7_sum_23 : decode cX7_sum 23 = .ok (.iadd, 1) := by decide +kernel
theorem dX7_sum_24 : decode cX7_sum 24 = .ok (.istore_n 1, 1) := by decide +kernel
theorem dX7_sum_25 : decode cX7_sum 25 = .ok (.iinc 2 1, 3) := by decide +kernel
theorem dX7_sum_28 : decode cX7_sum 28 = .ok (.goto (-24), 3) := by decide +kernel
theorem dX7_sum_31 : decode cX7_sum 31 = .ok (.iload_n 1, 1) := by decide +kernel
theorem dX7_sum_32 : decode cX7_sum 32 = .ok (.ireturn, 1) := by decide +kernel
set_option maxRecDepth 20000 in
theorem ggX7_begin_X7_record : GoodIn wsX7_begin wsX7_record := goodIn_r _ [7, 8, 9, 2, 14, 15, 16, 17, 18, 19, 20, 21, 22, 23, 24, 25, 26, 27, 28, 29, 30, 31, 32, 33, 34, 35, 36, 37, 38, 39, 40] (by decide +kernel) (by decide +kernel)
set_option maxRecDepth 20000 in
theorem gX7_begin_X7_record : GoodIn wsX7_begin (wsV RX7 113 RX7 yX7_record wsX7_record) := goodIn_app (goodIn_of _ (by decide +kernel)) ggX7_begin_X7_record
set_option maxRecDepth 20000 in
theorem ggX7_begin_X7_sum : GoodIn wsX7_begin wsX7_sum := goodIn_r _ [13, 2, 14, 15, 16, 17, 18, 19, 20, 21, 22, 23, 24, 25, 26, 27, 28, 29, 30, 31, 32, 33, 34, 35, 36, 37, 38, 39, 40] (by decide +kernel) (by decide +kernel)
set_option maxRecDepth 20000 in
theorem gX7_begin_X7_sum : GoodIn wsX7_begin (wsV RX7 116 RX7 yX7_sum wsX7_sum) := goodIn_app (goodIn_of _ (by decide +kernel)) ggX7_begin_X7_sum
theorem dX7_begin_0 : decode cX7_begin 0 = .ok (.aload_n 0, 1) := by decide +kernel
theorem dX7_begin_1 : decode cX7_begin 1 = .ok (.iconst 0, 1) := by decide +kernel
theorem dX7_begin_2 : decode cX7_begin 2 = .ok (.putfield 60, 3) := by decide +kernel
theorem dX7_begin_5 : decode cX7_begin 5 = .ok (.aload_n 0, 1) := by decide +kernel
theorem dX7_begin_6 : decode cX7_begin 6 = .ok (.invokevirtual 113, 3) := by decide +kernel
theorem dX7_begin_9 : decode cX7_begin 9 = .ok (.aload_n 0, 1) := by decide +kernel
theorem dX7_begin_10 : decode cX7_begin 10 = .ok (.invokevirtual 116, 3) := by decide +kernel
theorem dX7_begin_13 : decode cX7_begin 13 = .ok (.istore_n 1, 1) := by decide +kernel
theorem dX7_begin_14 : decode cX7_begin 14 = .ok (.iconst 4, 1) := by decide +kernel
theorem dX7_begin_15 : decode cX7_begin 15 = .ok (.istore_n 2, 1) := by decide +kernel
theorem dX7_begin_16 : decode cX7_begin 16 = .ok (.iload_n 2, 1) := by decide +kernel
theorem dX7_begin_17 : decode cX7_begin 17 = .ok (.bipush 20, 2) := by decide +kernel
theorem dX7_begin_19 : decode cX7_begin 19 = .ok (.if_icmp .ge 16, 3) := by decide +kernel
theorem dX7_begin_22 : decode cX7_begin 22 = .ok (.aload_n 0, 1) := by decide +kernel
theorem dX7_begin_23 : decode cX7_begin 23 = .ok (.getfield 7, 3) := by decide +kernel
theorem dX7_begin_26 : decode cX7_begin 26 = .ok (.iload_n 2, 1) := by decide +kernel
theorem dX7_begin_27 : decode cX7_begin 27 = .ok (.iconst 0, 1) := by decide +kernel
theorem dX7_begin_28 : decode cX7_begin 28 = .ok (.iastore, 1) := by decide +kernel
theorem dX7_begin_29 : decode cX7_begin 29 = .ok (.iinc 2 1, 3) := by decide +kernel
theorem dX7_begin_32 : decode cX7_begin 32 = .ok (.goto (-16), 3) := by decide +kernel
theorem dX7_begin_35 : decode cX7_begin 35 = .ok (.iload_n 1, 1) := by decide +kernel
theorem dX7_begin_36 : decode cX7_begin 36 = .ok (.ireturn, 1) := by decide +kernel
set_option maxRecDepth 20000 in
theorem ggX7_addHeap_X7_within : GoodIn wsX7_addHeap wsX7_within := goodIn_r _ [6] (by decide +kernel) (by decide +kernel)
set_option maxRecDepth 20000 in
theorem gX7_addHeap_X7_within : GoodIn wsX7_addHeap (va_wsS RX7 119 yX7_within wsX7_within) := goodIn_app (goodIn_of _ (by decide +kernel)) ggX7_addHeap_X7_within
set_option maxRecDepth 20000 in
theorem ggX7_addHeap_X7_sum : GoodIn wsX7_addHeap wsX7_sum := goodIn_r _ [10, 2, 17, 18, 19, 20, 21, 22, 23, 24, 25, 26, 27, 28, 29, 30, 31, 32, 33, 34, 35, 36, 37, 38, 39, 40, 41, 42, 43] (by decide +kernel) (by decide +kernel)
set_option maxRecDepth 20000 in
theorem gX7_addHeap_X7_sum : GoodIn wsX7_addHeap (wsV RX7 116 RX7 yX7_sum wsX7_sum) := goodIn_app (goodIn_of _ (by decide +kernel)) ggX7_addHeap_X7_sum
set_option maxRecDepth 20000 in
theorem ggX7_addHeap_X7_record : GoodIn wsX7_addHeap wsX7_record := goodIn_r _ [14, 15, 16, 2, 17, 18, 19, 20, 21, 22, 23, 24, 25, 26, 27, 28, 29, 30, 31, 32, 33, 34, 35, 36, 37, 38, 39, 40, 41, 42, 43] (by decide +kernel) (by decide +kernel)
set_option maxRecDepth 20000 in
theorem gX7_addHeap_X7_record : GoodIn wsX7_addHeap (wsV RX7 113 RX7 yX7_record wsX7_record) := goodIn_app (goodIn_of _ (by decide +kernel)) ggX7_addHeap_X7_record
theorem dX7_addHeap_0 : decode cX7_addHeap 0 = .ok (.aload_n 0, 1) := by decide +kernel
theorem dX7_addHeap_1 : decode cX7_addHeap 1 = .ok (.iload_n 1, 1) := by decide +kernel
theorem dX7_addHeap_2 : decode cX7_addHeap 2 = .ok (.iconst 1, 1) := by decide +kernel
theorem dX7_addHeap_3 : decode cX7_addHeap 3 = .ok (.bipush 12, 2) := by decide +kernel
theorem dX7_addHeap_5 : decode cX7_addHeap 5 = .ok (.invokestatic 119, 3) := by decide +kernel
theorem dX7_addHeap_8 : decode cX7_addHeap 8 = .ok (.ifCond .ne 7, 3) := by decide +kernel
theorem dX7_addHeap_11 : decode cX7_addHeap 11 = .ok (.iconst 1, 1) := by decide +kernel
theorem dX7_addHeap_12 : decode cX7_addHeap 12 = .ok (.goto 19, 3) := by decide +kernel
theorem dX7_addHeap_15 : decode cX7_addHeap 15 = .ok (.aload_n 0, 1) := by decide +kernel
theorem dX7_addHeap_16 : decode cX7_addHeap 16 = .ok (.invokevirtual 116, 3) := by decide +kernel
theorem dX7_addHeap_19 : decode cX7_addHeap 19 = .ok (.iload_n 1, 1) := by decide +kernel
theorem dX7_addHeap_20 : decode cX7_addHeap 20 = .ok (.iadd, 1) := by decide +kernel
theorem dX7_addHeap_21 : decode cX7_addHeap 21 = .ok (.bipush 12, 2) := by decide +kernel
theorem dX7_addHeap_23 : decode cX7_addHeap 23 = .ok (.if_icmp .le 7, 3) := by decide +kernel
theorem dX7_addHeap_26 : decode cX7_addHeap 26 = .ok (.iconst 2, 1) := by decide +kernel
theorem dX7_addHeap_27 : decode cX7_addHeap 27 = .ok (.goto 4, 3) := by decide +kernel
theorem dX7_addHeap_30 : decode cX7_addHeap 30 = .ok (.iconst 0, 1) := by decide +kernel
theorem dX7_addHeap_31 : decode cX7_addHeap 31 = .ok (.putfield 60, 3) := by decide +kernel
theorem dX7_addHeap_34 : decode cX7_addHeap 34 = .ok (.aload_n 0, 1) := by decide +kernel
theorem dX7_addHeap_35 : decode cX7_addHeap 35 = .ok (.getfield 60, 3) := by decide +kernel
theorem dX7_addHeap_38 : decode cX7_addHeap 38 = .ok (.ifCond .le 5, 3) := by decide +kernel
theorem dX7_addHeap_41 : decode cX7_addHeap 41 = .ok (.iconst 0, 1) := by decide +kernel
theorem dX7_addHeap_42 : decode cX7_addHeap 42 = .ok (.ireturn, 1) := by decide +kernel
theorem dX7_addHeap_43 : decode cX7_addHeap 43 = .ok (.aload_n 0, 1) := by decide +kernel
theorem dX7_addHeap_44 : decode cX7_addHeap 44 = .ok (.invokevirtual 113, 3) := by decide +kernel
theorem dX7_addHeap_47 : decode cX7_addHeap 47 = .ok (.aload_n 0, 1) := by decide +kernel
theorem dX7_addHeap_48 : decode cX7_addHeap 48 = .ok (.getfield 7, 3) := by decide +kernel
theorem dX7_addHeap_51 : decode cX7_addHeap 51 = .ok (.iconst 5, 1) := by decide +kernel
theorem dX7_addHeap_52 : decode cX7_addHeap 52 = .ok (.aload_n 0, 1) := by decide +kernel
theorem dX7_addHeap_53 : decode cX7_addHeap 53 = .ok (.getfield 7, 3) := by decide +kernel
theorem dX7_addHeap_56 : decode cX7_addHeap 56 = .ok (.iconst 4, 1) := by decide +kernel
theorem dX7_addHeap_57 : decode cX7_addHeap 57 = .ok (.iaload, 1) := by decide +kernel
theorem dX7_addHeap_58 : decode cX7_addHeap 58 = .ok (.iadd, 1) := by decide +kernel
theorem dX7_addHeap_59 : decode cX7_addHeap 59 = .ok (.iload_n 1, 1) := by decide +kernel
theorem dX7_addHeap_60 : decode cX7_addHeap 60 = .ok (.iastore, 1) := by decide +kernel
theorem dX7_addHeap_61 : decode cX7_addHeap 61 = .ok (.aload_n 0, 1) := by decide +kernel
theorem dX7_addHeap_62 : decode cX7_addHeap 62 = .ok (.getfield 7, 3) := by decide +kernel
theorem dX7_addHeap_65 : decode cX7_addHeap 65 = .ok (.iconst 4, 1) := by decide +kernel
theorem dX7_addHeap_66 : decode cX7_addHeap 66 = .ok (.dup2, 1) := by decide +kernel
theorem dX7_addHeap_67 : decode cX7_addHeap 67 = .ok (.iaload, 1) := by decide +kernel
theorem dX7_addHeap_68 : decode cX7_addHeap 68 = .ok (.iconst 1, 1) := by decide +kernel
theorem dX7_addHeap_69 : decode cX7_addHeap 69 = .ok (.iadd, 1) := by decide +kernel
theorem dX7_addHeap_70 : decode cX7_addHeap 70 = .ok (.iastore, 1) := by decide +kernel
theorem dX7_addHeap_71 : decode cX7_addHeap 71 = .ok (.aload_n 0, 1) := by decide +kernel
theorem dX7_addHeap_72 : decode cX7_addHeap 72 = .ok (.getfield 7, 3) := by decide +kernel
theorem dX7_addHeap_75 : decode cX7_addHeap 75 = .ok (.iconst 4, 1) := by decide +kernel
theorem dX7_addHeap_76 : decode cX7_addHeap 76 = .ok (.iaload, 1) := by decide +kernel
theorem dX7_addHeap_77 : decode cX7_addHeap 77 = .ok (.ireturn, 1) := by decide +kernel
set_option maxRecDepth 20000 in
theorem ggX7_setGreatestTake_X7_within : GoodIn wsX7_setGreatestTake wsX7_within := goodIn_r _ [6] (by decide +kernel) (by decide +kernel)
set_option maxRecDepth 20000 in
theorem gX7_setGreatestTake_X7_within : GoodIn wsX7_setGreatestTake (va_wsS RX7 119 yX7_within wsX7_within) := goodIn_app (goodIn_of _ (by decide +kernel)) ggX7_setGreatestTake_X7_within
set_option maxRecDepth 20000 in
theorem ggX7_setGreatestTake_X7_record : GoodIn wsX7_setGreatestTake wsX7_record := goodIn_r _ [10, 11, 12, 2, 13, 14, 15, 16, 17, 18, 19, 20, 21, 22, 23, 24, 25, 26, 27, 28, 29, 30, 31, 32, 33, 34, 35, 36, 37, 38, 39] (by decide +kernel) (by decide +kernel)
set_option maxRecDepth 20000 in
theorem gX7_setGreatestTake_X7_record : GoodIn wsX7_setGreatestTake (wsV RX7 113 RX7 yX7_record wsX7_record) := goodIn_app (goodIn_of _ (by decide +kernel)) ggX7_setGreatestTake_X7_record
theorem dX7_setGreatestTake_0 : decode cX7_setGreatestTake 0 = .ok (.aload_n 0, 1) := by decide +kernel
theorem dX7_setGreatestTake_1 : decode cX7_setGreatestTake 1 = .ok (.iload_n 1, 1) := by decide +kernel
theorem dX7_setGreatestTake_2 : decode cX7_setGreatestTake 2 = .ok (.iconst 1, 1) := by decide +kernel
theorem dX7_setGreatestTake_3 : decode cX7_setGreatestTake 3 = .ok (.iconst 5, 1) := by decide +kernel
theorem dX7_setGreatestTake_4 : decode cX7_setGreatestTake 4 = .ok (.invokestatic 119, 3) := by decide +kernel
theorem dX7_setGreatestTake_7 : decode cX7_setGreatestTake 7 = .ok (.ifCond .eq 7, 3) := by decide +kernel
theorem dX7_setGreatestTake_10 : decode cX7_setGreatestTake 10 = .ok (.iconst 0, 1) := by decide +kernel
theorem dX7_setGreatestTake_11 : decode cX7_setGreatestTake 11 = .ok (.goto 4, 3) := by decide +kernel
theorem dX7_setGreatestTake_14 : decode cX7_setGreatestTake 14 = .ok (.iconst 1, 1) := by decide +kernel
theorem dX7_setGreatestTake_15 : decode cX7_setGreatestTake 15 = .ok (.putfield 60, 3) := by decide +kernel
theorem dX7_setGreatestTake_18 : decode cX7_setGreatestTake 18 = .ok (.aload_n 0, 1) := by decide +kernel
theorem dX7_setGreatestTake_19 : decode cX7_setGreatestTake 19 = .ok (.getfield 60, 3) := by decide +kernel
theorem dX7_setGreatestTake_22 : decode cX7_setGreatestTake 22 = .ok (.ifCond .le 5, 3) := by decide +kernel
theorem dX7_setGreatestTake_25 : decode cX7_setGreatestTake 25 = .ok (.iconst 0, 1) := by decide +kernel
theorem dX7_setGreatestTake_26 : decode cX7_setGreatestTake 26 = .ok (.ireturn, 1) := by decide +kernel
theorem dX7_setGreatestTake_27 : decode cX7_setGreatestTake 27 = .ok (.aload_n 0, 1) := by decide +kernel
theorem dX7_setGreatestTake_28 : decode cX7_setGreatestTake 28 = .ok (.invokevirtual 113, 3) := by decide +kernel
theorem dX7_setGreatestTake_31 : decode cX7_setGreatestTake 31 = .ok (.aload_n 0, 1) := by decide +kernel
theorem dX7_setGreatestTake_32 : decode cX7_setGreatestTake 32 = .ok (.getfield 7, 3) := by decide +kernel
theorem dX7_setGreatestTake_35 : decode cX7_setGreatestTake 35 = .ok (.iconst 0, 1) := by decide +kernel
theorem dX7_setGreatestTake_36 : decode cX7_setGreatestTake 36 = .ok (.iaload, 1) := by decide +kernel
theorem dX7_setGreatestTake_37 : decode cX7_setGreatestTake 37 = .ok (.istore_n 2, 1) := by decide +kernel
theorem dX7_setGreatestTake_38 : decode cX7_setGreatestTake 38 = .ok (.aload_n 0, 1) := by decide +kernel
theorem dX7_setGreatestTake_39 : decode cX7_setGreatestTake 39 = .ok (.getfield 7, 3) := by decide +kernel
theorem dX7_setGreatestTake_42 : decode cX7_setGreatestTake 42 = .ok (.iconst 0, 1) := by decide +kernel
theorem dX7_setGreatestTake_43 : decode cX7_setGreatestTake 43 = .ok (.iload_n 1, 1) := by decide +kernel
theorem dX7_setGreatestTake_44 : decode cX7_setGreatestTake 44 = .ok (.iastore, 1) := by decide +kernel
theorem dX7_setGreatestTake_45 : decode cX7_setGreatestTake 45 = .ok (.iload_n 2, 1) := by decide +kernel
theorem dX7_setGreatestTake_46 : decode cX7_setGreatestTake 46 = .ok (.ireturn, 1) := by decide +kernel
set_option maxRecDepth 20000 in
theorem ggX7_turns_X7_record : GoodIn wsX7_turns wsX7_record := goodIn_r _ [7, 8, 9, 2, 10, 11, 12, 13, 14, 15, 16, 17, 18, 19, 20, 21, 22, 23, 24, 25, 26, 27, 28, 29, 30, 31, 32, 33, 34, 35, 36] (by decide +kernel) (by decide +kernel)
set_option maxRecDepth 20000 in
theorem gX7_turns_X7_record : GoodIn wsX7_turns (wsV RX7 113 RX7 yX7_record wsX7_record) := goodIn_app (goodIn_of _ (by decide +kernel)) ggX7_turns_X7_record
theorem dX7_turns_0 : decode cX7_turns 0 = .ok (.aload_n 0, 1) := by decide +kernel
theorem dX7_turns_1 : decode cX7_turns 1 = .ok (.iconst 0, 1) := by decide +kernel
theorem dX7_turns_2 : decode cX7_turns 2 = .ok (.putfield 60, 3) := by decide +kernel
theorem dX7_turns_5 : decode cX7_turns 5 = .ok (.aload_n 0, 1) := by decide +kernel
theorem dX7_turns_6 : decode cX7_turns 6 = .ok (.invokevirtual 113, 3) := by decide +kernel
theorem dX7_turns_9 : decode cX7_turns 9 = .ok (.aload_n 0, 1) := by decide +kernel
theorem dX7_turns_10 : decode cX7_turns 10 = .ok (.getfield 7, 3) := by decide +kernel
theorem dX7_turns_13 : decode cX7_turns 13 = .ok (.iload_n 1, 1) := by decide +kernel
theorem dX7_turns_14 : decode cX7_turns 14 = .ok (.iconst 1, 1) := by decide +kernel
theorem dX7_turns_15 : decode cX7_turns 15 = .ok (.aload_n 0, 1) := by decide +kernel
theorem dX7_turns_16 : decode cX7_turns 16 = .ok (.getfield 7, 3) := by decide +kernel
theorem dX7_turns_19 : decode cX7_turns 19 = .ok (.iload_n 1, 1) := by decide +kernel
theorem dX7_turns_20 : decode cX7_turns 20 = .ok (.iaload, 1) := by decide +kernel
theorem dX7_turns_21 : decode cX7_turns 21 = .ok (.isub, 1) := by decide +kernel
theorem dX7_turns_22 : decode cX7_turns 22 = .ok (.iastore, 1) := by decide +kernel
theorem dX7_turns_23 : decode cX7_turns 23 = .ok (.aload_n 0, 1) := by decide +kernel
theorem dX7_turns_24 : decode cX7_turns 24 = .ok (.getfield 7, 3) := by decide +kernel
theorem dX7_turns_27 : decode cX7_turns 27 = .ok (.iload_n 1, 1) := by decide +kernel
theorem dX7_turns_28 : decode cX7_turns 28 = .ok (.iaload, 1) := by decide +kernel
theorem dX7_turns_29 : decode cX7_turns 29 = .ok (.iconst 1, 1) := by decide +kernel
theorem dX7_turns_30 : decode cX7_turns 30 = .ok (.if_icmp .ne 7, 3) := by decide +kernel
theorem dX7_turns_33 : decode cX7_turns 33 = .ok (.iconst 1, 1) := by decide +kernel
theorem dX7_turns_34 : decode cX7_turns 34 = .ok (.goto 4, 3) := by decide +kernel
theorem dX7_turns_37 : decode cX7_turns 37 = .ok (.iconst 0, 1) := by decide +kernel
theorem dX7_turns_38 : decode cX7_turns 38 = .ok (.ireturn, 1) := by decide +kernel
set_option maxRecDepth 20000 in
theorem ggX7_turnSplitting_X7_turns : GoodIn wsX7_turnSplitting wsX7_turns := goodIn_r _ [5, 6, 7, 8, 9, 10, 4, 11, 12, 13, 14, 15, 16, 17, 18, 19, 20, 21, 22, 23, 24, 25, 26, 27, 28, 29, 30, 31, 32, 33, 34, 35, 36, 37, 38, 39, 40] (by decide +kernel) (by decide +kernel)
set_option maxRecDepth 20000 in
theorem gX7_turnSplitting_X7_turns : GoodIn wsX7_turnSplitting (wsV RX7 123 RX7 yX7_turns wsX7_turns) := goodIn_app (goodIn_of _ (by decide +kernel)) ggX7_turnSplitting_X7_turns
theorem dX7_turnSplitting_0 : decode cX7_turnSplitting 0 = .ok (.aload_n 0, 1) := by decide +kernel
theorem dX7_turnSplitting_1 : decode cX7_turnSplitting 1 = .ok (.iconst 1, 1) := by decide +kernel
theorem dX7_turnSplitting_2 : decode cX7_turnSplitting 2 = .ok (.invokevirtual 123, 3) := by decide +kernel
theorem dX7_turnSplitting_5 : decode cX7_turnSplitting 5 = .ok (.ireturn, 1) := by decide +kernel
set_option maxRecDepth 20000 in
theorem ggX7_turnMerging_X7_turns : GoodIn wsX7_turnMerging wsX7_turns := goodIn_r _ [5, 6, 7, 8, 9, 10, 4, 11, 12, 13, 14, 15, 16, 17, 18, 19, 20, 21, 22, 23, 24, 25, 26, 27, 28, 29, 30, 31, 32, 33, 34, 35, 36, 37, 38, 39, 40] (by decide +kernel) (by decide +kernel)
set_option maxRecDepth 20000 in
theorem gX7_turnMerging_X7_turns : GoodIn wsX7_turnMerging (wsV RX7 123 RX7 yX7_turns wsX7_turns) := goodIn_app (goodIn_of _ (by decide +kernel)) ggX7_turnMerging_X7_turns
theorem dX7_turnMerging_0 : decode cX7_turnMerging 0 = .ok (.aload_n 0, 1) := by decide +kernel
theorem dX7_turnMerging_1 : decode cX7_turnMerging 1 = .ok (.iconst 2, 1) := by decide +kernel
theorem dX7_turnMerging_2 : decode cX7_turnMerging 2 = .ok (.invokevirtual 123, 3) := by decide +kernel
theorem dX7_turnMerging_5 : decode cX7_turnMerging 5 = .ok (.ireturn, 1) := by decide +kernel
set_option maxRecDepth 20000 in
theorem ggX7_turnEnding_X7_turns : GoodIn wsX7_turnEnding wsX7_turns := goodIn_r _ [5, 6, 7, 8, 9, 10, 4, 11, 12, 13, 14, 15, 16, 17, 18, 19, 20, 21, 22, 23, 24, 25, 26, 27, 28, 29, 30, 31, 32, 33, 34, 35, 36, 37, 38, 39, 40] (by decide +kernel) (by decide +kernel)
set_option maxRecDepth 20000 in
theorem gX7_turnEnding_X7_turns : GoodIn wsX7_turnEnding (wsV RX7 123 RX7 yX7_turns wsX7_turns) := goodIn_app (goodIn_of _ (by decide +kernel)) ggX7_turnEnding_X7_turns
theorem dX7_turnEnding_0 : decode cX7_turnEnding 0 = .ok (.aload_n 0, 1) := by decide +kernel
theorem dX7_turnEnding_1 : decode cX7_turnEnding 1 = .ok (.iconst 3, 1) := by decide +kernel
theorem dX7_turnEnding_2 : decode cX7_turnEnding 2 = .ok (.invokevirtual 123, 3) := by decide +kernel
theorem dX7_turnEnding_5 : decode cX7_turnEnding 5 = .ok (.ireturn, 1) := by decide +kernel
set_option maxRecDepth 20000 in
theorem ggX7_isHeap_X7_within : GoodIn wsX7_isHeap wsX7_within := goodIn_r _ [5] (by decide +kernel) (by decide +kernel)
set_option maxRecDepth 20000 in
theorem gX7_isHeap_X7_within : GoodIn wsX7_isHeap (va_wsS RX7 119 yX7_within wsX7_within) := goodIn_app (goodIn_of _ (by decide +kernel)) ggX7_isHeap_X7_within
theorem dX7_isHeap_0 : decode cX7_isHeap 0 = .ok (.iload_n 1, 1) := by decide +kernel
theorem dX7_isHeap_1 : decode cX7_isHeap 1 = .ok (.iconst 0, 1) := by decide +kernel
theorem dX7_isHeap_2 : decode cX7_isHeap 2 = .ok (.aload_n 0, 1) := by decide +kernel
theorem dX7_isHeap_3 : decode cX7_isHeap 3 = .ok (.getfield 7, 3) := by decide +kernel
theorem dX7_isHeap_6 : decode cX7_isHeap 6 = .ok (.iconst 4, 1) := by decide +kernel
theorem dX7_isHeap_7 : decode cX7_isHeap 7 = .ok (.iaload, 1) := by decide +kernel
theorem dX7_isHeap_8 : decode cX7_isHeap 8 = .ok (.iconst 1, 1) := by decide +kernel
theorem dX7_isHeap_9 : decode cX7_isHeap 9 = .ok (.isub, 1) := by decide +kernel
theorem dX7_isHeap_10 : decode cX7_isHeap 10 = .ok (.invokestatic 119, 3) := by decide +kernel
theorem dX7_isHeap_13 : decode cX7_isHeap 13 = .ok (.ireturn, 1) := by decide +kernel
set_option maxRecDepth 20000 in
theorem ggX7_whyNoTake_X7_isHeap : GoodIn wsX7_whyNoTake wsX7_isHeap := goodIn_r _ [6, 1, 7, 8, 5, 9, 10, 11, 12, 13, 14, 15, 16, 17, 18, 19, 20, 21, 22, 23, 24, 25, 26, 27, 28, 29, 30, 31, 32, 33, 34, 35, 36] (by decide +kernel) (by decide +kernel)
set_option maxRecDepth 20000 in
theorem gX7_whyNoTake_X7_isHeap : GoodIn wsX7_whyNoTake (wsV RX7 126 RX7 yX7_isHeap wsX7_isHeap) := goodIn_app (goodIn_of _ (by decide +kernel)) ggX7_whyNoTake_X7_isHeap
set_option maxRecDepth 20000 in
theorem ggX7_whyNoTake_X7_within : GoodIn wsX7_whyNoTake wsX7_within := goodIn_r _ [9] (by decide +kernel) (by decide +kernel)
set_option maxRecDepth 20000 in
theorem gX7_whyNoTake_X7_within : GoodIn wsX7_whyNoTake (va_wsS RX7 119 yX7_within wsX7_within) := goodIn_app (goodIn_of _ (by decide +kernel)) ggX7_whyNoTake_X7_within
theorem dX7_whyNoTake_0 : decode cX7_whyNoTake 0 = .ok (.aload_n 0, 1) := by decide +kernel
theorem dX7_whyNoTake_1 : decode cX7_whyNoTake 1 = .ok (.iload_n 1, 1) := by decide +kernel
theorem dX7_whyNoTake_2 : decode cX7_whyNoTake 2 = .ok (.invokevirtual 126, 3) := by decide +kernel
theorem dX7_whyNoTake_5 : decode cX7_whyNoTake 5 = .ok (.ifCond .ne 7, 3) := by decide +kernel
theorem dX7_whyNoTake_8 : decode cX7_whyNoTake 8 = .ok (.iconst 1, 1) := by decide +kernel
theorem dX7_whyNoTake_9 : decode cX7_whyNoTake 9 = .ok (.goto 43, 3) := by decide +kernel
theorem dX7_whyNoTake_12 : decode cX7_whyNoTake 12 = .ok (.iload_n 2, 1) := by decide +kernel
theorem dX7_whyNoTake_13 : decode cX7_whyNoTake 13 = .ok (.iconst 1, 1) := by decide +kernel
theorem dX7_whyNoTake_14 : decode cX7_whyNoTake 14 = .ok (.iconst 5, 1) := by decide +kernel
theorem dX7_whyNoTake_15 : decode cX7_whyNoTake 15 = .ok (.invokestatic 119, 3) := by decide +kernel
theorem dX7_whyNoTake_18 : decode cX7_whyNoTake 18 = .ok (.ifCond .ne 7, 3) := by decide +kernel
theorem dX7_whyNoTake_21 : decode cX7_whyNoTake 21 = .ok (.iconst 2, 1) := by decide +kernel
theorem dX7_whyNoTake_22 : decode cX7_whyNoTake 22 = .ok (.goto 30, 3) := by decide +kernel
theorem dX7_whyNoTake_25 : decode cX7_whyNoTake 25 = .ok (.iload_n 2, 1) := by decide +kernel
theorem dX7_whyNoTake_26 : decode cX7_whyNoTake 26 = .ok (.aload_n 0, 1) := by decide +kernel
theorem dX7_whyNoTake_27 : decode cX7_whyNoTake 27 = .ok (.getfield 7, 3) := by decide +kernel
theorem dX7_whyNoTake_30 : decode cX7_whyNoTake 30 = .ok (.iconst 0, 1) := by decide +kernel
theorem dX7_whyNoTake_31 : decode cX7_whyNoTake 31 = .ok (.iaload, 1) := by decide +kernel
theorem dX7_whyNoTake_32 : decode cX7_whyNoTake 32 = .ok (.if_icmp .gt 15, 3) := by decide +kernel
theorem dX7_whyNoTake_35 : decode cX7_whyNoTake 35 = .ok (.iload_n 2, 1) := by decide +kernel
theorem dX7_whyNoTake_36 : decode cX7_whyNoTake 36 = .ok (.aload_n 0, 1) := by decide +kernel
theorem dX7_whyNoTake_37 : decode cX7_whyNoTake 37 = .ok (.getfield 7, 3) := by decide +kernel
theorem dX7_whyNoTake_40 : decode cX7_whyNoTake 40 = .ok (.iconst 5, 1) := by decide +kernel
theorem dX7_whyNoTake_41 : decode cX7_whyNoTake 41 = .ok (.iload_n 1, 1) := by decide +kernel
theorem dX7_whyNoTake_42 : decode cX7_whyNoTake 42 = .ok (.iadd, 1) := by decide +kernel
theorem dX7_whyNoTake_43 : decode cX7_whyNoTake 43 = .ok (.iaload, 1) := by decide +kernel
theorem dX7_whyNoTake_44 : decode cX7_whyNoTake 44 = .ok (.if_icmp .le 7, 3) := by decide +kernel
theorem dX7_whyNoTake_47 : decode cX7_whyNoTake 47 = .ok (.iconst 3, 1) := by decide +kernel
theorem dX7_whyNoTake_48 : decode cX7_whyNoTake 48 = .ok (.goto 4, 3) := by decide +kernel
theorem dX7_whyNoTake_51 : decode cX7_whyNoTake 51 = .ok (.iconst 0, 1) := by decide +kernel
theorem dX7_whyNoTake_52 : decode cX7_whyNoTake 52 = .ok (.ireturn, 1) := by decide +kernel
set_option maxRecDepth 20000 in
theorem ggX7_whyNoSplit_X7_isHeap : GoodIn wsX7_whyNoSplit wsX7_isHeap := goodIn_r _ [6, 1, 7, 8, 5, 9, 10, 11, 12, 13, 14, 15, 16, 17, 18, 19, 20, 21, 22, 23, 24, 25, 26, 27, 28, 29, 30, 31, 32, 33, 34, 35, 36] (by decide +kernel) (by decide +kernel)
set_option maxRecDepth 20000 in
theorem gX7_whyNoSplit_X7_isHeap : GoodIn wsX7_whyNoSplit (wsV RX7 126 RX7 yX7_isHeap wsX7_isHeap) := goodIn_app (goodIn_of _ (by decide +kernel)) ggX7_whyNoSplit_X7_isHeap
set_option maxRecDepth 20000 in
theorem ggX7_whyNoSplit_X7_within : GoodIn wsX7_whyNoSplit wsX7_within := goodIn_r _ [9] (by decide +kernel) (by decide +kernel)
set_option maxRecDepth 20000 in
theorem gX7_whyNoSplit_X7_within : GoodIn wsX7_whyNoSplit (va_wsS RX7 119 yX7_within wsX7_within) := goodIn_app (goodIn_of _ (by decide +kernel)) ggX7_whyNoSplit_X7_within
theorem dX7_whyNoSplit_0 : decode cX7_whyNoSplit 0 = .ok (.aload_n 0, 1) := by decide +kernel
theorem dX7_whyNoSplit_1 : decode cX7_whyNoSplit 1 = .ok (.iload_n 1, 1) := by decide +kernel
theorem dX7_whyNoSplit_2 : decode cX7_whyNoSplit 2 = .ok (.invokevirtual 126, 3) := by decide +kernel
theorem dX7_whyNoSplit_5 : decode cX7_whyNoSplit 5 = .ok (.ifCond .ne 7, 3) := by decide +kernel
theorem dX7_whyNoSplit_8 : decode cX7_whyNoSplit 8 = .ok (.iconst 1, 1) := by decide +kernel
theorem dX7_whyNoSplit_9 : decode cX7_whyNoSplit 9 = .ok (.goto 45, 3) := by decide +kernel
theorem dX7_whyNoSplit_12 : decode cX7_whyNoSplit 12 = .ok (.iload_n 2, 1) := by decide +kernel
theorem dX7_whyNoSplit_13 : decode cX7_whyNoSplit 13 = .ok (.iconst 1, 1) := by decide +kernel
theorem dX7_whyNoSplit_14 : decode cX7_whyNoSplit 14 = .ok (.bipush 6, 2) := by decide +kernel
theorem dX7_whyNoSplit_16 : decode cX7_whyNoSplit 16 = .ok (.invokestatic 119, 3) := by decide +kernel
theorem dX7_whyNoSplit_19 : decode cX7_whyNoSplit 19 = .ok (.ifCond .ne 7, 3) := by decide +kernel
theorem dX7_whyNoSplit_22 : decode cX7_whyNoSplit 22 = .ok (.iconst 2, 1) := by decide +kernel
theorem dX7_whyNoSplit_23 : decode cX7_whyNoSplit 23 = .ok (.goto 31, 3) := by decide +kernel
theorem dX7_whyNoSplit_26 : decode cX7_whyNoSplit 26 = .ok (.aload_n 0, 1) := by decide +kernel
theorem dX7_whyNoSplit_27 : decode cX7_whyNoSplit 27 = .ok (.getfield 7, 3) := by decide +kernel
theorem dX7_whyNoSplit_30 : decode cX7_whyNoSplit 30 = .ok (.iconst 1, 1) := by decide +kernel
theorem dX7_whyNoSplit_31 : decode cX7_whyNoSplit 31 = .ok (.iaload, 1) := by decide +kernel
theorem dX7_whyNoSplit_32 : decode cX7_whyNoSplit 32 = .ok (.ifCond .eq 17, 3) := by decide +kernel
theorem dX7_whyNoSplit_35 : decode cX7_whyNoSplit 35 = .ok (.iconst 2, 1) := by decide +kernel
theorem dX7_whyNoSplit_36 : decode cX7_whyNoSplit 36 = .ok (.iload_n 2, 1) := by decide +kernel
theorem dX7_whyNoSplit_37 : decode cX7_whyNoSplit 37 = .ok (.imul, 1) := by decide +kernel
theorem dX7_whyNoSplit_38 : decode cX7_whyNoSplit 38 = .ok (.aload_n 0, 1) := by decide +kernel
theorem dX7_whyNoSplit_39 : decode cX7_whyNoSplit 39 = .ok (.getfield 7, 3) := by decide +kernel
theorem dX7_whyNoSplit_42 : decode cX7_whyNoSplit 42 = .ok (.iconst 5, 1) := by decide +kernel
theorem dX7_whyNoSplit_43 : decode cX7_whyNoSplit 43 = .ok (.iload_n 1, 1) := by decide +kernel
theorem dX7_whyNoSplit_44 : decode cX7_whyNoSplit 44 = .ok (.iadd, 1) := by decide +kernel
theorem dX7_whyNoSplit_45 : decode cX7_whyNoSplit 45 = .ok (.iaload, 1) := by decide +kernel
theorem dX7_whyNoSplit_46 : decode cX7_whyNoSplit 46 = .ok (.if_icmp .le 7, 3) := by decide +kernel
theorem dX7_whyNoSplit_49 : decode cX7_whyNoSplit 49 = .ok (.iconst 3, 1) := by decide +kernel
theorem dX7_whyNoSplit_50 : decode cX7_whyNoSplit 50 = .ok (.goto 4, 3) := by decide +kernel
theorem dX7_whyNoSplit_53 : decode cX7_whyNoSplit 53 = .ok (.iconst 0, 1) := by decide +kernel
theorem dX7_whyNoSplit_54 : decode cX7_whyNoSplit 54 = .ok (.ireturn, 1) := by decide +kernel
set_option maxRecDepth 20000 in
theorem ggX7_whyNoMerge_X7_isHeap : GoodIn wsX7_whyNoMerge wsX7_isHeap := goodIn_r _ [6, 1, 7, 8, 5, 9, 10, 11, 12, 13, 14, 15, 16, 17, 18, 19, 20, 21, 22, 23, 24, 25, 26, 27, 28, 29, 30, 31, 32, 33, 34, 35, 36] (by decide +kernel) (by decide +kernel)
set_option maxRecDepth 20000 in
theorem gX7_whyNoMerge_X7_isHeap : GoodIn wsX7_whyNoMerge (wsV RX7 126 RX7 yX7_isHeap wsX7_isHeap) := goodIn_app (goodIn_of _ (by decide +kernel)) ggX7_whyNoMerge_X7_isHeap
theorem dX7_whyNoMerge_0 : decode cX7_whyNoMerge 0 = .ok (.aload_n 0, 1) := by decide +kernel
theorem dX7_whyNoMerge_1 : decode cX7_whyNoMerge 1 = .ok (.iload_n 1, 1) := by decide +kernel
theorem dX7_whyNoMerge_2 : decode cX7_whyNoMerge 2 = .ok (.invokevirtual 126, 3) := by decide +kernel
theorem dX7_whyNoMerge_5 : decode cX7_whyNoMerge 5 = .ok (.ifCond .eq 11, 3) := by decide +kernel
theorem dX7_whyNoMerge_8 : decode cX7_whyNoMerge 8 = .ok (.aload_n 0, 1) := by decide +kernel
theorem dX7_whyNoMerge_9 : decode cX7_whyNoMerge 9 = .ok (.iload_n 2, 1) := by decide +kernel
theorem dX7_whyNoMerge_10 : decode cX7_whyNoMerge 10 = .ok (.invokevirtual 126, 3) := by decide +kernel
theorem dX7_whyNoMerge_13 : decode cX7_whyNoMerge 13 = .ok (.ifCond .ne 7, 3) := by decide +kernel
theorem dX7_whyNoMerge_16 : decode cX7_whyNoMerge 16 = .ok (.iconst 1, 1) := by decide +kernel
theorem dX7_whyNoMerge_17 : decode cX7_whyNoMerge 17 = .ok (.goto 27, 3) := by decide +kernel
theorem dX7_whyNoMerge_20 : decode cX7_whyNoMerge 20 = .ok (.iload_n 1, 1) := by decide +kernel
theorem dX7_whyNoMerge_21 : decode cX7_whyNoMerge 21 = .ok (.iload_n 2, 1) := by decide +kernel
theorem dX7_whyNoMerge_22 : decode cX7_whyNoMerge 22 = .ok (.if_icmp .ne 7, 3) := by decide +kernel
theorem dX7_whyNoMerge_25 : decode cX7_whyNoMerge 25 = .ok (.iconst 2, 1) := by decide +kernel
theorem dX7_whyNoMerge_26 : decode cX7_whyNoMerge 26 = .ok (.goto 18, 3) := by decide +kernel
theorem dX7_whyNoMerge_29 : decode cX7_whyNoMerge 29 = .ok (.aload_n 0, 1) := by decide +kernel
theorem dX7_whyNoMerge_30 : decode cX7_whyNoMerge 30 = .ok (.getfield 7, 3) := by decide +kernel
theorem dX7_whyNoMerge_33 : decode cX7_whyNoMerge 33 = .ok (.iconst 2, 1) := by decide +kernel
theorem dX7_whyNoMerge_34 : decode cX7_whyNoMerge 34 = .ok (.iaload, 1) := by decide +kernel
theorem dX7_whyNoMerge_35 : decode cX7_whyNoMerge 35 = .ok (.iconst 1, 1) := by decide +kernel
theorem dX7_whyNoMerge_36 : decode cX7_whyNoMerge 36 = .ok (.if_icmp .ne 7, 3) := by decide +kernel
theorem dX7_whyNoMerge_39 : decode cX7_whyNoMerge 39 = .ok (.iconst 0, 1) := by decide +kernel
theorem dX7_whyNoMerge_40 : decode cX7_whyNoMerge 40 = .ok (.goto 4, 3) := by decide +kernel
theorem dX7_whyNoMerge_43 : decode cX7_whyNoMerge 43 = .ok (.iconst 3, 1) := by decide +kernel
theorem dX7_whyNoMerge_44 : decode cX7_whyNoMerge 44 = .ok (.ireturn, 1) := by decide +kernel
set_option maxRecDepth 20000 in
theorem ggX7_makes_X7_looks : GoodIn wsX7_makes wsX7_looks := goodIn_r _ [8, 1, 9, 2, 10, 3, 11, 12, 13, 7, 14, 15, 16, 17, 18, 19, 20, 21, 22, 23, 24, 25, 26, 27, 28, 29, 30, 31, 32, 33, 34, 35, 36, 37, 38, 39, 40, 41, 42, 43, 44, 45, 46, 47, 48, 49, 50, 51, 52, 53, 54, 55, 56, 57, 58, 59, 60, 61, 62, 63, 64, 65, 66, 67, 68, 69, 70, 71, 72, 73, 74, 75, 76, 77, 78, 79, 80, 81, 82, 83, 84, 85] (by decide +kernel) (by decide +kernel)
set_option maxRecDepth 20000 in
theorem gX7_makes_X7_looks : GoodIn wsX7_makes (wsV RX7 129 RX7 yX7_looks wsX7_looks) := goodIn_app (goodIn_of _ (by decide +kernel)) ggX7_makes_X7_looks
set_option maxRecDepth 20000 in
theorem ggX7_makes_X7_goes : GoodIn wsX7_makes wsX7_goes := goodIn_r _ [49, 2, 9, 10, 3, 59, 60, 61, 62, 63, 64, 65, 66, 67, 68, 69, 70, 71, 72, 73, 74, 75, 76, 77, 78, 79, 80, 81, 82, 83, 84, 85] (by decide +kernel) (by decide +kernel)
set_option maxRecDepth 20000 in
theorem gX7_makes_X7_goes : GoodIn wsX7_makes (wsV RX7 86 RX7 yX7_goes wsX7_goes) := goodIn_app (goodIn_of _ (by decide +kernel)) ggX7_makes_X7_goes
theorem dX7_makes_0 : decode cX7_makes 0 = .ok (.aload_n 0, 1) := by decide +kernel
theorem dX7_makes_1 : decode cX7_makes 1 = .ok (.invokevirtual 129, 3) := by decide +kernel
theorem dX7_makes_4 : decode cX7_makes 4 = .ok (.pop, 1) := by decide +kernel
theorem dX7_makes_5 : decode cX7_makes 5 = .ok (.iload_n 1, 1) := by decide +kernel
theorem dX7_makes_6 : decode cX7_makes 6 = .ok (.iconst 2, 1) := by decide +kernel
theorem dX7_makes_7 : decode cX7_makes 7 = .ok (.if_icmp .ne 12, 3) := by decide +kernel
theorem dX7_makes_10 : decode cX7_makes 10 = .ok (.iload_n 3, 1) := by decide +kernel
theorem dX7_makes_11 : decode cX7_makes 11 = .ok (.iload_n 2, 1) := by decide +kernel
theorem dX7_makes_12 : decode cX7_makes 12 = .ok (.if_icmp .ge 7, 3) := by decide +kernel
theorem dX7_makes_15 : decode cX7_makes 15 = .ok (.iload_n 3, 1) := by decide +kernel
theorem dX7_makes_16 : decode cX7_makes 16 = .ok (.goto 4, 3) := by decide +kernel
theorem dX7_makes_19 : decode cX7_makes 19 = .ok (.iload_n 2, 1) := by decide +kernel
theorem dX7_makes_20 : decode cX7_makes 20 = .ok (.istore 4, 2) := by decide +kernel
theorem dX7_makes_22 : decode cX7_makes 22 = .ok (.iload_n 1, 1) := by decide +kernel
theorem dX7_makes_23 : decode cX7_makes 23 = .ok (.iconst 2, 1) := by decide +kernel
theorem dX7_makes_24 : decode cX7_makes 24 = .ok (.if_icmp .ne 12, 3) := by decide +kernel
theorem dX7_makes_27 : decode cX7_makes 27 = .ok (.iload_n 3, 1) := by decide +kernel
theorem dX7_makes_28 : decode cX7_makes 28 = .ok (.iload_n 2, 1) := by decide +kernel
theorem dX7_makes_29 : decode cX7_makes 29 = .ok (.if_icmp .ge 7, 3) := by decide +kernel
theorem dX7_makes_32 : decode cX7_makes 32 = .ok (.iload_n 2, 1) := by decide +kernel
theorem dX7_makes_33 : decode cX7_makes 33 = .ok (.goto 4, 3) := by decide +kernel
theorem dX7_makes_36 : decode cX7_makes 36 = .ok (.iload_n 3, 1) := by decide +kernel
theorem dX7_makes_37 : decode cX7_makes 37 = .ok (.istore 5, 2) := by decide +kernel
theorem dX7_makes_39 : decode cX7_makes 39 = .ok (.aload_n 0, 1) := by decide +kernel
theorem dX7_makes_40 : decode cX7_makes 40 = .ok (.iload_n 1, 1) := by decide +kernel
theorem dX7_makes_41 : decode cX7_makes 41 = .ok (.iload 4, 2) := by decide +kernel
theorem dX7_makes_43 : decode cX7_makes 43 = .ok (.iload 5, 2) := by decide +kernel
theorem dX7_makes_45 : decode cX7_makes 45 = .ok (.invokevirtual 86, 3) := by decide +kernel
theorem dX7_makes_48 : decode cX7_makes 48 = .ok (.aload_n 0, 1) := by decide +kernel
theorem dX7_makes_49 : decode cX7_makes 49 = .ok (.getfield 7, 3) := by decide +kernel
theorem dX7_makes_52 : decode cX7_makes 52 = .ok (.iconst 4, 1) := by decide +kernel
theorem dX7_makes_53 : decode cX7_makes 53 = .ok (.aload_n 0, 1) := by decide +kernel
theorem dX7_makes_54 : decode cX7_makes 54 = .ok (.getfield 70, 3) := by decide +kernel
theorem dX7_makes_57 : decode cX7_makes 57 = .ok (.iastore, 1) := by decide +kernel
theorem dX7_makes_58 : decode cX7_makes 58 = .ok (.iconst 0, 1) := by decide +kernel
theorem dX7_makes_59 : decode cX7_makes 59 = .ok (.istore 6, 2) := by decide +kernel
theorem dX7_makes_61 : decode cX7_makes 61 = .ok (.iload 6, 2) := by decide +kernel
theorem dX7_makes_63 : decode cX7_makes 63 = .ok (.bipush 12, 2) := by decide +kernel
theorem dX7_makes_65 : decode cX7_makes 65 = .ok (.if_icmp .ge 38, 3) := by decide +kernel
theorem dX7_makes_68 : decode cX7_makes 68 = .ok (.aload_n 0, 1) := by decide +kernel
theorem dX7_makes_69 : decode cX7_makes 69 = .ok (.getfield 7, 3) := by decide +kernel
theorem dX7_makes_72 : decode cX7_makes 72 = .ok (.iconst 5, 1) := by decide +kernel
theorem dX7_makes_73 : decode cX7_makes 73 = .ok (.iload 6, 2) := by decide +kernel
theorem dX7_makes_75 : decode cX7_makes 75 = .ok (.iadd, 1) := by decide +kernel
theorem dX7_makes_76 : decode cX7_makes 76 = .ok (.iload 6, 2) := by decide +kernel
theorem dX7_makes_78 : decode cX7_makes 78 = .ok (.aload_n 0, 1) := by decide +kernel
theorem dX7_makes_79 : decode cX7_makes 79 = .ok (.getfield 70, 3) := by decide +kernel
theorem dX7_makes_82 : decode cX7_makes 82 = .ok (.if_icmp .ge 13, 3) := by decide +kernel
theorem dX7_makes_85 : decode cX7_makes 85 = .ok (.aload_n 0, 1) := by decide +kernel
theorem dX7_makes_86 : decode cX7_makes 86 = .ok (.getfield 49, 3) := by decide +kernel
theorem dX7_makes_89 : decode cX7_makes 89 = .ok (.iload 6, 2) := by decide +kernel
theorem dX7_makes_91 : decode cX7_makes 91 = .ok (.iaload, 1) := by decide +kernel
theorem dX7_makes_92 : decode cX7_makes 92 = .ok (.goto 4, 3) := by decide +kernel
theorem dX7_makes_95 : decode cX7_makes 95 = .ok (.iconst 0, 1) := by decide +kernel
theorem dX7_makes_96 : decode cX7_makes 96 = .ok (.iastore, 1) := by decide +kernel
theorem dX7_makes_97 : decode cX7_makes 97 = .ok (.iinc 6 1, 3) := by decide +kernel
theorem dX7_makes_100 : decode cX7_makes 100 = .ok (.goto (-39), 3) := by decide +kernel
theorem dX7_makes_103 : decode cX7_makes 103 = .ok (.aload_n 0, 1) := by decide +kernel
theorem dX7_makes_104 : decode cX7_makes 104 = .ok (.getfield 7, 3) := by decide +kernel
theorem dX7_makes_107 : decode cX7_makes 107 = .ok (.bipush 17, 2) := by decide +kernel
theorem dX7_makes_109 : decode cX7_makes 109 = .ok (.iload_n 1, 1) := by decide +kernel
theorem dX7_makes_110 : decode cX7_makes 110 = .ok (.iadd, 1) := by decide +kernel
theorem dX7_makes_111 : decode cX7_makes 111 = .ok (.dup2, 1) := by decide +kernel
theorem dX7_makes_112 : decode cX7_makes 112 = .ok (.iaload, 1) := by decide +kernel
theorem dX7_makes_113 : decode cX7_makes 113 = .ok (.iconst 1, 1) := by decide +kernel
theorem dX7_makes_114 : decode cX7_makes 114 = .ok (.iadd, 1) := by decide +kernel
theorem dX7_makes_115 : decode cX7_makes 115 = .ok (.iastore, 1) := by decide +kernel
theorem dX7_makes_116 : decode cX7_makes 116 = .ok (.return_, 1) := by decide +kernel
set_option maxRecDepth 20000 in
theorem ggX7_take_X7_whyNoTake : GoodIn wsX7_take wsX7_whyNoTake := goodIn_r _ [6, 7, 8, 9, 10, 5, 11, 12, 13, 14, 85, 86, 87, 88, 89, 90, 91, 92, 93, 94, 95, 96, 97, 98, 99, 100, 101, 102, 103, 104, 105, 106, 107, 108, 109, 110, 111] (by decide +kernel) (by decide +kernel)
set_option maxRecDepth 20000 in
theorem gX7_take_X7_whyNoTake : GoodIn wsX7_take (wsV RX7 132 RX7 yX7_whyNoTake wsX7_whyNoTake) := goodIn_app (goodIn_of _ (by decide +kernel)) ggX7_take_X7_whyNoTake
set_option maxRecDepth 20000 in
theorem ggX7_take_X7_record : GoodIn wsX7_take wsX7_record := goodIn_r _ [18, 19, 20, 7, 85, 86, 87, 88, 89, 90, 91, 92, 93, 94, 95, 96, 97, 98, 99, 100, 101, 102, 103, 104, 105, 106, 107, 108, 109, 110, 111] (by decide +kernel) (by decide +kernel)
set_option maxRecDepth 20000 in
theorem gX7_take_X7_record : GoodIn wsX7_take (wsV RX7 113 RX7 yX7_record wsX7_record) := goodIn_app (goodIn_of _ (by decide +kernel)) ggX7_take_X7_record
set_option maxRecDepth 20000 in
theorem ggX7_take_X7_makes : GoodIn wsX7_take wsX7_makes := goodIn_r _ [24, 7, 25, 26, 27, 28, 29, 5, 30, 31, 32, 33, 34, 35, 36, 37, 38, 39, 40, 41, 42, 43, 44, 45, 46, 47, 48, 49, 50, 51, 52, 53, 54, 55, 56, 57, 58, 59, 60, 61, 62, 63, 64, 65, 66, 67, 68, 69, 70, 71, 72, 73, 74, 75, 76, 77, 78, 79, 80, 85, 86, 87, 88, 89, 90, 91, 92, 93, 94, 95, 96, 97, 98, 99, 100, 101, 102, 103, 104, 105, 106, 107, 108, 109, 110, 111] (by decide +kernel) (by decide +kernel)
set_option maxRecDepth 20000 in
theorem gX7_take_X7_makes : GoodIn wsX7_take (wsV RX7 136 RX7 yX7_makes wsX7_makes) := goodIn_app (goodIn_of _ (by decide +kernel)) ggX7_take_X7_makes
set_option maxRecDepth 20000 in
theorem ggX7_take_X7_sum : GoodIn wsX7_take wsX7_sum := goodIn_r _ [84, 7, 85, 86, 87, 88, 89, 90, 91, 92, 93, 94, 95, 96, 97, 98, 99, 100, 101, 102, 103, 104, 105, 106, 107, 108, 109, 110, 111] (by decide +kernel) (by decide +kernel)
set_option maxRecDepth 20000 in
theorem gX7_take_X7_sum : GoodIn wsX7_take (wsV RX7 116 RX7 yX7_sum wsX7_sum) := goodIn_app (goodIn_of _ (by decide +kernel)) ggX7_take_X7_sum
theorem dX7_take_0 : decode cX7_take 0 = .ok (.aload_n 0, 1) := by decide +kernel
theorem dX7_take_1 : decode cX7_take 1 = .ok (.aload_n 0, 1) := by decide +kernel
theorem dX7_take_2 : decode cX7_take 2 = .ok (.iload_n 1, 1) := by decide +kernel
theorem dX7_take_3 : decode cX7_take 3 = .ok (.iload_n 2, 1) := by decide +kernel
theorem dX7_take_4 : decode cX7_take 4 = .ok (.invokevirtual 132, 3) := by decide +kernel
theorem dX7_take_7 : decode cX7_take 7 = .ok (.putfield 60, 3) := by decide +kernel
theorem dX7_take_10 : decode cX7_take 10 = .ok (.aload_n 0, 1) := by decide +kernel
theorem dX7_take_11 : decode cX7_take 11 = .ok (.getfield 60, 3) := by decide +kernel
theorem dX7_take_14 : decode cX7_take 14 = .ok (.ifCond .le 5, 3) := by decide +kernel
theorem dX7_take_17 : decode cX7_take 17 = .ok (.iconst 0, 1) := by decide +kernel
theorem dX7_take_18 : decode cX7_take 18 = .ok (.ireturn, 1) := by decide +kernel
theorem dX7_take_19 : decode cX7_take 19 = .ok (.aload_n 0, 1) := by decide +kernel
theorem dX7_take_20 : decode cX7_take 20 = .ok (.invokevirtual 113, 3) := by decide +kernel
theorem dX7_take_23 : decode cX7_take 23 = .ok (.aload_n 0, 1) := by decide +kernel
theorem dX7_take_24 : decode cX7_take 24 = .ok (.iconst 0, 1) := by decide +kernel
theorem dX7_take_25 : decode cX7_take 25 = .ok (.iload_n 1, 1) := by decide +kernel
theorem dX7_take_26 : decode cX7_take 26 = .ok (.iload_n 2, 1) := by decide +kernel
theorem dX7_take_27 : decode cX7_take 27 = .ok (.invokevirtual 136, 3) := by decide +kernel
theorem dX7_take_30 : decode cX7_take 30 = .ok (.aload_n 0, 1) := by decide +kernel
theorem dX7_take_31 : decode cX7_take 31 = .ok (.invokevirtual 116, 3) := by decide +kernel
theorem dX7_take_34 : decode cX7_take 34 = .ok (.ireturn, 1) := by decide +kernel
set_option maxRecDepth 20000 in
theorem ggX7_split_X7_whyNoSplit : GoodIn wsX7_split wsX7_whyNoSplit := goodIn_r _ [7, 2, 8, 9, 10, 6, 11, 12, 13, 14, 81, 82, 83, 84, 85, 86, 87, 88, 89, 90, 91, 92, 93, 94, 95, 96, 97, 98, 99, 100, 101, 102, 103, 104, 105, 106, 107] (by decide +kernel) (by decide +kernel)
set_option maxRecDepth 20000 in
theorem gX7_split_X7_whyNoSplit : GoodIn wsX7_split (wsV RX7 139 RX7 yX7_whyNoSplit wsX7_whyNoSplit) := goodIn_app (goodIn_of _ (by decide +kernel)) ggX7_split_X7_whyNoSplit
set_option maxRecDepth 20000 in
theorem ggX7_split_X7_record : GoodIn wsX7_split wsX7_record := goodIn_r _ [18, 19, 20, 2, 81, 82, 83, 84, 85, 86, 87, 88, 89, 90, 91, 92, 93, 94, 95, 96, 97, 98, 99, 100, 101, 102, 103, 104, 105, 106, 107] (by decide +kernel) (by decide +kernel)
set_option maxRecDepth 20000 in
theorem gX7_split_X7_record : GoodIn wsX7_split (wsV RX7 113 RX7 yX7_record wsX7_record) := goodIn_app (goodIn_of _ (by decide +kernel)) ggX7_split_X7_record
set_option maxRecDepth 20000 in
theorem ggX7_split_X7_makes : GoodIn wsX7_split wsX7_makes := goodIn_r _ [24, 2, 25, 26, 27, 28, 29, 6, 30, 31, 32, 33, 34, 35, 36, 37, 38, 39, 40, 41, 42, 43, 44, 45, 46, 47, 48, 49, 50, 51, 52, 53, 54, 55, 56, 57, 58, 59, 60, 61, 62, 63, 64, 65, 66, 67, 68, 69, 70, 71, 72, 73, 74, 75, 76, 77, 78, 79, 80, 81, 82, 83, 84, 85, 86, 87, 88, 89, 90, 91, 92, 93, 94, 95, 96, 97, 98, 99, 100, 101, 102, 103, 104, 105, 106, 107] (by decide +kernel) (by decide +kernel)
set_option maxRecDepth 20000 in
theorem gX7_split_X7_makes : GoodIn wsX7_split (wsV RX7 136 RX7 yX7_makes wsX7_makes) := goodIn_app (goodIn_of _ (by decide +kernel)) ggX7_split_X7_makes
theorem dX7_split_0 : decode cX7_split 0 = .ok (.aload_n 0, 1) := by decide +kernel
theorem dX7_split_1 : decode cX7_split 1 = .ok (.aload_n 0, 1) := by decide +kernel
theorem dX7_split_2 : decode cX7_split 2 = .ok (.iload_n 1, 1) := by decide +kernel
theorem dX7_split_3 : decode cX7_split 3 = .ok (.iload_n 2, 1) := by decide +kernel
theorem dX7_split_4 : decode cX7_split 4 = .ok (.invokevirtual 139, 3) := by decide +kernel
theorem dX7_split_7 : decode cX7_split 7 = .ok (.putfield 60, 3) := by decide +kernel
theorem dX7_split_10 : decode cX7_split 10 = .ok (.aload_n 0, 1) := by decide +kernel
theorem dX7_split_11 : decode cX7_split 11 = .ok (.getfield 60, 3) := by decide +kernel
theorem dX7_split_14 : decode cX7_split 14 = .ok (.ifCond .le 5, 3) := by decide +kernel
theorem dX7_split_17 : decode cX7_split 17 = .ok (.iconst 0, 1) := by decide +kernel
theorem dX7_split_18 : decode cX7_split 18 = .ok (.ireturn, 1) := by decide +kernel
theorem dX7_split_19 : decode cX7_split 19 = .ok (.aload_n 0, 1) := by decide +kernel
theorem dX7_split_20 : decode cX7_split 20 = .ok (.invokevirtual 113, 3) := by decide +kernel
theorem dX7_split_23 : decode cX7_split 23 = .ok (.aload_n 0, 1) := by decide +kernel
theorem dX7_split_24 : decode cX7_split 24 = .ok (.iconst 1, 1) := by decide +kernel
theorem dX7_split_25 : decode cX7_split 25 = .ok (.iload_n 1, 1) := by decide +kernel
theorem dX7_split_26 : decode cX7_split 26 = .ok (.iload_n 2, 1) := by decide +kernel
theorem dX7_split_27 : decode cX7_split 27 = .ok (.invokevirtual 136, 3) := by decide +kernel
theorem dX7_split_30 : decode cX7_split 30 = .ok (.aload_n 0, 1) := by decide +kernel
theorem dX7_split_31 : decode cX7_split 31 = .ok (.getfield 7, 3) := by decide +kernel
theorem dX7_split_34 : decode cX7_split 34 = .ok (.iconst 4, 1) := by decide +kernel
theorem dX7_split_35 : decode cX7_split 35 = .ok (.iaload, 1) := by decide +kernel
theorem dX7_split_36 : decode cX7_split 36 = .ok (.ireturn, 1) := by decide +kernel
set_option maxRecDepth 20000 in
theorem ggX7_merge_X7_whyNoMerge : GoodIn wsX7_merge wsX7_whyNoMerge := goodIn_r _ [7, 2, 8, 9, 10, 6, 11, 12, 13, 14, 81, 82, 83, 84, 85, 86, 87, 88, 89, 90, 91, 92, 93, 94, 95, 96, 97, 98, 99, 100, 101, 102, 103, 104, 105, 106, 107] (by decide +kernel) (by decide +kernel)
set_option maxRecDepth 20000 in
theorem gX7_merge_X7_whyNoMerge : GoodIn wsX7_merge (wsV RX7 142 RX7 yX7_whyNoMerge wsX7_whyNoMerge) := goodIn_app (goodIn_of _ (by decide +kernel)) ggX7_merge_X7_whyNoMerge
set_option maxRecDepth 20000 in
theorem ggX7_merge_X7_record : GoodIn wsX7_merge wsX7_record := goodIn_r _ [18, 19, 20, 2, 81, 82, 83, 84, 85, 86, 87, 88, 89, 90, 91, 92, 93, 94, 95, 96, 97, 98, 99, 100, 101, 102, 103, 104, 105, 106, 107] (by decide +kernel) (by decide +kernel)
set_option maxRecDepth 20000 in
theorem gX7_merge_X7_record : GoodIn wsX7_merge (wsV RX7 113 RX7 yX7_record wsX7_record) := goodIn_app (goodIn_of _ (by decide +kernel)) ggX7_merge_X7_record
set_option maxRecDepth 20000 in
theorem ggX7_merge_X7_makes : GoodIn wsX7_merge wsX7_makes := goodIn_r _ [24, 2, 25, 26, 27, 28, 29, 6, 30, 31, 32, 33, 34, 35, 36, 37, 38, 39, 40, 41, 42, 43, 44, 45, 46, 47, 48, 49, 50, 51, 52, 53, 54, 55, 56, 57, 58, 59, 60, 61, 62, 63, 64, 65, 66, 67, 68, 69, 70, 71, 72, 73, 74, 75, 76, 77, 78, 79, 80, 81, 82, 83, 84, 85, 86, 87, 88, 89, 90, 91, 92, 93, 94, 95, 96, 97, 98, 99, 100, 101, 102, 103, 104, 105, 106, 107] (by decide +kernel) (by decide +kernel)
set_option maxRecDepth 20000 in
theorem gX7_merge_X7_makes : GoodIn wsX7_merge (wsV RX7 136 RX7 yX7_makes wsX7_makes) := goodIn_app (goodIn_of _ (by decide +kernel)) ggX7_merge_X7_makes
theorem dX7_merge_0 : decode cX7_merge 0 = .ok (.aload_n 0, 1) := by decide +kernel
theorem dX7_merge_1 : decode cX7_merge 1 = .ok (.aload_n 0, 1) := by decide +kernel
theorem dX7_merge_2 : decode cX7_merge 2 = .ok (.iload_n 1, 1) := by decide +kernel
theorem dX7_merge_3 : decode cX7_merge 3 = .ok (.iload_n 2, 1) := by decide +kernel
theorem dX7_merge_4 : decode cX7_merge 4 = .ok (.invokevirtual 142, 3) := by decide +kernel
theorem dX7_merge_7 : decode cX7_merge 7 = .ok (.putfield 60, 3) := by decide +kernel
theorem dX7_merge_10 : decode cX7_merge 10 = .ok (.aload_n 0, 1) := by decide +kernel
theorem dX7_merge_11 : decode cX7_merge 11 = .ok (.getfield 60, 3) := by decide +kernel
theorem dX7_merge_14 : decode cX7_merge 14 = .ok (.ifCond .le 5, 3) := by decide +kernel
theorem dX7_merge_17 : decode cX7_merge 17 = .ok (.iconst 0, 1) := by decide +kernel
theorem dX7_merge_18 : decode cX7_merge 18 = .ok (.ireturn, 1) := by decide +kernel
theorem dX7_merge_19 : decode cX7_merge 19 = .ok (.aload_n 0, 1) := by decide +kernel
theorem dX7_merge_20 : decode cX7_merge 20 = .ok (.invokevirtual 113, 3) := by decide +kernel
theorem dX7_merge_23 : decode cX7_merge 23 = .ok (.aload_n 0, 1) := by decide +kernel
theorem dX7_merge_24 : decode cX7_merge 24 = .ok (.iconst 2, 1) := by decide +kernel
theorem dX7_merge_25 : decode cX7_merge 25 = .ok (.iload_n 1, 1) := by decide +kernel
theorem dX7_merge_26 : decode cX7_merge 26 = .ok (.iload_n 2, 1) := by decide +kernel
theorem dX7_merge_27 : decode cX7_merge 27 = .ok (.invokevirtual 136, 3) := by decide +kernel
theorem dX7_merge_30 : decode cX7_merge 30 = .ok (.aload_n 0, 1) := by decide +kernel
theorem dX7_merge_31 : decode cX7_merge 31 = .ok (.getfield 7, 3) := by decide +kernel
theorem dX7_merge_34 : decode cX7_merge 34 = .ok (.iconst 5, 1) := by decide +kernel
theorem dX7_merge_35 : decode cX7_merge 35 = .ok (.iload_n 1, 1) := by decide +kernel
theorem dX7_merge_36 : decode cX7_merge 36 = .ok (.iload_n 2, 1) := by decide +kernel
theorem dX7_merge_37 : decode cX7_merge 37 = .ok (.if_icmp .ge 7, 3) := by decide +kernel
theorem dX7_merge_40 : decode cX7_merge 40 = .ok (.iload_n 1, 1) := by decide +kernel
theorem dX7_merge_41 : decode cX7_merge 41 = .ok (.goto 4, 3) := by decide +kernel
theorem dX7_merge_44 : decode cX7_merge 44 = .ok (.iload_n 2, 1) := by decide +kernel
theorem dX7_merge_45 : decode cX7_merge 45 = .ok (.iadd, 1) := by decide +kernel
theorem dX7_merge_46 : decode cX7_merge 46 = .ok (.iaload, 1) := by decide +kernel
theorem dX7_merge_47 : decode cX7_merge 47 = .ok (.ireturn, 1) := by decide +kernel
set_option maxRecDepth 20000 in
theorem ggX7_asksMove_X7_looks : GoodIn wsX7_asksMove wsX7_looks := goodIn_r _ [7, 8, 9, 10, 11, 12, 13, 14, 15, 6, 16, 17, 18, 19, 20, 21, 22, 1, 23, 24, 25, 26, 27, 28, 29, 30, 31, 32, 33, 34, 35, 36, 37, 38, 39, 40, 41, 42, 43, 44, 45, 46, 47, 48, 49, 50, 51, 52, 53, 54, 55, 56, 57, 58, 59, 63, 64, 65, 66, 67, 68, 69, 70, 71, 72, 73, 74, 75, 76, 77, 78, 79, 80, 81, 82, 83, 84, 85, 86, 87, 88, 89] (by decide +kernel) (by decide +kernel)
set_option maxRecDepth 20000 in
theorem gX7_asksMove_X7_looks : GoodIn wsX7_asksMove (wsV RX7 129 RX7 yX7_looks wsX7_looks) := goodIn_app (goodIn_of _ (by decide +kernel)) ggX7_asksMove_X7_looks
set_option maxRecDepth 20000 in
theorem ggX7_asksMove_X7_within : GoodIn wsX7_asksMove wsX7_within := goodIn_r _ [62] (by decide +kernel) (by decide +kernel)
set_option maxRecDepth 20000 in
theorem gX7_asksMove_X7_within : GoodIn wsX7_asksMove (va_wsS RX7 119 yX7_within wsX7_within) := goodIn_app (goodIn_of _ (by decide +kernel)) ggX7_asksMove_X7_within
theorem dX7_asksMove_0 : decode cX7_asksMove 0 = .ok (.aload_n 0, 1) := by decide +kernel
theorem dX7_asksMove_1 : decode cX7_asksMove 1 = .ok (.invokevirtual 129, 3) := by decide +kernel
theorem dX7_asksMove_4 : decode cX7_asksMove 4 = .ok (.pop, 1) := by decide +kernel
theorem dX7_asksMove_5 : decode cX7_asksMove 5 = .ok (.aload_n 0, 1) := by decide +kernel
theorem dX7_asksMove_6 : decode cX7_asksMove 6 = .ok (.iload_n 1, 1) := by decide +kernel
theorem dX7_asksMove_7 : decode cX7_asksMove 7 = .ok (.iconst 0, 1) := by decide +kernel
theorem dX7_asksMove_8 : decode cX7_asksMove 8 = .ok (.aload_n 0, 1) := by decide +kernel
theorem dX7_asksMove_9 : decode cX7_asksMove 9 = .ok (.getfield 76, 3) := by decide +kernel
theorem dX7_asksMove_12 : decode cX7_asksMove 12 = .ok (.iconst 1, 1) := by decide +kernel
theorem dX7_asksMove_13 : decode cX7_asksMove 13 = .ok (.isub, 1) := by decide +kernel
theorem dX7_asksMove_14 : decode cX7_asksMove 14 = .ok (.invokestatic 119, 3) := by decide +kernel
theorem dX7_asksMove_17 : decode cX7_asksMove 17 = .ok (.ifCond .eq 7, 3) := by decide +kernel
theorem dX7_asksMove_20 : decode cX7_asksMove 20 = .ok (.iconst 0, 1) := by decide +kernel
theorem dX7_asksMove_21 : decode cX7_asksMove 21 = .ok (.goto 4, 3) := by decide +kernel
theorem dX7_asksMove_24 : decode cX7_asksMove 24 = .ok (.iconst 1, 1) := by decide +kernel
theorem dX7_asksMove_25 : decode cX7_asksMove 25 = .ok (.putfield 60, 3) := by decide +kernel
theorem dX7_asksMove_28 : decode cX7_asksMove 28 = .ok (.aload_n 0, 1) := by decide +kernel
theorem dX7_asksMove_29 : decode cX7_asksMove 29 = .ok (.getfield 60, 3) := by decide +kernel
theorem dX7_asksMove_32 : decode cX7_asksMove 32 = .ok (.ifCond .ne 7, 3) := by decide +kernel
theorem dX7_asksMove_35 : decode cX7_asksMove 35 = .ok (.iconst 1, 1) := by decide +kernel
theorem dX7_asksMove_36 : decode cX7_asksMove 36 = .ok (.goto 4, 3) := by decide +kernel
theorem dX7_asksMove_39 : decode cX7_asksMove 39 = .ok (.iconst 0, 1) := by decide +kernel
theorem dX7_asksMove_40 : decode cX7_asksMove 40 = .ok (.ireturn, 1) := by decide +kernel
set_option maxRecDepth 20000 in
theorem ggX7_make_X7_asksMove : GoodIn wsX7_make wsX7_asksMove := goodIn_r _ [8, 9, 10, 11, 12, 13, 7, 14, 15, 16, 17, 18, 19, 20, 21, 22, 23, 24, 25, 26, 27, 28, 29, 30, 31, 32, 33, 34, 35, 36, 37, 38, 39, 40, 41, 42, 43, 44, 45, 46, 1, 2, 3, 47, 48, 49, 50, 51, 52, 53, 54, 55, 56, 57, 58, 59, 60, 61, 62, 63, 64, 65, 66, 77, 78, 79, 80, 81, 82, 83, 84, 85, 86, 87, 88, 89, 90, 91, 92, 93, 94, 95, 96, 97, 98, 99, 100, 101, 102, 103] (by decide +kernel) (by decide +kernel)
set_option maxRecDepth 20000 in
theorem gX7_make_X7_asksMove : GoodIn wsX7_make (wsV RX7 145 RX7 yX7_asksMove wsX7_asksMove) := goodIn_app (goodIn_of _ (by decide +kernel)) ggX7_make_X7_asksMove
set_option maxRecDepth 20000 in
theorem ggX7_make_X7_record : GoodIn wsX7_make wsX7_record := goodIn_r _ [70, 71, 72, 15, 77, 78, 79, 80, 81, 82, 83, 84, 85, 86, 87, 88, 89, 90, 91, 92, 93, 94, 95, 96, 97, 98, 99, 100, 101, 102, 103] (by decide +kernel) (by decide +kernel)
set_option maxRecDepth 20000 in
theorem gX7_make_X7_record : GoodIn wsX7_make (wsV RX7 113 RX7 yX7_record wsX7_record) := goodIn_app (goodIn_of _ (by decide +kernel)) ggX7_make_X7_record
set_option maxRecDepth 20000 in
theorem ggX7_make_X7_makes : GoodIn wsX7_make wsX7_makes := goodIn_r _ [76, 15, 17, 19, 11, 12, 13, 7, 14, 16, 18, 20, 21, 22, 23, 24, 25, 26, 27, 28, 29, 9, 30, 31, 32, 33, 34, 35, 36, 37, 38, 39, 40, 41, 42, 43, 44, 45, 46, 1, 2, 3, 47, 48, 49, 50, 51, 52, 53, 54, 55, 56, 57, 58, 59, 60, 61, 62, 63, 77, 78, 79, 80, 81, 82, 83, 84, 85, 86, 87, 88, 89, 90, 91, 92, 93, 94, 95, 96, 97, 98, 99, 100, 101, 102, 103] (by decide +kernel) (by decide +kernel)
set_option maxRecDepth 20000 in
theorem gX7_make_X7_makes : GoodIn wsX7_make (wsV RX7 136 RX7 yX7_makes wsX7_makes) := goodIn_app (goodIn_of _ (by decide +kernel)) ggX7_make_X7_makes
theorem dX7_make_0 : decode cX7_make 0 = .ok (.aload_n 0, 1) := by decide +kernel
theorem dX7_make_1 : decode cX7_make 1 = .ok (.iload_n 1, 1) := by decide +kernel
theorem dX7_make_2 : decode cX7_make 2 = .ok (.invokevirtual 145, 3) := by decide +kernel
theorem dX7_make_5 : decode cX7_make 5 = .ok (.ifCond .ne 5, 3) := by decide +kernel
theorem dX7_make_8 : decode cX7_make 8 = .ok (.iconst 0, 1) := by decide +kernel
theorem dX7_make_9 : decode cX7_make 9 = .ok (.ireturn, 1) := by decide +kernel
theorem dX7_make_10 : decode cX7_make 10 = .ok (.aload_n 0, 1) := by decide +kernel
theorem dX7_make_11 : decode cX7_make 11 = .ok (.invokevirtual 113, 3) := by decide +kernel
theorem dX7_make_14 : decode cX7_make 14 = .ok (.aload_n 0, 1) := by decide +kernel
theorem dX7_make_15 : decode cX7_make 15 = .ok (.getfield 40, 3) := by decide +kernel
theorem dX7_make_18 : decode cX7_make 18 = .ok (.iload_n 1, 1) := by decide +kernel
theorem dX7_make_19 : decode cX7_make 19 = .ok (.iaload, 1) := by decide +kernel
theorem dX7_make_20 : decode cX7_make 20 = .ok (.istore_n 2, 1) := by decide +kernel
theorem dX7_make_21 : decode cX7_make 21 = .ok (.aload_n 0, 1) := by decide +kernel
theorem dX7_make_22 : decode cX7_make 22 = .ok (.iload_n 2, 1) := by decide +kernel
theorem dX7_make_23 : decode cX7_make 23 = .ok (.aload_n 0, 1) := by decide +kernel
theorem dX7_make_24 : decode cX7_make 24 = .ok (.getfield 43, 3) := by decide +kernel
theorem dX7_make_27 : decode cX7_make 27 = .ok (.iload_n 1, 1) := by decide +kernel
theorem dX7_make_28 : decode cX7_make 28 = .ok (.iaload, 1) := by decide +kernel
theorem dX7_make_29 : decode cX7_make 29 = .ok (.aload_n 0, 1) := by decide +kernel
theorem dX7_make_30 : decode cX7_make 30 = .ok (.getfield 46, 3) := by decide +kernel
theorem dX7_make_33 : decode cX7_make 33 = .ok (.iload_n 1, 1) := by decide +kernel
theorem dX7_make_34 : decode cX7_make 34 = .ok (.iaload, 1) := by decide +kernel
theorem dX7_make_35 : decode cX7_make 35 = .ok (.invokevirtual 136, 3) := by decide +kernel
theorem dX7_make_38 : decode cX7_make 38 = .ok (.iload_n 2, 1) := by decide +kernel
theorem dX7_make_39 : decode cX7_make 39 = .ok (.ireturn, 1) := by decide +kernel
theorem dX7_tells_0 : decode cX7_tells 0 = .ok (.aload_n 0, 1) := by decide +kernel
theorem dX7_tells_1 : decode cX7_tells 1 = .ok (.iconst 0, 1) := by decide +kernel
theorem dX7_tells_2 : decode cX7_tells 2 = .ok (.putfield 60, 3) := by decide +kernel
theorem dX7_tells_5 : decode cX7_tells 5 = .ok (.iload_n 1, 1) := by decide +kernel
theorem dX7_tells_6 : decode cX7_tells 6 = .ok (.ireturn, 1) := by decide +kernel
set_option maxRecDepth 20000 in
theorem ggX7_heaps_X7_tells : GoodIn wsX7_heaps wsX7_tells := goodIn_r _ [6, 7, 8, 9, 10, 11, 12, 13, 14, 15, 16, 17, 18, 19, 20, 21, 22, 23, 24, 25, 26, 27, 28, 29, 30, 31, 32, 33, 34] (by decide +kernel) (by decide +kernel)
set_option maxRecDepth 20000 in
theorem gX7_heaps_X7_tells : GoodIn wsX7_heaps (wsV RX7 148 RX7 yX7_tells wsX7_tells) := goodIn_app (goodIn_of _ (by decide +kernel)) ggX7_heaps_X7_tells
theorem dX7_heaps_0 : decode cX7_heaps 0 = .ok (.aload_n 0, 1) := by decide +kernel
theorem dX7_heaps_1 : decode cX7_heaps 1 = .ok (.aload_n 0, 1) := by decide +kernel
theorem dX7_heaps_2 : decode cX7_heaps 2 = .ok (.getfield 7, 3) := by decide +kernel
theorem dX7_heaps_5 : decode cX7_heaps 5 = .ok (.iconst 4, 1) := by decide +kernel
theorem dX7_heaps_6 : decode cX7_heaps 6 = .ok (.iaload, 1) := by decide +kernel
theorem dX7_heaps_7 : decode cX7_heaps 7 = .ok (.invokevirtual 148, 3) := by decide +kernel
theorem dX7_heaps_10 : decode cX7_heaps 10 = .ok (.ireturn, 1) := by decide +kernel
set_option maxRecDepth 20000 in
theorem ggX7_stonesOf_X7_isHeap : GoodIn wsX7_stonesOf wsX7_isHeap := goodIn_r _ [7, 2, 8, 9, 6, 10, 11, 12, 13, 14, 15, 16, 17, 18, 19, 20, 21, 22, 23, 24, 25, 26, 27, 28, 29, 30, 31, 32, 33, 34, 35, 36, 37] (by decide +kernel) (by decide +kernel)
set_option maxRecDepth 20000 in
theorem gX7_stonesOf_X7_isHeap : GoodIn wsX7_stonesOf (wsV RX7 126 RX7 yX7_isHeap wsX7_isHeap) := goodIn_app (goodIn_of _ (by decide +kernel)) ggX7_stonesOf_X7_isHeap
theorem dX7_stonesOf_0 : decode cX7_stonesOf 0 = .ok (.aload_n 0, 1) := by decide +kernel
theorem dX7_stonesOf_1 : decode cX7_stonesOf 1 = .ok (.aload_n 0, 1) := by decide +kernel
theorem dX7_stonesOf_2 : decode cX7_stonesOf 2 = .ok (.iload_n 1, 1) := by decide +kernel
theorem dX7_stonesOf_3 : decode cX7_stonesOf 3 = .ok (.invokevirtual 126, 3) := by decide +kernel
theorem dX7_stonesOf_6 : decode cX7_stonesOf 6 = .ok (.ifCond .eq 7, 3) := by decide +kernel
theorem dX7_stonesOf_9 : decode cX7_stonesOf 9 = .ok (.iconst 0, 1) := by decide +kernel
theorem dX7_stonesOf_10 : decode cX7_stonesOf 10 = .ok (.goto 4, 3) := by decide +kernel
theorem dX7_stonesOf_13 : decode cX7_stonesOf 13 = .ok (.iconst 1, 1) := by decide +kernel
theorem dX7_stonesOf_14 : decode cX7_stonesOf 14 = .ok (.putfield 60, 3) := by decide +kernel
theorem dX7_stonesOf_17 : decode cX7_stonesOf 17 = .ok (.aload_n 0, 1) := by decide +kernel
theorem dX7_stonesOf_18 : decode cX7_stonesOf 18 = .ok (.getfield 60, 3) := by decide +kernel
theorem dX7_stonesOf_21 : decode cX7_stonesOf 21 = .ok (.ifCond .le 7, 3) := by decide +kernel
theorem dX7_stonesOf_24 : decode cX7_stonesOf 24 = .ok (.iconst 0, 1) := by decide +kernel
theorem dX7_stonesOf_25 : decode cX7_stonesOf 25 = .ok (.goto 11, 3) := by decide +kernel
theorem dX7_stonesOf_28 : decode cX7_stonesOf 28 = .ok (.aload_n 0, 1) := by decide +kernel
theorem dX7_stonesOf_29 : decode cX7_stonesOf 29 = .ok (.getfield 7, 3) := by decide +kernel
theorem dX7_stonesOf_32 : decode cX7_stonesOf 32 = .ok (.iconst 5, 1) := by decide +kernel
theorem dX7_stonesOf_33 : decode cX7_stonesOf 33 = .ok (.iload_n 1, 1) := by decide +kernel
theorem dX7_stonesOf_34 : decode cX7_stonesOf 34 = .ok (.iadd, 1) := by decide +kernel
theorem dX7_stonesOf_35 : decode cX7_stonesOf 35 = .ok (.iaload, 1) := by decide +kernel
theorem dX7_stonesOf_36 : decode cX7_stonesOf 36 = .ok (.ireturn, 1) := by decide +kernel
set_option maxRecDepth 20000 in
theorem ggX7_stones_X7_sum : GoodIn wsX7_stones wsX7_sum := goodIn_r _ [5, 6, 12, 13, 14, 15, 16, 17, 18, 19, 20, 21, 22, 23, 24, 25, 26, 27, 28, 29, 30, 31, 32, 33, 34, 35, 36, 37, 38] (by decide +kernel) (by decide +kernel)
set_option maxRecDepth 20000 in
theorem gX7_stones_X7_sum : GoodIn wsX7_stones (wsV RX7 116 RX7 yX7_sum wsX7_sum) := goodIn_app (goodIn_of _ (by decide +kernel)) ggX7_stones_X7_sum
set_option maxRecDepth 20000 in
theorem ggX7_stones_X7_tells : GoodIn wsX7_stones wsX7_tells := goodIn_r _ [10, 11, 12, 13, 14, 15, 16, 17, 18, 19, 20, 21, 22, 23, 24, 25, 26, 27, 28, 29, 30, 31, 32, 33, 34, 35, 36, 37, 38] (by decide +kernel) (by decide +kernel)
set_option maxRecDepth 20000 in
theorem gX7_stones_X7_tells : GoodIn wsX7_stones (wsV RX7 148 RX7 yX7_tells wsX7_tells) := goodIn_app (goodIn_of _ (by decide +kernel)) ggX7_stones_X7_tells
theorem dX7_stones_0 : decode cX7_stones 0 = .ok (.aload_n 0, 1) := by decide +kernel
theorem dX7_stones_1 : decode cX7_stones 1 = .ok (.aload_n 0, 1) := by decide +kernel
theorem dX7_stones_2 : decode cX7_stones 2 = .ok (.invokevirtual 116, 3) := by decide +kernel
theorem dX7_stones_5 : decode cX7_stones 5 = .ok (.invokevirtual 148, 3) := by decide +kernel
theorem dX7_stones_8 : decode cX7_stones 8 = .ok (.ireturn, 1) := by decide +kernel
set_option maxRecDepth 20000 in
theorem ggX7_greatestTake_X7_tells : GoodIn wsX7_greatestTake wsX7_tells := goodIn_r _ [6, 7, 8, 9, 10, 11, 12, 13, 14, 15, 16, 17, 18, 19, 20, 21, 22, 23, 24, 25, 26, 27, 28, 29, 30, 31, 32, 33, 34] (by decide +kernel) (by decide +kernel)
set_option maxRecDepth 20000 in
theorem gX7_greatestTake_X7_tells : GoodIn wsX7_greatestTake (wsV RX7 148 RX7 yX7_tells wsX7_tells) := goodIn_app (goodIn_of _ (by decide +kernel)) ggX7_greatestTake_X7_tells
theorem dX7_greatestTake_0 : decode cX7_greatestTake 0 = .ok (.aload_n 0, 1) := by decide +kernel
theorem dX7_greatestTake_1 : decode cX7_greatestTake 1 = .ok (.aload_n 0, 1) := by decide +kernel
theorem dX7_greatestTake_2 : decode cX7_greatestTake 2 = .ok (.getfield 7, 3) := by decide +kernel
theorem dX7_greatestTake_5 : decode cX7_greatestTake 5 = .ok (.iconst 0, 1) := by decide +kernel
theorem dX7_greatestTake_6 : decode cX7_greatestTake 6 = .ok (.iaload, 1) := by decide +kernel
theorem dX7_greatestTake_7 : decode cX7_greatestTake 7 = .ok (.invokevirtual 148, 3) := by decide +kernel
theorem dX7_greatestTake_10 : decode cX7_greatestTake 10 = .ok (.ireturn, 1) := by decide +kernel
set_option maxRecDepth 20000 in
theorem ggX7_isSplitting_X7_tells : GoodIn wsX7_isSplitting wsX7_tells := goodIn_r _ [6, 7, 8, 9, 10, 11, 12, 13, 14, 15, 16, 17, 18, 19, 20, 21, 22, 23, 24, 25, 26, 27, 28, 29, 30, 31, 32, 33, 34] (by decide +kernel) (by decide +kernel)
set_option maxRecDepth 20000 in
theorem gX7_isSplitting_X7_tells : GoodIn wsX7_isSplitting (wsV RX7 148 RX7 yX7_tells wsX7_tells) := goodIn_app (goodIn_of _ (by decide +kernel)) ggX7_isSplitting_X7_tells
theorem dX7_isSplitting_0 : decode cX7_isSplitting 0 = .ok (.aload_n 0, 1) := by decide +kernel
theorem dX7_isSplitting_1 : decode cX7_isSplitting 1 = .ok (.aload_n 0, 1) := by decide +kernel
theorem dX7_isSplitting_2 : decode cX7_isSplitting 2 = .ok (.getfield 7, 3) := by decide +kernel
theorem dX7_isSplitting_5 : decode cX7_isSplitting 5 = .ok (.iconst 1, 1) := by decide +kernel
theorem dX7_isSplitting_6 : decode cX7_isSplitting 6 = .ok (.iaload, 1) := by decide +kernel
theorem dX7_isSplitting_7 : decode cX7_isSplitting 7 = .ok (.invokevirtual 148, 3) := by decide +kernel
theorem dX7_isSplitting_10 : decode cX7_isSplitting 10 = .ok (.iconst 1, 1) := by decide +kernel
theorem dX7_isSplitting_11 : decode cX7_isSplitting 11 = .ok (.if_icmp .ne 7, 3) := by decide +kernel
theorem dX7_isSplitting_14 : decode cX7_isSplitting 14 = .ok (.iconst 1, 1) := by decide +kernel
theorem dX7_isSplitting_15 : decode cX7_isSplitting 15 = .ok (.goto 4, 3) := by decide +kernel
theorem dX7_isSplitting_18 : decode cX7_isSplitting 18 = .ok (.iconst 0, 1) := by decide +kernel
theorem dX7_isSplitting_19 : decode cX7_isSplitting 19 = .ok (.ireturn, 1) := by decide +kernel
set_option maxRecDepth 20000 in
theorem ggX7_isMerging_X7_tells : GoodIn wsX7_isMerging wsX7_tells := goodIn_r _ [6, 7, 8, 9, 10, 11, 12, 13, 14, 15, 16, 17, 18, 19, 20, 21, 22, 23, 24, 25, 26, 27, 28, 29, 30, 31, 32, 33, 34] (by decide +kernel) (by decide +kernel)
set_option maxRecDepth 20000 in
theorem gX7_isMerging_X7_tells : GoodIn wsX7_isMerging (wsV RX7 148 RX7 yX7_tells wsX7_tells) := goodIn_app (goodIn_of _ (by decide +kernel)) ggX7_isMerging_X7_tells
theorem dX7_isMerging_0 : decode cX7_isMerging 0 = .ok (.aload_n 0, 1) := by decide +kernel
theorem dX7_isMerging_1 : decode cX7_isMerging 1 = .ok (.aload_n 0, 1) := by decide +kernel
theorem dX7_isMerging_2 : decode cX7_isMerging 2 = .ok (.getfield 7, 3) := by decide +kernel
theorem dX7_isMerging_5 : decode cX7_isMerging 5 = .ok (.iconst 2, 1) := by decide +kernel
theorem dX7_isMerging_6 : decode cX7_isMerging 6 = .ok (.iaload, 1) := by decide +kernel
theorem dX7_isMerging_7 : decode cX7_isMerging 7 = .ok (.invokevirtual 148, 3) := by decide +kernel
theorem dX7_isMerging_10 : decode cX7_isMerging 10 = .ok (.iconst 1, 1) := by decide +kernel
theorem dX7_isMerging_11 : decode cX7_isMerging 11 = .ok (.if_icmp .ne 7, 3) := by decide +kernel
theorem dX7_isMerging_14 : decode cX7_isMerging 14 = .ok (.iconst 1, 1) := by decide +kernel
theorem dX7_isMerging_15 : decode cX7_isMerging 15 = .ok (.goto 4, 3) := by decide +kernel
theorem dX7_isMerging_18 : decode cX7_isMerging 18 = .ok (.iconst 0, 1) := by decide +kernel
theorem dX7_isMerging_19 : decode cX7_isMerging 19 = .ok (.ireturn, 1) := by decide +kernel
set_option maxRecDepth 20000 in
theorem ggX7_isNormal_X7_tells : GoodIn wsX7_isNormal wsX7_tells := goodIn_r _ [6, 7, 8, 9, 10, 11, 12, 13, 14, 15, 16, 17, 18, 19, 20, 21, 22, 23, 24, 25, 26, 27, 28, 29, 30, 31, 32, 33, 34] (by decide +kernel) (by decide +kernel)
set_option maxRecDepth 20000 in
theorem gX7_isNormal_X7_tells : GoodIn wsX7_isNormal (wsV RX7 148 RX7 yX7_tells wsX7_tells) := goodIn_app (goodIn_of _ (by decide +kernel)) ggX7_isNormal_X7_tells
theorem dX7_isNormal_0 : decode cX7_isNormal 0 = .ok (.aload_n 0, 1) := by decide +kernel
theorem dX7_isNormal_1 : decode cX7_isNormal 1 = .ok (.aload_n 0, 1) := by decide +kernel
theorem dX7_isNormal_2 : decode cX7_isNormal 2 = .ok (.getfield 7, 3) := by decide +kernel
theorem dX7_isNormal_5 : decode cX7_isNormal 5 = .ok (.iconst 3, 1) := by decide +kernel
theorem dX7_isNormal_6 : decode cX7_isNormal 6 = .ok (.iaload, 1) := by decide +kernel
theorem dX7_isNormal_7 : decode cX7_isNormal 7 = .ok (.invokevirtual 148, 3) := by decide +kernel
theorem dX7_isNormal_10 : decode cX7_isNormal 10 = .ok (.iconst 1, 1) := by decide +kernel
theorem dX7_isNormal_11 : decode cX7_isNormal 11 = .ok (.if_icmp .ne 7, 3) := by decide +kernel
theorem dX7_isNormal_14 : decode cX7_isNormal 14 = .ok (.iconst 1, 1) := by decide +kernel
theorem dX7_isNormal_15 : decode cX7_isNormal 15 = .ok (.goto 4, 3) := by decide +kernel
theorem dX7_isNormal_18 : decode cX7_isNormal 18 = .ok (.iconst 0, 1) := by decide +kernel
theorem dX7_isNormal_19 : decode cX7_isNormal 19 = .ok (.ireturn, 1) := by decide +kernel
theorem dX7_allMade_0 : decode cX7_allMade 0 = .ok (.aload_n 0, 1) := by decide +kernel
theorem dX7_allMade_1 : decode cX7_allMade 1 = .ok (.getfield 7, 3) := by decide +kernel
theorem dX7_allMade_4 : decode cX7_allMade 4 = .ok (.bipush 17, 2) := by decide +kernel
theorem dX7_allMade_6 : decode cX7_allMade 6 = .ok (.iaload, 1) := by decide +kernel
theorem dX7_allMade_7 : decode cX7_allMade 7 = .ok (.aload_n 0, 1) := by decide +kernel
theorem dX7_allMade_8 : decode cX7_allMade 8 = .ok (.getfield 7, 3) := by decide +kernel
theorem dX7_allMade_11 : decode cX7_allMade 11 = .ok (.bipush 18, 2) := by decide +kernel
theorem dX7_allMade_13 : decode cX7_allMade 13 = .ok (.iaload, 1) := by decide +kernel
theorem dX7_allMade_14 : decode cX7_allMade 14 = .ok (.iadd, 1) := by decide +kernel
theorem dX7_allMade_15 : decode cX7_allMade 15 = .ok (.aload_n 0, 1) := by decide +kernel
theorem dX7_allMade_16 : decode cX7_allMade 16 = .ok (.getfield 7, 3) := by decide +kernel
theorem dX7_allMade_19 : decode cX7_allMade 19 = .ok (.bipush 19, 2) := by decide +kernel
theorem dX7_allMade_21 : decode cX7_allMade 21 = .ok (.iaload, 1) := by decide +kernel
theorem dX7_allMade_22 : decode cX7_allMade 22 = .ok (.iadd, 1) := by decide +kernel
theorem dX7_allMade_23 : decode cX7_allMade 23 = .ok (.ireturn, 1) := by decide +kernel
set_option maxRecDepth 20000 in
theorem ggX7_player_X7_allMade : GoodIn wsX7_player wsX7_allMade := goodIn_r _ [5, 6, 12, 13, 14, 15, 16, 17, 18, 19, 20, 21, 22, 23, 24, 25, 26, 27, 28, 29, 30, 31, 32, 33, 34, 35, 36, 37, 38] (by decide +kernel) (by decide +kernel)
set_option maxRecDepth 20000 in
theorem gX7_player_X7_allMade : GoodIn wsX7_player (wsV RX7 151 RX7 yX7_allMade wsX7_allMade) := goodIn_app (goodIn_of _ (by decide +kernel)) ggX7_player_X7_allMade
set_option maxRecDepth 20000 in
theorem ggX7_player_X7_tells : GoodIn wsX7_player wsX7_tells := goodIn_r _ [10, 11, 12, 13, 14, 15, 16, 17, 18, 19, 20, 21, 22, 23, 24, 25, 26, 27, 28, 29, 30, 31, 32, 33, 34, 35, 36, 37, 38] (by decide +kernel) (by decide +kernel)
set_option maxRecDepth 20000 in
theorem gX7_player_X7_tells : GoodIn wsX7_player (wsV RX7 148 RX7 yX7_tells wsX7_tells) := goodIn_app (goodIn_of _ (by decide +kernel)) ggX7_player_X7_tells
theorem dX7_player_0 : decode cX7_player 0 = .ok (.aload_n 0, 1) := by decide +kernel
theorem dX7_player_1 : decode cX7_player 1 = .ok (.aload_n 0, 1) := by decide +kernel
theorem dX7_player_2 : decode cX7_player 2 = .ok (.invokevirtual 151, 3) := by decide +kernel
theorem dX7_player_5 : decode cX7_player 5 = .ok (.iconst 2, 1) := by decide +kernel
theorem dX7_player_6 : decode cX7_player 6 = .ok (.irem, 1) := by decide +kernel
theorem dX7_player_7 : decode cX7_player 7 = .ok (.invokevirtual 148, 3) := by decide +kernel
theorem dX7_player_10 : decode cX7_player 10 = .ok (.ireturn, 1) := by decide +kernel
set_option maxRecDepth 20000 in
theorem ggX7_made_X7_allMade : GoodIn wsX7_made wsX7_allMade := goodIn_r _ [5, 6, 12, 13, 14, 15, 16, 17, 18, 19, 20, 21, 22, 23, 24, 25, 26, 27, 28, 29, 30, 31, 32, 33, 34, 35, 36, 37, 38] (by decide +kernel) (by decide +kernel)
set_option maxRecDepth 20000 in
theorem gX7_made_X7_allMade : GoodIn wsX7_made (wsV RX7 151 RX7 yX7_allMade wsX7_allMade) := goodIn_app (goodIn_of _ (by decide +kernel)) ggX7_made_X7_allMade
