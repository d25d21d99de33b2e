set_option maxRecDepth 20000 in
theorem ggX5_init_X5_adds : GoodIn wsX5_init wsX5_adds := goodIn_r _ [21, 5, 22, 23, 24, 25, 26, 27, 28, 29, 30, 31, 32, 33, 34, 35, 36, 37, 38, 39, 40] (by decide +kernel) (by decide +kernel)
set_option maxRecDepth 20000 in
theorem gX5_init_X5_adds : GoodIn wsX5_init (wsV RX5 44 RX5 yX5_adds wsX5_adds) := goodIn_app (goodIn_of _ (by decide +kernel)) ggX5_init_X5_adds
theorem dX5_init_0 : decode cX5_init 0 = .ok (.aload_n 0, 1) := by decide +kernel
theorem dX5_init_1 : decode cX5_init 1 = .ok (.invokespecial 1, 3) := by decide +kernel
theorem dX5_init_4 : decode cX5_init 4 = .ok (.aload_n 0, 1) := by decide +kernel
theorem dX5_init_5 : decode cX5_init 5 = .ok (.bipush 32, 2) := by decide +kernel
theorem dX5_init_7 : decode cX5_init 7 = .ok (.newarray .int, 2) := by decide +kernel
theorem dX5_init_9 : decode cX5_init 9 = .ok (.putfield 7, 3) := by decide +kernel
theorem dX5_init_12 : decode cX5_init 12 = .ok (.aload_n 0, 1) := by decide +kernel
theorem dX5_init_13 : decode cX5_init 13 = .ok (.bipush 32, 2) := by decide +kernel
theorem dX5_init_15 : decode cX5_init 15 = .ok (.newarray .int, 2) := by decide +kernel
theorem dX5_init_17 : decode cX5_init 17 = .ok (.putfield 13, 3) := by decide +kernel
theorem dX5_init_20 : decode cX5_init 20 = .ok (.aload_n 0, 1) := by decide +kernel
theorem dX5_init_21 : decode cX5_init 21 = .ok (.sipush 192, 3) := by decide +kernel
theorem dX5_init_24 : decode cX5_init 24 = .ok (.newarray .int, 2) := by decide +kernel
theorem dX5_init_26 : decode cX5_init 26 = .ok (.putfield 16, 3) := by decide +kernel
theorem dX5_init_29 : decode cX5_init 29 = .ok (.aload_n 0, 1) := by decide +kernel
theorem dX5_init_30 : decode cX5_init 30 = .ok (.sipush 200, 3) := by decide +kernel
theorem dX5_init_33 : decode cX5_init 33 = .ok (.newarray .int, 2) := by decide +kernel
theorem dX5_init_35 : decode cX5_init 35 = .ok (.putfield 19, 3) := by decide +kernel
theorem dX5_init_38 : decode cX5_init 38 = .ok (.aload_n 0, 1) := by decide +kernel
theorem dX5_init_39 : decode cX5_init 39 = .ok (.bipush 11, 2) := by decide +kernel
theorem dX5_init_41 : decode cX5_init 41 = .ok (.newarray .int, 2) := by decide +kernel
theorem dX5_init_43 : decode cX5_init 43 = .ok (.putfield 22, 3) := by decide +kernel
theorem dX5_init_46 : decode cX5_init 46 = .ok (.aload_n 0, 1) := by decide +kernel
theorem dX5_init_47 : decode cX5_init 47 = .ok (.bipush 11, 2) := by decide +kernel
theorem dX5_init_49 : decode cX5_init 49 = .ok (.newarray .int, 2) := by decide +kernel
theorem dX5_init_51 : decode cX5_init 51 = .ok (.putfield 25, 3) := by decide +kernel
theorem dX5_init_54 : decode cX5_init 54 = .ok (.aload_n 0, 1) := by decide +kernel
theorem dX5_init_55 : decode cX5_init 55 = .ok (.bipush 8, 2) := by decide +kernel
theorem dX5_init_57 : decode cX5_init 57 = .ok (.newarray .int, 2) := by decide +kernel
theorem dX5_init_59 : decode cX5_init 59 = .ok (.putfield 28, 3) := by decide +kernel
theorem dX5_init_62 : decode cX5_init 62 = .ok (.aload_n 0, 1) := by decide +kernel
theorem dX5_init_63 : decode cX5_init 63 = .ok (.bipush 11, 2) := by decide +kernel
theorem dX5_init_65 : decode cX5_init 65 = .ok (.newarray .long, 2) := by decide +kernel
theorem dX5_init_67 : decode cX5_init 67 = .ok (.putfield 31, 3) := by decide +kernel
theorem dX5_init_70 : decode cX5_init 70 = .ok (.aload_n 0, 1) := by decide +kernel
theorem dX5_init_71 : decode cX5_init 71 = .ok (.bipush 8, 2) := by decide +kernel
theorem dX5_init_73 : decode cX5_init 73 = .ok (.newarray .int, 2) := by decide +kernel
theorem dX5_init_75 : decode cX5_init 75 = .ok (.putfield 35, 3) := by decide +kernel
theorem dX5_init_78 : decode cX5_init 78 = .ok (.aload_n 0, 1) := by decide +kernel
theorem dX5_init_79 : decode cX5_init 79 = .ok (.bipush 8, 2) := by decide +kernel
theorem dX5_init_81 : decode cX5_init 81 = .ok (.newarray .long, 2) := by decide +kernel
theorem dX5_init_83 : decode cX5_init 83 = .ok (.putfield 38, 3) := by decide +kernel
theorem dX5_init_86 : decode cX5_init 86 = .ok (.aload_n 0, 1) := by decide +kernel
theorem dX5_init_87 : decode cX5_init 87 = .ok (.bipush 8, 2) := by decide +kernel
theorem dX5_init_89 : decode cX5_init 89 = .ok (.newarray .long, 2) := by decide +kernel
theorem dX5_init_91 : decode cX5_init 91 = .ok (.putfield 41, 3) := by decide +kernel
theorem dX5_init_94 : decode cX5_init 94 = .ok (.aload_n 0, 1) := by decide +kernel
theorem dX5_init_95 : decode cX5_init 95 = .ok (.getfield 7, 3) := by decide +kernel
theorem dX5_init_98 : decode cX5_init 98 = .ok (.iconst 0, 1) := by decide +kernel
theorem dX5_init_99 : decode cX5_init 99 = .ok (.bipush 6, 2) := by decide +kernel
theorem dX5_init_101 : decode cX5_init 101 = .ok (.iastore, 1) := by decide +kernel
theorem dX5_init_102 : decode cX5_init 102 = .ok (.iconst 0, 1) := by decide +kernel
theorem dX5_init_103 : decode cX5_init 103 = .ok (.istore_n 1, 1) := by decide +kernel
theorem dX5_init_104 : decode cX5_init 104 = .ok (.iload_n 1, 1) := by decide +kernel
theorem dX5_init_105 : decode cX5_init 105 = .ok (.bipush 6, 2) := by decide +kernel
theorem dX5_init_107 : decode cX5_init 107 = .ok (.if_icmp .ge 19, 3) := by decide +kernel
theorem dX5_init_110 : decode cX5_init 110 = .ok (.aload_n 0, 1) := by decide +kernel
theorem dX5_init_111 : decode cX5_init 111 = .ok (.getfield 7, 3) := by decide +kernel
theorem dX5_init_114 : decode cX5_init 114 = .ok (.bipush 24, 2) := by decide +kernel
theorem dX5_init_116 : decode cX5_init 116 = .ok (.iload_n 1, 1) := by decide +kernel
theorem dX5_init_117 : decode cX5_init 117 = .ok (.iadd, 1) := by decide +kernel
theorem dX5_init_118 : decode cX5_init 118 = .ok (.iload_n 1, 1) := by decide +kernel
theorem dX5_init_119 : decode cX5_init 119 = .ok (.iastore, 1) := by decide +kernel
theorem dX5_init_120 : decode cX5_init 120 = .ok (.iinc 1 1, 3) := by decide +kernel
theorem dX5_init_123 : decode cX5_init 123 = .ok (.goto (-19), 3) := by decide +kernel
theorem dX5_init_126 : decode cX5_init 126 = .ok (.aload_n 0, 1) := by decide +kernel
theorem dX5_init_127 : decode cX5_init 127 = .ok (.bipush 9, 2) := by decide +kernel
theorem dX5_init_129 : decode cX5_init 129 = .ok (.iconst 3, 1) := by decide +kernel
theorem dX5_init_130 : decode cX5_init 130 = .ok (.invokevirtual 44, 3) := by decide +kernel
theorem dX5_init_133 : decode cX5_init 133 = .ok (.aload_n 0, 1) := by decide +kernel
theorem dX5_init_134 : decode cX5_init 134 = .ok (.bipush 6, 2) := by decide +kernel
theorem dX5_init_136 : decode cX5_init 136 = .ok (.bipush 7, 2) := by decide +kernel
theorem dX5_init_138 : decode cX5_init 138 = .ok (.invokevirtual 44, 3) := by decide +kernel
theorem dX5_init_141 : decode cX5_init 141 = .ok (.aload_n 0, 1) := by decide +kernel
theorem dX5_init_142 : decode cX5_init 142 = .ok (.iconst 5, 1) := by decide +kernel
theorem dX5_init_143 : decode cX5_init 143 = .ok (.bipush 12, 2) := by decide +kernel
theorem dX5_init_145 : decode cX5_init 145 = .ok (.invokevirtual 44, 3) := by decide +kernel
theorem dX5_init_148 : decode cX5_init 148 = .ok (.aload_n 0, 1) := by decide +kernel
theorem dX5_init_149 : decode cX5_init 149 = .ok (.iconst 4, 1) := by decide +kernel
theorem dX5_init_150 : decode cX5_init 150 = .ok (.bipush 24, 2) := by decide +kernel
theorem dX5_init_152 : decode cX5_init 152 = .ok (.invokevirtual 44, 3) := by decide +kernel
theorem dX5_init_155 : decode cX5_init 155 = .ok (.aload_n 0, 1) := by decide +kernel
theorem dX5_init_156 : decode cX5_init 156 = .ok (.iconst 3, 1) := by decide +kernel
theorem dX5_init_157 : decode cX5_init 157 = .ok (.bipush 32, 2) := by decide +kernel
theorem dX5_init_159 : decode cX5_init 159 = .ok (.invokevirtual 44, 3) := by decide +kernel
theorem dX5_init_162 : decode cX5_init 162 = .ok (.aload_n 0, 1) := by decide +kernel
theorem dX5_init_163 : decode cX5_init 163 = .ok (.iconst 2, 1) := by decide +kernel
theorem dX5_init_164 : decode cX5_init 164 = .ok (.bipush 48, 2) := by decide +kernel
theorem dX5_init_166 : decode cX5_init 166 = .ok (.invokevirtual 44, 3) := by decide +kernel
theorem dX5_init_169 : decode cX5_init 169 = .ok (.aload_n 0, 1) := by decide +kernel
theorem dX5_init_170 : decode cX5_init 170 = .ok (.getfield 7, 3) := by decide +kernel
theorem dX5_init_173 : decode cX5_init 173 = .ok (.bipush 22, 2) := by decide +kernel
theorem dX5_init_175 : decode cX5_init 175 = .ok (.iconst 4, 1) := by decide +kernel
theorem dX5_init_176 : decode cX5_init 176 = .ok (.iastore, 1) := by decide +kernel
theorem dX5_init_177 : decode cX5_init 177 = .ok (.return_, 1) := by decide +kernel
theorem dX5_in_0 : decode cX5_in 0 = .ok (.iload_n 0, 1) := by decide +kernel
theorem dX5_in_1 : decode cX5_in 1 = .ok (.iload_n 1, 1) := by decide +kernel
theorem dX5_in_2 : decode cX5_in 2 = .ok (.if_icmp .lt 12, 3) := by decide +kernel
theorem dX5_in_5 : decode cX5_in 5 = .ok (.iload_n 0, 1) := by decide +kernel
theorem dX5_in_6 : decode cX5_in 6 = .ok (.iload_n 2, 1) := by decide +kernel
theorem dX5_in_7 : decode cX5_in 7 = .ok (.if_icmp .gt 7, 3) := by decide +kernel
theorem dX5_in_10 : decode cX5_in 10 = .ok (.iconst 1, 1) := by decide +kernel
theorem dX5_in_11 : decode cX5_in 11 = .ok (.goto 4, 3) := by decide +kernel
theorem dX5_in_14 : decode cX5_in 14 = .ok (.iconst 0, 1) := by decide +kernel
theorem dX5_in_15 : decode cX5_in 15 = .ok (.ireturn, 1) := by decide +kernel
theorem dX5_has_0 : decode cX5_has 0 = .ok (.iload_n 0, 1) := by decide +kernel
theorem dX5_has_1 : decode cX5_has 1 = .ok (.iload_n 1, 1) := by decide +kernel
theorem dX5_has_2 : decode cX5_has 2 = .ok (.ishr, 1) := by decide +kernel
theorem dX5_has_3 : decode cX5_has 3 = .ok (.iconst 1, 1) := by decide +kernel
theorem dX5_has_4 : decode cX5_has 4 = .ok (.iand, 1) := by decide +kernel
theorem dX5_has_5 : decode cX5_has 5 = .ok (.iconst 1, 1) := by decide +kernel
theorem dX5_has_6 : decode cX5_has 6 = .ok (.if_icmp .ne 7, 3) := by decide +kernel
theorem dX5_has_9 : decode cX5_has 9 = .ok (.iconst 1, 1) := by decide +kernel
theorem dX5_has_10 : decode cX5_has 10 = .ok (.goto 4, 3) := by decide +kernel
theorem dX5_has_13 : decode cX5_has 13 = .ok (.iconst 0, 1) := by decide +kernel
theorem dX5_has_14 : decode cX5_has 14 = .ok (.ireturn, 1) := by decide +kernel
theorem dX5_ones_0 : decode cX5_ones 0 = .ok (.iconst 0, 1) := by decide +kernel
theorem dX5_ones_1 : decode cX5_ones 1 = .ok (.istore_n 1, 1) := by decide +kernel
theorem dX5_ones_2 : decode cX5_ones 2 = .ok (.iconst 0, 1) := by decide +kernel
theorem dX5_ones_3 : decode cX5_ones 3 = .ok (.istore_n 2, 1) := by decide +kernel
theorem dX5_ones_4 : decode cX5_ones 4 = .ok (.iload_n 2, 1) := by decide +kernel
theorem dX5_ones_5 : decode cX5_ones 5 = .ok (.bipush 11, 2) := by decide +kernel
theorem dX5_ones_7 : decode cX5_ones 7 = .ok (.if_icmp .ge 17, 3) := by decide +kernel
theorem dX5_ones_10 : decode cX5_ones 10 = .ok (.iload_n 1, 1) := by decide +kernel
theorem dX5_ones_11 : decode cX5_ones 11 = .ok (.iload_n 0, 1) := by decide +kernel
theorem dX5_ones_12 : decode cX5_ones 12 = .ok (.iload_n 2, 1) := by decide +kernel
theorem dX5_ones_13 : decode cX5_ones 13 = .ok (.ishr, 1) := by decide +kernel
theorem dX5_ones_14 : decode cX5_ones 14 = .ok (.iconst 1, 1) := by decide +kernel
theorem dX5_ones_15 : decode cX5_ones 15 = .ok (.iand, 1) := by decide +kernel
theorem dX5_ones_16 : decode cX5_ones 16 = .ok (.iadd, 1) := by decide +kernel
theorem dX5_ones_17 : decode cX5_ones 17 = .ok (.istore_n 1, 1) := by decide +kernel
theorem dX5_ones_18 : decode cX5_ones 18 = .ok (.iinc 2 1, 3) := by decide +kernel
theorem dX5_ones_21 : decode cX5_ones 21 = .ok (.goto (-17), 3) := by decide +kernel
theorem dX5_ones_24 : decode cX5_ones 24 = .ok (.iload_n 1, 1) := by decide +kernel
theorem dX5_ones_25 : decode cX5_ones 25 = .ok (.ireturn, 1) := by decide +kernel
theorem dX5_adds_0 : decode cX5_adds 0 = .ok (.aload_n 0, 1) := by decide +kernel
theorem dX5_adds_1 : decode cX5_adds 1 = .ok (.getfield 7, 3) := by decide +kernel
theorem dX5_adds_4 : decode cX5_adds 4 = .ok (.iconst 2, 1) := by decide +kernel
theorem dX5_adds_5 : decode cX5_adds 5 = .ok (.aload_n 0, 1) := by decide +kernel
theorem dX5_adds_6 : decode cX5_adds 6 = .ok (.getfield 7, 3) := by decide +kernel
theorem dX5_adds_9 : decode cX5_adds 9 = .ok (.iconst 1, 1) := by decide +kernel
theorem dX5_adds_10 : decode cX5_adds 10 = .ok (.iaload, 1) := by decide +kernel
theorem dX5_adds_11 : decode cX5_adds 11 = .ok (.iadd, 1) := by decide +kernel
theorem dX5_adds_12 : decode cX5_adds 12 = .ok (.iload_n 1, 1) := by decide +kernel
theorem dX5_adds_13 : decode cX5_adds 13 = .ok (.iastore, 1) := by decide +kernel
theorem dX5_adds_14 : decode cX5_adds 14 = .ok (.aload_n 0, 1) := by decide +kernel
theorem dX5_adds_15 : decode cX5_adds 15 = .ok (.getfield 7, 3) := by decide +kernel
theorem dX5_adds_18 : decode cX5_adds 18 = .ok (.bipush 12, 2) := by decide +kernel
theorem dX5_adds_20 : decode cX5_adds 20 = .ok (.aload_n 0, 1) := by decide +kernel
theorem dX5_adds_21 : decode cX5_adds 21 = .ok (.getfield 7, 3) := by decide +kernel
theorem dX5_adds_24 : decode cX5_adds 24 = .ok (.iconst 1, 1) := by decide +kernel
theorem dX5_adds_25 : decode cX5_adds 25 = .ok (.iaload, 1) := by decide +kernel
theorem dX5_adds_26 : decode cX5_adds 26 = .ok (.iadd, 1) := by decide +kernel
theorem dX5_adds_27 : decode cX5_adds 27 = .ok (.iload_n 2, 1) := by decide +kernel
theorem dX5_adds_28 : decode cX5_adds 28 = .ok (.iastore, 1) := by decide +kernel
theorem dX5_adds_29 : decode cX5_adds 29 = .ok (.aload_n 0, 1) := by decide +kernel
theorem dX5_adds_30 : decode cX5_adds 30 = .ok (.getfield 7, 3) := by decide +kernel
theorem dX5_adds_33 : decode cX5_adds 33 = .ok (.iconst 1, 1) := by decide +kernel
theorem dX5_adds_34 : decode cX5_adds 34 = .ok (.dup2, 1) := by decide +kernel
theorem dX5_adds_35 : decode cX5_adds 35 = .ok (.iaload, 1) := by decide +kernel
theorem dX5_adds_36 : decode cX5_adds 36 = .ok (.iconst 1, 1) := by decide +kernel
theorem dX5_adds_37 : decode cX5_adds 37 = .ok (.iadd, 1) := by decide +kernel
theorem dX5_adds_38 : decode cX5_adds 38 = .ok (.iastore, 1) := by decide +kernel
theorem dX5_adds_39 : decode cX5_adds 39 = .ok (.return_, 1) := by decide +kernel
set_option maxRecDepth 20000 in
theorem ggX5_isCandidate_X5_in : GoodIn wsX5_isCandidate wsX5_in := goodIn_r _ [5] (by decide +kernel) (by decide +kernel)
set_option maxRecDepth 20000 in
theorem gX5_isCandidate_X5_in : GoodIn wsX5_isCandidate (va_wsS RX5 48 yX5_in wsX5_in) := goodIn_app (goodIn_of _ (by decide +kernel)) ggX5_isCandidate_X5_in
theorem dX5_isCandidate_0 : decode cX5_isCandidate 0 = .ok (.iload_n 1, 1) := by decide +kernel
theorem dX5_isCandidate_1 : decode cX5_isCandidate 1 = .ok (.iconst 0, 1) := by decide +kernel
theorem dX5_isCandidate_2 : decode cX5_isCandidate 2 = .ok (.aload_n 0, 1) := by decide +kernel
theorem dX5_isCandidate_3 : decode cX5_isCandidate 3 = .ok (.getfield 7, 3) := by decide +kernel
theorem dX5_isCandidate_6 : decode cX5_isCandidate 6 = .ok (.iconst 0, 1) := by decide +kernel
theorem dX5_isCandidate_7 : decode cX5_isCandidate 7 = .ok (.iaload, 1) := by decide +kernel
theorem dX5_isCandidate_8 : decode cX5_isCandidate 8 = .ok (.iconst 1, 1) := by decide +kernel
theorem dX5_isCandidate_9 : decode cX5_isCandidate 9 = .ok (.isub, 1) := by decide +kernel
theorem dX5_isCandidate_10 : decode cX5_isCandidate 10 = .ok (.invokestatic 48, 3) := by decide +kernel
theorem dX5_isCandidate_13 : decode cX5_isCandidate 13 = .ok (.ireturn, 1) := by decide +kernel
set_option maxRecDepth 20000 in
theorem ggX5_isBallot_X5_in : GoodIn wsX5_isBallot wsX5_in := goodIn_r _ [5] (by decide +kernel) (by decide +kernel)
set_option maxRecDepth 20000 in
theorem gX5_isBallot_X5_in : GoodIn wsX5_isBallot (va_wsS RX5 48 yX5_in wsX5_in) := goodIn_app (goodIn_of _ (by decide +kernel)) ggX5_isBallot_X5_in
theorem dX5_isBallot_0 : decode cX5_isBallot 0 = .ok (.iload_n 1, 1) := by decide +kernel
theorem dX5_isBallot_1 : decode cX5_isBallot 1 = .ok (.iconst 0, 1) := by decide +kernel
theorem dX5_isBallot_2 : decode cX5_isBallot 2 = .ok (.aload_n 0, 1) := by decide +kernel
theorem dX5_isBallot_3 : decode cX5_isBallot 3 = .ok (.getfield 7, 3) := by decide +kernel
theorem dX5_isBallot_6 : decode cX5_isBallot 6 = .ok (.iconst 1, 1) := by decide +kernel
theorem dX5_isBallot_7 : decode cX5_isBallot 7 = .ok (.iaload, 1) := by decide +kernel
theorem dX5_isBallot_8 : decode cX5_isBallot 8 = .ok (.iconst 1, 1) := by decide +kernel
theorem dX5_isBallot_9 : decode cX5_isBallot 9 = .ok (.isub, 1) := by decide +kernel
theorem dX5_isBallot_10 : decode cX5_isBallot 10 = .ok (.invokestatic 48, 3) := by decide +kernel
theorem dX5_isBallot_13 : decode cX5_isBallot 13 = .ok (.ireturn, 1) := by decide +kernel
set_option maxRecDepth 20000 in
theorem ggX5_isSet_X5_in : GoodIn wsX5_isSet wsX5_in := goodIn_r _ [5] (by decide +kernel) (by decide +kernel)
set_option maxRecDepth 20000 in
theorem gX5_isSet_X5_in : GoodIn wsX5_isSet (va_wsS RX5 48 yX5_in wsX5_in) := goodIn_app (goodIn_of _ (by decide +kernel)) ggX5_isSet_X5_in
theorem dX5_isSet_0 : decode cX5_isSet 0 = .ok (.iload_n 1, 1) := by decide +kernel
theorem dX5_isSet_1 : decode cX5_isSet 1 = .ok (.iconst 1, 1) := by decide +kernel
theorem dX5_isSet_2 : decode cX5_isSet 2 = .ok (.iconst 1, 1) := by decide +kernel
theorem dX5_isSet_3 : decode cX5_isSet 3 = .ok (.aload_n 0, 1) := by decide +kernel
theorem dX5_isSet_4 : decode cX5_isSet 4 = .ok (.getfield 7, 3) := by decide +kernel
theorem dX5_isSet_7 : decode cX5_isSet 7 = .ok (.iconst 0, 1) := by decide +kernel
theorem dX5_isSet_8 : decode cX5_isSet 8 = .ok (.iaload, 1) := by decide +kernel
theorem dX5_isSet_9 : decode cX5_isSet 9 = .ok (.ishl, 1) := by decide +kernel
theorem dX5_isSet_10 : decode cX5_isSet 10 = .ok (.iconst 1, 1) := by decide +kernel
theorem dX5_isSet_11 : decode cX5_isSet 11 = .ok (.isub, 1) := by decide +kernel
theorem dX5_isSet_12 : decode cX5_isSet 12 = .ok (.invokestatic 48, 3) := by decide +kernel
theorem dX5_isSet_15 : decode cX5_isSet 15 = .ok (.ireturn, 1) := by decide +kernel
set_option maxRecDepth 20000 in
theorem ggX5_isLaw_X5_in : GoodIn wsX5_isLaw wsX5_in := goodIn_r _ [4] (by decide +kernel) (by decide +kernel)
set_option maxRecDepth 20000 in
theorem gX5_isLaw_X5_in : GoodIn wsX5_isLaw (va_wsS RX5 48 yX5_in wsX5_in) := goodIn_app (goodIn_of _ (by decide +kernel)) ggX5_isLaw_X5_in
theorem dX5_isLaw_0 : decode cX5_isLaw 0 = .ok (.iload_n 0, 1) := by decide +kernel
theorem dX5_isLaw_1 : decode cX5_isLaw 1 = .ok (.iconst 0, 1) := by decide +kernel
theorem dX5_isLaw_2 : decode cX5_isLaw 2 = .ok (.iconst 3, 1) := by decide +kernel
theorem dX5_isLaw_3 : decode cX5_isLaw 3 = .ok (.invokestatic 48, 3) := by decide +kernel
theorem dX5_isLaw_6 : decode cX5_isLaw 6 = .ok (.ireturn, 1) := by decide +kernel
theorem dX5_allVoters_0 : decode cX5_allVoters 0 = .ok (.iconst 0, 1) := by decide +kernel
theorem dX5_allVoters_1 : decode cX5_allVoters 1 = .ok (.istore_n 1, 1) := by decide +kernel
theorem dX5_allVoters_2 : decode cX5_allVoters 2 = .ok (.iconst 0, 1) := by decide +kernel
theorem dX5_allVoters_3 : decode cX5_allVoters 3 = .ok (.istore_n 2, 1) := by decide +kernel
theorem dX5_allVoters_4 : decode cX5_allVoters 4 = .ok (.iload_n 2, 1) := by decide +kernel
theorem dX5_allVoters_5 : decode cX5_allVoters 5 = .ok (.aload_n 0, 1) := by decide +kernel
theorem dX5_allVoters_6 : decode cX5_allVoters 6 = .ok (.getfield 7, 3) := by decide +kernel
theorem dX5_allVoters_9 : decode cX5_allVoters 9 = .ok (.iconst 1, 1) := by decide +kernel
theorem dX5_allVoters_10 : decode cX5_allVoters 10 = .ok (.iaload, 1) := by decide +kernel
theorem dX5_allVoters_11 : decode cX5_allVoters 11 = .ok (.if_icmp .ge 20, 3) := by decide +kernel
theorem dX5_allVoters_14 : decode cX5_allVoters 14 = .ok (.iload_n 1, 1) := by decide +kernel
theorem dX5_allVoters_15 : decode cX5_allVoters 15 = .ok (.aload_n 0, 1) := by decide +kernel
theorem dX5_allVoters_16 : decode cX5_allVoters 16 = .ok (.getfield 7, 3) := by decide +kernel
theorem dX5_allVoters_19 : decode cX5_allVoters 19 = .ok (.iconst 2, 1) := by decide +kernel
theorem dX5_allVoters_20 : decode cX5_allVoters 20 = .ok (.iload_n 2, 1) := by decide +kernel
theorem dX5_allVoters_21 : decode cX5_allVoters 21 = .ok (.iadd, 1) := by decide +kernel
theorem dX5_allVoters_22 : decode cX5_allVoters 22 = .ok (.iaload, 1) := by decide +kernel
theorem dX5_allVoters_23 : decode cX5_allVoters 23 = .ok (.iadd, 1) := by decide +kernel
theorem dX5_allVoters_24 : decode cX5_allVoters 24 = .ok (.istore_n 1, 1) := by decide +kernel
theorem dX5_allVoters_25 : decode cX5_allVoters 25 = .ok (.iinc 2 1, 3) := by decide +kernel
theorem dX5_allVoters_28 : decode cX5_allVoters 28 = .ok (.goto (-24), 3) := by decide +kernel
theorem dX5_allVoters_31 : decode cX5_allVoters 31 = .ok (.iload_n 1, 1) := by decide +kernel
theorem dX5_allVoters_32 : decode cX5_allVoters 32 = .ok (.ireturn, 1) := by decide +kernel
set_option maxRecDepth 20000 in
theorem ggX5_write_X5_in : GoodIn wsX5_write wsX5_in := goodIn_r _ [6] (by decide +kernel) (by decide +kernel)
set_option maxRecDepth 20000 in
theorem gX5_write_X5_in : GoodIn wsX5_write (va_wsS RX5 48 yX5_in wsX5_in) := goodIn_app (goodIn_of _ (by decide +kernel)) ggX5_write_X5_in
theorem dX5_write_0 : decode cX5_write 0 = .ok (.iload_n 1, 1) := by decide +kernel
theorem dX5_write_1 : decode cX5_write 1 = .ok (.bipush 32, 2) := by decide +kernel
theorem dX5_write_3 : decode cX5_write 3 = .ok (.bipush 126, 2) := by decide +kernel
theorem dX5_write_5 : decode cX5_write 5 = .ok (.invokestatic 48, 3) := by decide +kernel
theorem dX5_write_8 : decode cX5_write 8 = .ok (.ifCond .ne 5, 3) := by decide +kernel
theorem dX5_write_11 : decode cX5_write 11 = .ok (.iconst (-1), 1) := by decide +kernel
theorem dX5_write_12 : decode cX5_write 12 = .ok (.ireturn, 1) := by decide +kernel
theorem dX5_write_13 : decode cX5_write 13 = .ok (.aload_n 0, 1) := by decide +kernel
theorem dX5_write_14 : decode cX5_write 14 = .ok (.getfield 52, 3) := by decide +kernel
theorem dX5_write_17 : decode cX5_write 17 = .ok (.sipush 200, 3) := by decide +kernel
theorem dX5_write_20 : decode cX5_write 20 = .ok (.if_icmp .ne 6, 3) := by decide +kernel
theorem dX5_write_23 : decode cX5_write 23 = .ok (.bipush (-3), 2) := by decide +kernel
theorem dX5_write_25 : decode cX5_write 25 = .ok (.ireturn, 1) := by decide +kernel
theorem dX5_write_26 : decode cX5_write 26 = .ok (.aload_n 0, 1) := by decide +kernel
theorem dX5_write_27 : decode cX5_write 27 = .ok (.getfield 19, 3) := by decide +kernel
theorem dX5_write_30 : decode cX5_write 30 = .ok (.aload_n 0, 1) := by decide +kernel
theorem dX5_write_31 : decode cX5_write 31 = .ok (.getfield 52, 3) := by decide +kernel
theorem dX5_write_34 : decode cX5_write 34 = .ok (.iload_n 1, 1) := by decide +kernel
theorem dX5_write_35 : decode cX5_write 35 = .ok (.iastore, 1) := by decide +kernel
theorem dX5_write_36 : decode cX5_write 36 = .ok (.aload_n 0, 1) := by decide +kernel
theorem dX5_write_37 : decode cX5_write 37 = .ok (.dup, 1) := by decide +kernel
theorem dX5_write_38 : decode cX5_write 38 = .ok (.getfield 52, 3) := by decide +kernel
theorem dX5_write_41 : decode cX5_write 41 = .ok (.iconst 1, 1) := by decide +kernel
theorem dX5_write_42 : decode cX5_write 42 = .ok (.iadd, 1) := by decide +kernel
theorem dX5_write_43 : decode cX5_write 43 = .ok (.putfield 52, 3) := by decide +kernel
theorem dX5_write_46 : decode cX5_write 46 = .ok (.aload_n 0, 1) := by decide +kernel
theorem dX5_write_47 : decode cX5_write 47 = .ok (.getfield 52, 3) := by decide +kernel
theorem dX5_write_50 : decode cX5_write 50 = .ok (.ireturn, 1) := by decide +kernel
theorem dX5_wipe_0 : decode cX5_wipe 0 = .ok (.aload_n 0, 1) := by decide +kernel
theorem dX5_wipe_1 : decode cX5_wipe 1 = .ok (.getfield 52, 3) := by decide +kernel
theorem dX5_wipe_4 : decode cX5_wipe 4 = .ok (.istore_n 1, 1) := by decide +kernel
theorem dX5_wipe_5 : decode cX5_wipe 5 = .ok (.aload_n 0, 1) := by decide +kernel
theorem dX5_wipe_6 : decode cX5_wipe 6 = .ok (.iconst 0, 1) := by decide +kernel
theorem dX5_wipe_7 : decode cX5_wipe 7 = .ok (.putfield 52, 3) := by decide +kernel
theorem dX5_wipe_10 : decode cX5_wipe 10 = .ok (.iload_n 1, 1) := by decide +kernel
theorem dX5_wipe_11 : decode cX5_wipe 11 = .ok (.ireturn, 1) := by decide +kernel
theorem dX5_letterAt_0 : decode cX5_letterAt 0 = .ok (.iload_n 1, 1) := by decide +kernel
theorem dX5_letterAt_1 : decode cX5_letterAt 1 = .ok (.aload_n 0, 1) := by decide +kernel
theorem dX5_letterAt_2 : decode cX5_letterAt 2 = .ok (.getfield 52, 3) := by decide +kernel
theorem dX5_letterAt_5 : decode cX5_letterAt 5 = .ok (.if_icmp .ge 12, 3) := by decide +kernel
theorem dX5_letterAt_8 : decode cX5_letterAt 8 = .ok (.aload_n 0, 1) := by decide +kernel
theorem dX5_letterAt_9 : decode cX5_letterAt 9 = .ok (.getfield 19, 3) := by decide +kernel
theorem dX5_letterAt_12 : decode cX5_letterAt 12 = .ok (.iload_n 1, 1) := by decide +kernel
theorem dX5_letterAt_13 : decode cX5_letterAt 13 = .ok (.iaload, 1) := by decide +kernel
theorem dX5_letterAt_14 : decode cX5_letterAt 14 = .ok (.goto 5, 3) := by decide +kernel
theorem dX5_letterAt_17 : decode cX5_letterAt 17 = .ok (.bipush (-4), 2) := by decide +kernel
theorem dX5_letterAt_19 : decode cX5_letterAt 19 = .ok (.ireturn, 1) := by decide +kernel
set_option maxRecDepth 20000 in
theorem ggX5_takesNumber_X5_letterAt : GoodIn wsX5_takesNumber wsX5_letterAt := goodIn_r _ [8, 9, 3, 13, 14, 15, 16, 17, 18, 19, 20, 21, 22, 23, 24, 25, 26, 27, 28, 29, 30, 31] (by decide +kernel) (by decide +kernel)
set_option maxRecDepth 20000 in
theorem gX5_takesNumber_X5_letterAt : GoodIn wsX5_takesNumber (wsV RX5 62 RX5 yX5_letterAt wsX5_letterAt) := goodIn_app (goodIn_of _ (by decide +kernel)) ggX5_takesNumber_X5_letterAt
set_option maxRecDepth 20000 in
theorem ggX5_takesNumber_X5_in : GoodIn wsX5_takesNumber wsX5_in := goodIn_r _ [12] (by decide +kernel) (by decide +kernel)
set_option maxRecDepth 20000 in
theorem gX5_takesNumber_X5_in : GoodIn wsX5_takesNumber (va_wsS RX5 48 yX5_in wsX5_in) := goodIn_app (goodIn_of _ (by decide +kernel)) ggX5_takesNumber_X5_in
theorem dX5_takesNumber_0 : decode cX5_takesNumber 0 = .ok (.aload_n 0, 1) := by decide +kernel
theorem dX5_takesNumber_1 : decode cX5_takesNumber 1 = .ok (.getfield 56, 3) := by decide +kernel
theorem dX5_takesNumber_4 : decode cX5_takesNumber 4 = .ok (.istore_n 3, 1) := by decide +kernel
theorem dX5_takesNumber_5 : decode cX5_takesNumber 5 = .ok (.aload_n 0, 1) := by decide +kernel
theorem dX5_takesNumber_6 : decode cX5_takesNumber 6 = .ok (.iconst 0, 1) := by decide +kernel
theorem dX5_takesNumber_7 : decode cX5_takesNumber 7 = .ok (.putfield 59, 3) := by decide +kernel
theorem dX5_takesNumber_10 : decode cX5_takesNumber 10 = .ok (.aload_n 0, 1) := by decide +kernel
theorem dX5_takesNumber_11 : decode cX5_takesNumber 11 = .ok (.aload_n 0, 1) := by decide +kernel
theorem dX5_takesNumber_12 : decode cX5_takesNumber 12 = .ok (.getfield 56, 3) := by decide +kernel
theorem dX5_takesNumber_15 : decode cX5_takesNumber 15 = .ok (.invokevirtual 62, 3) := by decide +kernel
theorem dX5_takesNumber_18 : decode cX5_takesNumber 18 = .ok (.bipush 48, 2) := by decide +kernel
theorem dX5_takesNumber_20 : decode cX5_takesNumber 20 = .ok (.bipush 57, 2) := by decide +kernel
theorem dX5_takesNumber_22 : decode cX5_takesNumber 22 = .ok (.invokestatic 48, 3) := by decide +kernel
theorem dX5_takesNumber_25 : decode cX5_takesNumber 25 = .ok (.ifCond .eq 50, 3) := by decide +kernel
theorem dX5_takesNumber_28 : decode cX5_takesNumber 28 = .ok (.aload_n 0, 1) := by decide +kernel
theorem dX5_takesNumber_29 : decode cX5_takesNumber 29 = .ok (.getfield 56, 3) := by decide +kernel
theorem dX5_takesNumber_32 : decode cX5_takesNumber 32 = .ok (.iload_n 3, 1) := by decide +kernel
theorem dX5_takesNumber_33 : decode cX5_takesNumber 33 = .ok (.iconst 2, 1) := by decide +kernel
theorem dX5_takesNumber_34 : decode cX5_takesNumber 34 = .ok (.iadd, 1) := by decide +kernel
theorem dX5_takesNumber_35 : decode cX5_takesNumber 35 = .ok (.if_icmp .ge 40, 3) := by decide +kernel
theorem dX5_takesNumber_38 : decode cX5_takesNumber 38 = .ok (.aload_n 0, 1) := by decide +kernel
theorem dX5_takesNumber_39 : decode cX5_takesNumber 39 = .ok (.bipush 10, 2) := by decide +kernel
theorem dX5_takesNumber_41 : decode cX5_takesNumber 41 = .ok (.aload_n 0, 1) := by decide +kernel
theorem dX5_takesNumber_42 : decode cX5_takesNumber 42 = .ok (.getfield 59, 3) := by decide +kernel
theorem dX5_takesNumber_45 : decode cX5_takesNumber 45 = .ok (.imul, 1) := by decide +kernel
theorem dX5_takesNumber_46 : decode cX5_takesNumber 46 = .ok (.aload_n 0, 1) := by decide +kernel
theorem dX5_takesNumber_47 : decode cX5_takesNumber 47 = .ok (.getfield 19, 3) := by decide +kernel
theorem dX5_takesNumber_50 : decode cX5_takesNumber 50 = .ok (.aload_n 0, 1) := by decide +kernel
theorem dX5_takesNumber_51 : decode cX5_takesNumber 51 = .ok (.getfield 56, 3) := by decide +kernel
theorem dX5_takesNumber_54 : decode cX5_takesNumber 54 = .ok (.iaload, 1) := by decide +kernel
theorem dX5_takesNumber_55 : decode cX5_takesNumber 55 = .ok (.iadd, 1) := by decide +kernel
theorem dX5_takesNumber_56 : decode cX5_takesNumber 56 = .ok (.bipush 48, 2) := by decide +kernel
theorem dX5_takesNumber_58 : decode cX5_takesNumber 58 = .ok (.isub, 1) := by decide +kernel
theorem dX5_takesNumber_59 : decode cX5_takesNumber 59 = .ok (.putfield 59, 3) := by decide +kernel
theorem dX5_takesNumber_62 : decode cX5_takesNumber 62 = .ok (.aload_n 0, 1) := by decide +kernel
theorem dX5_takesNumber_63 : decode cX5_takesNumber 63 = .ok (.dup, 1) := by decide +kernel
theorem dX5_takesNumber_64 : decode cX5_takesNumber 64 = .ok (.getfield 56, 3) := by decide +kernel
theorem dX5_takesNumber_67 : decode cX5_takesNumber 67 = .ok (.iconst 1, 1) := by decide +kernel
theorem dX5_takesNumber_68 : decode cX5_takesNumber 68 = .ok (.iadd, 1) := by decide +kernel
theorem dX5_takesNumber_69 : decode cX5_takesNumber 69 = .ok (.putfield 56, 3) := by decide +kernel
theorem dX5_takesNumber_72 : decode cX5_takesNumber 72 = .ok (.goto (-62), 3) := by decide +kernel
theorem dX5_takesNumber_75 : decode cX5_takesNumber 75 = .ok (.aload_n 0, 1) := by decide +kernel
theorem dX5_takesNumber_76 : decode cX5_takesNumber 76 = .ok (.getfield 56, 3) := by decide +kernel
theorem dX5_takesNumber_79 : decode cX5_takesNumber 79 = .ok (.iload_n 3, 1) := by decide +kernel
theorem dX5_takesNumber_80 : decode cX5_takesNumber 80 = .ok (.if_icmp .le 19, 3) := by decide +kernel
theorem dX5_takesNumber_83 : decode cX5_takesNumber 83 = .ok (.aload_n 0, 1) := by decide +kernel
theorem dX5_takesNumber_84 : decode cX5_takesNumber 84 = .ok (.getfield 59, 3) := by decide +kernel
theorem dX5_takesNumber_87 : decode cX5_takesNumber 87 = .ok (.iload_n 1, 1) := by decide +kernel
theorem dX5_takesNumber_88 : decode cX5_takesNumber 88 = .ok (.iload_n 2, 1) := by decide +kernel
theorem dX5_takesNumber_89 : decode cX5_takesNumber 89 = .ok (.invokestatic 48, 3) := by decide +kernel
theorem dX5_takesNumber_92 : decode cX5_takesNumber 92 = .ok (.ifCond .eq 7, 3) := by decide +kernel
theorem dX5_takesNumber_95 : decode cX5_takesNumber 95 = .ok (.iconst 1, 1) := by decide +kernel
theorem dX5_takesNumber_96 : decode cX5_takesNumber 96 = .ok (.goto 4, 3) := by decide +kernel
theorem dX5_takesNumber_99 : decode cX5_takesNumber 99 = .ok (.iconst 0, 1) := by decide +kernel
theorem dX5_takesNumber_100 : decode cX5_takesNumber 100 = .ok (.ireturn, 1) := by decide +kernel
set_option maxRecDepth 20000 in
theorem ggX5_takes_X5_letterAt : GoodIn wsX5_takes wsX5_letterAt := goodIn_r _ [6, 7, 8, 9, 10, 11, 12, 13, 14, 15, 16, 17, 18, 19, 20, 21, 22, 23, 24, 25, 26, 27] (by decide +kernel) (by decide +kernel)
set_option maxRecDepth 20000 in
theorem gX5_takes_X5_letterAt : GoodIn wsX5_takes (wsV RX5 62 RX5 yX5_letterAt wsX5_letterAt) := goodIn_app (goodIn_of _ (by decide +kernel)) ggX5_takes_X5_letterAt
theorem dX5_takes_0 : decode cX5_takes 0 = .ok (.aload_n 0, 1) := by decide +kernel
theorem dX5_takes_1 : decode cX5_takes 1 = .ok (.aload_n 0, 1) := by decide +kernel
theorem dX5_takes_2 : decode cX5_takes 2 = .ok (.getfield 56, 3) := by decide +kernel
theorem dX5_takes_5 : decode cX5_takes 5 = .ok (.invokevirtual 62, 3) := by decide +kernel
theorem dX5_takes_8 : decode cX5_takes 8 = .ok (.iload_n 1, 1) := by decide +kernel
theorem dX5_takes_9 : decode cX5_takes 9 = .ok (.if_icmp .ne 7, 3) := by decide +kernel
theorem dX5_takes_12 : decode cX5_takes 12 = .ok (.iconst 1, 1) := by decide +kernel
theorem dX5_takes_13 : decode cX5_takes 13 = .ok (.goto 4, 3) := by decide +kernel
theorem dX5_takes_16 : decode cX5_takes 16 = .ok (.iconst 0, 1) := by decide +kernel
theorem dX5_takes_17 : decode cX5_takes 17 = .ok (.istore_n 2, 1) := by decide +kernel
theorem dX5_takes_18 : decode cX5_takes 18 = .ok (.aload_n 0, 1) := by decide +kernel
theorem dX5_takes_19 : decode cX5_takes 19 = .ok (.dup, 1) := by decide +kernel
theorem dX5_takes_20 : decode cX5_takes 20 = .ok (.getfield 56, 3) := by decide +kernel
theorem dX5_takes_23 : decode cX5_takes 23 = .ok (.iload_n 2, 1) := by decide +kernel
theorem dX5_takes_24 : decode cX5_takes 24 = .ok (.ifCond .eq 7, 3) := by decide +kernel
theorem dX5_takes_27 : decode cX5_takes 27 = .ok (.iconst 1, 1) := by decide +kernel
theorem dX5_takes_28 : decode cX5_takes 28 = .ok (.goto 4, 3) := by decide +kernel
theorem dX5_takes_31 : decode cX5_takes 31 = .ok (.iconst 0, 1) := by decide +kernel
theorem dX5_takes_32 : decode cX5_takes 32 = .ok (.iadd, 1) := by decide +kernel
theorem dX5_takes_33 : decode cX5_takes 33 = .ok (.putfield 56, 3) := by decide +kernel
theorem dX5_takes_36 : decode cX5_takes 36 = .ok (.iload_n 2, 1) := by decide +kernel
theorem dX5_takes_37 : decode cX5_takes 37 = .ok (.ireturn, 1) := by decide +kernel
set_option maxRecDepth 20000 in
theorem ggX5_isName_X5_letterAt : GoodIn wsX5_isName wsX5_letterAt := goodIn_r _ [7, 8, 9, 13, 14, 15, 16, 17, 18, 19, 20, 21, 22, 23, 24, 25, 26, 27, 28, 29, 30, 31] (by decide +kernel) (by decide +kernel)
set_option maxRecDepth 20000 in
theorem gX5_isName_X5_letterAt : GoodIn wsX5_isName (wsV RX5 62 RX5 yX5_letterAt wsX5_letterAt) := goodIn_app (goodIn_of _ (by decide +kernel)) ggX5_isName_X5_letterAt
set_option maxRecDepth 20000 in
theorem ggX5_isName_X5_in : GoodIn wsX5_isName wsX5_in := goodIn_r _ [12] (by decide +kernel) (by decide +kernel)
set_option maxRecDepth 20000 in
theorem gX5_isName_X5_in : GoodIn wsX5_isName (va_wsS RX5 48 yX5_in wsX5_in) := goodIn_app (goodIn_of _ (by decide +kernel)) ggX5_isName_X5_in
theorem dX5_isName_0 : decode cX5_isName 0 = .ok (.aload_n 0, 1) := by decide +kernel
theorem dX5_isName_1 : decode cX5_isName 1 = .ok (.aload_n 0, 1) := by decide +kernel
theorem dX5_isName_2 : decode cX5_isName 2 = .ok (.getfield 56, 3) := by decide +kernel
theorem dX5_isName_5 : decode cX5_isName 5 = .ok (.invokevirtual 62, 3) := by decide +kernel
theorem dX5_isName_8 : decode cX5_isName 8 = .ok (.bipush 97, 2) := by decide +kernel
theorem dX5_isName_10 : decode cX5_isName 10 = .ok (.bipush 97, 2) := by decide +kernel
theorem dX5_isName_12 : decode cX5_isName 12 = .ok (.aload_n 0, 1) := by decide +kernel
theorem dX5_isName_13 : decode cX5_isName 13 = .ok (.getfield 13, 3) := by decide +kernel
theorem dX5_isName_16 : decode cX5_isName 16 = .ok (.iconst 0, 1) := by decide +kernel
theorem dX5_isName_17 : decode cX5_isName 17 = .ok (.iaload, 1) := by decide +kernel
theorem dX5_isName_18 : decode cX5_isName 18 = .ok (.iadd, 1) := by decide +kernel
theorem dX5_isName_19 : decode cX5_isName 19 = .ok (.iconst 1, 1) := by decide +kernel
theorem dX5_isName_20 : decode cX5_isName 20 = .ok (.isub, 1) := by decide +kernel
theorem dX5_isName_21 : decode cX5_isName 21 = .ok (.invokestatic 48, 3) := by decide +kernel
theorem dX5_isName_24 : decode cX5_isName 24 = .ok (.ireturn, 1) := by decide +kernel
set_option maxRecDepth 20000 in
theorem ggX5_takesSet_X5_isName : GoodIn wsX5_takesSet wsX5_isName := goodIn_r _ [8, 3, 9, 10, 11, 12, 7, 13, 14, 2, 15, 16, 17, 18, 19, 20, 21, 22, 23, 24, 25, 26, 27, 28, 29, 30, 31, 32, 33, 34, 35, 36] (by decide +kernel) (by decide +kernel)
set_option maxRecDepth 20000 in
theorem gX5_takesSet_X5_isName : GoodIn wsX5_takesSet (wsV RX5 66 RX5 yX5_isName wsX5_isName) := goodIn_app (goodIn_of _ (by decide +kernel)) ggX5_takesSet_X5_isName
theorem dX5_takesSet_0 : decode cX5_takesSet 0 = .ok (.aload_n 0, 1) := by decide +kernel
theorem dX5_takesSet_1 : decode cX5_takesSet 1 = .ok (.iconst 0, 1) := by decide +kernel
theorem dX5_takesSet_2 : decode cX5_takesSet 2 = .ok (.putfield 59, 3) := by decide +kernel
theorem dX5_takesSet_5 : decode cX5_takesSet 5 = .ok (.iconst (-1), 1) := by decide +kernel
theorem dX5_takesSet_6 : decode cX5_takesSet 6 = .ok (.istore_n 1, 1) := by decide +kernel
theorem dX5_takesSet_7 : decode cX5_takesSet 7 = .ok (.aload_n 0, 1) := by decide +kernel
theorem dX5_takesSet_8 : decode cX5_takesSet 8 = .ok (.invokevirtual 66, 3) := by decide +kernel
theorem dX5_takesSet_11 : decode cX5_takesSet 11 = .ok (.ifCond .eq 57, 3) := by decide +kernel
theorem dX5_takesSet_14 : decode cX5_takesSet 14 = .ok (.aload_n 0, 1) := by decide +kernel
theorem dX5_takesSet_15 : decode cX5_takesSet 15 = .ok (.getfield 19, 3) := by decide +kernel
theorem dX5_takesSet_18 : decode cX5_takesSet 18 = .ok (.aload_n 0, 1) := by decide +kernel
theorem dX5_takesSet_19 : decode cX5_takesSet 19 = .ok (.getfield 56, 3) := by decide +kernel
theorem dX5_takesSet_22 : decode cX5_takesSet 22 = .ok (.iaload, 1) := by decide +kernel
theorem dX5_takesSet_23 : decode cX5_takesSet 23 = .ok (.bipush 97, 2) := by decide +kernel
theorem dX5_takesSet_25 : decode cX5_takesSet 25 = .ok (.isub, 1) := by decide +kernel
theorem dX5_takesSet_26 : decode cX5_takesSet 26 = .ok (.iload_n 1, 1) := by decide +kernel
theorem dX5_takesSet_27 : decode cX5_takesSet 27 = .ok (.if_icmp .le 41, 3) := by decide +kernel
theorem dX5_takesSet_30 : decode cX5_takesSet 30 = .ok (.aload_n 0, 1) := by decide +kernel
theorem dX5_takesSet_31 : decode cX5_takesSet 31 = .ok (.getfield 19, 3) := by decide +kernel
theorem dX5_takesSet_34 : decode cX5_takesSet 34 = .ok (.aload_n 0, 1) := by decide +kernel
theorem dX5_takesSet_35 : decode cX5_takesSet 35 = .ok (.getfield 56, 3) := by decide +kernel
theorem dX5_takesSet_38 : decode cX5_takesSet 38 = .ok (.iaload, 1) := by decide +kernel
theorem dX5_takesSet_39 : decode cX5_takesSet 39 = .ok (.bipush 97, 2) := by decide +kernel
theorem dX5_takesSet_41 : decode cX5_takesSet 41 = .ok (.isub, 1) := by decide +kernel
theorem dX5_takesSet_42 : decode cX5_takesSet 42 = .ok (.istore_n 1, 1) := by decide +kernel
theorem dX5_takesSet_43 : decode cX5_takesSet 43 = .ok (.aload_n 0, 1) := by decide +kernel
theorem dX5_takesSet_44 : decode cX5_takesSet 44 = .ok (.dup, 1) := by decide +kernel
theorem dX5_takesSet_45 : decode cX5_takesSet 45 = .ok (.getfield 59, 3) := by decide +kernel
theorem dX5_takesSet_48 : decode cX5_takesSet 48 = .ok (.iconst 1, 1) := by decide +kernel
theorem dX5_takesSet_49 : decode cX5_takesSet 49 = .ok (.iload_n 1, 1) := by decide +kernel
theorem dX5_takesSet_50 : decode cX5_takesSet 50 = .ok (.ishl, 1) := by decide +kernel
theorem dX5_takesSet_51 : decode cX5_takesSet 51 = .ok (.ior, 1) := by decide +kernel
theorem dX5_takesSet_52 : decode cX5_takesSet 52 = .ok (.putfield 59, 3) := by decide +kernel
theorem dX5_takesSet_55 : decode cX5_takesSet 55 = .ok (.aload_n 0, 1) := by decide +kernel
theorem dX5_takesSet_56 : decode cX5_takesSet 56 = .ok (.dup, 1) := by decide +kernel
theorem dX5_takesSet_57 : decode cX5_takesSet 57 = .ok (.getfield 56, 3) := by decide +kernel
theorem dX5_takesSet_60 : decode cX5_takesSet 60 = .ok (.iconst 1, 1) := by decide +kernel
theorem dX5_takesSet_61 : decode cX5_takesSet 61 = .ok (.iadd, 1) := by decide +kernel
theorem dX5_takesSet_62 : decode cX5_takesSet 62 = .ok (.putfield 56, 3) := by decide +kernel
theorem dX5_takesSet_65 : decode cX5_takesSet 65 = .ok (.goto (-58), 3) := by decide +kernel
theorem dX5_takesSet_68 : decode cX5_takesSet 68 = .ok (.aload_n 0, 1) := by decide +kernel
theorem dX5_takesSet_69 : decode cX5_takesSet 69 = .ok (.getfield 59, 3) := by decide +kernel
theorem dX5_takesSet_72 : decode cX5_takesSet 72 = .ok (.ifCond .le 7, 3) := by decide +kernel
theorem dX5_takesSet_75 : decode cX5_takesSet 75 = .ok (.iconst 1, 1) := by decide +kernel
theorem dX5_takesSet_76 : decode cX5_takesSet 76 = .ok (.goto 4, 3) := by decide +kernel
theorem dX5_takesSet_79 : decode cX5_takesSet 79 = .ok (.iconst 0, 1) := by decide +kernel
theorem dX5_takesSet_80 : decode cX5_takesSet 80 = .ok (.ireturn, 1) := by decide +kernel
theorem dX5_readVoters_0 : decode cX5_readVoters 0 = .ok (.iconst 0, 1) := by decide +kernel
theorem dX5_readVoters_1 : decode cX5_readVoters 1 = .ok (.istore_n 1, 1) := by decide +kernel
theorem dX5_readVoters_2 : decode cX5_readVoters 2 = .ok (.iconst 0, 1) := by decide +kernel
theorem dX5_readVoters_3 : decode cX5_readVoters 3 = .ok (.istore_n 2, 1) := by decide +kernel
theorem dX5_readVoters_4 : decode cX5_readVoters 4 = .ok (.iload_n 2, 1) := by decide +kernel
theorem dX5_readVoters_5 : decode cX5_readVoters 5 = .ok (.aload_n 0, 1) := by decide +kernel
theorem dX5_readVoters_6 : decode cX5_readVoters 6 = .ok (.getfield 13, 3) := by decide +kernel
theorem dX5_readVoters_9 : decode cX5_readVoters 9 = .ok (.iconst 1, 1) := by decide +kernel
theorem dX5_readVoters_10 : decode cX5_readVoters 10 = .ok (.iaload, 1) := by decide +kernel
theorem dX5_readVoters_11 : decode cX5_readVoters 11 = .ok (.if_icmp .ge 20, 3) := by decide +kernel
theorem dX5_readVoters_14 : decode cX5_readVoters 14 = .ok (.iload_n 1, 1) := by decide +kernel
theorem dX5_readVoters_15 : decode cX5_readVoters 15 = .ok (.aload_n 0, 1) := by decide +kernel
theorem dX5_readVoters_16 : decode cX5_readVoters 16 = .ok (.getfield 13, 3) := by decide +kernel
theorem dX5_readVoters_19 : decode cX5_readVoters 19 = .ok (.iconst 2, 1) := by decide +kernel
theorem dX5_readVoters_20 : decode cX5_readVoters 20 = .ok (.iload_n 2, 1) := by decide +kernel
theorem dX5_readVoters_21 : decode cX5_readVoters 21 = .ok (.iadd, 1) := by decide +kernel
theorem dX5_readVoters_22 : decode cX5_readVoters 22 = .ok (.iaload, 1) := by decide +kernel
theorem dX5_readVoters_23 : decode cX5_readVoters 23 = .ok (.iadd, 1) := by decide +kernel
theorem dX5_readVoters_24 : decode cX5_readVoters 24 = .ok (.istore_n 1, 1) := by decide +kernel
theorem dX5_readVoters_25 : decode cX5_readVoters 25 = .ok (.iinc 2 1, 3) := by decide +kernel
theorem dX5_readVoters_28 : decode cX5_readVoters 28 = .ok (.goto (-24), 3) := by decide +kernel
theorem dX5_readVoters_31 : decode cX5_readVoters 31 = .ok (.iload_n 1, 1) := by decide +kernel
theorem dX5_readVoters_32 : decode cX5_readVoters 32 = .ok (.ireturn, 1) := by decide +kernel
set_option maxRecDepth 20000 in
theorem ggX5_takesBallot_X5_takesNumber : GoodIn wsX5_takesBallot wsX5_takesNumber := goodIn_r _ [7, 8, 2, 9, 10, 11, 12, 6, 13, 14, 15, 16, 17, 34, 35, 36, 37, 38, 39, 40, 41, 42, 43, 44, 45, 46, 47, 48, 49, 50, 51, 52] (by decide +kernel) (by decide +kernel)
set_option maxRecDepth 20000 in
theorem gX5_takesBallot_X5_takesNumber : GoodIn wsX5_takesBallot (wsV RX5 70 RX5 yX5_takesNumber wsX5_takesNumber) := goodIn_app (goodIn_of _ (by decide +kernel)) ggX5_takesBallot_X5_takesNumber
set_option maxRecDepth 20000 in
theorem ggX5_takesBallot_X5_takes : GoodIn wsX5_takesBallot wsX5_takes := goodIn_r _ [21, 8, 10, 11, 12, 6, 13, 14, 9, 34, 35, 36, 37, 38, 39, 40, 41, 42, 43, 44, 45, 46, 47, 48, 49, 50, 51, 52] (by decide +kernel) (by decide +kernel)
set_option maxRecDepth 20000 in
theorem gX5_takesBallot_X5_takes : GoodIn wsX5_takesBallot (wsV RX5 74 RX5 yX5_takes wsX5_takes) := goodIn_app (goodIn_of _ (by decide +kernel)) ggX5_takesBallot_X5_takes
set_option maxRecDepth 20000 in
theorem ggX5_takesBallot_X5_takesSet : GoodIn wsX5_takesBallot wsX5_takesSet := goodIn_r _ [25, 2, 9, 8, 26, 27, 28, 6, 29, 1, 10, 11, 12, 13, 14, 15, 16, 17, 34, 35, 36, 37, 38, 39, 40, 41, 42, 43, 44, 45, 46, 47, 48, 49, 50, 51, 52] (by decide +kernel) (by decide +kernel)
set_option maxRecDepth 20000 in
theorem gX5_takesBallot_X5_takesSet : GoodIn wsX5_takesBallot (wsV RX5 78 RX5 yX5_takesSet wsX5_takesSet) := goodIn_app (goodIn_of _ (by decide +kernel)) ggX5_takesBallot_X5_takesSet
set_option maxRecDepth 20000 in
theorem ggX5_takesBallot_X5_readVoters : GoodIn wsX5_takesBallot wsX5_readVoters := goodIn_r _ [33, 1, 34, 35, 36, 37, 38, 39, 40, 41, 42, 43, 44, 45, 46, 47, 48, 49, 50, 51, 52] (by decide +kernel) (by decide +kernel)
set_option maxRecDepth 20000 in
theorem gX5_takesBallot_X5_readVoters : GoodIn wsX5_takesBallot (wsV RX5 81 RX5 yX5_readVoters wsX5_readVoters) := goodIn_app (goodIn_of _ (by decide +kernel)) ggX5_takesBallot_X5_readVoters
theorem dX5_takesBallot_0 : decode cX5_takesBallot 0 = .ok (.aload_n 0, 1) := by decide +kernel
theorem dX5_takesBallot_1 : decode cX5_takesBallot 1 = .ok (.iconst 1, 1) := by decide +kernel
theorem dX5_takesBallot_2 : decode cX5_takesBallot 2 = .ok (.bipush 20, 2) := by decide +kernel
theorem dX5_takesBallot_4 : decode cX5_takesBallot 4 = .ok (.invokevirtual 70, 3) := by decide +kernel
theorem dX5_takesBallot_7 : decode cX5_takesBallot 7 = .ok (.ifCond .eq 14, 3) := by decide +kernel
theorem dX5_takesBallot_10 : decode cX5_takesBallot 10 = .ok (.aload_n 0, 1) := by decide +kernel
theorem dX5_takesBallot_11 : decode cX5_takesBallot 11 = .ok (.getfield 13, 3) := by decide +kernel
theorem dX5_takesBallot_14 : decode cX5_takesBallot 14 = .ok (.iconst 1, 1) := by decide +kernel
theorem dX5_takesBallot_15 : decode cX5_takesBallot 15 = .ok (.iaload, 1) := by decide +kernel
theorem dX5_takesBallot_16 : decode cX5_takesBallot 16 = .ok (.bipush 10, 2) := by decide +kernel
theorem dX5_takesBallot_18 : decode cX5_takesBallot 18 = .ok (.if_icmp .ne 5, 3) := by decide +kernel
theorem dX5_takesBallot_21 : decode cX5_takesBallot 21 = .ok (.iconst 0, 1) := by decide +kernel
theorem dX5_takesBallot_22 : decode cX5_takesBallot 22 = .ok (.ireturn, 1) := by decide +kernel
theorem dX5_takesBallot_23 : decode cX5_takesBallot 23 = .ok (.aload_n 0, 1) := by decide +kernel
theorem dX5_takesBallot_24 : decode cX5_takesBallot 24 = .ok (.getfield 59, 3) := by decide +kernel
theorem dX5_takesBallot_27 : decode cX5_takesBallot 27 = .ok (.istore_n 1, 1) := by decide +kernel
theorem dX5_takesBallot_28 : decode cX5_takesBallot 28 = .ok (.aload_n 0, 1) := by decide +kernel
theorem dX5_takesBallot_29 : decode cX5_takesBallot 29 = .ok (.bipush 44, 2) := by decide +kernel
theorem dX5_takesBallot_31 : decode cX5_takesBallot 31 = .ok (.invokevirtual 74, 3) := by decide +kernel
theorem dX5_takesBallot_34 : decode cX5_takesBallot 34 = .ok (.ifCond .eq 21, 3) := by decide +kernel
theorem dX5_takesBallot_37 : decode cX5_takesBallot 37 = .ok (.aload_n 0, 1) := by decide +kernel
theorem dX5_takesBallot_38 : decode cX5_takesBallot 38 = .ok (.invokevirtual 78, 3) := by decide +kernel
theorem dX5_takesBallot_41 : decode cX5_takesBallot 41 = .ok (.ifCond .eq 14, 3) := by decide +kernel
theorem dX5_takesBallot_44 : decode cX5_takesBallot 44 = .ok (.aload_n 0, 1) := by decide +kernel
theorem dX5_takesBallot_45 : decode cX5_takesBallot 45 = .ok (.invokevirtual 81, 3) := by decide +kernel
theorem dX5_takesBallot_48 : decode cX5_takesBallot 48 = .ok (.iload_n 1, 1) := by decide +kernel
theorem dX5_takesBallot_49 : decode cX5_takesBallot 49 = .ok (.iadd, 1) := by decide +kernel
theorem dX5_takesBallot_50 : decode cX5_takesBallot 50 = .ok (.bipush 40, 2) := by decide +kernel
theorem dX5_takesBallot_52 : decode cX5_takesBallot 52 = .ok (.if_icmp .le 5, 3) := by decide +kernel
theorem dX5_takesBallot_55 : decode cX5_takesBallot 55 = .ok (.iconst 0, 1) := by decide +kernel
theorem dX5_takesBallot_56 : decode cX5_takesBallot 56 = .ok (.ireturn, 1) := by decide +kernel
theorem dX5_takesBallot_57 : decode cX5_takesBallot 57 = .ok (.aload_n 0, 1) := by decide +kernel
theorem dX5_takesBallot_58 : decode cX5_takesBallot 58 = .ok (.getfield 13, 3) := by decide +kernel
theorem dX5_takesBallot_61 : decode cX5_takesBallot 61 = .ok (.iconst 2, 1) := by decide +kernel
theorem dX5_takesBallot_62 : decode cX5_takesBallot 62 = .ok (.aload_n 0, 1) := by decide +kernel
theorem dX5_takesBallot_63 : decode cX5_takesBallot 63 = .ok (.getfield 13, 3) := by decide +kernel
theorem dX5_takesBallot_66 : decode cX5_takesBallot 66 = .ok (.iconst 1, 1) := by decide +kernel
theorem dX5_takesBallot_67 : decode cX5_takesBallot 67 = .ok (.iaload, 1) := by decide +kernel
theorem dX5_takesBallot_68 : decode cX5_takesBallot 68 = .ok (.iadd, 1) := by decide +kernel
theorem dX5_takesBallot_69 : decode cX5_takesBallot 69 = .ok (.iload_n 1, 1) := by decide +kernel
theorem dX5_takesBallot_70 : decode cX5_takesBallot 70 = .ok (.iastore, 1) := by decide +kernel
theorem dX5_takesBallot_71 : decode cX5_takesBallot 71 = .ok (.aload_n 0, 1) := by decide +kernel
theorem dX5_takesBallot_72 : decode cX5_takesBallot 72 = .ok (.getfield 13, 3) := by decide +kernel
theorem dX5_takesBallot_75 : decode cX5_takesBallot 75 = .ok (.bipush 12, 2) := by decide +kernel
theorem dX5_takesBallot_77 : decode cX5_takesBallot 77 = .ok (.aload_n 0, 1) := by decide +kernel
theorem dX5_takesBallot_78 : decode cX5_takesBallot 78 = .ok (.getfield 13, 3) := by decide +kernel
theorem dX5_takesBallot_81 : decode cX5_takesBallot 81 = .ok (.iconst 1, 1) := by decide +kernel
theorem dX5_takesBallot_82 : decode cX5_takesBallot 82 = .ok (.iaload, 1) := by decide +kernel
theorem dX5_takesBallot_83 : decode cX5_takesBallot 83 = .ok (.iadd, 1) := by decide +kernel
theorem dX5_takesBallot_84 : decode cX5_takesBallot 84 = .ok (.aload_n 0, 1) := by decide +kernel
theorem dX5_takesBallot_85 : decode cX5_takesBallot 85 = .ok (.getfield 59, 3) := by decide +kernel
theorem dX5_takesBallot_88 : decode cX5_takesBallot 88 = .ok (.iastore, 1) := by decide +kernel
theorem dX5_takesBallot_89 : decode cX5_takesBallot 89 = .ok (.aload_n 0, 1) := by decide +kernel
theorem dX5_takesBallot_90 : decode cX5_takesBallot 90 = .ok (.getfield 13, 3) := by decide +kernel
theorem dX5_takesBallot_93 : decode cX5_takesBallot 93 = .ok (.iconst 1, 1) := by decide +kernel
theorem dX5_takesBallot_94 : decode cX5_takesBallot 94 = .ok (.dup2, 1) := by decide +kernel
theorem dX5_takesBallot_95 : decode cX5_takesBallot 95 = .ok (.iaload, 1) := by decide +kernel
theorem dX5_takesBallot_96 : decode cX5_takesBallot 96 = .ok (.iconst 1, 1) := by decide +kernel
theorem dX5_takesBallot_97 : decode cX5_takesBallot 97 = .ok (.iadd, 1) := by decide +kernel
theorem dX5_takesBallot_98 : decode cX5_takesBallot 98 = .ok (.iastore, 1) := by decide +kernel
theorem dX5_takesBallot_99 : decode cX5_takesBallot 99 = .ok (.iconst 1, 1) := by decide +kernel
theorem dX5_takesBallot_100 : decode cX5_takesBallot 100 = .ok (.ireturn, 1) := by decide +kernel
set_option maxRecDepth 20000 in
theorem ggX5_takesRank_X5_isName : GoodIn wsX5_takesRank wsX5_isName := goodIn_r _ [8, 3, 1, 9, 10, 11, 7, 12, 13, 2, 14, 15, 16, 20, 21, 22, 23, 24, 25, 26, 27, 28, 29, 30, 31, 32, 33, 34, 35, 36, 37, 38] (by decide +kernel) (by decide +kernel)
set_option maxRecDepth 20000 in
theorem gX5_takesRank_X5_isName : GoodIn wsX5_takesRank (wsV RX5 66 RX5 yX5_isName wsX5_isName) := goodIn_app (goodIn_of _ (by decide +kernel)) ggX5_takesRank_X5_isName
set_option maxRecDepth 20000 in
theorem ggX5_takesRank_X5_has : GoodIn wsX5_takesRank wsX5_has := goodIn_r _ [19] (by decide +kernel) (by decide +kernel)
set_option maxRecDepth 20000 in
theorem gX5_takesRank_X5_has : GoodIn wsX5_takesRank (va_wsS RX5 85 yX5_has wsX5_has) := goodIn_app (goodIn_of _ (by decide +kernel)) ggX5_takesRank_X5_has
theorem dX5_takesRank_0 : decode cX5_takesRank 0 = .ok (.iconst 0, 1) := by decide +kernel
theorem dX5_takesRank_1 : decode cX5_takesRank 1 = .ok (.istore_n 1, 1) := by decide +kernel
theorem dX5_takesRank_2 : decode cX5_takesRank 2 = .ok (.iconst 0, 1) := by decide +kernel
theorem dX5_takesRank_3 : decode cX5_takesRank 3 = .ok (.istore_n 2, 1) := by decide +kernel
theorem dX5_takesRank_4 : decode cX5_takesRank 4 = .ok (.iload_n 2, 1) := by decide +kernel
theorem dX5_takesRank_5 : decode cX5_takesRank 5 = .ok (.aload_n 0, 1) := by decide +kernel
theorem dX5_takesRank_6 : decode cX5_takesRank 6 = .ok (.getfield 13, 3) := by decide +kernel
theorem dX5_takesRank_9 : decode cX5_takesRank 9 = .ok (.iconst 0, 1) := by decide +kernel
theorem dX5_takesRank_10 : decode cX5_takesRank 10 = .ok (.iaload, 1) := by decide +kernel
theorem dX5_takesRank_11 : decode cX5_takesRank 11 = .ok (.if_icmp .ge 82, 3) := by decide +kernel
theorem dX5_takesRank_14 : decode cX5_takesRank 14 = .ok (.aload_n 0, 1) := by decide +kernel
theorem dX5_takesRank_15 : decode cX5_takesRank 15 = .ok (.invokevirtual 66, 3) := by decide +kernel
theorem dX5_takesRank_18 : decode cX5_takesRank 18 = .ok (.ifCond .eq 22, 3) := by decide +kernel
theorem dX5_takesRank_21 : decode cX5_takesRank 21 = .ok (.iload_n 1, 1) := by decide +kernel
theorem dX5_takesRank_22 : decode cX5_takesRank 22 = .ok (.aload_n 0, 1) := by decide +kernel
theorem dX5_takesRank_23 : decode cX5_takesRank 23 = .ok (.getfield 19, 3) := by decide +kernel
theorem dX5_takesRank_26 : decode cX5_takesRank 26 = .ok (.aload_n 0, 1) := by decide +kernel
theorem dX5_takesRank_27 : decode cX5_takesRank 27 = .ok (.getfield 56, 3) := by decide +kernel
theorem dX5_takesRank_30 : decode cX5_takesRank 30 = .ok (.iaload, 1) := by decide +kernel
theorem dX5_takesRank_31 : decode cX5_takesRank 31 = .ok (.bipush 97, 2) := by decide +kernel
theorem dX5_takesRank_33 : decode cX5_takesRank 33 = .ok (.isub, 1) := by decide +kernel
theorem dX5_takesRank_34 : decode cX5_takesRank 34 = .ok (.invokestatic 85, 3) := by decide +kernel
theorem dX5_takesRank_37 : decode cX5_takesRank 37 = .ok (.ifCond .eq 5, 3) := by decide +kernel
theorem dX5_takesRank_40 : decode cX5_takesRank 40 = .ok (.iconst 0, 1) := by decide +kernel
theorem dX5_takesRank_41 : decode cX5_takesRank 41 = .ok (.ireturn, 1) := by decide +kernel
theorem dX5_takesRank_42 : decode cX5_takesRank 42 = .ok (.aload_n 0, 1) := by decide +kernel
theorem dX5_takesRank_43 : decode cX5_takesRank 43 = .ok (.getfield 13, 3) := by decide +kernel
theorem dX5_takesRank_46 : decode cX5_takesRank 46 = .ok (.bipush 24, 2) := by decide +kernel
theorem dX5_takesRank_48 : decode cX5_takesRank 48 = .ok (.iload_n 2, 1) := by decide +kernel
theorem dX5_takesRank_49 : decode cX5_takesRank 49 = .ok (.iadd, 1) := by decide +kernel
theorem dX5_takesRank_50 : decode cX5_takesRank 50 = .ok (.aload_n 0, 1) := by decide +kernel
theorem dX5_takesRank_51 : decode cX5_takesRank 51 = .ok (.getfield 19, 3) := by decide +kernel
theorem dX5_takesRank_54 : decode cX5_takesRank 54 = .ok (.aload_n 0, 1) := by decide +kernel
theorem dX5_takesRank_55 : decode cX5_takesRank 55 = .ok (.getfield 56, 3) := by decide +kernel
theorem dX5_takesRank_58 : decode cX5_takesRank 58 = .ok (.iaload, 1) := by decide +kernel
theorem dX5_takesRank_59 : decode cX5_takesRank 59 = .ok (.bipush 97, 2) := by decide +kernel
theorem dX5_takesRank_61 : decode cX5_takesRank 61 = .ok (.isub, 1) := by decide +kernel
theorem dX5_takesRank_62 : decode cX5_takesRank 62 = .ok (.iastore, 1) := by decide +kernel
theorem dX5_takesRank_63 : decode cX5_takesRank 63 = .ok (.iload_n 1, 1) := by decide +kernel
theorem dX5_takesRank_64 : decode cX5_takesRank 64 = .ok (.iconst 1, 1) := by decide +kernel
theorem dX5_takesRank_65 : decode cX5_takesRank 65 = .ok (.aload_n 0, 1) := by decide +kernel
theorem dX5_takesRank_66 : decode cX5_takesRank 66 = .ok (.getfield 13, 3) := by decide +kernel
theorem dX5_takesRank_69 : decode cX5_takesRank 69 = .ok (.bipush 24, 2) := by decide +kernel
theorem dX5_takesRank_71 : decode cX5_takesRank 71 = .ok (.iload_n 2, 1) := by decide +kernel
theorem dX5_takesRank_72 : decode cX5_takesRank 72 = .ok (.iadd, 1) := by decide +kernel
theorem dX5_takesRank_73 : decode cX5_takesRank 73 = .ok (.iaload, 1) := by decide +kernel
theorem dX5_takesRank_74 : decode cX5_takesRank 74 = .ok (.ishl, 1) := by decide +kernel
theorem dX5_takesRank_75 : decode cX5_takesRank 75 = .ok (.ior, 1) := by decide +kernel
theorem dX5_takesRank_76 : decode cX5_takesRank 76 = .ok (.istore_n 1, 1) := by decide +kernel
theorem dX5_takesRank_77 : decode cX5_takesRank 77 = .ok (.aload_n 0, 1) := by decide +kernel
theorem dX5_takesRank_78 : decode cX5_takesRank 78 = .ok (.dup, 1) := by decide +kernel
theorem dX5_takesRank_79 : decode cX5_takesRank 79 = .ok (.getfield 56, 3) := by decide +kernel
theorem dX5_takesRank_82 : decode cX5_takesRank 82 = .ok (.iconst 1, 1) := by decide +kernel
theorem dX5_takesRank_83 : decode cX5_takesRank 83 = .ok (.iadd, 1) := by decide +kernel
theorem dX5_takesRank_84 : decode cX5_takesRank 84 = .ok (.putfield 56, 3) := by decide +kernel
theorem dX5_takesRank_87 : decode cX5_takesRank 87 = .ok (.iinc 2 1, 3) := by decide +kernel
theorem dX5_takesRank_90 : decode cX5_takesRank 90 = .ok (.goto (-86), 3) := by decide +kernel
theorem dX5_takesRank_93 : decode cX5_takesRank 93 = .ok (.iconst 1, 1) := by decide +kernel
theorem dX5_takesRank_94 : decode cX5_takesRank 94 = .ok (.ireturn, 1) := by decide +kernel
set_option maxRecDepth 20000 in
theorem ggX5_takesCandidates_X5_takesNumber : GoodIn wsX5_takesCandidates wsX5_takesNumber := goodIn_r _ [7, 8, 2, 9, 10, 11, 12, 6, 13, 14, 15, 16, 17, 18, 19, 20, 21, 22, 23, 24, 25, 26, 27, 28, 29, 30, 31, 32, 33, 34, 35, 36] (by decide +kernel) (by decide +kernel)
set_option maxRecDepth 20000 in
theorem gX5_takesCandidates_X5_takesNumber : GoodIn wsX5_takesCandidates (wsV RX5 70 RX5 yX5_takesNumber wsX5_takesNumber) := goodIn_app (goodIn_of _ (by decide +kernel)) ggX5_takesCandidates_X5_takesNumber
theorem dX5_takesCandidates_0 : decode cX5_takesCandidates 0 = .ok (.aload_n 0, 1) := by decide +kernel
theorem dX5_takesCandidates_1 : decode cX5_takesCandidates 1 = .ok (.getfield 13, 3) := by decide +kernel
theorem dX5_takesCandidates_4 : decode cX5_takesCandidates 4 = .ok (.iconst 0, 1) := by decide +kernel
theorem dX5_takesCandidates_5 : decode cX5_takesCandidates 5 = .ok (.iaload, 1) := by decide +kernel
theorem dX5_takesCandidates_6 : decode cX5_takesCandidates 6 = .ok (.ifCond .gt 13, 3) := by decide +kernel
theorem dX5_takesCandidates_9 : decode cX5_takesCandidates 9 = .ok (.aload_n 0, 1) := by decide +kernel
theorem dX5_takesCandidates_10 : decode cX5_takesCandidates 10 = .ok (.iconst 1, 1) := by decide +kernel
theorem dX5_takesCandidates_11 : decode cX5_takesCandidates 11 = .ok (.bipush 8, 2) := by decide +kernel
theorem dX5_takesCandidates_13 : decode cX5_takesCandidates 13 = .ok (.invokevirtual 70, 3) := by decide +kernel
theorem dX5_takesCandidates_16 : decode cX5_takesCandidates 16 = .ok (.ifCond .ne 5, 3) := by decide +kernel
theorem dX5_takesCandidates_19 : decode cX5_takesCandidates 19 = .ok (.iconst 0, 1) := by decide +kernel
theorem dX5_takesCandidates_20 : decode cX5_takesCandidates 20 = .ok (.ireturn, 1) := by decide +kernel
theorem dX5_takesCandidates_21 : decode cX5_takesCandidates 21 = .ok (.aload_n 0, 1) := by decide +kernel
theorem dX5_takesCandidates_22 : decode cX5_takesCandidates 22 = .ok (.getfield 13, 3) := by decide +kernel
theorem dX5_takesCandidates_25 : decode cX5_takesCandidates 25 = .ok (.iconst 0, 1) := by decide +kernel
theorem dX5_takesCandidates_26 : decode cX5_takesCandidates 26 = .ok (.aload_n 0, 1) := by decide +kernel
theorem dX5_takesCandidates_27 : decode cX5_takesCandidates 27 = .ok (.getfield 59, 3) := by decide +kernel
theorem dX5_takesCandidates_30 : decode cX5_takesCandidates 30 = .ok (.iastore, 1) := by decide +kernel
theorem dX5_takesCandidates_31 : decode cX5_takesCandidates 31 = .ok (.iconst 0, 1) := by decide +kernel
theorem dX5_takesCandidates_32 : decode cX5_takesCandidates 32 = .ok (.istore_n 1, 1) := by decide +kernel
theorem dX5_takesCandidates_33 : decode cX5_takesCandidates 33 = .ok (.iload_n 1, 1) := by decide +kernel
theorem dX5_takesCandidates_34 : decode cX5_takesCandidates 34 = .ok (.aload_n 0, 1) := by decide +kernel
theorem dX5_takesCandidates_35 : decode cX5_takesCandidates 35 = .ok (.getfield 59, 3) := by decide +kernel
theorem dX5_takesCandidates_38 : decode cX5_takesCandidates 38 = .ok (.if_icmp .ge 19, 3) := by decide +kernel
theorem dX5_takesCandidates_41 : decode cX5_takesCandidates 41 = .ok (.aload_n 0, 1) := by decide +kernel
theorem dX5_takesCandidates_42 : decode cX5_takesCandidates 42 = .ok (.getfield 13, 3) := by decide +kernel
theorem dX5_takesCandidates_45 : decode cX5_takesCandidates 45 = .ok (.bipush 24, 2) := by decide +kernel
theorem dX5_takesCandidates_47 : decode cX5_takesCandidates 47 = .ok (.iload_n 1, 1) := by decide +kernel
theorem dX5_takesCandidates_48 : decode cX5_takesCandidates 48 = .ok (.iadd, 1) := by decide +kernel
theorem dX5_takesCandidates_49 : decode cX5_takesCandidates 49 = .ok (.iload_n 1, 1) := by decide +kernel
theorem dX5_takesCandidates_50 : decode cX5_takesCandidates 50 = .ok (.iastore, 1) := by decide +kernel
theorem dX5_takesCandidates_51 : decode cX5_takesCandidates 51 = .ok (.iinc 1 1, 3) := by decide +kernel
theorem dX5_takesCandidates_54 : decode cX5_takesCandidates 54 = .ok (.goto (-21), 3) := by decide +kernel
theorem dX5_takesCandidates_57 : decode cX5_takesCandidates 57 = .ok (.iconst 1, 1) := by decide +kernel
theorem dX5_takesCandidates_58 : decode cX5_takesCandidates 58 = .ok (.ireturn, 1) := by decide +kernel
set_option maxRecDepth 20000 in
theorem ggX5_takesSeats_X5_takesNumber : GoodIn wsX5_takesSeats wsX5_takesNumber := goodIn_r _ [7, 8, 2, 9, 10, 11, 12, 6, 13, 14, 15, 16, 17, 18, 19, 20, 21, 22, 23, 24, 25, 26, 27, 28, 29, 30, 31, 32, 33, 34, 35, 36] (by decide +kernel) (by decide +kernel)
set_option maxRecDepth 20000 in
theorem gX5_takesSeats_X5_takesNumber : GoodIn wsX5_takesSeats (wsV RX5 70 RX5 yX5_takesNumber wsX5_takesNumber) := goodIn_app (goodIn_of _ (by decide +kernel)) ggX5_takesSeats_X5_takesNumber
theorem dX5_takesSeats_0 : decode cX5_takesSeats 0 = .ok (.aload_n 0, 1) := by decide +kernel
theorem dX5_takesSeats_1 : decode cX5_takesSeats 1 = .ok (.iconst 1, 1) := by decide +kernel
theorem dX5_takesSeats_2 : decode cX5_takesSeats 2 = .ok (.bipush 8, 2) := by decide +kernel
theorem dX5_takesSeats_4 : decode cX5_takesSeats 4 = .ok (.invokevirtual 70, 3) := by decide +kernel
theorem dX5_takesSeats_7 : decode cX5_takesSeats 7 = .ok (.istore_n 1, 1) := by decide +kernel
theorem dX5_takesSeats_8 : decode cX5_takesSeats 8 = .ok (.aload_n 0, 1) := by decide +kernel
theorem dX5_takesSeats_9 : decode cX5_takesSeats 9 = .ok (.getfield 13, 3) := by decide +kernel
theorem dX5_takesSeats_12 : decode cX5_takesSeats 12 = .ok (.bipush 22, 2) := by decide +kernel
theorem dX5_takesSeats_14 : decode cX5_takesSeats 14 = .ok (.aload_n 0, 1) := by decide +kernel
theorem dX5_takesSeats_15 : decode cX5_takesSeats 15 = .ok (.getfield 59, 3) := by decide +kernel
theorem dX5_takesSeats_18 : decode cX5_takesSeats 18 = .ok (.iastore, 1) := by decide +kernel
theorem dX5_takesSeats_19 : decode cX5_takesSeats 19 = .ok (.iload_n 1, 1) := by decide +kernel
theorem dX5_takesSeats_20 : decode cX5_takesSeats 20 = .ok (.ireturn, 1) := by decide +kernel
set_option maxRecDepth 20000 in
theorem ggX5_takesItem_X5_letterAt : GoodIn wsX5_takesItem wsX5_letterAt := goodIn_r _ [7, 8, 9, 53, 54, 55, 56, 57, 58, 59, 60, 61, 62, 63, 64, 65, 66, 67, 68, 69, 70, 71] (by decide +kernel) (by decide +kernel)
set_option maxRecDepth 20000 in
theorem gX5_takesItem_X5_letterAt : GoodIn wsX5_takesItem (wsV RX5 62 RX5 yX5_letterAt wsX5_letterAt) := goodIn_app (goodIn_of _ (by decide +kernel)) ggX5_takesItem_X5_letterAt
set_option maxRecDepth 20000 in
theorem ggX5_takesItem_X5_takesCandidates : GoodIn wsX5_takesItem wsX5_takesCandidates := goodIn_r _ [13, 2, 14, 15, 16, 17, 6, 18, 1, 9, 3, 4, 5, 7, 8, 19, 20, 21, 53, 54, 55, 56, 57, 58, 59, 60, 61, 62, 63, 64, 65, 66, 67, 68, 69, 70, 71] (by decide +kernel) (by decide +kernel)
set_option maxRecDepth 20000 in
theorem gX5_takesItem_X5_takesCandidates : GoodIn wsX5_takesItem (wsV RX5 88 RX5 yX5_takesCandidates wsX5_takesCandidates) := goodIn_app (goodIn_of _ (by decide +kernel)) ggX5_takesItem_X5_takesCandidates
set_option maxRecDepth 20000 in
theorem ggX5_takesItem_X5_takes : GoodIn wsX5_takesItem wsX5_takes := goodIn_r _ [25, 1, 3, 4, 5, 6, 7, 8, 9, 53, 54, 55, 56, 57, 58, 59, 60, 61, 62, 63, 64, 65, 66, 67, 68, 69, 70, 71] (by decide +kernel) (by decide +kernel)
set_option maxRecDepth 20000 in
theorem gX5_takesItem_X5_takes : GoodIn wsX5_takesItem (wsV RX5 74 RX5 yX5_takes wsX5_takes) := goodIn_app (goodIn_of _ (by decide +kernel)) ggX5_takesItem_X5_takes
set_option maxRecDepth 20000 in
theorem ggX5_takesItem_X5_takesBallot : GoodIn wsX5_takesItem wsX5_takesBallot := goodIn_r _ [29, 2, 14, 15, 16, 17, 6, 18, 1, 9, 3, 4, 5, 7, 8, 19, 20, 21, 22, 23, 24, 25, 30, 31, 32, 33, 34, 35, 36, 37, 38, 39, 40, 41, 53, 54, 55, 56, 57, 58, 59, 60, 61, 62, 63, 64, 65, 66, 67, 68, 69, 70, 71] (by decide +kernel) (by decide +kernel)
set_option maxRecDepth 20000 in
theorem gX5_takesItem_X5_takesBallot : GoodIn wsX5_takesItem (wsV RX5 91 RX5 yX5_takesBallot wsX5_takesBallot) := goodIn_app (goodIn_of _ (by decide +kernel)) ggX5_takesItem_X5_takesBallot
set_option maxRecDepth 20000 in
theorem ggX5_takesItem_X5_takesSeats : GoodIn wsX5_takesItem wsX5_takesSeats := goodIn_r _ [45, 2, 14, 15, 16, 17, 6, 18, 1, 9, 3, 4, 5, 7, 8, 19, 20, 21, 53, 54, 55, 56, 57, 58, 59, 60, 61, 62, 63, 64, 65, 66, 67, 68, 69, 70, 71] (by decide +kernel) (by decide +kernel)
set_option maxRecDepth 20000 in
theorem gX5_takesItem_X5_takesSeats : GoodIn wsX5_takesItem (wsV RX5 94 RX5 yX5_takesSeats wsX5_takesSeats) := goodIn_app (goodIn_of _ (by decide +kernel)) ggX5_takesItem_X5_takesSeats
set_option maxRecDepth 20000 in
theorem ggX5_takesItem_X5_takesRank : GoodIn wsX5_takesItem wsX5_takesRank := goodIn_r _ [49, 2, 9, 1, 34, 35, 36, 6, 37, 3, 4, 5, 7, 8, 19, 20, 21, 50, 51, 52, 53, 54, 55, 56, 57, 58, 59, 60, 61, 62, 63, 64, 65, 66, 67, 68, 69, 70, 71] (by decide +kernel) (by decide +kernel)
set_option maxRecDepth 20000 in
theorem gX5_takesItem_X5_takesRank : GoodIn wsX5_takesItem (wsV RX5 97 RX5 yX5_takesRank wsX5_takesRank) := goodIn_app (goodIn_of _ (by decide +kernel)) ggX5_takesItem_X5_takesRank
theorem dX5_takesItem_0 : decode cX5_takesItem 0 = .ok (.aload_n 0, 1) := by decide +kernel
theorem dX5_takesItem_1 : decode cX5_takesItem 1 = .ok (.aload_n 0, 1) := by decide +kernel
theorem dX5_takesItem_2 : decode cX5_takesItem 2 = .ok (.getfield 56, 3) := by decide +kernel
theorem dX5_takesItem_5 : decode cX5_takesItem 5 = .ok (.invokevirtual 62, 3) := by decide +kernel
theorem dX5_takesItem_8 : decode cX5_takesItem 8 = .ok (.istore_n 1, 1) := by decide +kernel
theorem dX5_takesItem_9 : decode cX5_takesItem 9 = .ok (.aload_n 0, 1) := by decide +kernel
theorem dX5_takesItem_10 : decode cX5_takesItem 10 = .ok (.dup, 1) := by decide +kernel
theorem dX5_takesItem_11 : decode cX5_takesItem 11 = .ok (.getfield 56, 3) := by decide +kernel
theorem dX5_takesItem_14 : decode cX5_takesItem 14 = .ok (.iconst 1, 1) := by decide +kernel
theorem dX5_takesItem_15 : decode cX5_takesItem 15 = .ok (.iadd, 1) := by decide +kernel
theorem dX5_takesItem_16 : decode cX5_takesItem 16 = .ok (.putfield 56, 3) := by decide +kernel
theorem dX5_takesItem_19 : decode cX5_takesItem 19 = .ok (.iload_n 1, 1) := by decide +kernel
theorem dX5_takesItem_20 : decode cX5_takesItem 20 = .ok (.bipush 110, 2) := by decide +kernel
theorem dX5_takesItem_22 : decode cX5_takesItem 22 = .ok (.if_icmp .eq 12, 3) := by decide +kernel
theorem dX5_takesItem_25 : decode cX5_takesItem 25 = .ok (.aload_n 0, 1) := by decide +kernel
theorem dX5_takesItem_26 : decode cX5_takesItem 26 = .ok (.getfield 13, 3) := by decide +kernel
theorem dX5_takesItem_29 : decode cX5_takesItem 29 = .ok (.iconst 0, 1) := by decide +kernel
theorem dX5_takesItem_30 : decode cX5_takesItem 30 = .ok (.iaload, 1) := by decide +kernel
theorem dX5_takesItem_31 : decode cX5_takesItem 31 = .ok (.ifCond .le 7, 3) := by decide +kernel
theorem dX5_takesItem_34 : decode cX5_takesItem 34 = .ok (.iconst 1, 1) := by decide +kernel
theorem dX5_takesItem_35 : decode cX5_takesItem 35 = .ok (.goto 4, 3) := by decide +kernel
theorem dX5_takesItem_38 : decode cX5_takesItem 38 = .ok (.iconst 0, 1) := by decide +kernel
theorem dX5_takesItem_39 : decode cX5_takesItem 39 = .ok (.istore_n 2, 1) := by decide +kernel
theorem dX5_takesItem_40 : decode cX5_takesItem 40 = .ok (.iload_n 1, 1) := by decide +kernel
theorem dX5_takesItem_41 : decode cX5_takesItem 41 = .ok (.lookupswitch 143 #[(98, 65), (107, 91), (110, 43), (111, 117)], 43) := by decide +kernel
theorem dX5_takesItem_84 : decode cX5_takesItem 84 = .ok (.aload_n 0, 1) := by decide +kernel
theorem dX5_takesItem_85 : decode cX5_takesItem 85 = .ok (.invokevirtual 88, 3) := by decide +kernel
theorem dX5_takesItem_88 : decode cX5_takesItem 88 = .ok (.ifCond .eq 16, 3) := by decide +kernel
theorem dX5_takesItem_91 : decode cX5_takesItem 91 = .ok (.aload_n 0, 1) := by decide +kernel
theorem dX5_takesItem_92 : decode cX5_takesItem 92 = .ok (.bipush 59, 2) := by decide +kernel
theorem dX5_takesItem_94 : decode cX5_takesItem 94 = .ok (.invokevirtual 74, 3) := by decide +kernel
theorem dX5_takesItem_97 : decode cX5_takesItem 97 = .ok (.ifCond .eq 7, 3) := by decide +kernel
theorem dX5_takesItem_100 : decode cX5_takesItem 100 = .ok (.iconst 1, 1) := by decide +kernel
theorem dX5_takesItem_101 : decode cX5_takesItem 101 = .ok (.goto 4, 3) := by decide +kernel
theorem dX5_takesItem_104 : decode cX5_takesItem 104 = .ok (.iconst 0, 1) := by decide +kernel
theorem dX5_takesItem_105 : decode cX5_takesItem 105 = .ok (.ireturn, 1) := by decide +kernel
theorem dX5_takesItem_106 : decode cX5_takesItem 106 = .ok (.iload_n 2, 1) := by decide +kernel
theorem dX5_takesItem_107 : decode cX5_takesItem 107 = .ok (.ifCond .eq 23, 3) := by decide +kernel
theorem dX5_takesItem_110 : decode cX5_takesItem 110 = .ok (.aload_n 0, 1) := by decide +kernel
theorem dX5_takesItem_111 : decode cX5_takesItem 111 = .ok (.invokevirtual 91, 3) := by decide +kernel
theorem dX5_takesItem_114 : decode cX5_takesItem 114 = .ok (.ifCond .eq 16, 3) := by decide +kernel
theorem dX5_takesItem_117 : decode cX5_takesItem 117 = .ok (.aload_n 0, 1) := by decide +kernel
theorem dX5_takesItem_118 : decode cX5_takesItem 118 = .ok (.bipush 59, 2) := by decide +kernel
theorem dX5_takesItem_120 : decode cX5_takesItem 120 = .ok (.invokevirtual 74, 3) := by decide +kernel
theorem dX5_takesItem_123 : decode cX5_takesItem 123 = .ok (.ifCond .eq 7, 3) := by decide +kernel
theorem dX5_takesItem_126 : decode cX5_takesItem 126 = .ok (.iconst 1, 1) := by decide +kernel
theorem dX5_takesItem_127 : decode cX5_takesItem 127 = .ok (.goto 4, 3) := by decide +kernel
theorem dX5_takesItem_130 : decode cX5_takesItem 130 = .ok (.iconst 0, 1) := by decide +kernel
theorem dX5_takesItem_131 : decode cX5_takesItem 131 = .ok (.ireturn, 1) := by decide +kernel
theorem dX5_takesItem_132 : decode cX5_takesItem 132 = .ok (.iload_n 2, 1) := by decide +kernel
theorem dX5_takesItem_133 : decode cX5_takesItem 133 = .ok (.ifCond .eq 23, 3) := by decide +kernel
theorem dX5_takesItem_136 : decode cX5_takesItem 136 = .ok (.aload_n 0, 1) := by decide +kernel
theorem dX5_takesItem_137 : decode cX5_takesItem 137 = .ok (.invokevirtual 94, 3) := by decide +kernel
theorem dX5_takesItem_140 : decode cX5_takesItem 140 = .ok (.ifCond .eq 16, 3) := by decide +kernel
theorem dX5_takesItem_143 : decode cX5_takesItem 143 = .ok (.aload_n 0, 1) := by decide +kernel
theorem dX5_takesItem_144 : decode cX5_takesItem 144 = .ok (.bipush 59, 2) := by decide +kernel
theorem dX5_takesItem_146 : decode cX5_takesItem 146 = .ok (.invokevirtual 74, 3) := by decide +kernel
theorem dX5_takesItem_149 : decode cX5_takesItem 149 = .ok (.ifCond .eq 7, 3) := by decide +kernel
theorem dX5_takesItem_152 : decode cX5_takesItem 152 = .ok (.iconst 1, 1) := by decide +kernel
theorem dX5_takesItem_153 : decode cX5_takesItem 153 = .ok (.goto 4, 3) := by decide +kernel
theorem dX5_takesItem_156 : decode cX5_takesItem 156 = .ok (.iconst 0, 1) := by decide +kernel
theorem dX5_takesItem_157 : decode cX5_takesItem 157 = .ok (.ireturn, 1) := by decide +kernel
theorem dX5_takesItem_158 : decode cX5_takesItem 158 = .ok (.iload_n 2, 1) := by decide +kernel
theorem dX5_takesItem_159 : decode cX5_takesItem 159 = .ok (.ifCond .eq 23, 3) := by decide +kernel
theorem dX5_takesItem_162 : decode cX5_takesItem 162 = .ok (.aload_n 0, 1) := by decide +kernel
theorem dX5_takesItem_163 : decode cX5_takesItem 163 = .ok (.invokevirtual 97, 3) := by decide +kernel
theorem dX5_takesItem_166 : decode cX5_takesItem 166 = .ok (.ifCond .eq 16, 3) := by decide +kernel
theorem dX5_takesItem_169 : decode cX5_takesItem 169 = .ok (.aload_n 0, 1) := by decide +kernel
theorem dX5_takesItem_170 : decode cX5_takesItem 170 = .ok (.bipush 59, 2) := by decide +kernel
theorem dX5_takesItem_172 : decode cX5_takesItem 172 = .ok (.invokevirtual 74, 3) := by decide +kernel
theorem dX5_takesItem_175 : decode cX5_takesItem 175 = .ok (.ifCond .eq 7, 3) := by decide +kernel
theorem dX5_takesItem_178 : decode cX5_takesItem 178 = .ok (.iconst 1, 1) := by decide +kernel
theorem dX5_takesItem_179 : decode cX5_takesItem 179 = .ok (.goto 4, 3) := by decide +kernel
theorem dX5_takesItem_182 : decode cX5_takesItem 182 = .ok (.iconst 0, 1) := by decide +kernel
theorem dX5_takesItem_183 : decode cX5_takesItem 183 = .ok (.ireturn, 1) := by decide +kernel
theorem dX5_takesItem_184 : decode cX5_takesItem 184 = .ok (.iconst 0, 1) := by decide +kernel
theorem dX5_takesItem_185 : decode cX5_takesItem 185 = .ok (.ireturn, 1) := by decide +kernel
set_option maxRecDepth 20000 in
theorem ggX5_faultOf_X5_takesItem : GoodIn wsX5_faultOf wsX5_takesItem := goodIn_r _ [8, 2, 1, 9, 10, 11, 7, 12, 3, 13, 14, 15, 16, 17, 18, 19, 20, 21, 22, 23, 24, 25, 26, 27, 28, 29, 30, 31, 32, 33, 34, 35, 36, 37, 38, 39, 40, 41, 42, 43, 44, 45, 46, 47, 48, 49, 50, 51, 52, 53, 54, 55, 56, 57, 58, 59, 60, 61, 62, 63, 64, 65, 66, 67, 68, 69, 70, 71, 72, 73, 74, 75] (by decide +kernel) (by decide +kernel)
set_option maxRecDepth 20000 in
theorem gX5_faultOf_X5_takesItem : GoodIn wsX5_faultOf (wsV RX5 100 RX5 yX5_takesItem wsX5_takesItem) := goodIn_app (goodIn_of _ (by decide +kernel)) ggX5_faultOf_X5_takesItem
theorem dX5_faultOf_0 : decode cX5_faultOf 0 = .ok (.iconst 0, 1) := by decide +kernel
theorem dX5_faultOf_1 : decode cX5_faultOf 1 = .ok (.istore_n 1, 1) := by decide +kernel
theorem dX5_faultOf_2 : decode cX5_faultOf 2 = .ok (.iload_n 1, 1) := by decide +kernel
theorem dX5_faultOf_3 : decode cX5_faultOf 3 = .ok (.bipush 32, 2) := by decide +kernel
theorem dX5_faultOf_5 : decode cX5_faultOf 5 = .ok (.if_icmp .ge 16, 3) := by decide +kernel
theorem dX5_faultOf_8 : decode cX5_faultOf 8 = .ok (.aload_n 0, 1) := by decide +kernel
theorem dX5_faultOf_9 : decode cX5_faultOf 9 = .ok (.getfield 13, 3) := by decide +kernel
theorem dX5_faultOf_12 : decode cX5_faultOf 12 = .ok (.iload_n 1, 1) := by decide +kernel
theorem dX5_faultOf_13 : decode cX5_faultOf 13 = .ok (.iconst 0, 1) := by decide +kernel
theorem dX5_faultOf_14 : decode cX5_faultOf 14 = .ok (.iastore, 1) := by decide +kernel
theorem dX5_faultOf_15 : decode cX5_faultOf 15 = .ok (.iinc 1 1, 3) := by decide +kernel
theorem dX5_faultOf_18 : decode cX5_faultOf 18 = .ok (.goto (-16), 3) := by decide +kernel
theorem dX5_faultOf_21 : decode cX5_faultOf 21 = .ok (.aload_n 0, 1) := by decide +kernel
theorem dX5_faultOf_22 : decode cX5_faultOf 22 = .ok (.getfield 13, 3) := by decide +kernel
theorem dX5_faultOf_25 : decode cX5_faultOf 25 = .ok (.bipush 22, 2) := by decide +kernel
theorem dX5_faultOf_27 : decode cX5_faultOf 27 = .ok (.iconst 3, 1) := by decide +kernel
theorem dX5_faultOf_28 : decode cX5_faultOf 28 = .ok (.iastore, 1) := by decide +kernel
theorem dX5_faultOf_29 : decode cX5_faultOf 29 = .ok (.aload_n 0, 1) := by decide +kernel
theorem dX5_faultOf_30 : decode cX5_faultOf 30 = .ok (.iconst 0, 1) := by decide +kernel
theorem dX5_faultOf_31 : decode cX5_faultOf 31 = .ok (.putfield 56, 3) := by decide +kernel
theorem dX5_faultOf_34 : decode cX5_faultOf 34 = .ok (.aload_n 0, 1) := by decide +kernel
theorem dX5_faultOf_35 : decode cX5_faultOf 35 = .ok (.getfield 56, 3) := by decide +kernel
theorem dX5_faultOf_38 : decode cX5_faultOf 38 = .ok (.aload_n 0, 1) := by decide +kernel
theorem dX5_faultOf_39 : decode cX5_faultOf 39 = .ok (.getfield 52, 3) := by decide +kernel
theorem dX5_faultOf_42 : decode cX5_faultOf 42 = .ok (.if_icmp .ge 20, 3) := by decide +kernel
theorem dX5_faultOf_45 : decode cX5_faultOf 45 = .ok (.aload_n 0, 1) := by decide +kernel
theorem dX5_faultOf_46 : decode cX5_faultOf 46 = .ok (.getfield 56, 3) := by decide +kernel
theorem dX5_faultOf_49 : decode cX5_faultOf 49 = .ok (.istore_n 1, 1) := by decide +kernel
theorem dX5_faultOf_50 : decode cX5_faultOf 50 = .ok (.aload_n 0, 1) := by decide +kernel
theorem dX5_faultOf_51 : decode cX5_faultOf 51 = .ok (.invokevirtual 100, 3) := by decide +kernel
theorem dX5_faultOf_54 : decode cX5_faultOf 54 = .ok (.ifCond .ne 5, 3) := by decide +kernel
theorem dX5_faultOf_57 : decode cX5_faultOf 57 = .ok (.iload_n 1, 1) := by decide +kernel
theorem dX5_faultOf_58 : decode cX5_faultOf 58 = .ok (.ireturn, 1) := by decide +kernel
theorem dX5_faultOf_59 : decode cX5_faultOf 59 = .ok (.goto (-25), 3) := by decide +kernel
theorem dX5_faultOf_62 : decode cX5_faultOf 62 = .ok (.bipush (-4), 2) := by decide +kernel
theorem dX5_faultOf_64 : decode cX5_faultOf 64 = .ok (.ireturn, 1) := by decide +kernel
set_option maxRecDepth 20000 in
theorem ggX5_fault_X5_faultOf : GoodIn wsX5_fault wsX5_faultOf := goodIn_r _ [5, 6, 7, 8, 9, 10, 11, 4, 12, 13, 14, 15, 16, 17, 18, 19, 20, 21, 22, 23, 24, 25, 26, 27, 28, 29, 30, 31, 32, 33, 34, 35, 36, 37, 38, 39, 40, 41, 42, 43, 44, 45, 46, 47, 48, 49, 50, 51, 52, 53, 54, 55, 56, 57, 58, 59, 60, 61, 62, 63, 64, 65, 66, 67, 68, 69, 70, 71, 72, 73, 74, 75, 76, 77, 78, 79] (by decide +kernel) (by decide +kernel)
set_option maxRecDepth 20000 in
theorem gX5_fault_X5_faultOf : GoodIn wsX5_fault (wsV RX5 103 RX5 yX5_faultOf wsX5_faultOf) := goodIn_app (goodIn_of _ (by decide +kernel)) ggX5_fault_X5_faultOf
theorem dX5_fault_0 : decode cX5_fault 0 = .ok (.aload_n 0, 1) := by decide +kernel
theorem dX5_fault_1 : decode cX5_fault 1 = .ok (.invokevirtual 103, 3) := by decide +kernel
theorem dX5_fault_4 : decode cX5_fault 4 = .ok (.ireturn, 1) := by decide +kernel
set_option maxRecDepth 20000 in
theorem ggX5_lay_X5_faultOf : GoodIn wsX5_lay wsX5_faultOf := goodIn_r _ [8, 1, 9, 10, 11, 12, 13, 7, 14, 15, 16, 17, 18, 19, 20, 21, 22, 23, 24, 25, 26, 27, 28, 29, 30, 31, 32, 33, 34, 35, 36, 37, 38, 39, 40, 41, 42, 43, 44, 45, 46, 47, 48, 49, 50, 51, 52, 53, 54, 55, 56, 57, 58, 59, 60, 61, 62, 63, 64, 65, 66, 67, 68, 69, 70, 71, 72, 73, 74, 75, 76, 77, 78, 79, 80, 81] (by decide +kernel) (by decide +kernel)
set_option maxRecDepth 20000 in
theorem gX5_lay_X5_faultOf : GoodIn wsX5_lay (wsV RX5 103 RX5 yX5_faultOf wsX5_faultOf) := goodIn_app (goodIn_of _ (by decide +kernel)) ggX5_lay_X5_faultOf
theorem dX5_lay_0 : decode cX5_lay 0 = .ok (.aload_n 0, 1) := by decide +kernel
theorem dX5_lay_1 : decode cX5_lay 1 = .ok (.invokevirtual 103, 3) := by decide +kernel
theorem dX5_lay_4 : decode cX5_lay 4 = .ok (.bipush (-4), 2) := by decide +kernel
theorem dX5_lay_6 : decode cX5_lay 6 = .ok (.if_icmp .ne 12, 3) := by decide +kernel
theorem dX5_lay_9 : decode cX5_lay 9 = .ok (.aload_n 0, 1) := by decide +kernel
theorem dX5_lay_10 : decode cX5_lay 10 = .ok (.getfield 13, 3) := by decide +kernel
theorem dX5_lay_13 : decode cX5_lay 13 = .ok (.iconst 0, 1) := by decide +kernel
theorem dX5_lay_14 : decode cX5_lay 14 = .ok (.iaload, 1) := by decide +kernel
theorem dX5_lay_15 : decode cX5_lay 15 = .ok (.ifCond .ne 6, 3) := by decide +kernel
theorem dX5_lay_18 : decode cX5_lay 18 = .ok (.bipush (-2), 2) := by decide +kernel
theorem dX5_lay_20 : decode cX5_lay 20 = .ok (.ireturn, 1) := by decide +kernel
theorem dX5_lay_21 : decode cX5_lay 21 = .ok (.iconst 0, 1) := by decide +kernel
theorem dX5_lay_22 : decode cX5_lay 22 = .ok (.istore_n 1, 1) := by decide +kernel
theorem dX5_lay_23 : decode cX5_lay 23 = .ok (.iload_n 1, 1) := by decide +kernel
theorem dX5_lay_24 : decode cX5_lay 24 = .ok (.bipush 32, 2) := by decide +kernel
theorem dX5_lay_26 : decode cX5_lay 26 = .ok (.if_icmp .ge 21, 3) := by decide +kernel
theorem dX5_lay_29 : decode cX5_lay 29 = .ok (.aload_n 0, 1) := by decide +kernel
theorem dX5_lay_30 : decode cX5_lay 30 = .ok (.getfield 7, 3) := by decide +kernel
theorem dX5_lay_33 : decode cX5_lay 33 = .ok (.iload_n 1, 1) := by decide +kernel
theorem dX5_lay_34 : decode cX5_lay 34 = .ok (.aload_n 0, 1) := by decide +kernel
theorem dX5_lay_35 : decode cX5_lay 35 = .ok (.getfield 13, 3) := by decide +kernel
theorem dX5_lay_38 : decode cX5_lay 38 = .ok (.iload_n 1, 1) := by decide +kernel
theorem dX5_lay_39 : decode cX5_lay 39 = .ok (.iaload, 1) := by decide +kernel
theorem dX5_lay_40 : decode cX5_lay 40 = .ok (.iastore, 1) := by decide +kernel
theorem dX5_lay_41 : decode cX5_lay 41 = .ok (.iinc 1 1, 3) := by decide +kernel
theorem dX5_lay_44 : decode cX5_lay 44 = .ok (.goto (-21), 3) := by decide +kernel
theorem dX5_lay_47 : decode cX5_lay 47 = .ok (.aload_n 0, 1) := by decide +kernel
theorem dX5_lay_48 : decode cX5_lay 48 = .ok (.iconst 0, 1) := by decide +kernel
theorem dX5_lay_49 : decode cX5_lay 49 = .ok (.putfield 106, 3) := by decide +kernel
theorem dX5_lay_52 : decode cX5_lay 52 = .ok (.aload_n 0, 1) := by decide +kernel
theorem dX5_lay_53 : decode cX5_lay 53 = .ok (.getfield 7, 3) := by decide +kernel
theorem dX5_lay_56 : decode cX5_lay 56 = .ok (.iconst 0, 1) := by decide +kernel
theorem dX5_lay_57 : decode cX5_lay 57 = .ok (.iaload, 1) := by decide +kernel
theorem dX5_lay_58 : decode cX5_lay 58 = .ok (.ireturn, 1) := by decide +kernel
theorem dX5_remembers_0 : decode cX5_remembers 0 = .ok (.aload_n 0, 1) := by decide +kernel
theorem dX5_remembers_1 : decode cX5_remembers 1 = .ok (.getfield 106, 3) := by decide +kernel
theorem dX5_remembers_4 : decode cX5_remembers 4 = .ok (.bipush 6, 2) := by decide +kernel
theorem dX5_remembers_6 : decode cX5_remembers 6 = .ok (.if_icmp .ne 43, 3) := by decide +kernel
theorem dX5_remembers_9 : decode cX5_remembers 9 = .ok (.iconst 0, 1) := by decide +kernel
theorem dX5_remembers_10 : decode cX5_remembers 10 = .ok (.istore_n 1, 1) := by decide +kernel
theorem dX5_remembers_11 : decode cX5_remembers 11 = .ok (.iload_n 1, 1) := by decide +kernel
theorem dX5_remembers_12 : decode cX5_remembers 12 = .ok (.sipush 160, 3) := by decide +kernel
theorem dX5_remembers_15 : decode cX5_remembers 15 = .ok (.if_icmp .ge 24, 3) := by decide +kernel
theorem dX5_remembers_18 : decode cX5_remembers 18 = .ok (.aload_n 0, 1) := by decide +kernel
theorem dX5_remembers_19 : decode cX5_remembers 19 = .ok (.getfield 16, 3) := by decide +kernel
theorem dX5_remembers_22 : decode cX5_remembers 22 = .ok (.iload_n 1, 1) := by decide +kernel
theorem dX5_remembers_23 : decode cX5_remembers 23 = .ok (.aload_n 0, 1) := by decide +kernel
theorem dX5_remembers_24 : decode cX5_remembers 24 = .ok (.getfield 16, 3) := by decide +kernel
theorem dX5_remembers_27 : decode cX5_remembers 27 = .ok (.iload_n 1, 1) := by decide +kernel
theorem dX5_remembers_28 : decode cX5_remembers 28 = .ok (.bipush 32, 2) := by decide +kernel
theorem dX5_remembers_30 : decode cX5_remembers 30 = .ok (.iadd, 1) := by decide +kernel
theorem dX5_remembers_31 : decode cX5_remembers 31 = .ok (.iaload, 1) := by decide +kernel
theorem dX5_remembers_32 : decode cX5_remembers 32 = .ok (.iastore, 1) := by decide +kernel
theorem dX5_remembers_33 : decode cX5_remembers 33 = .ok (.iinc 1 1, 3) := by decide +kernel
theorem dX5_remembers_36 : decode cX5_remembers 36 = .ok (.goto (-25), 3) := by decide +kernel
theorem dX5_remembers_39 : decode cX5_remembers 39 = .ok (.aload_n 0, 1) := by decide +kernel
theorem dX5_remembers_40 : decode cX5_remembers 40 = .ok (.dup, 1) := by decide +kernel
theorem dX5_remembers_41 : decode cX5_remembers 41 = .ok (.getfield 106, 3) := by decide +kernel
theorem dX5_remembers_44 : decode cX5_remembers 44 = .ok (.iconst 1, 1) := by decide +kernel
theorem dX5_remembers_45 : decode cX5_remembers 45 = .ok (.isub, 1) := by decide +kernel
theorem dX5_remembers_46 : decode cX5_remembers 46 = .ok (.putfield 106, 3) := by decide +kernel
theorem dX5_remembers_49 : decode cX5_remembers 49 = .ok (.iconst 0, 1) := by decide +kernel
theorem dX5_remembers_50 : decode cX5_remembers 50 = .ok (.istore_n 1, 1) := by decide +kernel
theorem dX5_remembers_51 : decode cX5_remembers 51 = .ok (.iload_n 1, 1) := by decide +kernel
theorem dX5_remembers_52 : decode cX5_remembers 52 = .ok (.bipush 32, 2) := by decide +kernel
theorem dX5_remembers_54 : decode cX5_remembers 54 = .ok (.if_icmp .ge 29, 3) := by decide +kernel
theorem dX5_remembers_57 : decode cX5_remembers 57 = .ok (.aload_n 0, 1) := by decide +kernel
theorem dX5_remembers_58 : decode cX5_remembers 58 = .ok (.getfield 16, 3) := by decide +kernel
theorem dX5_remembers_61 : decode cX5_remembers 61 = .ok (.bipush 32, 2) := by decide +kernel
theorem dX5_remembers_63 : decode cX5_remembers 63 = .ok (.aload_n 0, 1) := by decide +kernel
theorem dX5_remembers_64 : decode cX5_remembers 64 = .ok (.getfield 106, 3) := by decide +kernel
theorem dX5_remembers_67 : decode cX5_remembers 67 = .ok (.imul, 1) := by decide +kernel
theorem dX5_remembers_68 : decode cX5_remembers 68 = .ok (.iload_n 1, 1) := by decide +kernel
theorem dX5_remembers_69 : decode cX5_remembers 69 = .ok (.iadd, 1) := by decide +kernel
theorem dX5_remembers_70 : decode cX5_remembers 70 = .ok (.aload_n 0, 1) := by decide +kernel
theorem dX5_remembers_71 : decode cX5_remembers 71 = .ok (.getfield 7, 3) := by decide +kernel
theorem dX5_remembers_74 : decode cX5_remembers 74 = .ok (.iload_n 1, 1) := by decide +kernel
theorem dX5_remembers_75 : decode cX5_remembers 75 = .ok (.iaload, 1) := by decide +kernel
theorem dX5_remembers_76 : decode cX5_remembers 76 = .ok (.iastore, 1) := by decide +kernel
theorem dX5_remembers_77 : decode cX5_remembers 77 = .ok (.iinc 1 1, 3) := by decide +kernel
theorem dX5_remembers_80 : decode cX5_remembers 80 = .ok (.goto (-29), 3) := by decide +kernel
theorem dX5_remembers_83 : decode cX5_remembers 83 = .ok (.aload_n 0, 1) := by decide +kernel
theorem dX5_remembers_84 : decode cX5_remembers 84 = .ok (.dup, 1) := by decide +kernel
theorem dX5_remembers_85 : decode cX5_remembers 85 = .ok (.getfield 106, 3) := by decide +kernel
theorem dX5_remembers_88 : decode cX5_remembers 88 = .ok (.iconst 1, 1) := by decide +kernel
theorem dX5_remembers_89 : decode cX5_remembers 89 = .ok (.iadd, 1) := by decide +kernel
theorem dX5_remembers_90 : decode cX5_remembers 90 = .ok (.putfield 106, 3) := by decide +kernel
theorem dX5_remembers_93 : decode cX5_remembers 93 = .ok (.return_, 1) := by decide +kernel
set_option maxRecDepth 20000 in
theorem ggX5_exchanges_X5_remembers : GoodIn wsX5_exchanges wsX5_remembers := goodIn_r _ [6, 7, 8, 1, 9, 10, 11, 12, 13, 14, 15, 16, 17, 18, 19, 20, 21, 22, 23, 24, 25, 26, 27] (by decide +kernel) (by decide +kernel)
set_option maxRecDepth 20000 in
theorem gX5_exchanges_X5_remembers : GoodIn wsX5_exchanges (wsV RX5 109 RX5 yX5_remembers wsX5_remembers) := goodIn_app (goodIn_of _ (by decide +kernel)) ggX5_exchanges_X5_remembers
theorem dX5_exchanges_0 : decode cX5_exchanges 0 = .ok (.aload_n 0, 1) := by decide +kernel
theorem dX5_exchanges_1 : decode cX5_exchanges 1 = .ok (.invokevirtual 109, 3) := by decide +kernel
theorem dX5_exchanges_4 : decode cX5_exchanges 4 = .ok (.aload_n 0, 1) := by decide +kernel
theorem dX5_exchanges_5 : decode cX5_exchanges 5 = .ok (.getfield 7, 3) := by decide +kernel
theorem dX5_exchanges_8 : decode cX5_exchanges 8 = .ok (.iload_n 1, 1) := by decide +kernel
theorem dX5_exchanges_9 : decode cX5_exchanges 9 = .ok (.iaload, 1) := by decide +kernel
theorem dX5_exchanges_10 : decode cX5_exchanges 10 = .ok (.istore_n 3, 1) := by decide +kernel
theorem dX5_exchanges_11 : decode cX5_exchanges 11 = .ok (.aload_n 0, 1) := by decide +kernel
theorem dX5_exchanges_12 : decode cX5_exchanges 12 = .ok (.getfield 7, 3) := by decide +kernel
theorem dX5_exchanges_15 : decode cX5_exchanges 15 = .ok (.iload_n 1, 1) := by decide +kernel
theorem dX5_exchanges_16 : decode cX5_exchanges 16 = .ok (.iload_n 2, 1) := by decide +kernel
theorem dX5_exchanges_17 : decode cX5_exchanges 17 = .ok (.iastore, 1) := by decide +kernel
theorem dX5_exchanges_18 : decode cX5_exchanges 18 = .ok (.iload_n 3, 1) := by decide +kernel
theorem dX5_exchanges_19 : decode cX5_exchanges 19 = .ok (.ireturn, 1) := by decide +kernel
set_option maxRecDepth 20000 in
theorem ggX5_ballot_X5_in : GoodIn wsX5_ballot wsX5_in := goodIn_r _ [5] (by decide +kernel) (by decide +kernel)
set_option maxRecDepth 20000 in
theorem gX5_ballot_X5_in : GoodIn wsX5_ballot (va_wsS RX5 48 yX5_in wsX5_in) := goodIn_app (goodIn_of _ (by decide +kernel)) ggX5_ballot_X5_in
set_option maxRecDepth 20000 in
theorem ggX5_ballot_X5_isSet : GoodIn wsX5_ballot wsX5_isSet := goodIn_r _ [9, 1, 2, 3, 4, 5, 24, 25, 26, 27, 28, 29, 30, 31, 32, 33, 34, 35, 36, 37, 38, 39, 40, 41, 42] (by decide +kernel) (by decide +kernel)
set_option maxRecDepth 20000 in
theorem gX5_ballot_X5_isSet : GoodIn wsX5_ballot (wsV RX5 112 RX5 yX5_isSet wsX5_isSet) := goodIn_app (goodIn_of _ (by decide +kernel)) ggX5_ballot_X5_isSet
set_option maxRecDepth 20000 in
theorem ggX5_ballot_X5_allVoters : GoodIn wsX5_ballot wsX5_allVoters := goodIn_r _ [13, 1, 24, 25, 26, 27, 28, 29, 30, 31, 32, 33, 34, 35, 36, 37, 38, 39, 40, 41, 42] (by decide +kernel) (by decide +kernel)
set_option maxRecDepth 20000 in
theorem gX5_ballot_X5_allVoters : GoodIn wsX5_ballot (wsV RX5 115 RX5 yX5_allVoters wsX5_allVoters) := goodIn_app (goodIn_of _ (by decide +kernel)) ggX5_ballot_X5_allVoters
set_option maxRecDepth 20000 in
theorem ggX5_ballot_X5_remembers : GoodIn wsX5_ballot wsX5_remembers := goodIn_r _ [17, 18, 19, 1, 24, 25, 26, 27, 28, 29, 30, 31, 32, 33, 34, 35, 36, 37, 38, 39, 40, 41, 42] (by decide +kernel) (by decide +kernel)
set_option maxRecDepth 20000 in
theorem gX5_ballot_X5_remembers : GoodIn wsX5_ballot (wsV RX5 109 RX5 yX5_remembers wsX5_remembers) := goodIn_app (goodIn_of _ (by decide +kernel)) ggX5_ballot_X5_remembers
set_option maxRecDepth 20000 in
theorem ggX5_ballot_X5_adds : GoodIn wsX5_ballot wsX5_adds := goodIn_r _ [23, 1, 24, 25, 26, 27, 28, 29, 30, 31, 32, 33, 34, 35, 36, 37, 38, 39, 40, 41, 42] (by decide +kernel) (by decide +kernel)
set_option maxRecDepth 20000 in
theorem gX5_ballot_X5_adds : GoodIn wsX5_ballot (wsV RX5 44 RX5 yX5_adds wsX5_adds) := goodIn_app (goodIn_of _ (by decide +kernel)) ggX5_ballot_X5_adds
theorem dX5_ballot_0 : decode cX5_ballot 0 = .ok (.iload_n 1, 1) := by decide +kernel
theorem dX5_ballot_1 : decode cX5_ballot 1 = .ok (.iconst 1, 1) := by decide +kernel
theorem dX5_ballot_2 : decode cX5_ballot 2 = .ok (.bipush 20, 2) := by decide +kernel
theorem dX5_ballot_4 : decode cX5_ballot 4 = .ok (.invokestatic 48, 3) := by decide +kernel
theorem dX5_ballot_7 : decode cX5_ballot 7 = .ok (.ifCond .eq 11, 3) := by decide +kernel
theorem dX5_ballot_10 : decode cX5_ballot 10 = .ok (.aload_n 0, 1) := by decide +kernel
theorem dX5_ballot_11 : decode cX5_ballot 11 = .ok (.iload_n 2, 1) := by decide +kernel
theorem dX5_ballot_12 : decode cX5_ballot 12 = .ok (.invokevirtual 112, 3) := by decide +kernel
theorem dX5_ballot_15 : decode cX5_ballot 15 = .ok (.ifCond .ne 5, 3) := by decide +kernel
theorem dX5_ballot_18 : decode cX5_ballot 18 = .ok (.iconst (-1), 1) := by decide +kernel
theorem dX5_ballot_19 : decode cX5_ballot 19 = .ok (.ireturn, 1) := by decide +kernel
theorem dX5_ballot_20 : decode cX5_ballot 20 = .ok (.aload_n 0, 1) := by decide +kernel
theorem dX5_ballot_21 : decode cX5_ballot 21 = .ok (.getfield 7, 3) := by decide +kernel
theorem dX5_ballot_24 : decode cX5_ballot 24 = .ok (.iconst 1, 1) := by decide +kernel
theorem dX5_ballot_25 : decode cX5_ballot 25 = .ok (.iaload, 1) := by decide +kernel
theorem dX5_ballot_26 : decode cX5_ballot 26 = .ok (.bipush 10, 2) := by decide +kernel
theorem dX5_ballot_28 : decode cX5_ballot 28 = .ok (.if_icmp .eq 14, 3) := by decide +kernel
theorem dX5_ballot_31 : decode cX5_ballot 31 = .ok (.aload_n 0, 1) := by decide +kernel
theorem dX5_ballot_32 : decode cX5_ballot 32 = .ok (.invokevirtual 115, 3) := by decide +kernel
theorem dX5_ballot_35 : decode cX5_ballot 35 = .ok (.iload_n 1, 1) := by decide +kernel
theorem dX5_ballot_36 : decode cX5_ballot 36 = .ok (.iadd, 1) := by decide +kernel
theorem dX5_ballot_37 : decode cX5_ballot 37 = .ok (.bipush 40, 2) := by decide +kernel
theorem dX5_ballot_39 : decode cX5_ballot 39 = .ok (.if_icmp .le 6, 3) := by decide +kernel
theorem dX5_ballot_42 : decode cX5_ballot 42 = .ok (.bipush (-3), 2) := by decide +kernel
theorem dX5_ballot_44 : decode cX5_ballot 44 = .ok (.ireturn, 1) := by decide +kernel
theorem dX5_ballot_45 : decode cX5_ballot 45 = .ok (.aload_n 0, 1) := by decide +kernel
theorem dX5_ballot_46 : decode cX5_ballot 46 = .ok (.invokevirtual 109, 3) := by decide +kernel
theorem dX5_ballot_49 : decode cX5_ballot 49 = .ok (.aload_n 0, 1) := by decide +kernel
theorem dX5_ballot_50 : decode cX5_ballot 50 = .ok (.iload_n 1, 1) := by decide +kernel
theorem dX5_ballot_51 : decode cX5_ballot 51 = .ok (.iload_n 2, 1) := by decide +kernel
theorem dX5_ballot_52 : decode cX5_ballot 52 = .ok (.invokevirtual 44, 3) := by decide +kernel
theorem dX5_ballot_55 : decode cX5_ballot 55 = .ok (.aload_n 0, 1) := by decide +kernel
theorem dX5_ballot_56 : decode cX5_ballot 56 = .ok (.getfield 7, 3) := by decide +kernel
theorem dX5_ballot_59 : decode cX5_ballot 59 = .ok (.iconst 1, 1) := by decide +kernel
theorem dX5_ballot_60 : decode cX5_ballot 60 = .ok (.iaload, 1) := by decide +kernel
theorem dX5_ballot_61 : decode cX5_ballot 61 = .ok (.iconst 1, 1) := by decide +kernel
theorem dX5_ballot_62 : decode cX5_ballot 62 = .ok (.isub, 1) := by decide +kernel
theorem dX5_ballot_63 : decode cX5_ballot 63 = .ok (.ireturn, 1) := by decide +kernel
set_option maxRecDepth 20000 in
theorem ggX5_voters_X5_isBallot : GoodIn wsX5_voters wsX5_isBallot := goodIn_r _ [6, 1, 7, 8, 5, 9, 24, 25, 26, 27, 28, 29, 30, 31, 32, 33, 34, 35, 36, 37, 38, 39, 40, 41, 42] (by decide +kernel) (by decide +kernel)
set_option maxRecDepth 20000 in
theorem gX5_voters_X5_isBallot : GoodIn wsX5_voters (wsV RX5 118 RX5 yX5_isBallot wsX5_isBallot) := goodIn_app (goodIn_of _ (by decide +kernel)) ggX5_voters_X5_isBallot
set_option maxRecDepth 20000 in
theorem ggX5_voters_X5_in : GoodIn wsX5_voters wsX5_in := goodIn_r _ [9] (by decide +kernel) (by decide +kernel)
set_option maxRecDepth 20000 in
theorem gX5_voters_X5_in : GoodIn wsX5_voters (va_wsS RX5 48 yX5_in wsX5_in) := goodIn_app (goodIn_of _ (by decide +kernel)) ggX5_voters_X5_in
set_option maxRecDepth 20000 in
theorem ggX5_voters_X5_allVoters : GoodIn wsX5_voters wsX5_allVoters := goodIn_r _ [13, 1, 24, 25, 26, 27, 28, 29, 30, 31, 32, 33, 34, 35, 36, 37, 38, 39, 40, 41, 42] (by decide +kernel) (by decide +kernel)
set_option maxRecDepth 20000 in
theorem gX5_voters_X5_allVoters : GoodIn wsX5_voters (wsV RX5 115 RX5 yX5_allVoters wsX5_allVoters) := goodIn_app (goodIn_of _ (by decide +kernel)) ggX5_voters_X5_allVoters
set_option maxRecDepth 20000 in
theorem ggX5_voters_X5_exchanges : GoodIn wsX5_voters wsX5_exchanges := goodIn_r _ [17, 1, 18, 19, 20, 5, 21, 22, 23, 24, 25, 26, 27, 28, 29, 30, 31, 32, 33, 34, 35, 36, 37, 38, 39, 40, 41, 42] (by decide +kernel) (by decide +kernel)
set_option maxRecDepth 20000 in
theorem gX5_voters_X5_exchanges : GoodIn wsX5_voters (wsV RX5 121 RX5 yX5_exchanges wsX5_exchanges) := goodIn_app (goodIn_of _ (by decide +kernel)) ggX5_voters_X5_exchanges
theorem dX5_voters_0 : decode cX5_voters 0 = .ok (.aload_n 0, 1) := by decide +kernel
theorem dX5_voters_1 : decode cX5_voters 1 = .ok (.iload_n 1, 1) := by decide +kernel
theorem dX5_voters_2 : decode cX5_voters 2 = .ok (.invokevirtual 118, 3) := by decide +kernel
theorem dX5_voters_5 : decode cX5_voters 5 = .ok (.ifCond .eq 13, 3) := by decide +kernel
theorem dX5_voters_8 : decode cX5_voters 8 = .ok (.iload_n 2, 1) := by decide +kernel
theorem dX5_voters_9 : decode cX5_voters 9 = .ok (.iconst 1, 1) := by decide +kernel
theorem dX5_voters_10 : decode cX5_voters 10 = .ok (.bipush 20, 2) := by decide +kernel
theorem dX5_voters_12 : decode cX5_voters 12 = .ok (.invokestatic 48, 3) := by decide +kernel
theorem dX5_voters_15 : decode cX5_voters 15 = .ok (.ifCond .ne 5, 3) := by decide +kernel
theorem dX5_voters_18 : decode cX5_voters 18 = .ok (.iconst (-1), 1) := by decide +kernel
theorem dX5_voters_19 : decode cX5_voters 19 = .ok (.ireturn, 1) := by decide +kernel
theorem dX5_voters_20 : decode cX5_voters 20 = .ok (.aload_n 0, 1) := by decide +kernel
theorem dX5_voters_21 : decode cX5_voters 21 = .ok (.getfield 7, 3) := by decide +kernel
theorem dX5_voters_24 : decode cX5_voters 24 = .ok (.iconst 2, 1) := by decide +kernel
theorem dX5_voters_25 : decode cX5_voters 25 = .ok (.iload_n 1, 1) := by decide +kernel
theorem dX5_voters_26 : decode cX5_voters 26 = .ok (.iadd, 1) := by decide +kernel
theorem dX5_voters_27 : decode cX5_voters 27 = .ok (.iaload, 1) := by decide +kernel
theorem dX5_voters_28 : decode cX5_voters 28 = .ok (.iload_n 2, 1) := by decide +kernel
theorem dX5_voters_29 : decode cX5_voters 29 = .ok (.if_icmp .ne 6, 3) := by decide +kernel
theorem dX5_voters_32 : decode cX5_voters 32 = .ok (.bipush (-2), 2) := by decide +kernel
theorem dX5_voters_34 : decode cX5_voters 34 = .ok (.ireturn, 1) := by decide +kernel
theorem dX5_voters_35 : decode cX5_voters 35 = .ok (.aload_n 0, 1) := by decide +kernel
theorem dX5_voters_36 : decode cX5_voters 36 = .ok (.invokevirtual 115, 3) := by decide +kernel
theorem dX5_voters_39 : decode cX5_voters 39 = .ok (.aload_n 0, 1) := by decide +kernel
theorem dX5_voters_40 : decode cX5_voters 40 = .ok (.getfield 7, 3) := by decide +kernel
theorem dX5_voters_43 : decode cX5_voters 43 = .ok (.iconst 2, 1) := by decide +kernel
theorem dX5_voters_44 : decode cX5_voters 44 = .ok (.iload_n 1, 1) := by decide +kernel
theorem dX5_voters_45 : decode cX5_voters 45 = .ok (.iadd, 1) := by decide +kernel
theorem dX5_voters_46 : decode cX5_voters 46 = .ok (.iaload, 1) := by decide +kernel
theorem dX5_voters_47 : decode cX5_voters 47 = .ok (.isub, 1) := by decide +kernel
theorem dX5_voters_48 : decode cX5_voters 48 = .ok (.iload_n 2, 1) := by decide +kernel
theorem dX5_voters_49 : decode cX5_voters 49 = .ok (.iadd, 1) := by decide +kernel
theorem dX5_voters_50 : decode cX5_voters 50 = .ok (.bipush 40, 2) := by decide +kernel
theorem dX5_voters_52 : decode cX5_voters 52 = .ok (.if_icmp .le 8, 3) := by decide +kernel
theorem dX5_voters_55 : decode cX5_voters 55 = .ok (.bipush (-3), 2) := by decide +kernel
theorem dX5_voters_57 : decode cX5_voters 57 = .ok (.goto 11, 3) := by decide +kernel
theorem dX5_voters_60 : decode cX5_voters 60 = .ok (.aload_n 0, 1) := by decide +kernel
theorem dX5_voters_61 : decode cX5_voters 61 = .ok (.iconst 2, 1) := by decide +kernel
theorem dX5_voters_62 : decode cX5_voters 62 = .ok (.iload_n 1, 1) := by decide +kernel
theorem dX5_voters_63 : decode cX5_voters 63 = .ok (.iadd, 1) := by decide +kernel
theorem dX5_voters_64 : decode cX5_voters 64 = .ok (.iload_n 2, 1) := by decide +kernel
theorem dX5_voters_65 : decode cX5_voters 65 = .ok (.invokevirtual 121, 3) := by decide +kernel
theorem dX5_voters_68 : decode cX5_voters 68 = .ok (.ireturn, 1) := by decide +kernel
set_option maxRecDepth 20000 in
theorem ggX5_approve_X5_isBallot : GoodIn wsX5_approve wsX5_isBallot := goodIn_r _ [6, 1, 7, 8, 5, 9, 24, 25, 26, 27, 28, 29, 30, 31, 32, 33, 34, 35, 36, 37, 38, 39, 40, 41, 42] (by decide +kernel) (by decide +kernel)
set_option maxRecDepth 20000 in
theorem gX5_approve_X5_isBallot : GoodIn wsX5_approve (wsV RX5 118 RX5 yX5_isBallot wsX5_isBallot) := goodIn_app (goodIn_of _ (by decide +kernel)) ggX5_approve_X5_isBallot
set_option maxRecDepth 20000 in
theorem ggX5_approve_X5_isSet : GoodIn wsX5_approve wsX5_isSet := goodIn_r _ [13, 1, 7, 8, 5, 9, 24, 25, 26, 27, 28, 29, 30, 31, 32, 33, 34, 35, 36, 37, 38, 39, 40, 41, 42] (by decide +kernel) (by decide +kernel)
set_option maxRecDepth 20000 in
theorem gX5_approve_X5_isSet : GoodIn wsX5_approve (wsV RX5 112 RX5 yX5_isSet wsX5_isSet) := goodIn_app (goodIn_of _ (by decide +kernel)) ggX5_approve_X5_isSet
set_option maxRecDepth 20000 in
theorem ggX5_approve_X5_exchanges : GoodIn wsX5_approve wsX5_exchanges := goodIn_r _ [17, 1, 18, 19, 20, 5, 21, 22, 23, 24, 25, 26, 27, 28, 29, 30, 31, 32, 33, 34, 35, 36, 37, 38, 39, 40, 41, 42] (by decide +kernel) (by decide +kernel)
set_option maxRecDepth 20000 in
theorem gX5_approve_X5_exchanges : GoodIn wsX5_approve (wsV RX5 121 RX5 yX5_exchanges wsX5_exchanges) := goodIn_app (goodIn_of _ (by decide +kernel)) ggX5_approve_X5_exchanges
theorem dX5_approve_0 : decode cX5_approve 0 = .ok (.aload_n 0, 1) := by decide +kernel
theorem dX5_approve_1 : decode cX5_approve 1 = .ok (.iload_n 1, 1) := by decide +kernel
theorem dX5_approve_2 : decode cX5_approve 2 = .ok (.invokevirtual 118, 3) := by decide +kernel
theorem dX5_approve_5 : decode cX5_approve 5 = .ok (.ifCond .eq 11, 3) := by decide +kernel
theorem dX5_approve_8 : decode cX5_approve 8 = .ok (.aload_n 0, 1) := by decide +kernel
theorem dX5_approve_9 : decode cX5_approve 9 = .ok (.iload_n 2, 1) := by decide +kernel
theorem dX5_approve_10 : decode cX5_approve 10 = .ok (.invokevirtual 112, 3) := by decide +kernel
theorem dX5_approve_13 : decode cX5_approve 13 = .ok (.ifCond .ne 5, 3) := by decide +kernel
theorem dX5_approve_16 : decode cX5_approve 16 = .ok (.iconst (-1), 1) := by decide +kernel
theorem dX5_approve_17 : decode cX5_approve 17 = .ok (.ireturn, 1) := by decide +kernel
theorem dX5_approve_18 : decode cX5_approve 18 = .ok (.aload_n 0, 1) := by decide +kernel
theorem dX5_approve_19 : decode cX5_approve 19 = .ok (.getfield 7, 3) := by decide +kernel
theorem dX5_approve_22 : decode cX5_approve 22 = .ok (.bipush 12, 2) := by decide +kernel
theorem dX5_approve_24 : decode cX5_approve 24 = .ok (.iload_n 1, 1) := by decide +kernel
theorem dX5_approve_25 : decode cX5_approve 25 = .ok (.iadd, 1) := by decide +kernel
theorem dX5_approve_26 : decode cX5_approve 26 = .ok (.iaload, 1) := by decide +kernel
theorem dX5_approve_27 : decode cX5_approve 27 = .ok (.iload_n 2, 1) := by decide +kernel
theorem dX5_approve_28 : decode cX5_approve 28 = .ok (.if_icmp .ne 8, 3) := by decide +kernel
theorem dX5_approve_31 : decode cX5_approve 31 = .ok (.bipush (-2), 2) := by decide +kernel
theorem dX5_approve_33 : decode cX5_approve 33 = .ok (.goto 12, 3) := by decide +kernel
theorem dX5_approve_36 : decode cX5_approve 36 = .ok (.aload_n 0, 1) := by decide +kernel
theorem dX5_approve_37 : decode cX5_approve 37 = .ok (.bipush 12, 2) := by decide +kernel
theorem dX5_approve_39 : decode cX5_approve 39 = .ok (.iload_n 1, 1) := by decide +kernel
theorem dX5_approve_40 : decode cX5_approve 40 = .ok (.iadd, 1) := by decide +kernel
theorem dX5_approve_41 : decode cX5_approve 41 = .ok (.iload_n 2, 1) := by decide +kernel
theorem dX5_approve_42 : decode cX5_approve 42 = .ok (.invokevirtual 121, 3) := by decide +kernel
theorem dX5_approve_45 : decode cX5_approve 45 = .ok (.ireturn, 1) := by decide +kernel
set_option maxRecDepth 20000 in
theorem ggX5_seats_X5_in : GoodIn wsX5_seats wsX5_in := goodIn_r _ [5] (by decide +kernel) (by decide +kernel)
set_option maxRecDepth 20000 in
theorem gX5_seats_X5_in : GoodIn wsX5_seats (va_wsS RX5 48 yX5_in wsX5_in) := goodIn_app (goodIn_of _ (by decide +kernel)) ggX5_seats_X5_in
set_option maxRecDepth 20000 in
theorem ggX5_seats_X5_exchanges : GoodIn wsX5_seats wsX5_exchanges := goodIn_r _ [9, 1, 10, 11, 12, 4, 13, 14, 15, 16, 17, 18, 19, 20, 21, 22, 23, 24, 25, 26, 27, 28, 29, 30, 31, 32, 33, 34] (by decide +kernel) (by decide +kernel)
set_option maxRecDepth 20000 in
theorem gX5_seats_X5_exchanges : GoodIn wsX5_seats (wsV RX5 121 RX5 yX5_exchanges wsX5_exchanges) := goodIn_app (goodIn_of _ (by decide +kernel)) ggX5_seats_X5_exchanges
theorem dX5_seats_0 : decode cX5_seats 0 = .ok (.iload_n 1, 1) := by decide +kernel
theorem dX5_seats_1 : decode cX5_seats 1 = .ok (.iconst 1, 1) := by decide +kernel
theorem dX5_seats_2 : decode cX5_seats 2 = .ok (.bipush 8, 2) := by decide +kernel
theorem dX5_seats_4 : decode cX5_seats 4 = .ok (.invokestatic 48, 3) := by decide +kernel
theorem dX5_seats_7 : decode cX5_seats 7 = .ok (.ifCond .ne 5, 3) := by decide +kernel
theorem dX5_seats_10 : decode cX5_seats 10 = .ok (.iconst (-1), 1) := by decide +kernel
theorem dX5_seats_11 : decode cX5_seats 11 = .ok (.ireturn, 1) := by decide +kernel
theorem dX5_seats_12 : decode cX5_seats 12 = .ok (.aload_n 0, 1) := by decide +kernel
theorem dX5_seats_13 : decode cX5_seats 13 = .ok (.getfield 7, 3) := by decide +kernel
theorem dX5_seats_16 : decode cX5_seats 16 = .ok (.bipush 22, 2) := by decide +kernel
theorem dX5_seats_18 : decode cX5_seats 18 = .ok (.iaload, 1) := by decide +kernel
theorem dX5_seats_19 : decode cX5_seats 19 = .ok (.iload_n 1, 1) := by decide +kernel
theorem dX5_seats_20 : decode cX5_seats 20 = .ok (.if_icmp .ne 8, 3) := by decide +kernel
theorem dX5_seats_23 : decode cX5_seats 23 = .ok (.bipush (-2), 2) := by decide +kernel
theorem dX5_seats_25 : decode cX5_seats 25 = .ok (.goto 10, 3) := by decide +kernel
theorem dX5_seats_28 : decode cX5_seats 28 = .ok (.aload_n 0, 1) := by decide +kernel
theorem dX5_seats_29 : decode cX5_seats 29 = .ok (.bipush 22, 2) := by decide +kernel
theorem dX5_seats_31 : decode cX5_seats 31 = .ok (.iload_n 1, 1) := by decide +kernel
theorem dX5_seats_32 : decode cX5_seats 32 = .ok (.invokevirtual 121, 3) := by decide +kernel
theorem dX5_seats_35 : decode cX5_seats 35 = .ok (.ireturn, 1) := by decide +kernel
set_option maxRecDepth 20000 in
theorem ggX5_withdraw_X5_isCandidate : GoodIn wsX5_withdraw wsX5_isCandidate := goodIn_r _ [6, 1, 7, 8, 5, 9, 26, 27, 28, 29, 30, 31, 32, 33, 34, 35, 36, 37, 38, 39, 40, 41, 42, 43, 44] (by decide +kernel) (by decide +kernel)
set_option maxRecDepth 20000 in
theorem gX5_withdraw_X5_isCandidate : GoodIn wsX5_withdraw (wsV RX5 125 RX5 yX5_isCandidate wsX5_isCandidate) := goodIn_app (goodIn_of _ (by decide +kernel)) ggX5_withdraw_X5_isCandidate
set_option maxRecDepth 20000 in
theorem ggX5_withdraw_X5_in : GoodIn wsX5_withdraw wsX5_in := goodIn_r _ [9] (by decide +kernel) (by decide +kernel)
set_option maxRecDepth 20000 in
theorem gX5_withdraw_X5_in : GoodIn wsX5_withdraw (va_wsS RX5 48 yX5_in wsX5_in) := goodIn_app (goodIn_of _ (by decide +kernel)) ggX5_withdraw_X5_in
set_option maxRecDepth 20000 in
theorem ggX5_withdraw_X5_has : GoodIn wsX5_withdraw wsX5_has := goodIn_r _ [12] (by decide +kernel) (by decide +kernel)
set_option maxRecDepth 20000 in
theorem gX5_withdraw_X5_has : GoodIn wsX5_withdraw (va_wsS RX5 85 yX5_has wsX5_has) := goodIn_app (goodIn_of _ (by decide +kernel)) ggX5_withdraw_X5_has
set_option maxRecDepth 20000 in
theorem ggX5_withdraw_X5_exchanges : GoodIn wsX5_withdraw wsX5_exchanges := goodIn_r _ [16, 1, 17, 18, 19, 5, 20, 21, 22, 26, 27, 28, 29, 30, 31, 32, 33, 34, 35, 36, 37, 38, 39, 40, 41, 42, 43, 44] (by decide +kernel) (by decide +kernel)
set_option maxRecDepth 20000 in
theorem gX5_withdraw_X5_exchanges : GoodIn wsX5_withdraw (wsV RX5 121 RX5 yX5_exchanges wsX5_exchanges) := goodIn_app (goodIn_of _ (by decide +kernel)) ggX5_withdraw_X5_exchanges
set_option maxRecDepth 20000 in
theorem ggX5_withdraw_X5_ones : GoodIn wsX5_withdraw wsX5_ones := goodIn_r _ [25] (by decide +kernel) (by decide +kernel)
set_option maxRecDepth 20000 in
theorem gX5_withdraw_X5_ones : GoodIn wsX5_withdraw (va_wsS RX5 128 yX5_ones wsX5_ones) := goodIn_app (goodIn_of _ (by decide +kernel)) ggX5_withdraw_X5_ones
theorem dX5_withdraw_0 : decode cX5_withdraw 0 = .ok (.aload_n 0, 1) := by decide +kernel
theorem dX5_withdraw_1 : decode cX5_withdraw 1 = .ok (.iload_n 1, 1) := by decide +kernel
theorem dX5_withdraw_2 : decode cX5_withdraw 2 = .ok (.invokevirtual 125, 3) := by decide +kernel
theorem dX5_withdraw_5 : decode cX5_withdraw 5 = .ok (.ifCond .eq 12, 3) := by decide +kernel
theorem dX5_withdraw_8 : decode cX5_withdraw 8 = .ok (.iload_n 2, 1) := by decide +kernel
theorem dX5_withdraw_9 : decode cX5_withdraw 9 = .ok (.iconst 0, 1) := by decide +kernel
theorem dX5_withdraw_10 : decode cX5_withdraw 10 = .ok (.iconst 1, 1) := by decide +kernel
theorem dX5_withdraw_11 : decode cX5_withdraw 11 = .ok (.invokestatic 48, 3) := by decide +kernel
theorem dX5_withdraw_14 : decode cX5_withdraw 14 = .ok (.ifCond .ne 5, 3) := by decide +kernel
theorem dX5_withdraw_17 : decode cX5_withdraw 17 = .ok (.iconst (-1), 1) := by decide +kernel
theorem dX5_withdraw_18 : decode cX5_withdraw 18 = .ok (.ireturn, 1) := by decide +kernel
theorem dX5_withdraw_19 : decode cX5_withdraw 19 = .ok (.aload_n 0, 1) := by decide +kernel
theorem dX5_withdraw_20 : decode cX5_withdraw 20 = .ok (.getfield 7, 3) := by decide +kernel
theorem dX5_withdraw_23 : decode cX5_withdraw 23 = .ok (.bipush 23, 2) := by decide +kernel
theorem dX5_withdraw_25 : decode cX5_withdraw 25 = .ok (.iaload, 1) := by decide +kernel
theorem dX5_withdraw_26 : decode cX5_withdraw 26 = .ok (.iload_n 1, 1) := by decide +kernel
theorem dX5_withdraw_27 : decode cX5_withdraw 27 = .ok (.invokestatic 85, 3) := by decide +kernel
theorem dX5_withdraw_30 : decode cX5_withdraw 30 = .ok (.iload_n 2, 1) := by decide +kernel
theorem dX5_withdraw_31 : decode cX5_withdraw 31 = .ok (.iconst 1, 1) := by decide +kernel
theorem dX5_withdraw_32 : decode cX5_withdraw 32 = .ok (.if_icmp .ne 7, 3) := by decide +kernel
theorem dX5_withdraw_35 : decode cX5_withdraw 35 = .ok (.iconst 1, 1) := by decide +kernel
theorem dX5_withdraw_36 : decode cX5_withdraw 36 = .ok (.goto 4, 3) := by decide +kernel
theorem dX5_withdraw_39 : decode cX5_withdraw 39 = .ok (.iconst 0, 1) := by decide +kernel
theorem dX5_withdraw_40 : decode cX5_withdraw 40 = .ok (.if_icmp .ne 6, 3) := by decide +kernel
theorem dX5_withdraw_43 : decode cX5_withdraw 43 = .ok (.bipush (-2), 2) := by decide +kernel
theorem dX5_withdraw_45 : decode cX5_withdraw 45 = .ok (.ireturn, 1) := by decide +kernel
theorem dX5_withdraw_46 : decode cX5_withdraw 46 = .ok (.aload_n 0, 1) := by decide +kernel
theorem dX5_withdraw_47 : decode cX5_withdraw 47 = .ok (.bipush 23, 2) := by decide +kernel
theorem dX5_withdraw_49 : decode cX5_withdraw 49 = .ok (.aload_n 0, 1) := by decide +kernel
theorem dX5_withdraw_50 : decode cX5_withdraw 50 = .ok (.getfield 7, 3) := by decide +kernel
theorem dX5_withdraw_53 : decode cX5_withdraw 53 = .ok (.bipush 23, 2) := by decide +kernel
theorem dX5_withdraw_55 : decode cX5_withdraw 55 = .ok (.iaload, 1) := by decide +kernel
theorem dX5_withdraw_56 : decode cX5_withdraw 56 = .ok (.iconst 1, 1) := by decide +kernel
theorem dX5_withdraw_57 : decode cX5_withdraw 57 = .ok (.iload_n 1, 1) := by decide +kernel
theorem dX5_withdraw_58 : decode cX5_withdraw 58 = .ok (.ishl, 1) := by decide +kernel
theorem dX5_withdraw_59 : decode cX5_withdraw 59 = .ok (.ixor, 1) := by decide +kernel
theorem dX5_withdraw_60 : decode cX5_withdraw 60 = .ok (.invokevirtual 121, 3) := by decide +kernel
theorem dX5_withdraw_63 : decode cX5_withdraw 63 = .ok (.istore_n 3, 1) := by decide +kernel
theorem dX5_withdraw_64 : decode cX5_withdraw 64 = .ok (.iload_n 3, 1) := by decide +kernel
theorem dX5_withdraw_65 : decode cX5_withdraw 65 = .ok (.ifCond .ge 8, 3) := by decide +kernel
theorem dX5_withdraw_68 : decode cX5_withdraw 68 = .ok (.bipush (-4), 2) := by decide +kernel
theorem dX5_withdraw_70 : decode cX5_withdraw 70 = .ok (.goto 13, 3) := by decide +kernel
theorem dX5_withdraw_73 : decode cX5_withdraw 73 = .ok (.aload_n 0, 1) := by decide +kernel
theorem dX5_withdraw_74 : decode cX5_withdraw 74 = .ok (.getfield 7, 3) := by decide +kernel
theorem dX5_withdraw_77 : decode cX5_withdraw 77 = .ok (.bipush 23, 2) := by decide +kernel
theorem dX5_withdraw_79 : decode cX5_withdraw 79 = .ok (.iaload, 1) := by decide +kernel
theorem dX5_withdraw_80 : decode cX5_withdraw 80 = .ok (.invokestatic 128, 3) := by decide +kernel
theorem dX5_withdraw_83 : decode cX5_withdraw 83 = .ok (.ireturn, 1) := by decide +kernel
theorem dX5_placeOf_0 : decode cX5_placeOf 0 = .ok (.iconst 0, 1) := by decide +kernel
theorem dX5_placeOf_1 : decode cX5_placeOf 1 = .ok (.istore_n 2, 1) := by decide +kernel
theorem dX5_placeOf_2 : decode cX5_placeOf 2 = .ok (.aload_n 0, 1) := by decide +kernel
theorem dX5_placeOf_3 : decode cX5_placeOf 3 = .ok (.getfield 7, 3) := by decide +kernel
theorem dX5_placeOf_6 : decode cX5_placeOf 6 = .ok (.bipush 24, 2) := by decide +kernel
theorem dX5_placeOf_8 : decode cX5_placeOf 8 = .ok (.iload_n 2, 1) := by decide +kernel
theorem dX5_placeOf_9 : decode cX5_placeOf 9 = .ok (.iadd, 1) := by decide +kernel
theorem dX5_placeOf_10 : decode cX5_placeOf 10 = .ok (.iaload, 1) := by decide +kernel
theorem dX5_placeOf_11 : decode cX5_placeOf 11 = .ok (.iload_n 1, 1) := by decide +kernel
theorem dX5_placeOf_12 : decode cX5_placeOf 12 = .ok (.if_icmp .eq 9, 3) := by decide +kernel
theorem dX5_placeOf_15 : decode cX5_placeOf 15 = .ok (.iinc 2 1, 3) := by decide +kernel
theorem dX5_placeOf_18 : decode cX5_placeOf 18 = .ok (.goto (-16), 3) := by decide +kernel
theorem dX5_placeOf_21 : decode cX5_placeOf 21 = .ok (.iload_n 2, 1) := by decide +kernel
theorem dX5_placeOf_22 : decode cX5_placeOf 22 = .ok (.ireturn, 1) := by decide +kernel
set_option maxRecDepth 20000 in
theorem ggX5_prefer_X5_isCandidate : GoodIn wsX5_prefer wsX5_isCandidate := goodIn_r _ [6, 1, 7, 8, 5, 9, 20, 21, 22, 23, 24, 25, 26, 27, 28, 29, 30, 31, 32, 33, 34, 35, 36, 37, 38] (by decide +kernel) (by decide +kernel)
set_option maxRecDepth 20000 in
theorem gX5_prefer_X5_isCandidate : GoodIn wsX5_prefer (wsV RX5 125 RX5 yX5_isCandidate wsX5_isCandidate) := goodIn_app (goodIn_of _ (by decide +kernel)) ggX5_prefer_X5_isCandidate
set_option maxRecDepth 20000 in
theorem ggX5_prefer_X5_placeOf : GoodIn wsX5_prefer wsX5_placeOf := goodIn_r _ [13, 1, 20, 21, 22, 23, 24, 25, 26, 27, 28, 29, 30, 31, 32, 33, 34, 35, 36, 37, 38] (by decide +kernel) (by decide +kernel)
set_option maxRecDepth 20000 in
theorem gX5_prefer_X5_placeOf : GoodIn wsX5_prefer (wsV RX5 131 RX5 yX5_placeOf wsX5_placeOf) := goodIn_app (goodIn_of _ (by decide +kernel)) ggX5_prefer_X5_placeOf
set_option maxRecDepth 20000 in
theorem ggX5_prefer_X5_remembers : GoodIn wsX5_prefer wsX5_remembers := goodIn_r _ [17, 18, 19, 1, 20, 21, 22, 23, 24, 25, 26, 27, 28, 29, 30, 31, 32, 33, 34, 35, 36, 37, 38] (by decide +kernel) (by decide +kernel)
set_option maxRecDepth 20000 in
theorem gX5_prefer_X5_remembers : GoodIn wsX5_prefer (wsV RX5 109 RX5 yX5_remembers wsX5_remembers) := goodIn_app (goodIn_of _ (by decide +kernel)) ggX5_prefer_X5_remembers
theorem dX5_prefer_0 : decode cX5_prefer 0 = .ok (.aload_n 0, 1) := by decide +kernel
theorem dX5_prefer_1 : decode cX5_prefer 1 = .ok (.iload_n 1, 1) := by decide +kernel
theorem dX5_prefer_2 : decode cX5_prefer 2 = .ok (.invokevirtual 125, 3) := by decide +kernel
theorem dX5_prefer_5 : decode cX5_prefer 5 = .ok (.ifCond .ne 5, 3) := by decide +kernel
theorem dX5_prefer_8 : decode cX5_prefer 8 = .ok (.iconst (-1), 1) := by decide +kernel
theorem dX5_prefer_9 : decode cX5_prefer 9 = .ok (.ireturn, 1) := by decide +kernel
theorem dX5_prefer_10 : decode cX5_prefer 10 = .ok (.aload_n 0, 1) := by decide +kernel
theorem dX5_prefer_11 : decode cX5_prefer 11 = .ok (.iload_n 1, 1) := by decide +kernel
theorem dX5_prefer_12 : decode cX5_prefer 12 = .ok (.invokevirtual 131, 3) := by decide +kernel
theorem dX5_prefer_15 : decode cX5_prefer 15 = .ok (.istore_n 2, 1) := by decide +kernel
theorem dX5_prefer_16 : decode cX5_prefer 16 = .ok (.iload_n 2, 1) := by decide +kernel
theorem dX5_prefer_17 : decode cX5_prefer 17 = .ok (.ifCond .ne 6, 3) := by decide +kernel
theorem dX5_prefer_20 : decode cX5_prefer 20 = .ok (.bipush (-2), 2) := by decide +kernel
theorem dX5_prefer_22 : decode cX5_prefer 22 = .ok (.ireturn, 1) := by decide +kernel
theorem dX5_prefer_23 : decode cX5_prefer 23 = .ok (.aload_n 0, 1) := by decide +kernel
theorem dX5_prefer_24 : decode cX5_prefer 24 = .ok (.invokevirtual 109, 3) := by decide +kernel
theorem dX5_prefer_27 : decode cX5_prefer 27 = .ok (.iload_n 2, 1) := by decide +kernel
theorem dX5_prefer_28 : decode cX5_prefer 28 = .ok (.istore_n 3, 1) := by decide +kernel
theorem dX5_prefer_29 : decode cX5_prefer 29 = .ok (.iload_n 3, 1) := by decide +kernel
theorem dX5_prefer_30 : decode cX5_prefer 30 = .ok (.ifCond .le 29, 3) := by decide +kernel
theorem dX5_prefer_33 : decode cX5_prefer 33 = .ok (.aload_n 0, 1) := by decide +kernel
theorem dX5_prefer_34 : decode cX5_prefer 34 = .ok (.getfield 7, 3) := by decide +kernel
theorem dX5_prefer_37 : decode cX5_prefer 37 = .ok (.bipush 24, 2) := by decide +kernel
theorem dX5_prefer_39 : decode cX5_prefer 39 = .ok (.iload_n 3, 1) := by decide +kernel
theorem dX5_prefer_40 : decode cX5_prefer 40 = .ok (.iadd, 1) := by decide +kernel
theorem dX5_prefer_41 : decode cX5_prefer 41 = .ok (.aload_n 0, 1) := by decide +kernel
theorem dX5_prefer_42 : decode cX5_prefer 42 = .ok (.getfield 7, 3) := by decide +kernel
theorem dX5_prefer_45 : decode cX5_prefer 45 = .ok (.bipush 24, 2) := by decide +kernel
theorem dX5_prefer_47 : decode cX5_prefer 47 = .ok (.iload_n 3, 1) := by decide +kernel
theorem dX5_prefer_48 : decode cX5_prefer 48 = .ok (.iadd, 1) := by decide +kernel
theorem dX5_prefer_49 : decode cX5_prefer 49 = .ok (.iconst 1, 1) := by decide +kernel
theorem dX5_prefer_50 : decode cX5_prefer 50 = .ok (.isub, 1) := by decide +kernel
theorem dX5_prefer_51 : decode cX5_prefer 51 = .ok (.iaload, 1) := by decide +kernel
theorem dX5_prefer_52 : decode cX5_prefer 52 = .ok (.iastore, 1) := by decide +kernel
theorem dX5_prefer_53 : decode cX5_prefer 53 = .ok (.iinc 3 (-1), 3) := by decide +kernel
theorem dX5_prefer_56 : decode cX5_prefer 56 = .ok (.goto (-27), 3) := by decide +kernel
theorem dX5_prefer_59 : decode cX5_prefer 59 = .ok (.aload_n 0, 1) := by decide +kernel
theorem dX5_prefer_60 : decode cX5_prefer 60 = .ok (.getfield 7, 3) := by decide +kernel
theorem dX5_prefer_63 : decode cX5_prefer 63 = .ok (.bipush 24, 2) := by decide +kernel
theorem dX5_prefer_65 : decode cX5_prefer 65 = .ok (.iload_n 1, 1) := by decide +kernel
theorem dX5_prefer_66 : decode cX5_prefer 66 = .ok (.iastore, 1) := by decide +kernel
theorem dX5_prefer_67 : decode cX5_prefer 67 = .ok (.iload_n 2, 1) := by decide +kernel
theorem dX5_prefer_68 : decode cX5_prefer 68 = .ok (.ireturn, 1) := by decide +kernel
theorem dX5_undo_0 : decode cX5_undo 0 = .ok (.aload_n 0, 1) := by decide +kernel
theorem dX5_undo_1 : decode cX5_undo 1 = .ok (.getfield 106, 3) := by decide +kernel
theorem dX5_undo_4 : decode cX5_undo 4 = .ok (.ifCond .ne 6, 3) := by decide +kernel
theorem dX5_undo_7 : decode cX5_undo 7 = .ok (.bipush (-2), 2) := by decide +kernel
theorem dX5_undo_9 : decode cX5_undo 9 = .ok (.ireturn, 1) := by decide +kernel
theorem dX5_undo_10 : decode cX5_undo 10 = .ok (.aload_n 0, 1) := by decide +kernel
theorem dX5_undo_11 : decode cX5_undo 11 = .ok (.dup, 1) := by decide +kernel
theorem dX5_undo_12 : decode cX5_undo 12 = .ok (.getfield 106, 3) := by decide +kernel
theorem dX5_undo_15 : decode cX5_undo 15 = .ok (.iconst 1, 1) := by decide +kernel
theorem dX5_undo_16 : decode cX5_undo 16 = .ok (.isub, 1) := by decide +kernel
theorem dX5_undo_17 : decode cX5_undo 17 = .ok (.putfield 106, 3) := by decide +kernel
theorem dX5_undo_20 : decode cX5_undo 20 = .ok (.iconst 0, 1) := by decide +kernel
theorem dX5_undo_21 : decode cX5_undo 21 = .ok (.istore_n 1, 1) := by decide +kernel
theorem dX5_undo_22 : decode cX5_undo 22 = .ok (.iload_n 1, 1) := by decide +kernel
theorem dX5_undo_23 : decode cX5_undo 23 = .ok (.bipush 32, 2) := by decide +kernel
theorem dX5_undo_25 : decode cX5_undo 25 = .ok (.if_icmp .ge 29, 3) := by decide +kernel
theorem dX5_undo_28 : decode cX5_undo 28 = .ok (.aload_n 0, 1) := by decide +kernel
theorem dX5_undo_29 : decode cX5_undo 29 = .ok (.getfield 7, 3) := by decide +kernel
theorem dX5_undo_32 : decode cX5_undo 32 = .ok (.iload_n 1, 1) := by decide +kernel
theorem dX5_undo_33 : decode cX5_undo 33 = .ok (.aload_n 0, 1) := by decide +kernel
theorem dX5_undo_34 : decode cX5_undo 34 = .ok (.getfield 16, 3) := by decide +kernel
theorem dX5_undo_37 : decode cX5_undo 37 = .ok (.bipush 32, 2) := by decide +kernel
theorem dX5_undo_39 : decode cX5_undo 39 = .ok (.aload_n 0, 1) := by decide +kernel
theorem dX5_undo_40 : decode cX5_undo 40 = .ok (.getfield 106, 3) := by decide +kernel
theorem dX5_undo_43 : decode cX5_undo 43 = .ok (.imul, 1) := by decide +kernel
theorem dX5_undo_44 : decode cX5_undo 44 = .ok (.iload_n 1, 1) := by decide +kernel
theorem dX5_undo_45 : decode cX5_undo 45 = .ok (.iadd, 1) := by decide +kernel
theorem dX5_undo_46 : decode cX5_undo 46 = .ok (.iaload, 1) := by decide +kernel
theorem dX5_undo_47 : decode cX5_undo 47 = .ok (.iastore, 1) := by decide +kernel
theorem dX5_undo_48 : decode cX5_undo 48 = .ok (.iinc 1 1, 3) := by decide +kernel
theorem dX5_undo_51 : decode cX5_undo 51 = .ok (.goto (-29), 3) := by decide +kernel
theorem dX5_undo_54 : decode cX5_undo 54 = .ok (.aload_n 0, 1) := by decide +kernel
theorem dX5_undo_55 : decode cX5_undo 55 = .ok (.getfield 106, 3) := by decide +kernel
theorem dX5_undo_58 : decode cX5_undo 58 = .ok (.ireturn, 1) := by decide +kernel
