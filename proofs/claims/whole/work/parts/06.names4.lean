theorem dX5_lays_0 : decode cX5_lays 0 = .ok (.aload_n 0, 1) := by decide +kernel
theorem dX5_lays_1 : decode cX5_lays 1 = .ok (.aload_n 0, 1) := by decide +kernel
theorem dX5_lays_2 : decode cX5_lays 2 = .ok (.getfield 7, 3) := by decide +kernel
theorem dX5_lays_5 : decode cX5_lays 5 = .ok (.iconst 1, 1) := by decide +kernel
theorem dX5_lays_6 : decode cX5_lays 6 = .ok (.iaload, 1) := by decide +kernel
theorem dX5_lays_7 : decode cX5_lays 7 = .ok (.putfield 134, 3) := by decide +kernel
theorem dX5_lays_10 : decode cX5_lays 10 = .ok (.iconst 0, 1) := by decide +kernel
theorem dX5_lays_11 : decode cX5_lays 11 = .ok (.istore_n 1, 1) := by decide +kernel
theorem dX5_lays_12 : decode cX5_lays 12 = .ok (.iload_n 1, 1) := by decide +kernel
theorem dX5_lays_13 : decode cX5_lays 13 = .ok (.aload_n 0, 1) := by decide +kernel
theorem dX5_lays_14 : decode cX5_lays 14 = .ok (.getfield 134, 3) := by decide +kernel
theorem dX5_lays_17 : decode cX5_lays 17 = .ok (.if_icmp .ge 38, 3) := by decide +kernel
theorem dX5_lays_20 : decode cX5_lays 20 = .ok (.aload_n 0, 1) := by decide +kernel
theorem dX5_lays_21 : decode cX5_lays 21 = .ok (.getfield 22, 3) := by decide +kernel
theorem dX5_lays_24 : decode cX5_lays 24 = .ok (.iload_n 1, 1) := by decide +kernel
theorem dX5_lays_25 : decode cX5_lays 25 = .ok (.aload_n 0, 1) := by decide +kernel
theorem dX5_lays_26 : decode cX5_lays 26 = .ok (.getfield 7, 3) := by decide +kernel
theorem dX5_lays_29 : decode cX5_lays 29 = .ok (.iconst 2, 1) := by decide +kernel
theorem dX5_lays_30 : decode cX5_lays 30 = .ok (.iload_n 1, 1) := by decide +kernel
theorem dX5_lays_31 : decode cX5_lays 31 = .ok (.iadd, 1) := by decide +kernel
theorem dX5_lays_32 : decode cX5_lays 32 = .ok (.iaload, 1) := by decide +kernel
theorem dX5_lays_33 : decode cX5_lays 33 = .ok (.iastore, 1) := by decide +kernel
theorem dX5_lays_34 : decode cX5_lays 34 = .ok (.aload_n 0, 1) := by decide +kernel
theorem dX5_lays_35 : decode cX5_lays 35 = .ok (.getfield 25, 3) := by decide +kernel
theorem dX5_lays_38 : decode cX5_lays 38 = .ok (.iload_n 1, 1) := by decide +kernel
theorem dX5_lays_39 : decode cX5_lays 39 = .ok (.aload_n 0, 1) := by decide +kernel
theorem dX5_lays_40 : decode cX5_lays 40 = .ok (.getfield 7, 3) := by decide +kernel
theorem dX5_lays_43 : decode cX5_lays 43 = .ok (.bipush 12, 2) := by decide +kernel
theorem dX5_lays_45 : decode cX5_lays 45 = .ok (.iload_n 1, 1) := by decide +kernel
theorem dX5_lays_46 : decode cX5_lays 46 = .ok (.iadd, 1) := by decide +kernel
theorem dX5_lays_47 : decode cX5_lays 47 = .ok (.iaload, 1) := by decide +kernel
theorem dX5_lays_48 : decode cX5_lays 48 = .ok (.iastore, 1) := by decide +kernel
theorem dX5_lays_49 : decode cX5_lays 49 = .ok (.iinc 1 1, 3) := by decide +kernel
theorem dX5_lays_52 : decode cX5_lays 52 = .ok (.goto (-40), 3) := by decide +kernel
theorem dX5_lays_55 : decode cX5_lays 55 = .ok (.iconst 0, 1) := by decide +kernel
theorem dX5_lays_56 : decode cX5_lays 56 = .ok (.istore_n 1, 1) := by decide +kernel
theorem dX5_lays_57 : decode cX5_lays 57 = .ok (.iload_n 1, 1) := by decide +kernel
theorem dX5_lays_58 : decode cX5_lays 58 = .ok (.aload_n 0, 1) := by decide +kernel
theorem dX5_lays_59 : decode cX5_lays 59 = .ok (.getfield 7, 3) := by decide +kernel
theorem dX5_lays_62 : decode cX5_lays 62 = .ok (.iconst 0, 1) := by decide +kernel
theorem dX5_lays_63 : decode cX5_lays 63 = .ok (.iaload, 1) := by decide +kernel
theorem dX5_lays_64 : decode cX5_lays 64 = .ok (.if_icmp .ge 24, 3) := by decide +kernel
theorem dX5_lays_67 : decode cX5_lays 67 = .ok (.aload_n 0, 1) := by decide +kernel
theorem dX5_lays_68 : decode cX5_lays 68 = .ok (.getfield 28, 3) := by decide +kernel
theorem dX5_lays_71 : decode cX5_lays 71 = .ok (.iload_n 1, 1) := by decide +kernel
theorem dX5_lays_72 : decode cX5_lays 72 = .ok (.aload_n 0, 1) := by decide +kernel
theorem dX5_lays_73 : decode cX5_lays 73 = .ok (.getfield 7, 3) := by decide +kernel
theorem dX5_lays_76 : decode cX5_lays 76 = .ok (.bipush 24, 2) := by decide +kernel
theorem dX5_lays_78 : decode cX5_lays 78 = .ok (.iload_n 1, 1) := by decide +kernel
theorem dX5_lays_79 : decode cX5_lays 79 = .ok (.iadd, 1) := by decide +kernel
theorem dX5_lays_80 : decode cX5_lays 80 = .ok (.iaload, 1) := by decide +kernel
theorem dX5_lays_81 : decode cX5_lays 81 = .ok (.iastore, 1) := by decide +kernel
theorem dX5_lays_82 : decode cX5_lays 82 = .ok (.iinc 1 1, 3) := by decide +kernel
theorem dX5_lays_85 : decode cX5_lays 85 = .ok (.goto (-28), 3) := by decide +kernel
theorem dX5_lays_88 : decode cX5_lays 88 = .ok (.return_, 1) := by decide +kernel
set_option maxRecDepth 20000 in
theorem ggX5_supportOf_X5_has : GoodIn wsX5_supportOf wsX5_has := goodIn_r _ [7] (by decide +kernel) (by decide +kernel)
set_option maxRecDepth 20000 in
theorem gX5_supportOf_X5_has : GoodIn wsX5_supportOf (va_wsS RX5 85 yX5_has wsX5_has) := goodIn_app (goodIn_of _ (by decide +kernel)) ggX5_supportOf_X5_has
theorem dX5_supportOf_0 : decode cX5_supportOf 0 = .ok (.iconst 0, 1) := by decide +kernel
theorem dX5_supportOf_1 : decode cX5_supportOf 1 = .ok (.istore_n 2, 1) := by decide +kernel
theorem dX5_supportOf_2 : decode cX5_supportOf 2 = .ok (.iconst 0, 1) := by decide +kernel
theorem dX5_supportOf_3 : decode cX5_supportOf 3 = .ok (.istore_n 3, 1) := by decide +kernel
theorem dX5_supportOf_4 : decode cX5_supportOf 4 = .ok (.iload_n 3, 1) := by decide +kernel
theorem dX5_supportOf_5 : decode cX5_supportOf 5 = .ok (.aload_n 0, 1) := by decide +kernel
theorem dX5_supportOf_6 : decode cX5_supportOf 6 = .ok (.getfield 134, 3) := by decide +kernel
theorem dX5_supportOf_9 : decode cX5_supportOf 9 = .ok (.if_icmp .ge 35, 3) := by decide +kernel
theorem dX5_supportOf_12 : decode cX5_supportOf 12 = .ok (.iload_n 2, 1) := by decide +kernel
theorem dX5_supportOf_13 : decode cX5_supportOf 13 = .ok (.aload_n 0, 1) := by decide +kernel
theorem dX5_supportOf_14 : decode cX5_supportOf 14 = .ok (.getfield 25, 3) := by decide +kernel
theorem dX5_supportOf_17 : decode cX5_supportOf 17 = .ok (.iload_n 3, 1) := by decide +kernel
theorem dX5_supportOf_18 : decode cX5_supportOf 18 = .ok (.iaload, 1) := by decide +kernel
theorem dX5_supportOf_19 : decode cX5_supportOf 19 = .ok (.iload_n 1, 1) := by decide +kernel
theorem dX5_supportOf_20 : decode cX5_supportOf 20 = .ok (.invokestatic 85, 3) := by decide +kernel
theorem dX5_supportOf_23 : decode cX5_supportOf 23 = .ok (.ifCond .eq 12, 3) := by decide +kernel
theorem dX5_supportOf_26 : decode cX5_supportOf 26 = .ok (.aload_n 0, 1) := by decide +kernel
theorem dX5_supportOf_27 : decode cX5_supportOf 27 = .ok (.getfield 22, 3) := by decide +kernel
theorem dX5_supportOf_30 : decode cX5_supportOf 30 = .ok (.iload_n 3, 1) := by decide +kernel
theorem dX5_supportOf_31 : decode cX5_supportOf 31 = .ok (.iaload, 1) := by decide +kernel
theorem dX5_supportOf_32 : decode cX5_supportOf 32 = .ok (.goto 4, 3) := by decide +kernel
theorem dX5_supportOf_35 : decode cX5_supportOf 35 = .ok (.iconst 0, 1) := by decide +kernel
theorem dX5_supportOf_36 : decode cX5_supportOf 36 = .ok (.iadd, 1) := by decide +kernel
theorem dX5_supportOf_37 : decode cX5_supportOf 37 = .ok (.istore_n 2, 1) := by decide +kernel
theorem dX5_supportOf_38 : decode cX5_supportOf 38 = .ok (.iinc 3 1, 3) := by decide +kernel
theorem dX5_supportOf_41 : decode cX5_supportOf 41 = .ok (.goto (-37), 3) := by decide +kernel
theorem dX5_supportOf_44 : decode cX5_supportOf 44 = .ok (.iload_n 2, 1) := by decide +kernel
theorem dX5_supportOf_45 : decode cX5_supportOf 45 = .ok (.ireturn, 1) := by decide +kernel
set_option maxRecDepth 20000 in
theorem ggX5_loadOf_X5_has : GoodIn wsX5_loadOf wsX5_has := goodIn_r _ [9] (by decide +kernel) (by decide +kernel)
set_option maxRecDepth 20000 in
theorem gX5_loadOf_X5_has : GoodIn wsX5_loadOf (va_wsS RX5 85 yX5_has wsX5_has) := goodIn_app (goodIn_of _ (by decide +kernel)) ggX5_loadOf_X5_has
theorem dX5_loadOf_0 : decode cX5_loadOf 0 = .ok (.aload_n 0, 1) := by decide +kernel
theorem dX5_loadOf_1 : decode cX5_loadOf 1 = .ok (.getfield 137, 3) := by decide +kernel
theorem dX5_loadOf_4 : decode cX5_loadOf 4 = .ok (.lstore_n 2, 1) := by decide +kernel
theorem dX5_loadOf_5 : decode cX5_loadOf 5 = .ok (.iconst 0, 1) := by decide +kernel
theorem dX5_loadOf_6 : decode cX5_loadOf 6 = .ok (.istore 4, 2) := by decide +kernel
theorem dX5_loadOf_8 : decode cX5_loadOf 8 = .ok (.iload 4, 2) := by decide +kernel
theorem dX5_loadOf_10 : decode cX5_loadOf 10 = .ok (.aload_n 0, 1) := by decide +kernel
theorem dX5_loadOf_11 : decode cX5_loadOf 11 = .ok (.getfield 134, 3) := by decide +kernel
theorem dX5_loadOf_14 : decode cX5_loadOf 14 = .ok (.if_icmp .ge 46, 3) := by decide +kernel
theorem dX5_loadOf_17 : decode cX5_loadOf 17 = .ok (.lload_n 2, 1) := by decide +kernel
theorem dX5_loadOf_18 : decode cX5_loadOf 18 = .ok (.aload_n 0, 1) := by decide +kernel
theorem dX5_loadOf_19 : decode cX5_loadOf 19 = .ok (.getfield 25, 3) := by decide +kernel
theorem dX5_loadOf_22 : decode cX5_loadOf 22 = .ok (.iload 4, 2) := by decide +kernel
theorem dX5_loadOf_24 : decode cX5_loadOf 24 = .ok (.iaload, 1) := by decide +kernel
theorem dX5_loadOf_25 : decode cX5_loadOf 25 = .ok (.iload_n 1, 1) := by decide +kernel
theorem dX5_loadOf_26 : decode cX5_loadOf 26 = .ok (.invokestatic 85, 3) := by decide +kernel
theorem dX5_loadOf_29 : decode cX5_loadOf 29 = .ok (.ifCond .eq 22, 3) := by decide +kernel
theorem dX5_loadOf_32 : decode cX5_loadOf 32 = .ok (.aload_n 0, 1) := by decide +kernel
theorem dX5_loadOf_33 : decode cX5_loadOf 33 = .ok (.getfield 22, 3) := by decide +kernel
theorem dX5_loadOf_36 : decode cX5_loadOf 36 = .ok (.iload 4, 2) := by decide +kernel
theorem dX5_loadOf_38 : decode cX5_loadOf 38 = .ok (.iaload, 1) := by decide +kernel
theorem dX5_loadOf_39 : decode cX5_loadOf 39 = .ok (.i2l, 1) := by decide +kernel
theorem dX5_loadOf_40 : decode cX5_loadOf 40 = .ok (.aload_n 0, 1) := by decide +kernel
theorem dX5_loadOf_41 : decode cX5_loadOf 41 = .ok (.getfield 31, 3) := by decide +kernel
theorem dX5_loadOf_44 : decode cX5_loadOf 44 = .ok (.iload 4, 2) := by decide +kernel
theorem dX5_loadOf_46 : decode cX5_loadOf 46 = .ok (.laload, 1) := by decide +kernel
theorem dX5_loadOf_47 : decode cX5_loadOf 47 = .ok (.lmul, 1) := by decide +kernel
theorem dX5_loadOf_48 : decode cX5_loadOf 48 = .ok (.goto 4, 3) := by decide +kernel
theorem dX5_loadOf_51 : decode cX5_loadOf 51 = .ok (.lconst 0, 1) := by decide +kernel
theorem dX5_loadOf_52 : decode cX5_loadOf 52 = .ok (.ladd, 1) := by decide +kernel
theorem dX5_loadOf_53 : decode cX5_loadOf 53 = .ok (.lstore_n 2, 1) := by decide +kernel
theorem dX5_loadOf_54 : decode cX5_loadOf 54 = .ok (.iinc 4 1, 3) := by decide +kernel
theorem dX5_loadOf_57 : decode cX5_loadOf 57 = .ok (.goto (-49), 3) := by decide +kernel
theorem dX5_loadOf_60 : decode cX5_loadOf 60 = .ok (.lload_n 2, 1) := by decide +kernel
theorem dX5_loadOf_61 : decode cX5_loadOf 61 = .ok (.lreturn, 1) := by decide +kernel
set_option maxRecDepth 20000 in
theorem ggX5_weightOf_X5_ones : GoodIn wsX5_weightOf wsX5_ones := goodIn_r _ [8] (by decide +kernel) (by decide +kernel)
set_option maxRecDepth 20000 in
theorem gX5_weightOf_X5_ones : GoodIn wsX5_weightOf (va_wsS RX5 128 yX5_ones wsX5_ones) := goodIn_app (goodIn_of _ (by decide +kernel)) ggX5_weightOf_X5_ones
set_option maxRecDepth 20000 in
theorem ggX5_weightOf_X5_has : GoodIn wsX5_weightOf wsX5_has := goodIn_r _ [11] (by decide +kernel) (by decide +kernel)
set_option maxRecDepth 20000 in
theorem gX5_weightOf_X5_has : GoodIn wsX5_weightOf (va_wsS RX5 85 yX5_has wsX5_has) := goodIn_app (goodIn_of _ (by decide +kernel)) ggX5_weightOf_X5_has
theorem dX5_weightOf_0 : decode cX5_weightOf 0 = .ok (.iconst 0, 1) := by decide +kernel
theorem dX5_weightOf_1 : decode cX5_weightOf 1 = .ok (.istore_n 2, 1) := by decide +kernel
theorem dX5_weightOf_2 : decode cX5_weightOf 2 = .ok (.iconst 0, 1) := by decide +kernel
theorem dX5_weightOf_3 : decode cX5_weightOf 3 = .ok (.istore_n 3, 1) := by decide +kernel
theorem dX5_weightOf_4 : decode cX5_weightOf 4 = .ok (.iload_n 3, 1) := by decide +kernel
theorem dX5_weightOf_5 : decode cX5_weightOf 5 = .ok (.aload_n 0, 1) := by decide +kernel
theorem dX5_weightOf_6 : decode cX5_weightOf 6 = .ok (.getfield 134, 3) := by decide +kernel
theorem dX5_weightOf_9 : decode cX5_weightOf 9 = .ok (.if_icmp .ge 60, 3) := by decide +kernel
theorem dX5_weightOf_12 : decode cX5_weightOf 12 = .ok (.aload_n 0, 1) := by decide +kernel
theorem dX5_weightOf_13 : decode cX5_weightOf 13 = .ok (.getfield 25, 3) := by decide +kernel
theorem dX5_weightOf_16 : decode cX5_weightOf 16 = .ok (.iload_n 3, 1) := by decide +kernel
theorem dX5_weightOf_17 : decode cX5_weightOf 17 = .ok (.iaload, 1) := by decide +kernel
theorem dX5_weightOf_18 : decode cX5_weightOf 18 = .ok (.aload_n 0, 1) := by decide +kernel
theorem dX5_weightOf_19 : decode cX5_weightOf 19 = .ok (.getfield 141, 3) := by decide +kernel
theorem dX5_weightOf_22 : decode cX5_weightOf 22 = .ok (.iand, 1) := by decide +kernel
theorem dX5_weightOf_23 : decode cX5_weightOf 23 = .ok (.invokestatic 128, 3) := by decide +kernel
theorem dX5_weightOf_26 : decode cX5_weightOf 26 = .ok (.istore 4, 2) := by decide +kernel
theorem dX5_weightOf_28 : decode cX5_weightOf 28 = .ok (.iload_n 2, 1) := by decide +kernel
theorem dX5_weightOf_29 : decode cX5_weightOf 29 = .ok (.aload_n 0, 1) := by decide +kernel
theorem dX5_weightOf_30 : decode cX5_weightOf 30 = .ok (.getfield 25, 3) := by decide +kernel
theorem dX5_weightOf_33 : decode cX5_weightOf 33 = .ok (.iload_n 3, 1) := by decide +kernel
theorem dX5_weightOf_34 : decode cX5_weightOf 34 = .ok (.iaload, 1) := by decide +kernel
theorem dX5_weightOf_35 : decode cX5_weightOf 35 = .ok (.iload_n 1, 1) := by decide +kernel
theorem dX5_weightOf_36 : decode cX5_weightOf 36 = .ok (.invokestatic 85, 3) := by decide +kernel
theorem dX5_weightOf_39 : decode cX5_weightOf 39 = .ok (.ifCond .eq 21, 3) := by decide +kernel
theorem dX5_weightOf_42 : decode cX5_weightOf 42 = .ok (.aload_n 0, 1) := by decide +kernel
theorem dX5_weightOf_43 : decode cX5_weightOf 43 = .ok (.getfield 22, 3) := by decide +kernel
theorem dX5_weightOf_46 : decode cX5_weightOf 46 = .ok (.iload_n 3, 1) := by decide +kernel
theorem dX5_weightOf_47 : decode cX5_weightOf 47 = .ok (.iaload, 1) := by decide +kernel
theorem dX5_weightOf_48 : decode cX5_weightOf 48 = .ok (.sipush 2520, 3) := by decide +kernel
theorem dX5_weightOf_51 : decode cX5_weightOf 51 = .ok (.iconst 1, 1) := by decide +kernel
theorem dX5_weightOf_52 : decode cX5_weightOf 52 = .ok (.iload 4, 2) := by decide +kernel
theorem dX5_weightOf_54 : decode cX5_weightOf 54 = .ok (.iadd, 1) := by decide +kernel
theorem dX5_weightOf_55 : decode cX5_weightOf 55 = .ok (.idiv, 1) := by decide +kernel
theorem dX5_weightOf_56 : decode cX5_weightOf 56 = .ok (.imul, 1) := by decide +kernel
theorem dX5_weightOf_57 : decode cX5_weightOf 57 = .ok (.goto 4, 3) := by decide +kernel
theorem dX5_weightOf_60 : decode cX5_weightOf 60 = .ok (.iconst 0, 1) := by decide +kernel
theorem dX5_weightOf_61 : decode cX5_weightOf 61 = .ok (.iadd, 1) := by decide +kernel
theorem dX5_weightOf_62 : decode cX5_weightOf 62 = .ok (.istore_n 2, 1) := by decide +kernel
theorem dX5_weightOf_63 : decode cX5_weightOf 63 = .ok (.iinc 3 1, 3) := by decide +kernel
theorem dX5_weightOf_66 : decode cX5_weightOf 66 = .ok (.goto (-62), 3) := by decide +kernel
theorem dX5_weightOf_69 : decode cX5_weightOf 69 = .ok (.iload_n 2, 1) := by decide +kernel
theorem dX5_weightOf_70 : decode cX5_weightOf 70 = .ok (.ireturn, 1) := by decide +kernel
set_option maxRecDepth 20000 in
theorem ggX5_isAhead_X5_supportOf : GoodIn wsX5_isAhead wsX5_supportOf := goodIn_r _ [5, 6, 7, 8, 9, 10, 4, 11, 26, 27, 28, 29, 30, 31, 32, 33, 34, 35, 36, 37, 38, 39, 40, 41, 42, 43, 44] (by decide +kernel) (by decide +kernel)
set_option maxRecDepth 20000 in
theorem gX5_isAhead_X5_supportOf : GoodIn wsX5_isAhead (wsV RX5 144 RX5 yX5_supportOf wsX5_supportOf) := goodIn_app (goodIn_of _ (by decide +kernel)) ggX5_isAhead_X5_supportOf
set_option maxRecDepth 20000 in
theorem ggX5_isAhead_X5_weightOf : GoodIn wsX5_isAhead wsX5_weightOf := goodIn_r _ [15, 6, 7, 16, 8, 17, 18, 4, 19, 9, 10, 11, 26, 27, 28, 29, 30, 31, 32, 33, 34, 35, 36, 37, 38, 39, 40, 41, 42, 43, 44] (by decide +kernel) (by decide +kernel)
set_option maxRecDepth 20000 in
theorem gX5_isAhead_X5_weightOf : GoodIn wsX5_isAhead (wsV RX5 147 RX5 yX5_weightOf wsX5_weightOf) := goodIn_app (goodIn_of _ (by decide +kernel)) ggX5_isAhead_X5_weightOf
set_option maxRecDepth 20000 in
theorem ggX5_isAhead_X5_loadOf : GoodIn wsX5_isAhead wsX5_loadOf := goodIn_r _ [23, 24, 6, 7, 8, 25, 9, 10, 4, 11, 26, 27, 28, 29, 30, 31, 32, 33, 34, 35, 36, 37, 38, 39, 40, 41, 42, 43, 44] (by decide +kernel) (by decide +kernel)
set_option maxRecDepth 20000 in
theorem gX5_isAhead_X5_loadOf : GoodIn wsX5_isAhead (wsV RX5 150 RX5 yX5_loadOf wsX5_loadOf) := goodIn_app (goodIn_of _ (by decide +kernel)) ggX5_isAhead_X5_loadOf
theorem dX5_isAhead_0 : decode cX5_isAhead 0 = .ok (.iload_n 1, 1) := by decide +kernel
theorem dX5_isAhead_1 : decode cX5_isAhead 1 = .ok (.lookupswitch 65 #[(1, 27), (2, 46)], 27) := by decide +kernel
theorem dX5_isAhead_28 : decode cX5_isAhead 28 = .ok (.aload_n 0, 1) := by decide +kernel
theorem dX5_isAhead_29 : decode cX5_isAhead 29 = .ok (.iload_n 2, 1) := by decide +kernel
theorem dX5_isAhead_30 : decode cX5_isAhead 30 = .ok (.invokevirtual 144, 3) := by decide +kernel
theorem dX5_isAhead_33 : decode cX5_isAhead 33 = .ok (.aload_n 0, 1) := by decide +kernel
theorem dX5_isAhead_34 : decode cX5_isAhead 34 = .ok (.iload_n 3, 1) := by decide +kernel
theorem dX5_isAhead_35 : decode cX5_isAhead 35 = .ok (.invokevirtual 144, 3) := by decide +kernel
theorem dX5_isAhead_38 : decode cX5_isAhead 38 = .ok (.if_icmp .le 7, 3) := by decide +kernel
theorem dX5_isAhead_41 : decode cX5_isAhead 41 = .ok (.iconst 1, 1) := by decide +kernel
theorem dX5_isAhead_42 : decode cX5_isAhead 42 = .ok (.goto 4, 3) := by decide +kernel
theorem dX5_isAhead_45 : decode cX5_isAhead 45 = .ok (.iconst 0, 1) := by decide +kernel
theorem dX5_isAhead_46 : decode cX5_isAhead 46 = .ok (.ireturn, 1) := by decide +kernel
theorem dX5_isAhead_47 : decode cX5_isAhead 47 = .ok (.aload_n 0, 1) := by decide +kernel
theorem dX5_isAhead_48 : decode cX5_isAhead 48 = .ok (.iload_n 2, 1) := by decide +kernel
theorem dX5_isAhead_49 : decode cX5_isAhead 49 = .ok (.invokevirtual 147, 3) := by decide +kernel
theorem dX5_isAhead_52 : decode cX5_isAhead 52 = .ok (.aload_n 0, 1) := by decide +kernel
theorem dX5_isAhead_53 : decode cX5_isAhead 53 = .ok (.iload_n 3, 1) := by decide +kernel
theorem dX5_isAhead_54 : decode cX5_isAhead 54 = .ok (.invokevirtual 147, 3) := by decide +kernel
theorem dX5_isAhead_57 : decode cX5_isAhead 57 = .ok (.if_icmp .le 7, 3) := by decide +kernel
theorem dX5_isAhead_60 : decode cX5_isAhead 60 = .ok (.iconst 1, 1) := by decide +kernel
theorem dX5_isAhead_61 : decode cX5_isAhead 61 = .ok (.goto 4, 3) := by decide +kernel
theorem dX5_isAhead_64 : decode cX5_isAhead 64 = .ok (.iconst 0, 1) := by decide +kernel
theorem dX5_isAhead_65 : decode cX5_isAhead 65 = .ok (.ireturn, 1) := by decide +kernel
theorem dX5_isAhead_66 : decode cX5_isAhead 66 = .ok (.aload_n 0, 1) := by decide +kernel
theorem dX5_isAhead_67 : decode cX5_isAhead 67 = .ok (.iload_n 2, 1) := by decide +kernel
theorem dX5_isAhead_68 : decode cX5_isAhead 68 = .ok (.invokevirtual 150, 3) := by decide +kernel
theorem dX5_isAhead_71 : decode cX5_isAhead 71 = .ok (.aload_n 0, 1) := by decide +kernel
theorem dX5_isAhead_72 : decode cX5_isAhead 72 = .ok (.iload_n 3, 1) := by decide +kernel
theorem dX5_isAhead_73 : decode cX5_isAhead 73 = .ok (.invokevirtual 144, 3) := by decide +kernel
theorem dX5_isAhead_76 : decode cX5_isAhead 76 = .ok (.i2l, 1) := by decide +kernel
theorem dX5_isAhead_77 : decode cX5_isAhead 77 = .ok (.lmul, 1) := by decide +kernel
theorem dX5_isAhead_78 : decode cX5_isAhead 78 = .ok (.aload_n 0, 1) := by decide +kernel
theorem dX5_isAhead_79 : decode cX5_isAhead 79 = .ok (.iload_n 3, 1) := by decide +kernel
theorem dX5_isAhead_80 : decode cX5_isAhead 80 = .ok (.invokevirtual 150, 3) := by decide +kernel
theorem dX5_isAhead_83 : decode cX5_isAhead 83 = .ok (.aload_n 0, 1) := by decide +kernel
theorem dX5_isAhead_84 : decode cX5_isAhead 84 = .ok (.iload_n 2, 1) := by decide +kernel
theorem dX5_isAhead_85 : decode cX5_isAhead 85 = .ok (.invokevirtual 144, 3) := by decide +kernel
theorem dX5_isAhead_88 : decode cX5_isAhead 88 = .ok (.i2l, 1) := by decide +kernel
theorem dX5_isAhead_89 : decode cX5_isAhead 89 = .ok (.lmul, 1) := by decide +kernel
theorem dX5_isAhead_90 : decode cX5_isAhead 90 = .ok (.lcmp, 1) := by decide +kernel
theorem dX5_isAhead_91 : decode cX5_isAhead 91 = .ok (.ifCond .ge 7, 3) := by decide +kernel
theorem dX5_isAhead_94 : decode cX5_isAhead 94 = .ok (.iconst 1, 1) := by decide +kernel
theorem dX5_isAhead_95 : decode cX5_isAhead 95 = .ok (.goto 4, 3) := by decide +kernel
theorem dX5_isAhead_98 : decode cX5_isAhead 98 = .ok (.iconst 0, 1) := by decide +kernel
theorem dX5_isAhead_99 : decode cX5_isAhead 99 = .ok (.ireturn, 1) := by decide +kernel
set_option maxRecDepth 20000 in
theorem ggX5_nextOf_X5_has : GoodIn wsX5_nextOf wsX5_has := goodIn_r _ [7] (by decide +kernel) (by decide +kernel)
set_option maxRecDepth 20000 in
theorem gX5_nextOf_X5_has : GoodIn wsX5_nextOf (va_wsS RX5 85 yX5_has wsX5_has) := goodIn_app (goodIn_of _ (by decide +kernel)) ggX5_nextOf_X5_has
set_option maxRecDepth 20000 in
theorem ggX5_nextOf_X5_supportOf : GoodIn wsX5_nextOf wsX5_supportOf := goodIn_r _ [11, 12, 13, 14, 4, 5, 6, 7, 32, 33, 34, 35, 36, 37, 38, 39, 40, 41, 42, 43, 44, 45, 46, 47, 48, 49, 50] (by decide +kernel) (by decide +kernel)
set_option maxRecDepth 20000 in
theorem gX5_nextOf_X5_supportOf : GoodIn wsX5_nextOf (wsV RX5 144 RX5 yX5_supportOf wsX5_supportOf) := goodIn_app (goodIn_of _ (by decide +kernel)) ggX5_nextOf_X5_supportOf
set_option maxRecDepth 20000 in
theorem ggX5_nextOf_X5_isAhead : GoodIn wsX5_nextOf wsX5_isAhead := goodIn_r _ [18, 8, 9, 10, 6, 11, 12, 13, 14, 4, 5, 7, 19, 20, 21, 22, 3, 23, 24, 25, 26, 27, 28, 29, 30, 31, 32, 33, 34, 35, 36, 37, 38, 39, 40, 41, 42, 43, 44, 45, 46, 47, 48, 49, 50] (by decide +kernel) (by decide +kernel)
set_option maxRecDepth 20000 in
theorem gX5_nextOf_X5_isAhead : GoodIn wsX5_nextOf (wsV RX5 154 RX5 yX5_isAhead wsX5_isAhead) := goodIn_app (goodIn_of _ (by decide +kernel)) ggX5_nextOf_X5_isAhead
theorem dX5_nextOf_0 : decode cX5_nextOf 0 = .ok (.bipush (-4), 2) := by decide +kernel
theorem dX5_nextOf_2 : decode cX5_nextOf 2 = .ok (.istore_n 3, 1) := by decide +kernel
theorem dX5_nextOf_3 : decode cX5_nextOf 3 = .ok (.iconst 0, 1) := by decide +kernel
theorem dX5_nextOf_4 : decode cX5_nextOf 4 = .ok (.istore 4, 2) := by decide +kernel
theorem dX5_nextOf_6 : decode cX5_nextOf 6 = .ok (.iload 4, 2) := by decide +kernel
theorem dX5_nextOf_8 : decode cX5_nextOf 8 = .ok (.aload_n 0, 1) := by decide +kernel
theorem dX5_nextOf_9 : decode cX5_nextOf 9 = .ok (.getfield 7, 3) := by decide +kernel
theorem dX5_nextOf_12 : decode cX5_nextOf 12 = .ok (.iconst 0, 1) := by decide +kernel
theorem dX5_nextOf_13 : decode cX5_nextOf 13 = .ok (.iaload, 1) := by decide +kernel
theorem dX5_nextOf_14 : decode cX5_nextOf 14 = .ok (.if_icmp .ge 115, 3) := by decide +kernel
theorem dX5_nextOf_17 : decode cX5_nextOf 17 = .ok (.aload_n 0, 1) := by decide +kernel
theorem dX5_nextOf_18 : decode cX5_nextOf 18 = .ok (.getfield 28, 3) := by decide +kernel
theorem dX5_nextOf_21 : decode cX5_nextOf 21 = .ok (.iload 4, 2) := by decide +kernel
theorem dX5_nextOf_23 : decode cX5_nextOf 23 = .ok (.iaload, 1) := by decide +kernel
theorem dX5_nextOf_24 : decode cX5_nextOf 24 = .ok (.istore 5, 2) := by decide +kernel
theorem dX5_nextOf_26 : decode cX5_nextOf 26 = .ok (.aload_n 0, 1) := by decide +kernel
theorem dX5_nextOf_27 : decode cX5_nextOf 27 = .ok (.getfield 7, 3) := by decide +kernel
theorem dX5_nextOf_30 : decode cX5_nextOf 30 = .ok (.bipush 23, 2) := by decide +kernel
theorem dX5_nextOf_32 : decode cX5_nextOf 32 = .ok (.iaload, 1) := by decide +kernel
theorem dX5_nextOf_33 : decode cX5_nextOf 33 = .ok (.iload 5, 2) := by decide +kernel
theorem dX5_nextOf_35 : decode cX5_nextOf 35 = .ok (.invokestatic 85, 3) := by decide +kernel
theorem dX5_nextOf_38 : decode cX5_nextOf 38 = .ok (.ifCond .ne 37, 3) := by decide +kernel
theorem dX5_nextOf_41 : decode cX5_nextOf 41 = .ok (.aload_n 0, 1) := by decide +kernel
theorem dX5_nextOf_42 : decode cX5_nextOf 42 = .ok (.getfield 141, 3) := by decide +kernel
theorem dX5_nextOf_45 : decode cX5_nextOf 45 = .ok (.iload 5, 2) := by decide +kernel
theorem dX5_nextOf_47 : decode cX5_nextOf 47 = .ok (.invokestatic 85, 3) := by decide +kernel
theorem dX5_nextOf_50 : decode cX5_nextOf 50 = .ok (.ifCond .ne 25, 3) := by decide +kernel
theorem dX5_nextOf_53 : decode cX5_nextOf 53 = .ok (.aload_n 0, 1) := by decide +kernel
theorem dX5_nextOf_54 : decode cX5_nextOf 54 = .ok (.iload 5, 2) := by decide +kernel
theorem dX5_nextOf_56 : decode cX5_nextOf 56 = .ok (.invokevirtual 144, 3) := by decide +kernel
theorem dX5_nextOf_59 : decode cX5_nextOf 59 = .ok (.ifCond .le 7, 3) := by decide +kernel
theorem dX5_nextOf_62 : decode cX5_nextOf 62 = .ok (.iconst 1, 1) := by decide +kernel
theorem dX5_nextOf_63 : decode cX5_nextOf 63 = .ok (.goto 4, 3) := by decide +kernel
theorem dX5_nextOf_66 : decode cX5_nextOf 66 = .ok (.iconst 0, 1) := by decide +kernel
theorem dX5_nextOf_67 : decode cX5_nextOf 67 = .ok (.iload_n 2, 1) := by decide +kernel
theorem dX5_nextOf_68 : decode cX5_nextOf 68 = .ok (.if_icmp .ne 7, 3) := by decide +kernel
theorem dX5_nextOf_71 : decode cX5_nextOf 71 = .ok (.iconst 1, 1) := by decide +kernel
theorem dX5_nextOf_72 : decode cX5_nextOf 72 = .ok (.goto 4, 3) := by decide +kernel
theorem dX5_nextOf_75 : decode cX5_nextOf 75 = .ok (.iconst 0, 1) := by decide +kernel
theorem dX5_nextOf_76 : decode cX5_nextOf 76 = .ok (.istore 6, 2) := by decide +kernel
theorem dX5_nextOf_78 : decode cX5_nextOf 78 = .ok (.iload 6, 2) := by decide +kernel
theorem dX5_nextOf_80 : decode cX5_nextOf 80 = .ok (.ifCond .eq 28, 3) := by decide +kernel
theorem dX5_nextOf_83 : decode cX5_nextOf 83 = .ok (.iload_n 3, 1) := by decide +kernel
theorem dX5_nextOf_84 : decode cX5_nextOf 84 = .ok (.bipush (-4), 2) := by decide +kernel
theorem dX5_nextOf_86 : decode cX5_nextOf 86 = .ok (.if_icmp .eq 18, 3) := by decide +kernel
theorem dX5_nextOf_89 : decode cX5_nextOf 89 = .ok (.iload_n 2, 1) := by decide +kernel
theorem dX5_nextOf_90 : decode cX5_nextOf 90 = .ok (.ifCond .eq 18, 3) := by decide +kernel
theorem dX5_nextOf_93 : decode cX5_nextOf 93 = .ok (.aload_n 0, 1) := by decide +kernel
theorem dX5_nextOf_94 : decode cX5_nextOf 94 = .ok (.iload_n 1, 1) := by decide +kernel
theorem dX5_nextOf_95 : decode cX5_nextOf 95 = .ok (.iload 5, 2) := by decide +kernel
theorem dX5_nextOf_97 : decode cX5_nextOf 97 = .ok (.iload_n 3, 1) := by decide +kernel
theorem dX5_nextOf_98 : decode cX5_nextOf 98 = .ok (.invokevirtual 154, 3) := by decide +kernel
theorem dX5_nextOf_101 : decode cX5_nextOf 101 = .ok (.ifCond .eq 7, 3) := by decide +kernel
theorem dX5_nextOf_104 : decode cX5_nextOf 104 = .ok (.iconst 1, 1) := by decide +kernel
theorem dX5_nextOf_105 : decode cX5_nextOf 105 = .ok (.goto 4, 3) := by decide +kernel
theorem dX5_nextOf_108 : decode cX5_nextOf 108 = .ok (.iconst 0, 1) := by decide +kernel
theorem dX5_nextOf_109 : decode cX5_nextOf 109 = .ok (.istore 7, 2) := by decide +kernel
theorem dX5_nextOf_111 : decode cX5_nextOf 111 = .ok (.iload 7, 2) := by decide +kernel
theorem dX5_nextOf_113 : decode cX5_nextOf 113 = .ok (.ifCond .eq 8, 3) := by decide +kernel
theorem dX5_nextOf_116 : decode cX5_nextOf 116 = .ok (.iload 5, 2) := by decide +kernel
theorem dX5_nextOf_118 : decode cX5_nextOf 118 = .ok (.goto 4, 3) := by decide +kernel
theorem dX5_nextOf_121 : decode cX5_nextOf 121 = .ok (.iload_n 3, 1) := by decide +kernel
theorem dX5_nextOf_122 : decode cX5_nextOf 122 = .ok (.istore_n 3, 1) := by decide +kernel
theorem dX5_nextOf_123 : decode cX5_nextOf 123 = .ok (.iinc 4 1, 3) := by decide +kernel
theorem dX5_nextOf_126 : decode cX5_nextOf 126 = .ok (.goto (-120), 3) := by decide +kernel
theorem dX5_nextOf_129 : decode cX5_nextOf 129 = .ok (.iload_n 3, 1) := by decide +kernel
theorem dX5_nextOf_130 : decode cX5_nextOf 130 = .ok (.ireturn, 1) := by decide +kernel
set_option maxRecDepth 20000 in
theorem ggX5_comesBy_X5_supportOf : GoodIn wsX5_comesBy wsX5_supportOf := goodIn_r _ [13, 6, 8, 14, 15, 16, 12, 17, 30, 31, 32, 33, 34, 35, 36, 37, 38, 39, 40, 41, 42, 43, 44, 45, 46, 47, 48] (by decide +kernel) (by decide +kernel)
set_option maxRecDepth 20000 in
theorem gX5_comesBy_X5_supportOf : GoodIn wsX5_comesBy (wsV RX5 144 RX5 yX5_supportOf wsX5_supportOf) := goodIn_app (goodIn_of _ (by decide +kernel)) ggX5_comesBy_X5_supportOf
set_option maxRecDepth 20000 in
theorem ggX5_comesBy_X5_weightOf : GoodIn wsX5_comesBy wsX5_weightOf := goodIn_r _ [21, 6, 8, 22, 14, 23, 24, 12, 25, 15, 16, 17, 30, 31, 32, 33, 34, 35, 36, 37, 38, 39, 40, 41, 42, 43, 44, 45, 46, 47, 48] (by decide +kernel) (by decide +kernel)
set_option maxRecDepth 20000 in
theorem gX5_comesBy_X5_weightOf : GoodIn wsX5_comesBy (wsV RX5 147 RX5 yX5_weightOf wsX5_weightOf) := goodIn_app (goodIn_of _ (by decide +kernel)) ggX5_comesBy_X5_weightOf
set_option maxRecDepth 20000 in
theorem ggX5_comesBy_X5_loadOf : GoodIn wsX5_comesBy wsX5_loadOf := goodIn_r _ [29, 5, 6, 8, 14, 7, 15, 16, 12, 17, 30, 31, 32, 33, 34, 35, 36, 37, 38, 39, 40, 41, 42, 43, 44, 45, 46, 47, 48] (by decide +kernel) (by decide +kernel)
set_option maxRecDepth 20000 in
theorem gX5_comesBy_X5_loadOf : GoodIn wsX5_comesBy (wsV RX5 150 RX5 yX5_loadOf wsX5_loadOf) := goodIn_app (goodIn_of _ (by decide +kernel)) ggX5_comesBy_X5_loadOf
set_option maxRecDepth 20000 in
theorem ggX5_comesBy_X5_has : GoodIn wsX5_comesBy wsX5_has := goodIn_r _ [17] (by decide +kernel) (by decide +kernel)
set_option maxRecDepth 20000 in
theorem gX5_comesBy_X5_has : GoodIn wsX5_comesBy (va_wsS RX5 85 yX5_has wsX5_has) := goodIn_app (goodIn_of _ (by decide +kernel)) ggX5_comesBy_X5_has
theorem dX5_comesBy_0 : decode cX5_comesBy 0 = .ok (.aload_n 0, 1) := by decide +kernel
theorem dX5_comesBy_1 : decode cX5_comesBy 1 = .ok (.iload_n 2, 1) := by decide +kernel
theorem dX5_comesBy_2 : decode cX5_comesBy 2 = .ok (.invokevirtual 144, 3) := by decide +kernel
theorem dX5_comesBy_5 : decode cX5_comesBy 5 = .ok (.istore_n 3, 1) := by decide +kernel
theorem dX5_comesBy_6 : decode cX5_comesBy 6 = .ok (.aload_n 0, 1) := by decide +kernel
theorem dX5_comesBy_7 : decode cX5_comesBy 7 = .ok (.getfield 38, 3) := by decide +kernel
theorem dX5_comesBy_10 : decode cX5_comesBy 10 = .ok (.aload_n 0, 1) := by decide +kernel
theorem dX5_comesBy_11 : decode cX5_comesBy 11 = .ok (.getfield 157, 3) := by decide +kernel
theorem dX5_comesBy_14 : decode cX5_comesBy 14 = .ok (.iload_n 1, 1) := by decide +kernel
theorem dX5_comesBy_15 : decode cX5_comesBy 15 = .ok (.iconst 1, 1) := by decide +kernel
theorem dX5_comesBy_16 : decode cX5_comesBy 16 = .ok (.if_icmp .ne 8, 3) := by decide +kernel
theorem dX5_comesBy_19 : decode cX5_comesBy 19 = .ok (.iload_n 3, 1) := by decide +kernel
theorem dX5_comesBy_20 : decode cX5_comesBy 20 = .ok (.i2l, 1) := by decide +kernel
theorem dX5_comesBy_21 : decode cX5_comesBy 21 = .ok (.goto 22, 3) := by decide +kernel
theorem dX5_comesBy_24 : decode cX5_comesBy 24 = .ok (.iload_n 1, 1) := by decide +kernel
theorem dX5_comesBy_25 : decode cX5_comesBy 25 = .ok (.iconst 2, 1) := by decide +kernel
theorem dX5_comesBy_26 : decode cX5_comesBy 26 = .ok (.if_icmp .ne 12, 3) := by decide +kernel
theorem dX5_comesBy_29 : decode cX5_comesBy 29 = .ok (.aload_n 0, 1) := by decide +kernel
theorem dX5_comesBy_30 : decode cX5_comesBy 30 = .ok (.iload_n 2, 1) := by decide +kernel
theorem dX5_comesBy_31 : decode cX5_comesBy 31 = .ok (.invokevirtual 147, 3) := by decide +kernel
theorem dX5_comesBy_34 : decode cX5_comesBy 34 = .ok (.i2l, 1) := by decide +kernel
theorem dX5_comesBy_35 : decode cX5_comesBy 35 = .ok (.goto 8, 3) := by decide +kernel
theorem dX5_comesBy_38 : decode cX5_comesBy 38 = .ok (.aload_n 0, 1) := by decide +kernel
theorem dX5_comesBy_39 : decode cX5_comesBy 39 = .ok (.iload_n 2, 1) := by decide +kernel
theorem dX5_comesBy_40 : decode cX5_comesBy 40 = .ok (.invokevirtual 150, 3) := by decide +kernel
theorem dX5_comesBy_43 : decode cX5_comesBy 43 = .ok (.lastore, 1) := by decide +kernel
theorem dX5_comesBy_44 : decode cX5_comesBy 44 = .ok (.aload_n 0, 1) := by decide +kernel
theorem dX5_comesBy_45 : decode cX5_comesBy 45 = .ok (.getfield 41, 3) := by decide +kernel
theorem dX5_comesBy_48 : decode cX5_comesBy 48 = .ok (.aload_n 0, 1) := by decide +kernel
theorem dX5_comesBy_49 : decode cX5_comesBy 49 = .ok (.getfield 157, 3) := by decide +kernel
theorem dX5_comesBy_52 : decode cX5_comesBy 52 = .ok (.iload_n 1, 1) := by decide +kernel
theorem dX5_comesBy_53 : decode cX5_comesBy 53 = .ok (.iconst 1, 1) := by decide +kernel
theorem dX5_comesBy_54 : decode cX5_comesBy 54 = .ok (.if_icmp .ne 7, 3) := by decide +kernel
theorem dX5_comesBy_57 : decode cX5_comesBy 57 = .ok (.lconst 1, 1) := by decide +kernel
theorem dX5_comesBy_58 : decode cX5_comesBy 58 = .ok (.goto 21, 3) := by decide +kernel
theorem dX5_comesBy_61 : decode cX5_comesBy 61 = .ok (.iload_n 1, 1) := by decide +kernel
theorem dX5_comesBy_62 : decode cX5_comesBy 62 = .ok (.iconst 2, 1) := by decide +kernel
theorem dX5_comesBy_63 : decode cX5_comesBy 63 = .ok (.if_icmp .ne 9, 3) := by decide +kernel
theorem dX5_comesBy_66 : decode cX5_comesBy 66 = .ok (.ldc2_w 160, 3) := by decide +kernel
theorem dX5_comesBy_69 : decode cX5_comesBy 69 = .ok (.goto 10, 3) := by decide +kernel
theorem dX5_comesBy_72 : decode cX5_comesBy 72 = .ok (.aload_n 0, 1) := by decide +kernel
theorem dX5_comesBy_73 : decode cX5_comesBy 73 = .ok (.getfield 137, 3) := by decide +kernel
theorem dX5_comesBy_76 : decode cX5_comesBy 76 = .ok (.iload_n 3, 1) := by decide +kernel
theorem dX5_comesBy_77 : decode cX5_comesBy 77 = .ok (.i2l, 1) := by decide +kernel
theorem dX5_comesBy_78 : decode cX5_comesBy 78 = .ok (.lmul, 1) := by decide +kernel
theorem dX5_comesBy_79 : decode cX5_comesBy 79 = .ok (.lastore, 1) := by decide +kernel
theorem dX5_comesBy_80 : decode cX5_comesBy 80 = .ok (.iload_n 1, 1) := by decide +kernel
theorem dX5_comesBy_81 : decode cX5_comesBy 81 = .ok (.iconst 1, 1) := by decide +kernel
theorem dX5_comesBy_82 : decode cX5_comesBy 82 = .ok (.if_icmp .eq 8, 3) := by decide +kernel
theorem dX5_comesBy_85 : decode cX5_comesBy 85 = .ok (.iload_n 1, 1) := by decide +kernel
theorem dX5_comesBy_86 : decode cX5_comesBy 86 = .ok (.iconst 2, 1) := by decide +kernel
theorem dX5_comesBy_87 : decode cX5_comesBy 87 = .ok (.if_icmp .ne 4, 3) := by decide +kernel
theorem dX5_comesBy_90 : decode cX5_comesBy 90 = .ok (.return_, 1) := by decide +kernel
theorem dX5_comesBy_91 : decode cX5_comesBy 91 = .ok (.aload_n 0, 1) := by decide +kernel
theorem dX5_comesBy_92 : decode cX5_comesBy 92 = .ok (.iload_n 2, 1) := by decide +kernel
theorem dX5_comesBy_93 : decode cX5_comesBy 93 = .ok (.invokevirtual 150, 3) := by decide +kernel
theorem dX5_comesBy_96 : decode cX5_comesBy 96 = .ok (.lstore 4, 2) := by decide +kernel
theorem dX5_comesBy_98 : decode cX5_comesBy 98 = .ok (.iconst 0, 1) := by decide +kernel
theorem dX5_comesBy_99 : decode cX5_comesBy 99 = .ok (.istore 6, 2) := by decide +kernel
theorem dX5_comesBy_101 : decode cX5_comesBy 101 = .ok (.iload 6, 2) := by decide +kernel
theorem dX5_comesBy_103 : decode cX5_comesBy 103 = .ok (.aload_n 0, 1) := by decide +kernel
theorem dX5_comesBy_104 : decode cX5_comesBy 104 = .ok (.getfield 134, 3) := by decide +kernel
theorem dX5_comesBy_107 : decode cX5_comesBy 107 = .ok (.if_icmp .ge 45, 3) := by decide +kernel
theorem dX5_comesBy_110 : decode cX5_comesBy 110 = .ok (.aload_n 0, 1) := by decide +kernel
theorem dX5_comesBy_111 : decode cX5_comesBy 111 = .ok (.getfield 31, 3) := by decide +kernel
theorem dX5_comesBy_114 : decode cX5_comesBy 114 = .ok (.iload 6, 2) := by decide +kernel
theorem dX5_comesBy_116 : decode cX5_comesBy 116 = .ok (.aload_n 0, 1) := by decide +kernel
theorem dX5_comesBy_117 : decode cX5_comesBy 117 = .ok (.getfield 25, 3) := by decide +kernel
theorem dX5_comesBy_120 : decode cX5_comesBy 120 = .ok (.iload 6, 2) := by decide +kernel
theorem dX5_comesBy_122 : decode cX5_comesBy 122 = .ok (.iaload, 1) := by decide +kernel
theorem dX5_comesBy_123 : decode cX5_comesBy 123 = .ok (.iload_n 2, 1) := by decide +kernel
theorem dX5_comesBy_124 : decode cX5_comesBy 124 = .ok (.invokestatic 85, 3) := by decide +kernel
theorem dX5_comesBy_127 : decode cX5_comesBy 127 = .ok (.ifCond .eq 8, 3) := by decide +kernel
theorem dX5_comesBy_130 : decode cX5_comesBy 130 = .ok (.lload 4, 2) := by decide +kernel
theorem dX5_comesBy_132 : decode cX5_comesBy 132 = .ok (.goto 13, 3) := by decide +kernel
theorem dX5_comesBy_135 : decode cX5_comesBy 135 = .ok (.aload_n 0, 1) := by decide +kernel
theorem dX5_comesBy_136 : decode cX5_comesBy 136 = .ok (.getfield 31, 3) := by decide +kernel
theorem dX5_comesBy_139 : decode cX5_comesBy 139 = .ok (.iload 6, 2) := by decide +kernel
theorem dX5_comesBy_141 : decode cX5_comesBy 141 = .ok (.laload, 1) := by decide +kernel
theorem dX5_comesBy_142 : decode cX5_comesBy 142 = .ok (.iload_n 3, 1) := by decide +kernel
theorem dX5_comesBy_143 : decode cX5_comesBy 143 = .ok (.i2l, 1) := by decide +kernel
theorem dX5_comesBy_144 : decode cX5_comesBy 144 = .ok (.lmul, 1) := by decide +kernel
theorem dX5_comesBy_145 : decode cX5_comesBy 145 = .ok (.lastore, 1) := by decide +kernel
theorem dX5_comesBy_146 : decode cX5_comesBy 146 = .ok (.iinc 6 1, 3) := by decide +kernel
theorem dX5_comesBy_149 : decode cX5_comesBy 149 = .ok (.goto (-48), 3) := by decide +kernel
theorem dX5_comesBy_152 : decode cX5_comesBy 152 = .ok (.aload_n 0, 1) := by decide +kernel
theorem dX5_comesBy_153 : decode cX5_comesBy 153 = .ok (.dup, 1) := by decide +kernel
theorem dX5_comesBy_154 : decode cX5_comesBy 154 = .ok (.getfield 137, 3) := by decide +kernel
theorem dX5_comesBy_157 : decode cX5_comesBy 157 = .ok (.iload_n 3, 1) := by decide +kernel
theorem dX5_comesBy_158 : decode cX5_comesBy 158 = .ok (.i2l, 1) := by decide +kernel
theorem dX5_comesBy_159 : decode cX5_comesBy 159 = .ok (.lmul, 1) := by decide +kernel
theorem dX5_comesBy_160 : decode cX5_comesBy 160 = .ok (.putfield 137, 3) := by decide +kernel
theorem dX5_comesBy_163 : decode cX5_comesBy 163 = .ok (.return_, 1) := by decide +kernel
set_option maxRecDepth 20000 in
theorem ggX5_elects_X5_nextOf : GoodIn wsX5_elects wsX5_nextOf := goodIn_r _ [14, 6, 15, 2, 16, 17, 13, 18, 19, 20, 21, 22, 4, 23, 24, 25, 26, 27, 28, 29, 30, 31, 32, 33, 34, 35, 36, 37, 38, 39, 3, 5, 45, 46, 47, 48, 49, 50, 51, 52, 53, 54, 55, 56, 57, 58, 59, 60, 61, 62, 63] (by decide +kernel) (by decide +kernel)
set_option maxRecDepth 20000 in
theorem gX5_elects_X5_nextOf : GoodIn wsX5_elects (wsV RX5 162 RX5 yX5_nextOf wsX5_nextOf) := goodIn_app (goodIn_of _ (by decide +kernel)) ggX5_elects_X5_nextOf
set_option maxRecDepth 20000 in
theorem ggX5_elects_X5_comesBy : GoodIn wsX5_elects wsX5_comesBy := goodIn_r _ [43, 7, 1, 8, 44, 3, 4, 5, 23, 19, 20, 21, 13, 22, 24, 16, 17, 18, 29, 30, 31, 32, 2, 33, 34, 35, 36, 37, 38, 39, 45, 46, 47, 48, 49, 50, 51, 52, 53, 54, 55, 56, 57, 58, 59, 60, 61, 62, 63] (by decide +kernel) (by decide +kernel)
set_option maxRecDepth 20000 in
theorem gX5_elects_X5_comesBy : GoodIn wsX5_elects (wsV RX5 166 RX5 yX5_comesBy wsX5_comesBy) := goodIn_app (goodIn_of _ (by decide +kernel)) ggX5_elects_X5_comesBy
theorem dX5_elects_0 : decode cX5_elects 0 = .ok (.aload_n 0, 1) := by decide +kernel
theorem dX5_elects_1 : decode cX5_elects 1 = .ok (.iconst 0, 1) := by decide +kernel
theorem dX5_elects_2 : decode cX5_elects 2 = .ok (.putfield 157, 3) := by decide +kernel
theorem dX5_elects_5 : decode cX5_elects 5 = .ok (.aload_n 0, 1) := by decide +kernel
theorem dX5_elects_6 : decode cX5_elects 6 = .ok (.iconst 0, 1) := by decide +kernel
theorem dX5_elects_7 : decode cX5_elects 7 = .ok (.putfield 141, 3) := by decide +kernel
theorem dX5_elects_10 : decode cX5_elects 10 = .ok (.aload_n 0, 1) := by decide +kernel
theorem dX5_elects_11 : decode cX5_elects 11 = .ok (.lconst 1, 1) := by decide +kernel
theorem dX5_elects_12 : decode cX5_elects 12 = .ok (.putfield 137, 3) := by decide +kernel
theorem dX5_elects_15 : decode cX5_elects 15 = .ok (.iconst 0, 1) := by decide +kernel
theorem dX5_elects_16 : decode cX5_elects 16 = .ok (.istore_n 2, 1) := by decide +kernel
theorem dX5_elects_17 : decode cX5_elects 17 = .ok (.iload_n 2, 1) := by decide +kernel
theorem dX5_elects_18 : decode cX5_elects 18 = .ok (.aload_n 0, 1) := by decide +kernel
theorem dX5_elects_19 : decode cX5_elects 19 = .ok (.getfield 134, 3) := by decide +kernel
theorem dX5_elects_22 : decode cX5_elects 22 = .ok (.if_icmp .ge 16, 3) := by decide +kernel
theorem dX5_elects_25 : decode cX5_elects 25 = .ok (.aload_n 0, 1) := by decide +kernel
theorem dX5_elects_26 : decode cX5_elects 26 = .ok (.getfield 31, 3) := by decide +kernel
theorem dX5_elects_29 : decode cX5_elects 29 = .ok (.iload_n 2, 1) := by decide +kernel
theorem dX5_elects_30 : decode cX5_elects 30 = .ok (.lconst 0, 1) := by decide +kernel
theorem dX5_elects_31 : decode cX5_elects 31 = .ok (.lastore, 1) := by decide +kernel
theorem dX5_elects_32 : decode cX5_elects 32 = .ok (.iinc 2 1, 3) := by decide +kernel
theorem dX5_elects_35 : decode cX5_elects 35 = .ok (.goto (-18), 3) := by decide +kernel
theorem dX5_elects_38 : decode cX5_elects 38 = .ok (.iconst 1, 1) := by decide +kernel
theorem dX5_elects_39 : decode cX5_elects 39 = .ok (.istore_n 2, 1) := by decide +kernel
theorem dX5_elects_40 : decode cX5_elects 40 = .ok (.iload_n 2, 1) := by decide +kernel
theorem dX5_elects_41 : decode cX5_elects 41 = .ok (.ifCond .eq 117, 3) := by decide +kernel
theorem dX5_elects_44 : decode cX5_elects 44 = .ok (.aload_n 0, 1) := by decide +kernel
theorem dX5_elects_45 : decode cX5_elects 45 = .ok (.getfield 157, 3) := by decide +kernel
theorem dX5_elects_48 : decode cX5_elects 48 = .ok (.aload_n 0, 1) := by decide +kernel
theorem dX5_elects_49 : decode cX5_elects 49 = .ok (.getfield 7, 3) := by decide +kernel
theorem dX5_elects_52 : decode cX5_elects 52 = .ok (.bipush 22, 2) := by decide +kernel
theorem dX5_elects_54 : decode cX5_elects 54 = .ok (.iaload, 1) := by decide +kernel
theorem dX5_elects_55 : decode cX5_elects 55 = .ok (.if_icmp .ge 103, 3) := by decide +kernel
theorem dX5_elects_58 : decode cX5_elects 58 = .ok (.aload_n 0, 1) := by decide +kernel
theorem dX5_elects_59 : decode cX5_elects 59 = .ok (.iload_n 1, 1) := by decide +kernel
theorem dX5_elects_60 : decode cX5_elects 60 = .ok (.iconst 1, 1) := by decide +kernel
theorem dX5_elects_61 : decode cX5_elects 61 = .ok (.invokevirtual 162, 3) := by decide +kernel
theorem dX5_elects_64 : decode cX5_elects 64 = .ok (.istore_n 3, 1) := by decide +kernel
theorem dX5_elects_65 : decode cX5_elects 65 = .ok (.iload_n 3, 1) := by decide +kernel
theorem dX5_elects_66 : decode cX5_elects 66 = .ok (.bipush (-4), 2) := by decide +kernel
theorem dX5_elects_68 : decode cX5_elects 68 = .ok (.if_icmp .eq 12, 3) := by decide +kernel
theorem dX5_elects_71 : decode cX5_elects 71 = .ok (.aload_n 0, 1) := by decide +kernel
theorem dX5_elects_72 : decode cX5_elects 72 = .ok (.iload_n 1, 1) := by decide +kernel
theorem dX5_elects_73 : decode cX5_elects 73 = .ok (.iload_n 3, 1) := by decide +kernel
theorem dX5_elects_74 : decode cX5_elects 74 = .ok (.invokevirtual 166, 3) := by decide +kernel
theorem dX5_elects_77 : decode cX5_elects 77 = .ok (.goto 30, 3) := by decide +kernel
theorem dX5_elects_80 : decode cX5_elects 80 = .ok (.aload_n 0, 1) := by decide +kernel
theorem dX5_elects_81 : decode cX5_elects 81 = .ok (.iload_n 1, 1) := by decide +kernel
theorem dX5_elects_82 : decode cX5_elects 82 = .ok (.iconst 0, 1) := by decide +kernel
theorem dX5_elects_83 : decode cX5_elects 83 = .ok (.invokevirtual 162, 3) := by decide +kernel
theorem dX5_elects_86 : decode cX5_elects 86 = .ok (.istore_n 3, 1) := by decide +kernel
theorem dX5_elects_87 : decode cX5_elects 87 = .ok (.aload_n 0, 1) := by decide +kernel
theorem dX5_elects_88 : decode cX5_elects 88 = .ok (.getfield 38, 3) := by decide +kernel
theorem dX5_elects_91 : decode cX5_elects 91 = .ok (.aload_n 0, 1) := by decide +kernel
theorem dX5_elects_92 : decode cX5_elects 92 = .ok (.getfield 157, 3) := by decide +kernel
theorem dX5_elects_95 : decode cX5_elects 95 = .ok (.lconst 0, 1) := by decide +kernel
theorem dX5_elects_96 : decode cX5_elects 96 = .ok (.lastore, 1) := by decide +kernel
theorem dX5_elects_97 : decode cX5_elects 97 = .ok (.aload_n 0, 1) := by decide +kernel
theorem dX5_elects_98 : decode cX5_elects 98 = .ok (.getfield 41, 3) := by decide +kernel
theorem dX5_elects_101 : decode cX5_elects 101 = .ok (.aload_n 0, 1) := by decide +kernel
theorem dX5_elects_102 : decode cX5_elects 102 = .ok (.getfield 157, 3) := by decide +kernel
theorem dX5_elects_105 : decode cX5_elects 105 = .ok (.lconst 0, 1) := by decide +kernel
theorem dX5_elects_106 : decode cX5_elects 106 = .ok (.lastore, 1) := by decide +kernel
theorem dX5_elects_107 : decode cX5_elects 107 = .ok (.iload_n 3, 1) := by decide +kernel
theorem dX5_elects_108 : decode cX5_elects 108 = .ok (.bipush (-4), 2) := by decide +kernel
theorem dX5_elects_110 : decode cX5_elects 110 = .ok (.if_icmp .eq 7, 3) := by decide +kernel
theorem dX5_elects_113 : decode cX5_elects 113 = .ok (.iconst 1, 1) := by decide +kernel
theorem dX5_elects_114 : decode cX5_elects 114 = .ok (.goto 4, 3) := by decide +kernel
theorem dX5_elects_117 : decode cX5_elects 117 = .ok (.iconst 0, 1) := by decide +kernel
theorem dX5_elects_118 : decode cX5_elects 118 = .ok (.istore_n 2, 1) := by decide +kernel
theorem dX5_elects_119 : decode cX5_elects 119 = .ok (.iload_n 2, 1) := by decide +kernel
theorem dX5_elects_120 : decode cX5_elects 120 = .ok (.ifCond .eq 35, 3) := by decide +kernel
theorem dX5_elects_123 : decode cX5_elects 123 = .ok (.aload_n 0, 1) := by decide +kernel
theorem dX5_elects_124 : decode cX5_elects 124 = .ok (.getfield 35, 3) := by decide +kernel
theorem dX5_elects_127 : decode cX5_elects 127 = .ok (.aload_n 0, 1) := by decide +kernel
theorem dX5_elects_128 : decode cX5_elects 128 = .ok (.getfield 157, 3) := by decide +kernel
theorem dX5_elects_131 : decode cX5_elects 131 = .ok (.iload_n 3, 1) := by decide +kernel
theorem dX5_elects_132 : decode cX5_elects 132 = .ok (.iastore, 1) := by decide +kernel
theorem dX5_elects_133 : decode cX5_elects 133 = .ok (.aload_n 0, 1) := by decide +kernel
theorem dX5_elects_134 : decode cX5_elects 134 = .ok (.dup, 1) := by decide +kernel
theorem dX5_elects_135 : decode cX5_elects 135 = .ok (.getfield 141, 3) := by decide +kernel
theorem dX5_elects_138 : decode cX5_elects 138 = .ok (.iconst 1, 1) := by decide +kernel
theorem dX5_elects_139 : decode cX5_elects 139 = .ok (.iload_n 3, 1) := by decide +kernel
theorem dX5_elects_140 : decode cX5_elects 140 = .ok (.ishl, 1) := by decide +kernel
theorem dX5_elects_141 : decode cX5_elects 141 = .ok (.ior, 1) := by decide +kernel
theorem dX5_elects_142 : decode cX5_elects 142 = .ok (.putfield 141, 3) := by decide +kernel
theorem dX5_elects_145 : decode cX5_elects 145 = .ok (.aload_n 0, 1) := by decide +kernel
theorem dX5_elects_146 : decode cX5_elects 146 = .ok (.dup, 1) := by decide +kernel
theorem dX5_elects_147 : decode cX5_elects 147 = .ok (.getfield 157, 3) := by decide +kernel
theorem dX5_elects_150 : decode cX5_elects 150 = .ok (.iconst 1, 1) := by decide +kernel
theorem dX5_elects_151 : decode cX5_elects 151 = .ok (.iadd, 1) := by decide +kernel
theorem dX5_elects_152 : decode cX5_elects 152 = .ok (.putfield 157, 3) := by decide +kernel
theorem dX5_elects_155 : decode cX5_elects 155 = .ok (.goto (-115), 3) := by decide +kernel
theorem dX5_elects_158 : decode cX5_elects 158 = .ok (.return_, 1) := by decide +kernel
set_option maxRecDepth 20000 in
theorem ggX5_membersBy_X5_lays : GoodIn wsX5_membersBy wsX5_lays := goodIn_r _ [6, 7, 8, 9, 10, 11, 53, 54, 55, 56, 57, 58, 59, 60, 61, 62, 63, 64, 65, 66, 67, 68, 69, 70, 71] (by decide +kernel) (by decide +kernel)
set_option maxRecDepth 20000 in
theorem gX5_membersBy_X5_lays : GoodIn wsX5_membersBy (wsV RX5 169 RX5 yX5_lays wsX5_lays) := goodIn_app (goodIn_of _ (by decide +kernel)) ggX5_membersBy_X5_lays
set_option maxRecDepth 20000 in
theorem ggX5_membersBy_X5_elects : GoodIn wsX5_membersBy wsX5_elects := goodIn_r _ [15, 16, 1, 17, 8, 18, 7, 19, 20, 21, 22, 23, 24, 5, 25, 11, 26, 27, 28, 29, 30, 31, 32, 10, 9, 33, 34, 35, 36, 37, 38, 39, 40, 41, 42, 43, 44, 45, 46, 47, 48, 49, 50, 51, 52, 53, 54, 55, 56, 57, 58, 59, 60, 61, 62, 63, 64, 65, 66, 67, 68, 69, 70, 71] (by decide +kernel) (by decide +kernel)
set_option maxRecDepth 20000 in
theorem gX5_membersBy_X5_elects : GoodIn wsX5_membersBy (wsV RX5 172 RX5 yX5_elects wsX5_elects) := goodIn_app (goodIn_of _ (by decide +kernel)) ggX5_membersBy_X5_elects
theorem dX5_membersBy_0 : decode cX5_membersBy 0 = .ok (.aload_n 0, 1) := by decide +kernel
theorem dX5_membersBy_1 : decode cX5_membersBy 1 = .ok (.invokevirtual 169, 3) := by decide +kernel
theorem dX5_membersBy_4 : decode cX5_membersBy 4 = .ok (.aload_n 0, 1) := by decide +kernel
theorem dX5_membersBy_5 : decode cX5_membersBy 5 = .ok (.iload_n 1, 1) := by decide +kernel
theorem dX5_membersBy_6 : decode cX5_membersBy 6 = .ok (.invokevirtual 172, 3) := by decide +kernel
theorem dX5_membersBy_9 : decode cX5_membersBy 9 = .ok (.aload_n 0, 1) := by decide +kernel
theorem dX5_membersBy_10 : decode cX5_membersBy 10 = .ok (.getfield 141, 3) := by decide +kernel
theorem dX5_membersBy_13 : decode cX5_membersBy 13 = .ok (.ireturn, 1) := by decide +kernel
set_option maxRecDepth 20000 in
theorem ggX5_lawsOf_X5_membersBy : GoodIn wsX5_lawsOf wsX5_membersBy := goodIn_r _ [5, 6, 7, 8, 9, 4, 10, 11, 12, 13, 14, 15, 16, 17, 18, 19, 20, 21, 22, 23, 24, 25, 26, 27, 28, 29, 30, 31, 32, 33, 34, 35, 36, 37, 38, 39, 40, 41, 42, 43, 44, 45, 46, 47, 48, 49, 50, 51, 52, 53, 54, 55, 56, 57, 58, 59, 60, 61, 62, 63, 64, 65, 66, 67, 68, 69, 70, 71, 72, 73, 74, 75] (by decide +kernel) (by decide +kernel)
set_option maxRecDepth 20000 in
theorem gX5_lawsOf_X5_membersBy : GoodIn wsX5_lawsOf (wsV RX5 176 RX5 yX5_membersBy wsX5_membersBy) := goodIn_app (goodIn_of _ (by decide +kernel)) ggX5_lawsOf_X5_membersBy
set_option maxRecDepth 20000 in
theorem ggX5_lawsOf_X5_has : GoodIn wsX5_lawsOf wsX5_has := goodIn_r _ [32] (by decide +kernel) (by decide +kernel)
set_option maxRecDepth 20000 in
theorem gX5_lawsOf_X5_has : GoodIn wsX5_lawsOf (va_wsS RX5 85 yX5_has wsX5_has) := goodIn_app (goodIn_of _ (by decide +kernel)) ggX5_lawsOf_X5_has
theorem dX5_lawsOf_0 : decode cX5_lawsOf 0 = .ok (.iconst 0, 1) := by decide +kernel
theorem dX5_lawsOf_1 : decode cX5_lawsOf 1 = .ok (.istore_n 2, 1) := by decide +kernel
theorem dX5_lawsOf_2 : decode cX5_lawsOf 2 = .ok (.iconst 0, 1) := by decide +kernel
theorem dX5_lawsOf_3 : decode cX5_lawsOf 3 = .ok (.istore_n 3, 1) := by decide +kernel
theorem dX5_lawsOf_4 : decode cX5_lawsOf 4 = .ok (.iload_n 3, 1) := by decide +kernel
theorem dX5_lawsOf_5 : decode cX5_lawsOf 5 = .ok (.iconst 4, 1) := by decide +kernel
theorem dX5_lawsOf_6 : decode cX5_lawsOf 6 = .ok (.if_icmp .ge 31, 3) := by decide +kernel
theorem dX5_lawsOf_9 : decode cX5_lawsOf 9 = .ok (.iload_n 2, 1) := by decide +kernel
theorem dX5_lawsOf_10 : decode cX5_lawsOf 10 = .ok (.aload_n 0, 1) := by decide +kernel
theorem dX5_lawsOf_11 : decode cX5_lawsOf 11 = .ok (.iload_n 3, 1) := by decide +kernel
theorem dX5_lawsOf_12 : decode cX5_lawsOf 12 = .ok (.invokevirtual 176, 3) := by decide +kernel
theorem dX5_lawsOf_15 : decode cX5_lawsOf 15 = .ok (.iload_n 1, 1) := by decide +kernel
theorem dX5_lawsOf_16 : decode cX5_lawsOf 16 = .ok (.invokestatic 85, 3) := by decide +kernel
theorem dX5_lawsOf_19 : decode cX5_lawsOf 19 = .ok (.ifCond .eq 9, 3) := by decide +kernel
theorem dX5_lawsOf_22 : decode cX5_lawsOf 22 = .ok (.iconst 1, 1) := by decide +kernel
theorem dX5_lawsOf_23 : decode cX5_lawsOf 23 = .ok (.iload_n 3, 1) := by decide +kernel
theorem dX5_lawsOf_24 : decode cX5_lawsOf 24 = .ok (.ishl, 1) := by decide +kernel
theorem dX5_lawsOf_25 : decode cX5_lawsOf 25 = .ok (.goto 4, 3) := by decide +kernel
theorem dX5_lawsOf_28 : decode cX5_lawsOf 28 = .ok (.iconst 0, 1) := by decide +kernel
theorem dX5_lawsOf_29 : decode cX5_lawsOf 29 = .ok (.ior, 1) := by decide +kernel
theorem dX5_lawsOf_30 : decode cX5_lawsOf 30 = .ok (.istore_n 2, 1) := by decide +kernel
theorem dX5_lawsOf_31 : decode cX5_lawsOf 31 = .ok (.iinc 3 1, 3) := by decide +kernel
theorem dX5_lawsOf_34 : decode cX5_lawsOf 34 = .ok (.goto (-30), 3) := by decide +kernel
theorem dX5_lawsOf_37 : decode cX5_lawsOf 37 = .ok (.iload_n 2, 1) := by decide +kernel
theorem dX5_lawsOf_38 : decode cX5_lawsOf 38 = .ok (.ireturn, 1) := by decide +kernel
set_option maxRecDepth 20000 in
theorem ggX5_aboutCandidate_X5_lays : GoodIn wsX5_aboutCandidate wsX5_lays := goodIn_r _ [6, 1, 7, 8, 9, 10, 65, 66, 67, 68, 69, 70, 71, 72, 73, 74, 75, 76, 77, 78, 79, 80, 81, 82, 83] (by decide +kernel) (by decide +kernel)
set_option maxRecDepth 20000 in
theorem gX5_aboutCandidate_X5_lays : GoodIn wsX5_aboutCandidate (wsV RX5 169 RX5 yX5_lays wsX5_lays) := goodIn_app (goodIn_of _ (by decide +kernel)) ggX5_aboutCandidate_X5_lays
set_option maxRecDepth 20000 in
theorem ggX5_aboutCandidate_X5_supportOf : GoodIn wsX5_aboutCandidate wsX5_supportOf := goodIn_r _ [14, 7, 9, 8, 15, 16, 5, 17, 65, 66, 67, 68, 69, 70, 71, 72, 73, 74, 75, 76, 77, 78, 79, 80, 81, 82, 83] (by decide +kernel) (by decide +kernel)
set_option maxRecDepth 20000 in
theorem gX5_aboutCandidate_X5_supportOf : GoodIn wsX5_aboutCandidate (wsV RX5 144 RX5 yX5_supportOf wsX5_supportOf) := goodIn_app (goodIn_of _ (by decide +kernel)) ggX5_aboutCandidate_X5_supportOf
set_option maxRecDepth 20000 in
theorem ggX5_aboutCandidate_X5_placeOf : GoodIn wsX5_aboutCandidate wsX5_placeOf := goodIn_r _ [21, 1, 65, 66, 67, 68, 69, 70, 71, 72, 73, 74, 75, 76, 77, 78, 79, 80, 81, 82, 83] (by decide +kernel) (by decide +kernel)
set_option maxRecDepth 20000 in
theorem gX5_aboutCandidate_X5_placeOf : GoodIn wsX5_aboutCandidate (wsV RX5 131 RX5 yX5_placeOf wsX5_placeOf) := goodIn_app (goodIn_of _ (by decide +kernel)) ggX5_aboutCandidate_X5_placeOf
set_option maxRecDepth 20000 in
theorem ggX5_aboutCandidate_X5_lawsOf : GoodIn wsX5_aboutCandidate wsX5_lawsOf := goodIn_r _ [25, 26, 27, 28, 5, 29, 30, 2, 3, 4, 6, 1, 7, 8, 9, 10, 31, 32, 33, 34, 35, 36, 37, 38, 39, 40, 41, 42, 43, 44, 15, 16, 17, 11, 12, 13, 14, 45, 46, 47, 48, 49, 50, 51, 52, 53, 54, 55, 56, 57, 58, 59, 60, 61, 62, 63, 64, 65, 66, 67, 68, 69, 70, 71, 72, 73, 74, 75, 76, 77, 78, 79, 80, 81, 82, 83] (by decide +kernel) (by decide +kernel)
set_option maxRecDepth 20000 in
theorem gX5_aboutCandidate_X5_lawsOf : GoodIn wsX5_aboutCandidate (wsV RX5 179 RX5 yX5_lawsOf wsX5_lawsOf) := goodIn_app (goodIn_of _ (by decide +kernel)) ggX5_aboutCandidate_X5_lawsOf
theorem dX5_aboutCandidate_0 : decode cX5_aboutCandidate 0 = .ok (.aload_n 0, 1) := by decide +kernel
theorem dX5_aboutCandidate_1 : decode cX5_aboutCandidate 1 = .ok (.invokevirtual 169, 3) := by decide +kernel
theorem dX5_aboutCandidate_4 : decode cX5_aboutCandidate 4 = .ok (.iload_n 2, 1) := by decide +kernel
theorem dX5_aboutCandidate_5 : decode cX5_aboutCandidate 5 = .ok (.ifCond .ne 11, 3) := by decide +kernel
theorem dX5_aboutCandidate_8 : decode cX5_aboutCandidate 8 = .ok (.aload_n 0, 1) := by decide +kernel
theorem dX5_aboutCandidate_9 : decode cX5_aboutCandidate 9 = .ok (.iload_n 1, 1) := by decide +kernel
theorem dX5_aboutCandidate_10 : decode cX5_aboutCandidate 10 = .ok (.invokevirtual 144, 3) := by decide +kernel
theorem dX5_aboutCandidate_13 : decode cX5_aboutCandidate 13 = .ok (.goto 40, 3) := by decide +kernel
theorem dX5_aboutCandidate_16 : decode cX5_aboutCandidate 16 = .ok (.iload_n 2, 1) := by decide +kernel
theorem dX5_aboutCandidate_17 : decode cX5_aboutCandidate 17 = .ok (.iconst 1, 1) := by decide +kernel
theorem dX5_aboutCandidate_18 : decode cX5_aboutCandidate 18 = .ok (.if_icmp .ne 11, 3) := by decide +kernel
theorem dX5_aboutCandidate_21 : decode cX5_aboutCandidate 21 = .ok (.aload_n 0, 1) := by decide +kernel
theorem dX5_aboutCandidate_22 : decode cX5_aboutCandidate 22 = .ok (.iload_n 1, 1) := by decide +kernel
theorem dX5_aboutCandidate_23 : decode cX5_aboutCandidate 23 = .ok (.invokevirtual 131, 3) := by decide +kernel
theorem dX5_aboutCandidate_26 : decode cX5_aboutCandidate 26 = .ok (.goto 27, 3) := by decide +kernel
theorem dX5_aboutCandidate_29 : decode cX5_aboutCandidate 29 = .ok (.iload_n 2, 1) := by decide +kernel
theorem dX5_aboutCandidate_30 : decode cX5_aboutCandidate 30 = .ok (.iconst 2, 1) := by decide +kernel
theorem dX5_aboutCandidate_31 : decode cX5_aboutCandidate 31 = .ok (.if_icmp .ne 17, 3) := by decide +kernel
theorem dX5_aboutCandidate_34 : decode cX5_aboutCandidate 34 = .ok (.aload_n 0, 1) := by decide +kernel
theorem dX5_aboutCandidate_35 : decode cX5_aboutCandidate 35 = .ok (.getfield 7, 3) := by decide +kernel
theorem dX5_aboutCandidate_38 : decode cX5_aboutCandidate 38 = .ok (.bipush 23, 2) := by decide +kernel
theorem dX5_aboutCandidate_40 : decode cX5_aboutCandidate 40 = .ok (.iaload, 1) := by decide +kernel
theorem dX5_aboutCandidate_41 : decode cX5_aboutCandidate 41 = .ok (.iload_n 1, 1) := by decide +kernel
theorem dX5_aboutCandidate_42 : decode cX5_aboutCandidate 42 = .ok (.ishr, 1) := by decide +kernel
theorem dX5_aboutCandidate_43 : decode cX5_aboutCandidate 43 = .ok (.iconst 1, 1) := by decide +kernel
theorem dX5_aboutCandidate_44 : decode cX5_aboutCandidate 44 = .ok (.iand, 1) := by decide +kernel
theorem dX5_aboutCandidate_45 : decode cX5_aboutCandidate 45 = .ok (.goto 8, 3) := by decide +kernel
theorem dX5_aboutCandidate_48 : decode cX5_aboutCandidate 48 = .ok (.aload_n 0, 1) := by decide +kernel
theorem dX5_aboutCandidate_49 : decode cX5_aboutCandidate 49 = .ok (.iload_n 1, 1) := by decide +kernel
theorem dX5_aboutCandidate_50 : decode cX5_aboutCandidate 50 = .ok (.invokevirtual 179, 3) := by decide +kernel
theorem dX5_aboutCandidate_53 : decode cX5_aboutCandidate 53 = .ok (.ireturn, 1) := by decide +kernel
set_option maxRecDepth 20000 in
theorem ggX5_candidate_X5_isCandidate : GoodIn wsX5_candidate wsX5_isCandidate := goodIn_r _ [5, 6, 7, 8, 4, 9, 76, 77, 78, 79, 80, 81, 82, 83, 84, 85, 86, 87, 88, 89, 90, 91, 92, 93, 94] (by decide +kernel) (by decide +kernel)
set_option maxRecDepth 20000 in
theorem gX5_candidate_X5_isCandidate : GoodIn wsX5_candidate (wsV RX5 125 RX5 yX5_isCandidate wsX5_isCandidate) := goodIn_app (goodIn_of _ (by decide +kernel)) ggX5_candidate_X5_isCandidate
set_option maxRecDepth 20000 in
theorem ggX5_candidate_X5_in : GoodIn wsX5_candidate wsX5_in := goodIn_r _ [9] (by decide +kernel) (by decide +kernel)
set_option maxRecDepth 20000 in
theorem gX5_candidate_X5_in : GoodIn wsX5_candidate (va_wsS RX5 48 yX5_in wsX5_in) := goodIn_app (goodIn_of _ (by decide +kernel)) ggX5_candidate_X5_in
set_option maxRecDepth 20000 in
theorem ggX5_candidate_X5_aboutCandidate : GoodIn wsX5_candidate wsX5_aboutCandidate := goodIn_r _ [13, 6, 14, 15, 16, 4, 17, 18, 19, 20, 21, 22, 23, 24, 25, 26, 27, 28, 29, 30, 31, 32, 33, 34, 35, 36, 37, 38, 39, 40, 41, 42, 43, 44, 45, 46, 47, 48, 49, 50, 51, 52, 53, 54, 55, 56, 57, 58, 59, 60, 61, 62, 63, 64, 65, 66, 67, 68, 69, 70, 71, 72, 73, 74, 75, 76, 77, 78, 79, 80, 81, 82, 83, 84, 85, 86, 87, 88, 89, 90, 91, 92, 93, 94] (by decide +kernel) (by decide +kernel)
set_option maxRecDepth 20000 in
theorem gX5_candidate_X5_aboutCandidate : GoodIn wsX5_candidate (wsV RX5 182 RX5 yX5_aboutCandidate wsX5_aboutCandidate) := goodIn_app (goodIn_of _ (by decide +kernel)) ggX5_candidate_X5_aboutCandidate
theorem dX5_candidate_0 : decode cX5_candidate 0 = .ok (.aload_n 0, 1) := by decide +kernel
theorem dX5_candidate_1 : decode cX5_candidate 1 = .ok (.iload_n 1, 1) := by decide +kernel
theorem dX5_candidate_2 : decode cX5_candidate 2 = .ok (.invokevirtual 125, 3) := by decide +kernel
theorem dX5_candidate_5 : decode cX5_candidate 5 = .ok (.ifCond .eq 21, 3) := by decide +kernel
theorem dX5_candidate_8 : decode cX5_candidate 8 = .ok (.iload_n 2, 1) := by decide +kernel
theorem dX5_candidate_9 : decode cX5_candidate 9 = .ok (.iconst 0, 1) := by decide +kernel
theorem dX5_candidate_10 : decode cX5_candidate 10 = .ok (.iconst 3, 1) := by decide +kernel
theorem dX5_candidate_11 : decode cX5_candidate 11 = .ok (.invokestatic 48, 3) := by decide +kernel
theorem dX5_candidate_14 : decode cX5_candidate 14 = .ok (.ifCond .eq 12, 3) := by decide +kernel
theorem dX5_candidate_17 : decode cX5_candidate 17 = .ok (.aload_n 0, 1) := by decide +kernel
theorem dX5_candidate_18 : decode cX5_candidate 18 = .ok (.iload_n 1, 1) := by decide +kernel
theorem dX5_candidate_19 : decode cX5_candidate 19 = .ok (.iload_n 2, 1) := by decide +kernel
theorem dX5_candidate_20 : decode cX5_candidate 20 = .ok (.invokevirtual 182, 3) := by decide +kernel
theorem dX5_candidate_23 : decode cX5_candidate 23 = .ok (.goto 4, 3) := by decide +kernel
theorem dX5_candidate_26 : decode cX5_candidate 26 = .ok (.iconst (-1), 1) := by decide +kernel
theorem dX5_candidate_27 : decode cX5_candidate 27 = .ok (.ireturn, 1) := by decide +kernel
set_option maxRecDepth 20000 in
theorem ggX5_vote_X5_isBallot : GoodIn wsX5_vote wsX5_isBallot := goodIn_r _ [6, 1, 7, 8, 5, 9, 64, 65, 66, 67, 68, 69, 70, 71, 72, 73, 74, 75, 76, 77, 78, 79, 80, 81, 82] (by decide +kernel) (by decide +kernel)
set_option maxRecDepth 20000 in
theorem gX5_vote_X5_isBallot : GoodIn wsX5_vote (wsV RX5 118 RX5 yX5_isBallot wsX5_isBallot) := goodIn_app (goodIn_of _ (by decide +kernel)) ggX5_vote_X5_isBallot
set_option maxRecDepth 20000 in
theorem ggX5_vote_X5_in : GoodIn wsX5_vote wsX5_in := goodIn_r _ [9] (by decide +kernel) (by decide +kernel)
set_option maxRecDepth 20000 in
theorem gX5_vote_X5_in : GoodIn wsX5_vote (va_wsS RX5 48 yX5_in wsX5_in) := goodIn_app (goodIn_of _ (by decide +kernel)) ggX5_vote_X5_in
set_option maxRecDepth 20000 in
theorem ggX5_vote_X5_membersBy : GoodIn wsX5_vote wsX5_membersBy := goodIn_r _ [13, 14, 15, 16, 17, 5, 18, 1, 19, 20, 21, 22, 23, 24, 25, 26, 27, 28, 29, 30, 31, 32, 33, 34, 35, 36, 37, 38, 39, 40, 41, 42, 43, 44, 45, 46, 47, 48, 49, 50, 51, 52, 53, 54, 55, 56, 57, 58, 59, 60, 61, 62, 63, 64, 65, 66, 67, 68, 69, 70, 71, 72, 73, 74, 75, 76, 77, 78, 79, 80, 81, 82] (by decide +kernel) (by decide +kernel)
set_option maxRecDepth 20000 in
theorem gX5_vote_X5_membersBy : GoodIn wsX5_vote (wsV RX5 176 RX5 yX5_membersBy wsX5_membersBy) := goodIn_app (goodIn_of _ (by decide +kernel)) ggX5_vote_X5_membersBy
set_option maxRecDepth 20000 in
theorem ggX5_vote_X5_ones : GoodIn wsX5_vote wsX5_ones := goodIn_r _ [54] (by decide +kernel) (by decide +kernel)
set_option maxRecDepth 20000 in
theorem gX5_vote_X5_ones : GoodIn wsX5_vote (va_wsS RX5 128 yX5_ones wsX5_ones) := goodIn_app (goodIn_of _ (by decide +kernel)) ggX5_vote_X5_ones
theorem dX5_vote_0 : decode cX5_vote 0 = .ok (.aload_n 0, 1) := by decide +kernel
theorem dX5_vote_1 : decode cX5_vote 1 = .ok (.iload_n 1, 1) := by decide +kernel
theorem dX5_vote_2 : decode cX5_vote 2 = .ok (.invokevirtual 118, 3) := by decide +kernel
theorem dX5_vote_5 : decode cX5_vote 5 = .ok (.ifCond .eq 12, 3) := by decide +kernel
theorem dX5_vote_8 : decode cX5_vote 8 = .ok (.iload_n 2, 1) := by decide +kernel
theorem dX5_vote_9 : decode cX5_vote 9 = .ok (.iconst 0, 1) := by decide +kernel
theorem dX5_vote_10 : decode cX5_vote 10 = .ok (.iconst 5, 1) := by decide +kernel
theorem dX5_vote_11 : decode cX5_vote 11 = .ok (.invokestatic 48, 3) := by decide +kernel
theorem dX5_vote_14 : decode cX5_vote 14 = .ok (.ifCond .ne 5, 3) := by decide +kernel
theorem dX5_vote_17 : decode cX5_vote 17 = .ok (.iconst (-1), 1) := by decide +kernel
theorem dX5_vote_18 : decode cX5_vote 18 = .ok (.ireturn, 1) := by decide +kernel
theorem dX5_vote_19 : decode cX5_vote 19 = .ok (.iload_n 2, 1) := by decide +kernel
theorem dX5_vote_20 : decode cX5_vote 20 = .ok (.ifCond .ne 14, 3) := by decide +kernel
theorem dX5_vote_23 : decode cX5_vote 23 = .ok (.aload_n 0, 1) := by decide +kernel
theorem dX5_vote_24 : decode cX5_vote 24 = .ok (.getfield 7, 3) := by decide +kernel
theorem dX5_vote_27 : decode cX5_vote 27 = .ok (.iconst 2, 1) := by decide +kernel
theorem dX5_vote_28 : decode cX5_vote 28 = .ok (.iload_n 1, 1) := by decide +kernel
theorem dX5_vote_29 : decode cX5_vote 29 = .ok (.iadd, 1) := by decide +kernel
theorem dX5_vote_30 : decode cX5_vote 30 = .ok (.iaload, 1) := by decide +kernel
theorem dX5_vote_31 : decode cX5_vote 31 = .ok (.goto 40, 3) := by decide +kernel
theorem dX5_vote_34 : decode cX5_vote 34 = .ok (.iload_n 2, 1) := by decide +kernel
theorem dX5_vote_35 : decode cX5_vote 35 = .ok (.iconst 1, 1) := by decide +kernel
theorem dX5_vote_36 : decode cX5_vote 36 = .ok (.if_icmp .ne 15, 3) := by decide +kernel
theorem dX5_vote_39 : decode cX5_vote 39 = .ok (.aload_n 0, 1) := by decide +kernel
theorem dX5_vote_40 : decode cX5_vote 40 = .ok (.getfield 7, 3) := by decide +kernel
theorem dX5_vote_43 : decode cX5_vote 43 = .ok (.bipush 12, 2) := by decide +kernel
theorem dX5_vote_45 : decode cX5_vote 45 = .ok (.iload_n 1, 1) := by decide +kernel
theorem dX5_vote_46 : decode cX5_vote 46 = .ok (.iadd, 1) := by decide +kernel
theorem dX5_vote_47 : decode cX5_vote 47 = .ok (.iaload, 1) := by decide +kernel
theorem dX5_vote_48 : decode cX5_vote 48 = .ok (.goto 23, 3) := by decide +kernel
theorem dX5_vote_51 : decode cX5_vote 51 = .ok (.aload_n 0, 1) := by decide +kernel
theorem dX5_vote_52 : decode cX5_vote 52 = .ok (.getfield 7, 3) := by decide +kernel
theorem dX5_vote_55 : decode cX5_vote 55 = .ok (.bipush 12, 2) := by decide +kernel
theorem dX5_vote_57 : decode cX5_vote 57 = .ok (.iload_n 1, 1) := by decide +kernel
theorem dX5_vote_58 : decode cX5_vote 58 = .ok (.iadd, 1) := by decide +kernel
theorem dX5_vote_59 : decode cX5_vote 59 = .ok (.iaload, 1) := by decide +kernel
theorem dX5_vote_60 : decode cX5_vote 60 = .ok (.aload_n 0, 1) := by decide +kernel
theorem dX5_vote_61 : decode cX5_vote 61 = .ok (.iload_n 2, 1) := by decide +kernel
theorem dX5_vote_62 : decode cX5_vote 62 = .ok (.iconst 2, 1) := by decide +kernel
theorem dX5_vote_63 : decode cX5_vote 63 = .ok (.isub, 1) := by decide +kernel
theorem dX5_vote_64 : decode cX5_vote 64 = .ok (.invokevirtual 176, 3) := by decide +kernel
theorem dX5_vote_67 : decode cX5_vote 67 = .ok (.iand, 1) := by decide +kernel
theorem dX5_vote_68 : decode cX5_vote 68 = .ok (.invokestatic 128, 3) := by decide +kernel
theorem dX5_vote_71 : decode cX5_vote 71 = .ok (.ireturn, 1) := by decide +kernel
set_option maxRecDepth 20000 in
theorem ggX5_member_X5_isLaw : GoodIn wsX5_member wsX5_isLaw := goodIn_r _ [6, 7, 8, 5, 9] (by decide +kernel) (by decide +kernel)
set_option maxRecDepth 20000 in
theorem gX5_member_X5_isLaw : GoodIn wsX5_member (va_wsS RX5 185 yX5_isLaw wsX5_isLaw) := goodIn_app (goodIn_of _ (by decide +kernel)) ggX5_member_X5_isLaw
set_option maxRecDepth 20000 in
theorem ggX5_member_X5_membersBy : GoodIn wsX5_member wsX5_membersBy := goodIn_r _ [13, 14, 15, 16, 17, 5, 18, 19, 20, 21, 22, 23, 24, 25, 26, 27, 1, 28, 29, 30, 31, 2, 32, 33, 34, 35, 36, 37, 38, 39, 40, 41, 42, 43, 44, 45, 46, 47, 48, 49, 50, 51, 52, 53, 54, 55, 56, 57, 58, 59, 60, 61, 62, 63, 64, 65, 66, 67, 68, 69, 70, 71, 72, 73, 74, 75, 76, 77, 78, 79, 80, 81] (by decide +kernel) (by decide +kernel)
set_option maxRecDepth 20000 in
theorem gX5_member_X5_membersBy : GoodIn wsX5_member (wsV RX5 176 RX5 yX5_membersBy wsX5_membersBy) := goodIn_app (goodIn_of _ (by decide +kernel)) ggX5_member_X5_membersBy
set_option maxRecDepth 20000 in
theorem ggX5_member_X5_ones : GoodIn wsX5_member wsX5_ones := goodIn_r _ [53] (by decide +kernel) (by decide +kernel)
set_option maxRecDepth 20000 in
theorem gX5_member_X5_ones : GoodIn wsX5_member (va_wsS RX5 128 yX5_ones wsX5_ones) := goodIn_app (goodIn_of _ (by decide +kernel)) ggX5_member_X5_ones
theorem dX5_member_0 : decode cX5_member 0 = .ok (.iload_n 1, 1) := by decide +kernel
theorem dX5_member_1 : decode cX5_member 1 = .ok (.invokestatic 185, 3) := by decide +kernel
theorem dX5_member_4 : decode cX5_member 4 = .ok (.ifCond .eq 8, 3) := by decide +kernel
theorem dX5_member_7 : decode cX5_member 7 = .ok (.iload_n 2, 1) := by decide +kernel
theorem dX5_member_8 : decode cX5_member 8 = .ok (.iconst (-1), 1) := by decide +kernel
theorem dX5_member_9 : decode cX5_member 9 = .ok (.if_icmp .ge 5, 3) := by decide +kernel
theorem dX5_member_12 : decode cX5_member 12 = .ok (.iconst (-1), 1) := by decide +kernel
theorem dX5_member_13 : decode cX5_member 13 = .ok (.ireturn, 1) := by decide +kernel
theorem dX5_member_14 : decode cX5_member 14 = .ok (.aload_n 0, 1) := by decide +kernel
theorem dX5_member_15 : decode cX5_member 15 = .ok (.iload_n 1, 1) := by decide +kernel
theorem dX5_member_16 : decode cX5_member 16 = .ok (.invokevirtual 176, 3) := by decide +kernel
theorem dX5_member_19 : decode cX5_member 19 = .ok (.istore_n 3, 1) := by decide +kernel
theorem dX5_member_20 : decode cX5_member 20 = .ok (.iload_n 2, 1) := by decide +kernel
theorem dX5_member_21 : decode cX5_member 21 = .ok (.iconst (-1), 1) := by decide +kernel
theorem dX5_member_22 : decode cX5_member 22 = .ok (.if_icmp .ne 10, 3) := by decide +kernel
theorem dX5_member_25 : decode cX5_member 25 = .ok (.iload_n 3, 1) := by decide +kernel
theorem dX5_member_26 : decode cX5_member 26 = .ok (.invokestatic 128, 3) := by decide +kernel
theorem dX5_member_29 : decode cX5_member 29 = .ok (.goto 22, 3) := by decide +kernel
theorem dX5_member_32 : decode cX5_member 32 = .ok (.iload_n 2, 1) := by decide +kernel
theorem dX5_member_33 : decode cX5_member 33 = .ok (.aload_n 0, 1) := by decide +kernel
theorem dX5_member_34 : decode cX5_member 34 = .ok (.getfield 157, 3) := by decide +kernel
theorem dX5_member_37 : decode cX5_member 37 = .ok (.if_icmp .ge 12, 3) := by decide +kernel
theorem dX5_member_40 : decode cX5_member 40 = .ok (.aload_n 0, 1) := by decide +kernel
theorem dX5_member_41 : decode cX5_member 41 = .ok (.getfield 35, 3) := by decide +kernel
theorem dX5_member_44 : decode cX5_member 44 = .ok (.iload_n 2, 1) := by decide +kernel
theorem dX5_member_45 : decode cX5_member 45 = .ok (.iaload, 1) := by decide +kernel
theorem dX5_member_46 : decode cX5_member 46 = .ok (.goto 5, 3) := by decide +kernel
theorem dX5_member_49 : decode cX5_member 49 = .ok (.bipush (-4), 2) := by decide +kernel
theorem dX5_member_51 : decode cX5_member 51 = .ok (.ireturn, 1) := by decide +kernel
set_option maxRecDepth 20000 in
theorem ggX5_members_X5_isLaw : GoodIn wsX5_members wsX5_isLaw := goodIn_r _ [4, 5, 6, 3, 7] (by decide +kernel) (by decide +kernel)
set_option maxRecDepth 20000 in
theorem gX5_members_X5_isLaw : GoodIn wsX5_members (va_wsS RX5 185 yX5_isLaw wsX5_isLaw) := goodIn_app (goodIn_of _ (by decide +kernel)) ggX5_members_X5_isLaw
set_option maxRecDepth 20000 in
theorem ggX5_members_X5_membersBy : GoodIn wsX5_members wsX5_membersBy := goodIn_r _ [11, 12, 13, 14, 15, 3, 16, 17, 18, 19, 20, 21, 22, 23, 24, 25, 26, 27, 28, 29, 30, 31, 32, 33, 34, 35, 36, 37, 38, 39, 40, 41, 42, 43, 44, 45, 46, 47, 48, 49, 50, 51, 52, 53, 54, 55, 56, 57, 58, 59, 60, 61, 62, 63, 64, 65, 66, 67, 68, 69, 70, 71, 72, 73, 74, 75, 76, 77, 78, 79, 80, 81] (by decide +kernel) (by decide +kernel)
set_option maxRecDepth 20000 in
theorem gX5_members_X5_membersBy : GoodIn wsX5_members (wsV RX5 176 RX5 yX5_membersBy wsX5_membersBy) := goodIn_app (goodIn_of _ (by decide +kernel)) ggX5_members_X5_membersBy
theorem dX5_members_0 : decode cX5_members 0 = .ok (.iload_n 1, 1) := by decide +kernel
theorem dX5_members_1 : decode cX5_members 1 = .ok (.invokestatic 185, 3) := by decide +kernel
theorem dX5_members_4 : decode cX5_members 4 = .ok (.ifCond .eq 11, 3) := by decide +kernel
theorem dX5_members_7 : decode cX5_members 7 = .ok (.aload_n 0, 1) := by decide +kernel
theorem dX5_members_8 : decode cX5_members 8 = .ok (.iload_n 1, 1) := by decide +kernel
theorem dX5_members_9 : decode cX5_members 9 = .ok (.invokevirtual 176, 3) := by decide +kernel
theorem dX5_members_12 : decode cX5_members 12 = .ok (.goto 4, 3) := by decide +kernel
theorem dX5_members_15 : decode cX5_members 15 = .ok (.iconst (-1), 1) := by decide +kernel
theorem dX5_members_16 : decode cX5_members 16 = .ok (.ireturn, 1) := by decide +kernel
theorem dX5_partOf_0 : decode cX5_partOf 0 = .ok (.lload_n 0, 1) := by decide +kernel
theorem dX5_partOf_1 : decode cX5_partOf 1 = .ok (.lstore 5, 2) := by decide +kernel
theorem dX5_partOf_3 : decode cX5_partOf 3 = .ok (.lload_n 2, 1) := by decide +kernel
theorem dX5_partOf_4 : decode cX5_partOf 4 = .ok (.lstore 7, 2) := by decide +kernel
theorem dX5_partOf_6 : decode cX5_partOf 6 = .ok (.lload 7, 2) := by decide +kernel
theorem dX5_partOf_8 : decode cX5_partOf 8 = .ok (.lconst 0, 1) := by decide +kernel
theorem dX5_partOf_9 : decode cX5_partOf 9 = .ok (.lcmp, 1) := by decide +kernel
theorem dX5_partOf_10 : decode cX5_partOf 10 = .ok (.ifCond .eq 21, 3) := by decide +kernel
theorem dX5_partOf_13 : decode cX5_partOf 13 = .ok (.lload 5, 2) := by decide +kernel
theorem dX5_partOf_15 : decode cX5_partOf 15 = .ok (.lload 7, 2) := by decide +kernel
theorem dX5_partOf_17 : decode cX5_partOf 17 = .ok (.lrem, 1) := by decide +kernel
theorem dX5_partOf_18 : decode cX5_partOf 18 = .ok (.lstore 9, 2) := by decide +kernel
theorem dX5_partOf_20 : decode cX5_partOf 20 = .ok (.lload 7, 2) := by decide +kernel
theorem dX5_partOf_22 : decode cX5_partOf 22 = .ok (.lstore 5, 2) := by decide +kernel
theorem dX5_partOf_24 : decode cX5_partOf 24 = .ok (.lload 9, 2) := by decide +kernel
theorem dX5_partOf_26 : decode cX5_partOf 26 = .ok (.lstore 7, 2) := by decide +kernel
theorem dX5_partOf_28 : decode cX5_partOf 28 = .ok (.goto (-22), 3) := by decide +kernel
theorem dX5_partOf_31 : decode cX5_partOf 31 = .ok (.iload 4, 2) := by decide +kernel
theorem dX5_partOf_33 : decode cX5_partOf 33 = .ok (.ifCond .ne 10, 3) := by decide +kernel
theorem dX5_partOf_36 : decode cX5_partOf 36 = .ok (.lload_n 0, 1) := by decide +kernel
theorem dX5_partOf_37 : decode cX5_partOf 37 = .ok (.lload 5, 2) := by decide +kernel
theorem dX5_partOf_39 : decode cX5_partOf 39 = .ok (.ldiv, 1) := by decide +kernel
theorem dX5_partOf_40 : decode cX5_partOf 40 = .ok (.goto 7, 3) := by decide +kernel
theorem dX5_partOf_43 : decode cX5_partOf 43 = .ok (.lload_n 2, 1) := by decide +kernel
theorem dX5_partOf_44 : decode cX5_partOf 44 = .ok (.lload 5, 2) := by decide +kernel
theorem dX5_partOf_46 : decode cX5_partOf 46 = .ok (.ldiv, 1) := by decide +kernel
theorem dX5_partOf_47 : decode cX5_partOf 47 = .ok (.lreturn, 1) := by decide +kernel
set_option maxRecDepth 20000 in
theorem ggX5_isPart_X5_in : GoodIn wsX5_isPart wsX5_in := goodIn_r _ [4] (by decide +kernel) (by decide +kernel)
set_option maxRecDepth 20000 in
theorem gX5_isPart_X5_in : GoodIn wsX5_isPart (va_wsS RX5 48 yX5_in wsX5_in) := goodIn_app (goodIn_of _ (by decide +kernel)) ggX5_isPart_X5_in
theorem dX5_isPart_0 : decode cX5_isPart 0 = .ok (.iload_n 0, 1) := by decide +kernel
theorem dX5_isPart_1 : decode cX5_isPart 1 = .ok (.iconst 0, 1) := by decide +kernel
theorem dX5_isPart_2 : decode cX5_isPart 2 = .ok (.iconst 1, 1) := by decide +kernel
theorem dX5_isPart_3 : decode cX5_isPart 3 = .ok (.invokestatic 48, 3) := by decide +kernel
theorem dX5_isPart_6 : decode cX5_isPart 6 = .ok (.ireturn, 1) := by decide +kernel
set_option maxRecDepth 20000 in
theorem ggX5_came_X5_isLaw : GoodIn wsX5_came wsX5_isLaw := goodIn_r _ [9, 10, 11, 8, 12] (by decide +kernel) (by decide +kernel)
set_option maxRecDepth 20000 in
theorem gX5_came_X5_isLaw : GoodIn wsX5_came (va_wsS RX5 185 yX5_isLaw wsX5_isLaw) := goodIn_app (goodIn_of _ (by decide +kernel)) ggX5_came_X5_isLaw
set_option maxRecDepth 20000 in
theorem ggX5_came_X5_isPart : GoodIn wsX5_came wsX5_isPart := goodIn_r _ [15, 10, 11, 8, 12] (by decide +kernel) (by decide +kernel)
set_option maxRecDepth 20000 in
theorem gX5_came_X5_isPart : GoodIn wsX5_came (va_wsS RX5 188 yX5_isPart wsX5_isPart) := goodIn_app (goodIn_of _ (by decide +kernel)) ggX5_came_X5_isPart
set_option maxRecDepth 20000 in
theorem ggX5_came_X5_lays : GoodIn wsX5_came wsX5_lays := goodIn_r _ [19, 20, 21, 22, 23, 24, 67, 68, 69, 70, 71, 72, 73, 74, 75, 76, 77, 78, 79, 80, 81, 82, 83, 84, 85] (by decide +kernel) (by decide +kernel)
set_option maxRecDepth 20000 in
theorem gX5_came_X5_lays : GoodIn wsX5_came (wsV RX5 169 RX5 yX5_lays wsX5_lays) := goodIn_app (goodIn_of _ (by decide +kernel)) ggX5_came_X5_lays
set_option maxRecDepth 20000 in
theorem ggX5_came_X5_elects : GoodIn wsX5_came wsX5_elects := goodIn_r _ [28, 2, 29, 30, 21, 31, 20, 4, 3, 32, 33, 34, 35, 8, 36, 24, 37, 38, 39, 40, 41, 42, 43, 23, 22, 44, 45, 46, 47, 48, 49, 50, 51, 52, 53, 54, 55, 56, 57, 58, 59, 60, 61, 62, 63, 67, 68, 69, 70, 71, 72, 73, 74, 75, 76, 77, 78, 79, 80, 81, 82, 83, 84, 85] (by decide +kernel) (by decide +kernel)
set_option maxRecDepth 20000 in
theorem gX5_came_X5_elects : GoodIn wsX5_came (wsV RX5 172 RX5 yX5_elects wsX5_elects) := goodIn_app (goodIn_of _ (by decide +kernel)) ggX5_came_X5_elects
set_option maxRecDepth 20000 in
theorem ggX5_came_X5_partOf : GoodIn wsX5_came wsX5_partOf := goodIn_r _ [66] (by decide +kernel) (by decide +kernel)
set_option maxRecDepth 20000 in
theorem gX5_came_X5_partOf : GoodIn wsX5_came (va_wsS RX5 193 yX5_partOf wsX5_partOf) := goodIn_app (goodIn_of _ (by decide +kernel)) ggX5_came_X5_partOf
theorem dX5_came_0 : decode cX5_came 0 = .ok (.iload_n 1, 1) := by decide +kernel
theorem dX5_came_1 : decode cX5_came 1 = .ok (.invokestatic 185, 3) := by decide +kernel
theorem dX5_came_4 : decode cX5_came 4 = .ok (.ifCond .eq 14, 3) := by decide +kernel
theorem dX5_came_7 : decode cX5_came 7 = .ok (.iload_n 2, 1) := by decide +kernel
theorem dX5_came_8 : decode cX5_came 8 = .ok (.ifCond .lt 10, 3) := by decide +kernel
theorem dX5_came_11 : decode cX5_came 11 = .ok (.iload_n 3, 1) := by decide +kernel
theorem dX5_came_12 : decode cX5_came 12 = .ok (.invokestatic 188, 3) := by decide +kernel
theorem dX5_came_15 : decode cX5_came 15 = .ok (.ifCond .ne 7, 3) := by decide +kernel
theorem dX5_came_18 : decode cX5_came 18 = .ok (.ldc2_w 191, 3) := by decide +kernel
theorem dX5_came_21 : decode cX5_came 21 = .ok (.lreturn, 1) := by decide +kernel
theorem dX5_came_22 : decode cX5_came 22 = .ok (.aload_n 0, 1) := by decide +kernel
theorem dX5_came_23 : decode cX5_came 23 = .ok (.invokevirtual 169, 3) := by decide +kernel
theorem dX5_came_26 : decode cX5_came 26 = .ok (.aload_n 0, 1) := by decide +kernel
theorem dX5_came_27 : decode cX5_came 27 = .ok (.iload_n 1, 1) := by decide +kernel
theorem dX5_came_28 : decode cX5_came 28 = .ok (.invokevirtual 172, 3) := by decide +kernel
theorem dX5_came_31 : decode cX5_came 31 = .ok (.iload_n 2, 1) := by decide +kernel
theorem dX5_came_32 : decode cX5_came 32 = .ok (.aload_n 0, 1) := by decide +kernel
theorem dX5_came_33 : decode cX5_came 33 = .ok (.getfield 157, 3) := by decide +kernel
theorem dX5_came_36 : decode cX5_came 36 = .ok (.if_icmp .ge 33, 3) := by decide +kernel
theorem dX5_came_39 : decode cX5_came 39 = .ok (.aload_n 0, 1) := by decide +kernel
theorem dX5_came_40 : decode cX5_came 40 = .ok (.getfield 41, 3) := by decide +kernel
theorem dX5_came_43 : decode cX5_came 43 = .ok (.iload_n 2, 1) := by decide +kernel
theorem dX5_came_44 : decode cX5_came 44 = .ok (.laload, 1) := by decide +kernel
theorem dX5_came_45 : decode cX5_came 45 = .ok (.lconst 0, 1) := by decide +kernel
theorem dX5_came_46 : decode cX5_came 46 = .ok (.lcmp, 1) := by decide +kernel
theorem dX5_came_47 : decode cX5_came 47 = .ok (.ifCond .le 22, 3) := by decide +kernel
theorem dX5_came_50 : decode cX5_came 50 = .ok (.aload_n 0, 1) := by decide +kernel
theorem dX5_came_51 : decode cX5_came 51 = .ok (.getfield 38, 3) := by decide +kernel
theorem dX5_came_54 : decode cX5_came 54 = .ok (.iload_n 2, 1) := by decide +kernel
theorem dX5_came_55 : decode cX5_came 55 = .ok (.laload, 1) := by decide +kernel
theorem dX5_came_56 : decode cX5_came 56 = .ok (.aload_n 0, 1) := by decide +kernel
theorem dX5_came_57 : decode cX5_came 57 = .ok (.getfield 41, 3) := by decide +kernel
theorem dX5_came_60 : decode cX5_came 60 = .ok (.iload_n 2, 1) := by decide +kernel
theorem dX5_came_61 : decode cX5_came 61 = .ok (.laload, 1) := by decide +kernel
theorem dX5_came_62 : decode cX5_came 62 = .ok (.iload_n 3, 1) := by decide +kernel
theorem dX5_came_63 : decode cX5_came 63 = .ok (.invokestatic 193, 3) := by decide +kernel
theorem dX5_came_66 : decode cX5_came 66 = .ok (.goto 6, 3) := by decide +kernel
theorem dX5_came_69 : decode cX5_came 69 = .ok (.ldc2_w 197, 3) := by decide +kernel
theorem dX5_came_72 : decode cX5_came 72 = .ok (.lreturn, 1) := by decide +kernel
set_option maxRecDepth 20000 in
theorem ggX5_load_X5_isBallot : GoodIn wsX5_load wsX5_isBallot := goodIn_r _ [8, 9, 10, 11, 7, 12, 67, 68, 69, 70, 71, 72, 73, 74, 75, 76, 77, 78, 79, 80, 81, 82, 83, 84, 85] (by decide +kernel) (by decide +kernel)
set_option maxRecDepth 20000 in
theorem gX5_load_X5_isBallot : GoodIn wsX5_load (wsV RX5 118 RX5 yX5_isBallot wsX5_isBallot) := goodIn_app (goodIn_of _ (by decide +kernel)) ggX5_load_X5_isBallot
set_option maxRecDepth 20000 in
theorem ggX5_load_X5_isPart : GoodIn wsX5_load wsX5_isPart := goodIn_r _ [15, 10, 11, 7, 12] (by decide +kernel) (by decide +kernel)
set_option maxRecDepth 20000 in
theorem gX5_load_X5_isPart : GoodIn wsX5_load (va_wsS RX5 188 yX5_isPart wsX5_isPart) := goodIn_app (goodIn_of _ (by decide +kernel)) ggX5_load_X5_isPart
set_option maxRecDepth 20000 in
theorem ggX5_load_X5_lays : GoodIn wsX5_load wsX5_lays := goodIn_r _ [19, 9, 20, 21, 22, 23, 67, 68, 69, 70, 71, 72, 73, 74, 75, 76, 77, 78, 79, 80, 81, 82, 83, 84, 85] (by decide +kernel) (by decide +kernel)
set_option maxRecDepth 20000 in
theorem gX5_load_X5_lays : GoodIn wsX5_load (wsV RX5 169 RX5 yX5_lays wsX5_lays) := goodIn_app (goodIn_of _ (by decide +kernel)) ggX5_load_X5_lays
set_option maxRecDepth 20000 in
theorem ggX5_load_X5_elects : GoodIn wsX5_load wsX5_elects := goodIn_r _ [27, 28, 29, 3, 20, 2, 9, 30, 31, 32, 33, 34, 35, 7, 36, 23, 37, 38, 39, 40, 41, 42, 43, 22, 21, 44, 45, 46, 47, 48, 49, 50, 51, 52, 53, 54, 55, 56, 57, 58, 59, 60, 61, 62, 63, 67, 68, 69, 70, 71, 72, 73, 74, 75, 76, 77, 78, 79, 80, 81, 82, 83, 84, 85] (by decide +kernel) (by decide +kernel)
set_option maxRecDepth 20000 in
theorem gX5_load_X5_elects : GoodIn wsX5_load (wsV RX5 172 RX5 yX5_elects wsX5_elects) := goodIn_app (goodIn_of _ (by decide +kernel)) ggX5_load_X5_elects
set_option maxRecDepth 20000 in
theorem ggX5_load_X5_partOf : GoodIn wsX5_load wsX5_partOf := goodIn_r _ [66] (by decide +kernel) (by decide +kernel)
set_option maxRecDepth 20000 in
theorem gX5_load_X5_partOf : GoodIn wsX5_load (va_wsS RX5 193 yX5_partOf wsX5_partOf) := goodIn_app (goodIn_of _ (by decide +kernel)) ggX5_load_X5_partOf
theorem dX5_load_0 : decode cX5_load 0 = .ok (.aload_n 0, 1) := by decide +kernel
theorem dX5_load_1 : decode cX5_load 1 = .ok (.iload_n 1, 1) := by decide +kernel
theorem dX5_load_2 : decode cX5_load 2 = .ok (.invokevirtual 118, 3) := by decide +kernel
theorem dX5_load_5 : decode cX5_load 5 = .ok (.ifCond .eq 10, 3) := by decide +kernel
theorem dX5_load_8 : decode cX5_load 8 = .ok (.iload_n 2, 1) := by decide +kernel
theorem dX5_load_9 : decode cX5_load 9 = .ok (.invokestatic 188, 3) := by decide +kernel
theorem dX5_load_12 : decode cX5_load 12 = .ok (.ifCond .ne 7, 3) := by decide +kernel
theorem dX5_load_15 : decode cX5_load 15 = .ok (.ldc2_w 191, 3) := by decide +kernel
theorem dX5_load_18 : decode cX5_load 18 = .ok (.lreturn, 1) := by decide +kernel
theorem dX5_load_19 : decode cX5_load 19 = .ok (.aload_n 0, 1) := by decide +kernel
theorem dX5_load_20 : decode cX5_load 20 = .ok (.invokevirtual 169, 3) := by decide +kernel
theorem dX5_load_23 : decode cX5_load 23 = .ok (.aload_n 0, 1) := by decide +kernel
theorem dX5_load_24 : decode cX5_load 24 = .ok (.iconst 0, 1) := by decide +kernel
theorem dX5_load_25 : decode cX5_load 25 = .ok (.invokevirtual 172, 3) := by decide +kernel
theorem dX5_load_28 : decode cX5_load 28 = .ok (.aload_n 0, 1) := by decide +kernel
theorem dX5_load_29 : decode cX5_load 29 = .ok (.getfield 31, 3) := by decide +kernel
theorem dX5_load_32 : decode cX5_load 32 = .ok (.iload_n 1, 1) := by decide +kernel
theorem dX5_load_33 : decode cX5_load 33 = .ok (.laload, 1) := by decide +kernel
theorem dX5_load_34 : decode cX5_load 34 = .ok (.aload_n 0, 1) := by decide +kernel
theorem dX5_load_35 : decode cX5_load 35 = .ok (.getfield 137, 3) := by decide +kernel
theorem dX5_load_38 : decode cX5_load 38 = .ok (.iload_n 2, 1) := by decide +kernel
theorem dX5_load_39 : decode cX5_load 39 = .ok (.invokestatic 193, 3) := by decide +kernel
theorem dX5_load_42 : decode cX5_load 42 = .ok (.lreturn, 1) := by decide +kernel
set_option maxRecDepth 20000 in
theorem ggX5_greatest_X5_isPart : GoodIn wsX5_greatest wsX5_isPart := goodIn_r _ [8, 9, 10, 7, 11] (by decide +kernel) (by decide +kernel)
set_option maxRecDepth 20000 in
theorem gX5_greatest_X5_isPart : GoodIn wsX5_greatest (va_wsS RX5 188 yX5_isPart wsX5_isPart) := goodIn_app (goodIn_of _ (by decide +kernel)) ggX5_greatest_X5_isPart
set_option maxRecDepth 20000 in
theorem ggX5_greatest_X5_lays : GoodIn wsX5_greatest wsX5_lays := goodIn_r _ [15, 16, 2, 17, 18, 19, 63, 64, 65, 66, 67, 68, 69, 70, 71, 72, 73, 74, 75, 76, 77, 78, 79, 80, 81] (by decide +kernel) (by decide +kernel)
set_option maxRecDepth 20000 in
theorem gX5_greatest_X5_lays : GoodIn wsX5_greatest (wsV RX5 169 RX5 yX5_lays wsX5_lays) := goodIn_app (goodIn_of _ (by decide +kernel)) ggX5_greatest_X5_lays
set_option maxRecDepth 20000 in
theorem ggX5_greatest_X5_elects : GoodIn wsX5_greatest wsX5_elects := goodIn_r _ [23, 24, 25, 4, 2, 3, 16, 26, 27, 28, 29, 30, 31, 7, 32, 19, 33, 34, 35, 36, 37, 38, 39, 18, 17, 40, 41, 42, 43, 44, 45, 46, 47, 48, 49, 50, 51, 52, 53, 54, 55, 56, 57, 58, 59, 63, 64, 65, 66, 67, 68, 69, 70, 71, 72, 73, 74, 75, 76, 77, 78, 79, 80, 81] (by decide +kernel) (by decide +kernel)
set_option maxRecDepth 20000 in
theorem gX5_greatest_X5_elects : GoodIn wsX5_greatest (wsV RX5 172 RX5 yX5_elects wsX5_elects) := goodIn_app (goodIn_of _ (by decide +kernel)) ggX5_greatest_X5_elects
set_option maxRecDepth 20000 in
theorem ggX5_greatest_X5_partOf : GoodIn wsX5_greatest wsX5_partOf := goodIn_r _ [62] (by decide +kernel) (by decide +kernel)
set_option maxRecDepth 20000 in
theorem gX5_greatest_X5_partOf : GoodIn wsX5_greatest (va_wsS RX5 193 yX5_partOf wsX5_partOf) := goodIn_app (goodIn_of _ (by decide +kernel)) ggX5_greatest_X5_partOf
theorem dX5_greatest_0 : decode cX5_greatest 0 = .ok (.iload_n 1, 1) := by decide +kernel
theorem dX5_greatest_1 : decode cX5_greatest 1 = .ok (.invokestatic 188, 3) := by decide +kernel
theorem dX5_greatest_4 : decode cX5_greatest 4 = .ok (.ifCond .ne 7, 3) := by decide +kernel
theorem dX5_greatest_7 : decode cX5_greatest 7 = .ok (.ldc2_w 191, 3) := by decide +kernel
theorem dX5_greatest_10 : decode cX5_greatest 10 = .ok (.lreturn, 1) := by decide +kernel
theorem dX5_greatest_11 : decode cX5_greatest 11 = .ok (.aload_n 0, 1) := by decide +kernel
theorem dX5_greatest_12 : decode cX5_greatest 12 = .ok (.invokevirtual 169, 3) := by decide +kernel
theorem dX5_greatest_15 : decode cX5_greatest 15 = .ok (.aload_n 0, 1) := by decide +kernel
theorem dX5_greatest_16 : decode cX5_greatest 16 = .ok (.iconst 0, 1) := by decide +kernel
theorem dX5_greatest_17 : decode cX5_greatest 17 = .ok (.invokevirtual 172, 3) := by decide +kernel
theorem dX5_greatest_20 : decode cX5_greatest 20 = .ok (.lconst 0, 1) := by decide +kernel
theorem dX5_greatest_21 : decode cX5_greatest 21 = .ok (.lstore_n 2, 1) := by decide +kernel
theorem dX5_greatest_22 : decode cX5_greatest 22 = .ok (.iconst 0, 1) := by decide +kernel
theorem dX5_greatest_23 : decode cX5_greatest 23 = .ok (.istore 4, 2) := by decide +kernel
theorem dX5_greatest_25 : decode cX5_greatest 25 = .ok (.iload 4, 2) := by decide +kernel
theorem dX5_greatest_27 : decode cX5_greatest 27 = .ok (.aload_n 0, 1) := by decide +kernel
theorem dX5_greatest_28 : decode cX5_greatest 28 = .ok (.getfield 134, 3) := by decide +kernel
theorem dX5_greatest_31 : decode cX5_greatest 31 = .ok (.if_icmp .ge 33, 3) := by decide +kernel
theorem dX5_greatest_34 : decode cX5_greatest 34 = .ok (.aload_n 0, 1) := by decide +kernel
theorem dX5_greatest_35 : decode cX5_greatest 35 = .ok (.getfield 31, 3) := by decide +kernel
theorem dX5_greatest_38 : decode cX5_greatest 38 = .ok (.iload 4, 2) := by decide +kernel
theorem dX5_greatest_40 : decode cX5_greatest 40 = .ok (.laload, 1) := by decide +kernel
theorem dX5_greatest_41 : decode cX5_greatest 41 = .ok (.lload_n 2, 1) := by decide +kernel
theorem dX5_greatest_42 : decode cX5_greatest 42 = .ok (.lcmp, 1) := by decide +kernel
theorem dX5_greatest_43 : decode cX5_greatest 43 = .ok (.ifCond .le 13, 3) := by decide +kernel
theorem dX5_greatest_46 : decode cX5_greatest 46 = .ok (.aload_n 0, 1) := by decide +kernel
theorem dX5_greatest_47 : decode cX5_greatest 47 = .ok (.getfield 31, 3) := by decide +kernel
theorem dX5_greatest_50 : decode cX5_greatest 50 = .ok (.iload 4, 2) := by decide +kernel
theorem dX5_greatest_52 : decode cX5_greatest 52 = .ok (.laload, 1) := by decide +kernel
theorem dX5_greatest_53 : decode cX5_greatest 53 = .ok (.goto 4, 3) := by decide +kernel
theorem dX5_greatest_56 : decode cX5_greatest 56 = .ok (.lload_n 2, 1) := by decide +kernel
theorem dX5_greatest_57 : decode cX5_greatest 57 = .ok (.lstore_n 2, 1) := by decide +kernel
theorem dX5_greatest_58 : decode cX5_greatest 58 = .ok (.iinc 4 1, 3) := by decide +kernel
theorem dX5_greatest_61 : decode cX5_greatest 61 = .ok (.goto (-36), 3) := by decide +kernel
theorem dX5_greatest_64 : decode cX5_greatest 64 = .ok (.lload_n 2, 1) := by decide +kernel
theorem dX5_greatest_65 : decode cX5_greatest 65 = .ok (.aload_n 0, 1) := by decide +kernel
theorem dX5_greatest_66 : decode cX5_greatest 66 = .ok (.getfield 137, 3) := by decide +kernel
theorem dX5_greatest_69 : decode cX5_greatest 69 = .ok (.iload_n 1, 1) := by decide +kernel
theorem dX5_greatest_70 : decode cX5_greatest 70 = .ok (.invokestatic 193, 3) := by decide +kernel
theorem dX5_greatest_73 : decode cX5_greatest 73 = .ok (.lreturn, 1) := by decide +kernel
theorem dX5_agreed_0 : decode cX5_agreed 0 = .ok (.iconst 0, 1) := by decide +kernel
theorem dX5_agreed_1 : decode cX5_agreed 1 = .ok (.istore_n 2, 1) := by decide +kernel
theorem dX5_agreed_2 : decode cX5_agreed 2 = .ok (.iconst 0, 1) := by decide +kernel
theorem dX5_agreed_3 : decode cX5_agreed 3 = .ok (.istore_n 3, 1) := by decide +kernel
theorem dX5_agreed_4 : decode cX5_agreed 4 = .ok (.iload_n 3, 1) := by decide +kernel
theorem dX5_agreed_5 : decode cX5_agreed 5 = .ok (.aload_n 0, 1) := by decide +kernel
theorem dX5_agreed_6 : decode cX5_agreed 6 = .ok (.getfield 7, 3) := by decide +kernel
theorem dX5_agreed_9 : decode cX5_agreed 9 = .ok (.iconst 1, 1) := by decide +kernel
theorem dX5_agreed_10 : decode cX5_agreed 10 = .ok (.iaload, 1) := by decide +kernel
theorem dX5_agreed_11 : decode cX5_agreed 11 = .ok (.if_icmp .ge 39, 3) := by decide +kernel
theorem dX5_agreed_14 : decode cX5_agreed 14 = .ok (.iload_n 2, 1) := by decide +kernel
theorem dX5_agreed_15 : decode cX5_agreed 15 = .ok (.aload_n 0, 1) := by decide +kernel
theorem dX5_agreed_16 : decode cX5_agreed 16 = .ok (.getfield 7, 3) := by decide +kernel
theorem dX5_agreed_19 : decode cX5_agreed 19 = .ok (.bipush 12, 2) := by decide +kernel
theorem dX5_agreed_21 : decode cX5_agreed 21 = .ok (.iload_n 3, 1) := by decide +kernel
theorem dX5_agreed_22 : decode cX5_agreed 22 = .ok (.iadd, 1) := by decide +kernel
theorem dX5_agreed_23 : decode cX5_agreed 23 = .ok (.iaload, 1) := by decide +kernel
theorem dX5_agreed_24 : decode cX5_agreed 24 = .ok (.iload_n 1, 1) := by decide +kernel
theorem dX5_agreed_25 : decode cX5_agreed 25 = .ok (.iand, 1) := by decide +kernel
theorem dX5_agreed_26 : decode cX5_agreed 26 = .ok (.iload_n 1, 1) := by decide +kernel
theorem dX5_agreed_27 : decode cX5_agreed 27 = .ok (.if_icmp .ne 14, 3) := by decide +kernel
theorem dX5_agreed_30 : decode cX5_agreed 30 = .ok (.aload_n 0, 1) := by decide +kernel
theorem dX5_agreed_31 : decode cX5_agreed 31 = .ok (.getfield 7, 3) := by decide +kernel
theorem dX5_agreed_34 : decode cX5_agreed 34 = .ok (.iconst 2, 1) := by decide +kernel
theorem dX5_agreed_35 : decode cX5_agreed 35 = .ok (.iload_n 3, 1) := by decide +kernel
theorem dX5_agreed_36 : decode cX5_agreed 36 = .ok (.iadd, 1) := by decide +kernel
theorem dX5_agreed_37 : decode cX5_agreed 37 = .ok (.iaload, 1) := by decide +kernel
theorem dX5_agreed_38 : decode cX5_agreed 38 = .ok (.goto 4, 3) := by decide +kernel
theorem dX5_agreed_41 : decode cX5_agreed 41 = .ok (.iconst 0, 1) := by decide +kernel
theorem dX5_agreed_42 : decode cX5_agreed 42 = .ok (.iadd, 1) := by decide +kernel
theorem dX5_agreed_43 : decode cX5_agreed 43 = .ok (.istore_n 2, 1) := by decide +kernel
theorem dX5_agreed_44 : decode cX5_agreed 44 = .ok (.iinc 3 1, 3) := by decide +kernel
theorem dX5_agreed_47 : decode cX5_agreed 47 = .ok (.goto (-43), 3) := by decide +kernel
theorem dX5_agreed_50 : decode cX5_agreed 50 = .ok (.iload_n 2, 1) := by decide +kernel
theorem dX5_agreed_51 : decode cX5_agreed 51 = .ok (.ireturn, 1) := by decide +kernel
set_option maxRecDepth 20000 in
theorem ggX5_isOwed_X5_agreed : GoodIn wsX5_isOwed wsX5_agreed := goodIn_r _ [6, 1, 14, 15, 16, 17, 18, 19, 20, 21, 22, 23, 24, 25, 26, 27, 28, 29, 30, 31, 32] (by decide +kernel) (by decide +kernel)
set_option maxRecDepth 20000 in
theorem gX5_isOwed_X5_agreed : GoodIn wsX5_isOwed (wsV RX5 199 RX5 yX5_agreed wsX5_agreed) := goodIn_app (goodIn_of _ (by decide +kernel)) ggX5_isOwed_X5_agreed
set_option maxRecDepth 20000 in
theorem ggX5_isOwed_X5_ones : GoodIn wsX5_isOwed wsX5_ones := goodIn_r _ [9] (by decide +kernel) (by decide +kernel)
set_option maxRecDepth 20000 in
theorem gX5_isOwed_X5_ones : GoodIn wsX5_isOwed (va_wsS RX5 128 yX5_ones wsX5_ones) := goodIn_app (goodIn_of _ (by decide +kernel)) ggX5_isOwed_X5_ones
set_option maxRecDepth 20000 in
theorem ggX5_isOwed_X5_allVoters : GoodIn wsX5_isOwed wsX5_allVoters := goodIn_r _ [13, 1, 14, 15, 16, 17, 18, 19, 20, 21, 22, 23, 24, 25, 26, 27, 28, 29, 30, 31, 32] (by decide +kernel) (by decide +kernel)
set_option maxRecDepth 20000 in
theorem gX5_isOwed_X5_allVoters : GoodIn wsX5_isOwed (wsV RX5 115 RX5 yX5_allVoters wsX5_allVoters) := goodIn_app (goodIn_of _ (by decide +kernel)) ggX5_isOwed_X5_allVoters
theorem dX5_isOwed_0 : decode cX5_isOwed 0 = .ok (.aload_n 0, 1) := by decide +kernel
theorem dX5_isOwed_1 : decode cX5_isOwed 1 = .ok (.iload_n 1, 1) := by decide +kernel
theorem dX5_isOwed_2 : decode cX5_isOwed 2 = .ok (.invokevirtual 199, 3) := by decide +kernel
theorem dX5_isOwed_5 : decode cX5_isOwed 5 = .ok (.istore_n 2, 1) := by decide +kernel
theorem dX5_isOwed_6 : decode cX5_isOwed 6 = .ok (.iload_n 2, 1) := by decide +kernel
theorem dX5_isOwed_7 : decode cX5_isOwed 7 = .ok (.ifCond .le 28, 3) := by decide +kernel
theorem dX5_isOwed_10 : decode cX5_isOwed 10 = .ok (.iload_n 2, 1) := by decide +kernel
theorem dX5_isOwed_11 : decode cX5_isOwed 11 = .ok (.aload_n 0, 1) := by decide +kernel
theorem dX5_isOwed_12 : decode cX5_isOwed 12 = .ok (.getfield 7, 3) := by decide +kernel
theorem dX5_isOwed_15 : decode cX5_isOwed 15 = .ok (.bipush 22, 2) := by decide +kernel
theorem dX5_isOwed_17 : decode cX5_isOwed 17 = .ok (.iaload, 1) := by decide +kernel
theorem dX5_isOwed_18 : decode cX5_isOwed 18 = .ok (.imul, 1) := by decide +kernel
theorem dX5_isOwed_19 : decode cX5_isOwed 19 = .ok (.iload_n 1, 1) := by decide +kernel
theorem dX5_isOwed_20 : decode cX5_isOwed 20 = .ok (.invokestatic 128, 3) := by decide +kernel
theorem dX5_isOwed_23 : decode cX5_isOwed 23 = .ok (.aload_n 0, 1) := by decide +kernel
theorem dX5_isOwed_24 : decode cX5_isOwed 24 = .ok (.invokevirtual 115, 3) := by decide +kernel
theorem dX5_isOwed_27 : decode cX5_isOwed 27 = .ok (.imul, 1) := by decide +kernel
theorem dX5_isOwed_28 : decode cX5_isOwed 28 = .ok (.if_icmp .lt 7, 3) := by decide +kernel
theorem dX5_isOwed_31 : decode cX5_isOwed 31 = .ok (.iconst 1, 1) := by decide +kernel
theorem dX5_isOwed_32 : decode cX5_isOwed 32 = .ok (.goto 4, 3) := by decide +kernel
theorem dX5_isOwed_35 : decode cX5_isOwed 35 = .ok (.iconst 0, 1) := by decide +kernel
theorem dX5_isOwed_36 : decode cX5_isOwed 36 = .ok (.ireturn, 1) := by decide +kernel
theorem dX5_unionOf_0 : decode cX5_unionOf 0 = .ok (.iconst 0, 1) := by decide +kernel
theorem dX5_unionOf_1 : decode cX5_unionOf 1 = .ok (.istore_n 2, 1) := by decide +kernel
theorem dX5_unionOf_2 : decode cX5_unionOf 2 = .ok (.iconst 0, 1) := by decide +kernel
theorem dX5_unionOf_3 : decode cX5_unionOf 3 = .ok (.istore_n 3, 1) := by decide +kernel
theorem dX5_unionOf_4 : decode cX5_unionOf 4 = .ok (.iload_n 3, 1) := by decide +kernel
theorem dX5_unionOf_5 : decode cX5_unionOf 5 = .ok (.aload_n 0, 1) := by decide +kernel
theorem dX5_unionOf_6 : decode cX5_unionOf 6 = .ok (.getfield 7, 3) := by decide +kernel
theorem dX5_unionOf_9 : decode cX5_unionOf 9 = .ok (.iconst 1, 1) := by decide +kernel
theorem dX5_unionOf_10 : decode cX5_unionOf 10 = .ok (.iaload, 1) := by decide +kernel
theorem dX5_unionOf_11 : decode cX5_unionOf 11 = .ok (.if_icmp .ge 40, 3) := by decide +kernel
theorem dX5_unionOf_14 : decode cX5_unionOf 14 = .ok (.iload_n 2, 1) := by decide +kernel
theorem dX5_unionOf_15 : decode cX5_unionOf 15 = .ok (.aload_n 0, 1) := by decide +kernel
theorem dX5_unionOf_16 : decode cX5_unionOf 16 = .ok (.getfield 7, 3) := by decide +kernel
theorem dX5_unionOf_19 : decode cX5_unionOf 19 = .ok (.bipush 12, 2) := by decide +kernel
theorem dX5_unionOf_21 : decode cX5_unionOf 21 = .ok (.iload_n 3, 1) := by decide +kernel
theorem dX5_unionOf_22 : decode cX5_unionOf 22 = .ok (.iadd, 1) := by decide +kernel
theorem dX5_unionOf_23 : decode cX5_unionOf 23 = .ok (.iaload, 1) := by decide +kernel
theorem dX5_unionOf_24 : decode cX5_unionOf 24 = .ok (.iload_n 1, 1) := by decide +kernel
theorem dX5_unionOf_25 : decode cX5_unionOf 25 = .ok (.iand, 1) := by decide +kernel
theorem dX5_unionOf_26 : decode cX5_unionOf 26 = .ok (.iload_n 1, 1) := by decide +kernel
theorem dX5_unionOf_27 : decode cX5_unionOf 27 = .ok (.if_icmp .ne 15, 3) := by decide +kernel
theorem dX5_unionOf_30 : decode cX5_unionOf 30 = .ok (.aload_n 0, 1) := by decide +kernel
theorem dX5_unionOf_31 : decode cX5_unionOf 31 = .ok (.getfield 7, 3) := by decide +kernel
theorem dX5_unionOf_34 : decode cX5_unionOf 34 = .ok (.bipush 12, 2) := by decide +kernel
theorem dX5_unionOf_36 : decode cX5_unionOf 36 = .ok (.iload_n 3, 1) := by decide +kernel
theorem dX5_unionOf_37 : decode cX5_unionOf 37 = .ok (.iadd, 1) := by decide +kernel
theorem dX5_unionOf_38 : decode cX5_unionOf 38 = .ok (.iaload, 1) := by decide +kernel
theorem dX5_unionOf_39 : decode cX5_unionOf 39 = .ok (.goto 4, 3) := by decide +kernel
theorem dX5_unionOf_42 : decode cX5_unionOf 42 = .ok (.iconst 0, 1) := by decide +kernel
theorem dX5_unionOf_43 : decode cX5_unionOf 43 = .ok (.ior, 1) := by decide +kernel
theorem dX5_unionOf_44 : decode cX5_unionOf 44 = .ok (.istore_n 2, 1) := by decide +kernel
theorem dX5_unionOf_45 : decode cX5_unionOf 45 = .ok (.iinc 3 1, 3) := by decide +kernel
theorem dX5_unionOf_48 : decode cX5_unionOf 48 = .ok (.goto (-44), 3) := by decide +kernel
theorem dX5_unionOf_51 : decode cX5_unionOf 51 = .ok (.iload_n 2, 1) := by decide +kernel
theorem dX5_unionOf_52 : decode cX5_unionOf 52 = .ok (.ireturn, 1) := by decide +kernel
set_option maxRecDepth 20000 in
theorem ggX5_agrees_X5_isSet : GoodIn wsX5_agrees wsX5_isSet := goodIn_r _ [5, 6, 7, 8, 4, 9, 80, 81, 82, 83, 84, 85, 86, 87, 88, 89, 90, 91, 92, 93, 94, 95, 96, 97, 98] (by decide +kernel) (by decide +kernel)
set_option maxRecDepth 20000 in
theorem gX5_agrees_X5_isSet : GoodIn wsX5_agrees (wsV RX5 112 RX5 yX5_isSet wsX5_isSet) := goodIn_app (goodIn_of _ (by decide +kernel)) ggX5_agrees_X5_isSet
set_option maxRecDepth 20000 in
theorem ggX5_agrees_X5_in : GoodIn wsX5_agrees wsX5_in := goodIn_r _ [9] (by decide +kernel) (by decide +kernel)
set_option maxRecDepth 20000 in
theorem gX5_agrees_X5_in : GoodIn wsX5_agrees (va_wsS RX5 48 yX5_in wsX5_in) := goodIn_app (goodIn_of _ (by decide +kernel)) ggX5_agrees_X5_in
set_option maxRecDepth 20000 in
theorem ggX5_agrees_X5_agreed : GoodIn wsX5_agrees wsX5_agreed := goodIn_r _ [13, 6, 80, 81, 82, 83, 84, 85, 86, 87, 88, 89, 90, 91, 92, 93, 94, 95, 96, 97, 98] (by decide +kernel) (by decide +kernel)
set_option maxRecDepth 20000 in
theorem gX5_agrees_X5_agreed : GoodIn wsX5_agrees (wsV RX5 199 RX5 yX5_agreed wsX5_agreed) := goodIn_app (goodIn_of _ (by decide +kernel)) ggX5_agrees_X5_agreed
set_option maxRecDepth 20000 in
theorem ggX5_agrees_X5_isOwed : GoodIn wsX5_agrees wsX5_isOwed := goodIn_r _ [17, 6, 10, 11, 12, 4, 13, 18, 19, 20, 21, 22, 23, 24, 80, 81, 82, 83, 84, 85, 86, 87, 88, 89, 90, 91, 92, 93, 94, 95, 96, 97, 98] (by decide +kernel) (by decide +kernel)
set_option maxRecDepth 20000 in
theorem gX5_agrees_X5_isOwed : GoodIn wsX5_agrees (wsV RX5 202 RX5 yX5_isOwed wsX5_isOwed) := goodIn_app (goodIn_of _ (by decide +kernel)) ggX5_agrees_X5_isOwed
set_option maxRecDepth 20000 in
theorem ggX5_agrees_X5_unionOf : GoodIn wsX5_agrees wsX5_unionOf := goodIn_r _ [28, 6, 80, 81, 82, 83, 84, 85, 86, 87, 88, 89, 90, 91, 92, 93, 94, 95, 96, 97, 98] (by decide +kernel) (by decide +kernel)
set_option maxRecDepth 20000 in
theorem gX5_agrees_X5_unionOf : GoodIn wsX5_agrees (wsV RX5 205 RX5 yX5_unionOf wsX5_unionOf) := goodIn_app (goodIn_of _ (by decide +kernel)) ggX5_agrees_X5_unionOf
set_option maxRecDepth 20000 in
theorem ggX5_agrees_X5_membersBy : GoodIn wsX5_agrees wsX5_membersBy := goodIn_r _ [32, 33, 34, 35, 36, 4, 37, 6, 38, 39, 40, 41, 42, 43, 44, 45, 46, 47, 48, 49, 50, 51, 52, 53, 54, 55, 56, 57, 58, 59, 60, 61, 62, 63, 64, 65, 66, 67, 68, 69, 70, 18, 19, 20, 71, 72, 73, 74, 75, 76, 77, 78, 79, 80, 81, 82, 83, 84, 85, 86, 87, 88, 89, 90, 91, 92, 93, 94, 95, 96, 97, 98] (by decide +kernel) (by decide +kernel)
set_option maxRecDepth 20000 in
theorem gX5_agrees_X5_membersBy : GoodIn wsX5_agrees (wsV RX5 176 RX5 yX5_membersBy wsX5_membersBy) := goodIn_app (goodIn_of _ (by decide +kernel)) ggX5_agrees_X5_membersBy
set_option maxRecDepth 20000 in
theorem ggX5_agrees_X5_ones : GoodIn wsX5_agrees wsX5_ones := goodIn_r _ [20] (by decide +kernel) (by decide +kernel)
set_option maxRecDepth 20000 in
theorem gX5_agrees_X5_ones : GoodIn wsX5_agrees (va_wsS RX5 128 yX5_ones wsX5_ones) := goodIn_app (goodIn_of _ (by decide +kernel)) ggX5_agrees_X5_ones
theorem dX5_agrees_0 : decode cX5_agrees 0 = .ok (.aload_n 0, 1) := by decide +kernel
theorem dX5_agrees_1 : decode cX5_agrees 1 = .ok (.iload_n 1, 1) := by decide +kernel
theorem dX5_agrees_2 : decode cX5_agrees 2 = .ok (.invokevirtual 112, 3) := by decide +kernel
theorem dX5_agrees_5 : decode cX5_agrees 5 = .ok (.ifCond .eq 12, 3) := by decide +kernel
theorem dX5_agrees_8 : decode cX5_agrees 8 = .ok (.iload_n 2, 1) := by decide +kernel
theorem dX5_agrees_9 : decode cX5_agrees 9 = .ok (.iconst 0, 1) := by decide +kernel
theorem dX5_agrees_10 : decode cX5_agrees 10 = .ok (.iconst 5, 1) := by decide +kernel
theorem dX5_agrees_11 : decode cX5_agrees 11 = .ok (.invokestatic 48, 3) := by decide +kernel
theorem dX5_agrees_14 : decode cX5_agrees 14 = .ok (.ifCond .ne 5, 3) := by decide +kernel
theorem dX5_agrees_17 : decode cX5_agrees 17 = .ok (.iconst (-1), 1) := by decide +kernel
theorem dX5_agrees_18 : decode cX5_agrees 18 = .ok (.ireturn, 1) := by decide +kernel
theorem dX5_agrees_19 : decode cX5_agrees 19 = .ok (.iload_n 2, 1) := by decide +kernel
theorem dX5_agrees_20 : decode cX5_agrees 20 = .ok (.ifCond .ne 11, 3) := by decide +kernel
theorem dX5_agrees_23 : decode cX5_agrees 23 = .ok (.aload_n 0, 1) := by decide +kernel
theorem dX5_agrees_24 : decode cX5_agrees 24 = .ok (.iload_n 1, 1) := by decide +kernel
theorem dX5_agrees_25 : decode cX5_agrees 25 = .ok (.invokevirtual 199, 3) := by decide +kernel
theorem dX5_agrees_28 : decode cX5_agrees 28 = .ok (.goto 40, 3) := by decide +kernel
theorem dX5_agrees_31 : decode cX5_agrees 31 = .ok (.iload_n 2, 1) := by decide +kernel
theorem dX5_agrees_32 : decode cX5_agrees 32 = .ok (.iconst 1, 1) := by decide +kernel
theorem dX5_agrees_33 : decode cX5_agrees 33 = .ok (.if_icmp .ne 19, 3) := by decide +kernel
theorem dX5_agrees_36 : decode cX5_agrees 36 = .ok (.aload_n 0, 1) := by decide +kernel
theorem dX5_agrees_37 : decode cX5_agrees 37 = .ok (.iload_n 1, 1) := by decide +kernel
theorem dX5_agrees_38 : decode cX5_agrees 38 = .ok (.invokevirtual 202, 3) := by decide +kernel
theorem dX5_agrees_41 : decode cX5_agrees 41 = .ok (.ifCond .eq 7, 3) := by decide +kernel
theorem dX5_agrees_44 : decode cX5_agrees 44 = .ok (.iconst 1, 1) := by decide +kernel
theorem dX5_agrees_45 : decode cX5_agrees 45 = .ok (.goto 23, 3) := by decide +kernel
theorem dX5_agrees_48 : decode cX5_agrees 48 = .ok (.iconst 0, 1) := by decide +kernel
theorem dX5_agrees_49 : decode cX5_agrees 49 = .ok (.goto 19, 3) := by decide +kernel
theorem dX5_agrees_52 : decode cX5_agrees 52 = .ok (.aload_n 0, 1) := by decide +kernel
theorem dX5_agrees_53 : decode cX5_agrees 53 = .ok (.iload_n 1, 1) := by decide +kernel
theorem dX5_agrees_54 : decode cX5_agrees 54 = .ok (.invokevirtual 205, 3) := by decide +kernel
theorem dX5_agrees_57 : decode cX5_agrees 57 = .ok (.aload_n 0, 1) := by decide +kernel
theorem dX5_agrees_58 : decode cX5_agrees 58 = .ok (.iload_n 2, 1) := by decide +kernel
theorem dX5_agrees_59 : decode cX5_agrees 59 = .ok (.iconst 2, 1) := by decide +kernel
theorem dX5_agrees_60 : decode cX5_agrees 60 = .ok (.isub, 1) := by decide +kernel
theorem dX5_agrees_61 : decode cX5_agrees 61 = .ok (.invokevirtual 176, 3) := by decide +kernel
theorem dX5_agrees_64 : decode cX5_agrees 64 = .ok (.iand, 1) := by decide +kernel
theorem dX5_agrees_65 : decode cX5_agrees 65 = .ok (.invokestatic 128, 3) := by decide +kernel
theorem dX5_agrees_68 : decode cX5_agrees 68 = .ok (.ireturn, 1) := by decide +kernel
set_option maxRecDepth 20000 in
theorem ggX5_shorts_X5_isLaw : GoodIn wsX5_shorts wsX5_isLaw := goodIn_r _ [5, 6, 7, 4, 8] (by decide +kernel) (by decide +kernel)
set_option maxRecDepth 20000 in
theorem gX5_shorts_X5_isLaw : GoodIn wsX5_shorts (va_wsS RX5 185 yX5_isLaw wsX5_isLaw) := goodIn_app (goodIn_of _ (by decide +kernel)) ggX5_shorts_X5_isLaw
set_option maxRecDepth 20000 in
theorem ggX5_shorts_X5_membersBy : GoodIn wsX5_shorts wsX5_membersBy := goodIn_r _ [12, 13, 14, 15, 16, 4, 17, 1, 18, 19, 20, 21, 22, 23, 24, 25, 26, 27, 28, 29, 30, 31, 32, 33, 34, 35, 36, 37, 38, 39, 40, 41, 42, 43, 44, 45, 46, 47, 48, 49, 50, 51, 52, 53, 54, 55, 56, 57, 58, 59, 60, 61, 62, 79, 80, 81, 82, 83, 84, 85, 86, 87, 88, 89, 90, 91, 92, 93, 94, 95, 96, 97] (by decide +kernel) (by decide +kernel)
set_option maxRecDepth 20000 in
theorem gX5_shorts_X5_membersBy : GoodIn wsX5_shorts (wsV RX5 176 RX5 yX5_membersBy wsX5_membersBy) := goodIn_app (goodIn_of _ (by decide +kernel)) ggX5_shorts_X5_membersBy
set_option maxRecDepth 20000 in
theorem ggX5_shorts_X5_isOwed : GoodIn wsX5_shorts wsX5_isOwed := goodIn_r _ [66, 1, 67, 68, 69, 4, 70, 51, 52, 53, 71, 72, 73, 74, 79, 80, 81, 82, 83, 84, 85, 86, 87, 88, 89, 90, 91, 92, 93, 94, 95, 96, 97] (by decide +kernel) (by decide +kernel)
set_option maxRecDepth 20000 in
theorem gX5_shorts_X5_isOwed : GoodIn wsX5_shorts (wsV RX5 202 RX5 yX5_isOwed wsX5_isOwed) := goodIn_app (goodIn_of _ (by decide +kernel)) ggX5_shorts_X5_isOwed
set_option maxRecDepth 20000 in
theorem ggX5_shorts_X5_unionOf : GoodIn wsX5_shorts wsX5_unionOf := goodIn_r _ [78, 1, 79, 80, 81, 82, 83, 84, 85, 86, 87, 88, 89, 90, 91, 92, 93, 94, 95, 96, 97] (by decide +kernel) (by decide +kernel)
set_option maxRecDepth 20000 in
theorem gX5_shorts_X5_unionOf : GoodIn wsX5_shorts (wsV RX5 205 RX5 yX5_unionOf wsX5_unionOf) := goodIn_app (goodIn_of _ (by decide +kernel)) ggX5_shorts_X5_unionOf
set_option maxRecDepth 20000 in
theorem ggX5_shorts_X5_ones : GoodIn wsX5_shorts wsX5_ones := goodIn_r _ [53] (by decide +kernel) (by decide +kernel)
set_option maxRecDepth 20000 in
theorem gX5_shorts_X5_ones : GoodIn wsX5_shorts (va_wsS RX5 128 yX5_ones wsX5_ones) := goodIn_app (goodIn_of _ (by decide +kernel)) ggX5_shorts_X5_ones
theorem dX5_shorts_0 : decode cX5_shorts 0 = .ok (.iload_n 1, 1) := by decide +kernel
theorem dX5_shorts_1 : decode cX5_shorts 1 = .ok (.invokestatic 185, 3) := by decide +kernel
theorem dX5_shorts_4 : decode cX5_shorts 4 = .ok (.ifCond .eq 8, 3) := by decide +kernel
theorem dX5_shorts_7 : decode cX5_shorts 7 = .ok (.iload_n 2, 1) := by decide +kernel
theorem dX5_shorts_8 : decode cX5_shorts 8 = .ok (.iconst (-1), 1) := by decide +kernel
theorem dX5_shorts_9 : decode cX5_shorts 9 = .ok (.if_icmp .ge 5, 3) := by decide +kernel
theorem dX5_shorts_12 : decode cX5_shorts 12 = .ok (.iconst (-1), 1) := by decide +kernel
theorem dX5_shorts_13 : decode cX5_shorts 13 = .ok (.ireturn, 1) := by decide +kernel
theorem dX5_shorts_14 : decode cX5_shorts 14 = .ok (.aload_n 0, 1) := by decide +kernel
theorem dX5_shorts_15 : decode cX5_shorts 15 = .ok (.iload_n 1, 1) := by decide +kernel
theorem dX5_shorts_16 : decode cX5_shorts 16 = .ok (.invokevirtual 176, 3) := by decide +kernel
theorem dX5_shorts_19 : decode cX5_shorts 19 = .ok (.istore_n 3, 1) := by decide +kernel
theorem dX5_shorts_20 : decode cX5_shorts 20 = .ok (.iconst 0, 1) := by decide +kernel
theorem dX5_shorts_21 : decode cX5_shorts 21 = .ok (.istore 4, 2) := by decide +kernel
theorem dX5_shorts_23 : decode cX5_shorts 23 = .ok (.bipush (-4), 2) := by decide +kernel
theorem dX5_shorts_25 : decode cX5_shorts 25 = .ok (.istore 5, 2) := by decide +kernel
theorem dX5_shorts_27 : decode cX5_shorts 27 = .ok (.iconst 1, 1) := by decide +kernel
theorem dX5_shorts_28 : decode cX5_shorts 28 = .ok (.istore 6, 2) := by decide +kernel
theorem dX5_shorts_30 : decode cX5_shorts 30 = .ok (.iload 6, 2) := by decide +kernel
theorem dX5_shorts_32 : decode cX5_shorts 32 = .ok (.iconst 1, 1) := by decide +kernel
theorem dX5_shorts_33 : decode cX5_shorts 33 = .ok (.aload_n 0, 1) := by decide +kernel
theorem dX5_shorts_34 : decode cX5_shorts 34 = .ok (.getfield 7, 3) := by decide +kernel
theorem dX5_shorts_37 : decode cX5_shorts 37 = .ok (.iconst 0, 1) := by decide +kernel
theorem dX5_shorts_38 : decode cX5_shorts 38 = .ok (.iaload, 1) := by decide +kernel
theorem dX5_shorts_39 : decode cX5_shorts 39 = .ok (.ishl, 1) := by decide +kernel
theorem dX5_shorts_40 : decode cX5_shorts 40 = .ok (.if_icmp .ge 55, 3) := by decide +kernel
theorem dX5_shorts_43 : decode cX5_shorts 43 = .ok (.aload_n 0, 1) := by decide +kernel
theorem dX5_shorts_44 : decode cX5_shorts 44 = .ok (.iload 6, 2) := by decide +kernel
theorem dX5_shorts_46 : decode cX5_shorts 46 = .ok (.invokevirtual 202, 3) := by decide +kernel
theorem dX5_shorts_49 : decode cX5_shorts 49 = .ok (.ifCond .eq 40, 3) := by decide +kernel
theorem dX5_shorts_52 : decode cX5_shorts 52 = .ok (.aload_n 0, 1) := by decide +kernel
theorem dX5_shorts_53 : decode cX5_shorts 53 = .ok (.iload 6, 2) := by decide +kernel
theorem dX5_shorts_55 : decode cX5_shorts 55 = .ok (.invokevirtual 205, 3) := by decide +kernel
theorem dX5_shorts_58 : decode cX5_shorts 58 = .ok (.iload_n 3, 1) := by decide +kernel
theorem dX5_shorts_59 : decode cX5_shorts 59 = .ok (.iand, 1) := by decide +kernel
theorem dX5_shorts_60 : decode cX5_shorts 60 = .ok (.invokestatic 128, 3) := by decide +kernel
theorem dX5_shorts_63 : decode cX5_shorts 63 = .ok (.iload 6, 2) := by decide +kernel
theorem dX5_shorts_65 : decode cX5_shorts 65 = .ok (.invokestatic 128, 3) := by decide +kernel
theorem dX5_shorts_68 : decode cX5_shorts 68 = .ok (.if_icmp .ge 21, 3) := by decide +kernel
theorem dX5_shorts_71 : decode cX5_shorts 71 = .ok (.iload 4, 2) := by decide +kernel
theorem dX5_shorts_73 : decode cX5_shorts 73 = .ok (.iload_n 2, 1) := by decide +kernel
theorem dX5_shorts_74 : decode cX5_shorts 74 = .ok (.if_icmp .ne 8, 3) := by decide +kernel
theorem dX5_shorts_77 : decode cX5_shorts 77 = .ok (.iload 6, 2) := by decide +kernel
theorem dX5_shorts_79 : decode cX5_shorts 79 = .ok (.goto 5, 3) := by decide +kernel
theorem dX5_shorts_82 : decode cX5_shorts 82 = .ok (.iload 5, 2) := by decide +kernel
theorem dX5_shorts_84 : decode cX5_shorts 84 = .ok (.istore 5, 2) := by decide +kernel
theorem dX5_shorts_86 : decode cX5_shorts 86 = .ok (.iinc 4 1, 3) := by decide +kernel
theorem dX5_shorts_89 : decode cX5_shorts 89 = .ok (.iinc 6 1, 3) := by decide +kernel
theorem dX5_shorts_92 : decode cX5_shorts 92 = .ok (.goto (-62), 3) := by decide +kernel
theorem dX5_shorts_95 : decode cX5_shorts 95 = .ok (.iload_n 2, 1) := by decide +kernel
theorem dX5_shorts_96 : decode cX5_shorts 96 = .ok (.iconst (-1), 1) := by decide +kernel
theorem dX5_shorts_97 : decode cX5_shorts 97 = .ok (.if_icmp .ne 8, 3) := by decide +kernel
theorem dX5_shorts_100 : decode cX5_shorts 100 = .ok (.iload 4, 2) := by decide +kernel
theorem dX5_shorts_102 : decode cX5_shorts 102 = .ok (.goto 5, 3) := by decide +kernel
theorem dX5_shorts_105 : decode cX5_shorts 105 = .ok (.iload 5, 2) := by decide +kernel
theorem dX5_shorts_107 : decode cX5_shorts 107 = .ok (.ireturn, 1) := by decide +kernel
set_option maxRecDepth 20000 in
theorem ggX5_joins_X5_isLaw : GoodIn wsX5_joins wsX5_isLaw := goodIn_r _ [9, 10, 11, 8, 12] (by decide +kernel) (by decide +kernel)
set_option maxRecDepth 20000 in
theorem gX5_joins_X5_isLaw : GoodIn wsX5_joins (va_wsS RX5 185 yX5_isLaw wsX5_isLaw) := goodIn_app (goodIn_of _ (by decide +kernel)) ggX5_joins_X5_isLaw
set_option maxRecDepth 20000 in
theorem ggX5_joins_X5_isCandidate : GoodIn wsX5_joins wsX5_isCandidate := goodIn_r _ [16, 1, 10, 11, 8, 12, 63, 64, 65, 66, 67, 68, 69, 70, 71, 72, 73, 74, 75, 76, 77, 78, 79, 80, 81] (by decide +kernel) (by decide +kernel)
set_option maxRecDepth 20000 in
theorem gX5_joins_X5_isCandidate : GoodIn wsX5_joins (wsV RX5 125 RX5 yX5_isCandidate wsX5_isCandidate) := goodIn_app (goodIn_of _ (by decide +kernel)) ggX5_joins_X5_isCandidate
set_option maxRecDepth 20000 in
theorem ggX5_joins_X5_has : GoodIn wsX5_joins wsX5_has := goodIn_r _ [19] (by decide +kernel) (by decide +kernel)
set_option maxRecDepth 20000 in
theorem gX5_joins_X5_has : GoodIn wsX5_joins (va_wsS RX5 85 yX5_has wsX5_has) := goodIn_app (goodIn_of _ (by decide +kernel)) ggX5_joins_X5_has
set_option maxRecDepth 20000 in
theorem ggX5_joins_X5_lays : GoodIn wsX5_joins wsX5_lays := goodIn_r _ [23, 1, 2, 3, 4, 24, 63, 64, 65, 66, 67, 68, 69, 70, 71, 72, 73, 74, 75, 76, 77, 78, 79, 80, 81] (by decide +kernel) (by decide +kernel)
set_option maxRecDepth 20000 in
theorem gX5_joins_X5_lays : GoodIn wsX5_joins (wsV RX5 169 RX5 yX5_lays wsX5_lays) := goodIn_app (goodIn_of _ (by decide +kernel)) ggX5_joins_X5_lays
set_option maxRecDepth 20000 in
theorem ggX5_joins_X5_elects : GoodIn wsX5_joins wsX5_elects := goodIn_r _ [28, 29, 5, 30, 2, 31, 1, 32, 33, 34, 35, 36, 37, 8, 38, 24, 17, 18, 19, 39, 40, 41, 42, 4, 3, 43, 44, 45, 46, 47, 48, 49, 50, 51, 52, 53, 54, 55, 56, 57, 58, 59, 60, 61, 62, 63, 64, 65, 66, 67, 68, 69, 70, 71, 72, 73, 74, 75, 76, 77, 78, 79, 80, 81] (by decide +kernel) (by decide +kernel)
set_option maxRecDepth 20000 in
theorem gX5_joins_X5_elects : GoodIn wsX5_joins (wsV RX5 172 RX5 yX5_elects wsX5_elects) := goodIn_app (goodIn_of _ (by decide +kernel)) ggX5_joins_X5_elects
theorem dX5_joins_0 : decode cX5_joins 0 = .ok (.iload_n 1, 1) := by decide +kernel
theorem dX5_joins_1 : decode cX5_joins 1 = .ok (.invokestatic 185, 3) := by decide +kernel
theorem dX5_joins_4 : decode cX5_joins 4 = .ok (.ifCond .eq 11, 3) := by decide +kernel
theorem dX5_joins_7 : decode cX5_joins 7 = .ok (.aload_n 0, 1) := by decide +kernel
theorem dX5_joins_8 : decode cX5_joins 8 = .ok (.iload_n 2, 1) := by decide +kernel
theorem dX5_joins_9 : decode cX5_joins 9 = .ok (.invokevirtual 125, 3) := by decide +kernel
theorem dX5_joins_12 : decode cX5_joins 12 = .ok (.ifCond .ne 5, 3) := by decide +kernel
theorem dX5_joins_15 : decode cX5_joins 15 = .ok (.iconst (-1), 1) := by decide +kernel
theorem dX5_joins_16 : decode cX5_joins 16 = .ok (.ireturn, 1) := by decide +kernel
theorem dX5_joins_17 : decode cX5_joins 17 = .ok (.aload_n 0, 1) := by decide +kernel
theorem dX5_joins_18 : decode cX5_joins 18 = .ok (.getfield 7, 3) := by decide +kernel
theorem dX5_joins_21 : decode cX5_joins 21 = .ok (.bipush 23, 2) := by decide +kernel
theorem dX5_joins_23 : decode cX5_joins 23 = .ok (.iaload, 1) := by decide +kernel
theorem dX5_joins_24 : decode cX5_joins 24 = .ok (.iload_n 2, 1) := by decide +kernel
theorem dX5_joins_25 : decode cX5_joins 25 = .ok (.invokestatic 85, 3) := by decide +kernel
theorem dX5_joins_28 : decode cX5_joins 28 = .ok (.ifCond .eq 6, 3) := by decide +kernel
theorem dX5_joins_31 : decode cX5_joins 31 = .ok (.bipush (-2), 2) := by decide +kernel
theorem dX5_joins_33 : decode cX5_joins 33 = .ok (.ireturn, 1) := by decide +kernel
theorem dX5_joins_34 : decode cX5_joins 34 = .ok (.aload_n 0, 1) := by decide +kernel
theorem dX5_joins_35 : decode cX5_joins 35 = .ok (.invokevirtual 169, 3) := by decide +kernel
theorem dX5_joins_38 : decode cX5_joins 38 = .ok (.aload_n 0, 1) := by decide +kernel
theorem dX5_joins_39 : decode cX5_joins 39 = .ok (.getfield 134, 3) := by decide +kernel
theorem dX5_joins_42 : decode cX5_joins 42 = .ok (.istore_n 3, 1) := by decide +kernel
theorem dX5_joins_43 : decode cX5_joins 43 = .ok (.iconst 0, 1) := by decide +kernel
theorem dX5_joins_44 : decode cX5_joins 44 = .ok (.istore 4, 2) := by decide +kernel
theorem dX5_joins_46 : decode cX5_joins 46 = .ok (.iload 4, 2) := by decide +kernel
theorem dX5_joins_48 : decode cX5_joins 48 = .ok (.bipush 20, 2) := by decide +kernel
theorem dX5_joins_50 : decode cX5_joins 50 = .ok (.if_icmp .gt 61, 3) := by decide +kernel
theorem dX5_joins_53 : decode cX5_joins 53 = .ok (.aload_n 0, 1) := by decide +kernel
theorem dX5_joins_54 : decode cX5_joins 54 = .ok (.getfield 22, 3) := by decide +kernel
theorem dX5_joins_57 : decode cX5_joins 57 = .ok (.iload_n 3, 1) := by decide +kernel
theorem dX5_joins_58 : decode cX5_joins 58 = .ok (.iload 4, 2) := by decide +kernel
theorem dX5_joins_60 : decode cX5_joins 60 = .ok (.iastore, 1) := by decide +kernel
theorem dX5_joins_61 : decode cX5_joins 61 = .ok (.aload_n 0, 1) := by decide +kernel
theorem dX5_joins_62 : decode cX5_joins 62 = .ok (.getfield 25, 3) := by decide +kernel
theorem dX5_joins_65 : decode cX5_joins 65 = .ok (.iload_n 3, 1) := by decide +kernel
theorem dX5_joins_66 : decode cX5_joins 66 = .ok (.iconst 1, 1) := by decide +kernel
theorem dX5_joins_67 : decode cX5_joins 67 = .ok (.iload_n 2, 1) := by decide +kernel
theorem dX5_joins_68 : decode cX5_joins 68 = .ok (.ishl, 1) := by decide +kernel
theorem dX5_joins_69 : decode cX5_joins 69 = .ok (.iastore, 1) := by decide +kernel
theorem dX5_joins_70 : decode cX5_joins 70 = .ok (.aload_n 0, 1) := by decide +kernel
theorem dX5_joins_71 : decode cX5_joins 71 = .ok (.iload 4, 2) := by decide +kernel
theorem dX5_joins_73 : decode cX5_joins 73 = .ok (.ifCond .ne 7, 3) := by decide +kernel
theorem dX5_joins_76 : decode cX5_joins 76 = .ok (.iload_n 3, 1) := by decide +kernel
theorem dX5_joins_77 : decode cX5_joins 77 = .ok (.goto 6, 3) := by decide +kernel
theorem dX5_joins_80 : decode cX5_joins 80 = .ok (.iload_n 3, 1) := by decide +kernel
theorem dX5_joins_81 : decode cX5_joins 81 = .ok (.iconst 1, 1) := by decide +kernel
theorem dX5_joins_82 : decode cX5_joins 82 = .ok (.iadd, 1) := by decide +kernel
theorem dX5_joins_83 : decode cX5_joins 83 = .ok (.putfield 134, 3) := by decide +kernel
theorem dX5_joins_86 : decode cX5_joins 86 = .ok (.aload_n 0, 1) := by decide +kernel
theorem dX5_joins_87 : decode cX5_joins 87 = .ok (.iload_n 1, 1) := by decide +kernel
theorem dX5_joins_88 : decode cX5_joins 88 = .ok (.invokevirtual 172, 3) := by decide +kernel
theorem dX5_joins_91 : decode cX5_joins 91 = .ok (.aload_n 0, 1) := by decide +kernel
theorem dX5_joins_92 : decode cX5_joins 92 = .ok (.getfield 141, 3) := by decide +kernel
theorem dX5_joins_95 : decode cX5_joins 95 = .ok (.iload_n 2, 1) := by decide +kernel
theorem dX5_joins_96 : decode cX5_joins 96 = .ok (.invokestatic 85, 3) := by decide +kernel
theorem dX5_joins_99 : decode cX5_joins 99 = .ok (.ifCond .eq 6, 3) := by decide +kernel
theorem dX5_joins_102 : decode cX5_joins 102 = .ok (.iload 4, 2) := by decide +kernel
theorem dX5_joins_104 : decode cX5_joins 104 = .ok (.ireturn, 1) := by decide +kernel
theorem dX5_joins_105 : decode cX5_joins 105 = .ok (.iinc 4 1, 3) := by decide +kernel
theorem dX5_joins_108 : decode cX5_joins 108 = .ok (.goto (-62), 3) := by decide +kernel
theorem dX5_joins_111 : decode cX5_joins 111 = .ok (.bipush (-4), 2) := by decide +kernel
theorem dX5_joins_113 : decode cX5_joins 113 = .ok (.ireturn, 1) := by decide +kernel
set_option maxRecDepth 20000 in
theorem ggX5_matters_X5_isLaw : GoodIn wsX5_matters wsX5_isLaw := goodIn_r _ [7, 8, 9, 6, 10] (by decide +kernel) (by decide +kernel)
set_option maxRecDepth 20000 in
theorem gX5_matters_X5_isLaw : GoodIn wsX5_matters (va_wsS RX5 185 yX5_isLaw wsX5_isLaw) := goodIn_app (goodIn_of _ (by decide +kernel)) ggX5_matters_X5_isLaw
set_option maxRecDepth 20000 in
theorem ggX5_matters_X5_membersBy : GoodIn wsX5_matters wsX5_membersBy := goodIn_r _ [14, 3, 15, 16, 17, 6, 18, 19, 1, 2, 20, 21, 22, 23, 24, 25, 26, 27, 28, 29, 30, 31, 32, 33, 34, 35, 36, 37, 38, 39, 40, 41, 42, 43, 44, 45, 46, 47, 48, 49, 50, 51, 52, 53, 54, 55, 56, 57, 58, 59, 60, 61, 62, 63, 64, 65, 66, 67, 68, 69, 70, 71, 72, 73, 74, 75, 76, 77, 78, 79, 80, 81] (by decide +kernel) (by decide +kernel)
set_option maxRecDepth 20000 in
theorem gX5_matters_X5_membersBy : GoodIn wsX5_matters (wsV RX5 176 RX5 yX5_membersBy wsX5_membersBy) := goodIn_app (goodIn_of _ (by decide +kernel)) ggX5_matters_X5_membersBy
set_option maxRecDepth 20000 in
theorem ggX5_matters_X5_elects : GoodIn wsX5_matters wsX5_elects := goodIn_r _ [25, 26, 3, 27, 1, 28, 19, 29, 30, 31, 32, 33, 34, 6, 35, 21, 36, 37, 38, 39, 40, 41, 42, 20, 2, 43, 44, 45, 46, 47, 48, 49, 50, 51, 52, 53, 54, 55, 56, 57, 58, 59, 60, 61, 62, 63, 64, 65, 66, 67, 68, 69, 70, 71, 72, 73, 74, 75, 76, 77, 78, 79, 80, 81] (by decide +kernel) (by decide +kernel)
set_option maxRecDepth 20000 in
theorem gX5_matters_X5_elects : GoodIn wsX5_matters (wsV RX5 172 RX5 yX5_elects wsX5_elects) := goodIn_app (goodIn_of _ (by decide +kernel)) ggX5_matters_X5_elects
theorem dX5_matters_0 : decode cX5_matters 0 = .ok (.iload_n 1, 1) := by decide +kernel
theorem dX5_matters_1 : decode cX5_matters 1 = .ok (.invokestatic 185, 3) := by decide +kernel
theorem dX5_matters_4 : decode cX5_matters 4 = .ok (.ifCond .ne 5, 3) := by decide +kernel
theorem dX5_matters_7 : decode cX5_matters 7 = .ok (.iconst (-1), 1) := by decide +kernel
theorem dX5_matters_8 : decode cX5_matters 8 = .ok (.ireturn, 1) := by decide +kernel
theorem dX5_matters_9 : decode cX5_matters 9 = .ok (.aload_n 0, 1) := by decide +kernel
theorem dX5_matters_10 : decode cX5_matters 10 = .ok (.iload_n 1, 1) := by decide +kernel
theorem dX5_matters_11 : decode cX5_matters 11 = .ok (.invokevirtual 176, 3) := by decide +kernel
theorem dX5_matters_14 : decode cX5_matters 14 = .ok (.istore_n 2, 1) := by decide +kernel
theorem dX5_matters_15 : decode cX5_matters 15 = .ok (.iconst 0, 1) := by decide +kernel
theorem dX5_matters_16 : decode cX5_matters 16 = .ok (.istore_n 3, 1) := by decide +kernel
theorem dX5_matters_17 : decode cX5_matters 17 = .ok (.iconst 0, 1) := by decide +kernel
theorem dX5_matters_18 : decode cX5_matters 18 = .ok (.istore 4, 2) := by decide +kernel
theorem dX5_matters_20 : decode cX5_matters 20 = .ok (.iload 4, 2) := by decide +kernel
theorem dX5_matters_22 : decode cX5_matters 22 = .ok (.aload_n 0, 1) := by decide +kernel
theorem dX5_matters_23 : decode cX5_matters 23 = .ok (.getfield 134, 3) := by decide +kernel
theorem dX5_matters_26 : decode cX5_matters 26 = .ok (.if_icmp .ge 55, 3) := by decide +kernel
theorem dX5_matters_29 : decode cX5_matters 29 = .ok (.aload_n 0, 1) := by decide +kernel
theorem dX5_matters_30 : decode cX5_matters 30 = .ok (.getfield 22, 3) := by decide +kernel
theorem dX5_matters_33 : decode cX5_matters 33 = .ok (.iload 4, 2) := by decide +kernel
theorem dX5_matters_35 : decode cX5_matters 35 = .ok (.dup2, 1) := by decide +kernel
theorem dX5_matters_36 : decode cX5_matters 36 = .ok (.iaload, 1) := by decide +kernel
theorem dX5_matters_37 : decode cX5_matters 37 = .ok (.iconst 1, 1) := by decide +kernel
theorem dX5_matters_38 : decode cX5_matters 38 = .ok (.isub, 1) := by decide +kernel
theorem dX5_matters_39 : decode cX5_matters 39 = .ok (.iastore, 1) := by decide +kernel
theorem dX5_matters_40 : decode cX5_matters 40 = .ok (.aload_n 0, 1) := by decide +kernel
theorem dX5_matters_41 : decode cX5_matters 41 = .ok (.iload_n 1, 1) := by decide +kernel
theorem dX5_matters_42 : decode cX5_matters 42 = .ok (.invokevirtual 172, 3) := by decide +kernel
theorem dX5_matters_45 : decode cX5_matters 45 = .ok (.aload_n 0, 1) := by decide +kernel
theorem dX5_matters_46 : decode cX5_matters 46 = .ok (.getfield 22, 3) := by decide +kernel
theorem dX5_matters_49 : decode cX5_matters 49 = .ok (.iload 4, 2) := by decide +kernel
theorem dX5_matters_51 : decode cX5_matters 51 = .ok (.dup2, 1) := by decide +kernel
theorem dX5_matters_52 : decode cX5_matters 52 = .ok (.iaload, 1) := by decide +kernel
theorem dX5_matters_53 : decode cX5_matters 53 = .ok (.iconst 1, 1) := by decide +kernel
theorem dX5_matters_54 : decode cX5_matters 54 = .ok (.iadd, 1) := by decide +kernel
theorem dX5_matters_55 : decode cX5_matters 55 = .ok (.iastore, 1) := by decide +kernel
theorem dX5_matters_56 : decode cX5_matters 56 = .ok (.iload_n 3, 1) := by decide +kernel
theorem dX5_matters_57 : decode cX5_matters 57 = .ok (.aload_n 0, 1) := by decide +kernel
theorem dX5_matters_58 : decode cX5_matters 58 = .ok (.getfield 141, 3) := by decide +kernel
theorem dX5_matters_61 : decode cX5_matters 61 = .ok (.iload_n 2, 1) := by decide +kernel
theorem dX5_matters_62 : decode cX5_matters 62 = .ok (.if_icmp .eq 10, 3) := by decide +kernel
theorem dX5_matters_65 : decode cX5_matters 65 = .ok (.iconst 1, 1) := by decide +kernel
theorem dX5_matters_66 : decode cX5_matters 66 = .ok (.iload 4, 2) := by decide +kernel
theorem dX5_matters_68 : decode cX5_matters 68 = .ok (.ishl, 1) := by decide +kernel
theorem dX5_matters_69 : decode cX5_matters 69 = .ok (.goto 4, 3) := by decide +kernel
theorem dX5_matters_72 : decode cX5_matters 72 = .ok (.iconst 0, 1) := by decide +kernel
theorem dX5_matters_73 : decode cX5_matters 73 = .ok (.ior, 1) := by decide +kernel
theorem dX5_matters_74 : decode cX5_matters 74 = .ok (.istore_n 3, 1) := by decide +kernel
theorem dX5_matters_75 : decode cX5_matters 75 = .ok (.iinc 4 1, 3) := by decide +kernel
theorem dX5_matters_78 : decode cX5_matters 78 = .ok (.goto (-58), 3) := by decide +kernel
theorem dX5_matters_81 : decode cX5_matters 81 = .ok (.iload_n 3, 1) := by decide +kernel
theorem dX5_matters_82 : decode cX5_matters 82 = .ok (.ireturn, 1) := by decide +kernel
set_option maxRecDepth 20000 in
theorem ggX5_rather_X5_isLaw : GoodIn wsX5_rather wsX5_isLaw := goodIn_r _ [7, 8, 9, 6, 10] (by decide +kernel) (by decide +kernel)
set_option maxRecDepth 20000 in
theorem gX5_rather_X5_isLaw : GoodIn wsX5_rather (va_wsS RX5 185 yX5_isLaw wsX5_isLaw) := goodIn_app (goodIn_of _ (by decide +kernel)) ggX5_rather_X5_isLaw
set_option maxRecDepth 20000 in
theorem ggX5_rather_X5_isBallot : GoodIn wsX5_rather wsX5_isBallot := goodIn_r _ [14, 1, 8, 9, 6, 10, 67, 68, 69, 70, 71, 72, 73, 74, 75, 76, 77, 78, 79, 80, 81, 82, 83, 84, 85] (by decide +kernel) (by decide +kernel)
set_option maxRecDepth 20000 in
theorem gX5_rather_X5_isBallot : GoodIn wsX5_rather (wsV RX5 118 RX5 yX5_isBallot wsX5_isBallot) := goodIn_app (goodIn_of _ (by decide +kernel)) ggX5_rather_X5_isBallot
set_option maxRecDepth 20000 in
theorem ggX5_rather_X5_in : GoodIn wsX5_rather wsX5_in := goodIn_r _ [10] (by decide +kernel) (by decide +kernel)
set_option maxRecDepth 20000 in
theorem gX5_rather_X5_in : GoodIn wsX5_rather (va_wsS RX5 48 yX5_in wsX5_in) := goodIn_app (goodIn_of _ (by decide +kernel)) ggX5_rather_X5_in
set_option maxRecDepth 20000 in
theorem ggX5_rather_X5_membersBy : GoodIn wsX5_rather wsX5_membersBy := goodIn_r _ [18, 3, 19, 20, 21, 6, 22, 1, 23, 24, 2, 25, 26, 27, 28, 29, 30, 31, 32, 33, 34, 35, 36, 37, 38, 39, 40, 41, 42, 43, 44, 45, 46, 47, 48, 49, 50, 51, 52, 53, 54, 55, 56, 57, 58, 59, 60, 61, 62, 63, 64, 65, 66, 67, 68, 69, 70, 71, 72, 73, 74, 75, 76, 77, 78, 79, 80, 81, 82, 83, 84, 85] (by decide +kernel) (by decide +kernel)
set_option maxRecDepth 20000 in
theorem gX5_rather_X5_membersBy : GoodIn wsX5_rather (wsV RX5 176 RX5 yX5_membersBy wsX5_membersBy) := goodIn_app (goodIn_of _ (by decide +kernel)) ggX5_rather_X5_membersBy
set_option maxRecDepth 20000 in
theorem ggX5_rather_X5_ones : GoodIn wsX5_rather wsX5_ones := goodIn_r _ [57] (by decide +kernel) (by decide +kernel)
set_option maxRecDepth 20000 in
theorem gX5_rather_X5_ones : GoodIn wsX5_rather (va_wsS RX5 128 yX5_ones wsX5_ones) := goodIn_app (goodIn_of _ (by decide +kernel)) ggX5_rather_X5_ones
set_option maxRecDepth 20000 in
theorem ggX5_rather_X5_elects : GoodIn wsX5_rather wsX5_elects := goodIn_r _ [29, 30, 3, 31, 23, 32, 1, 33, 34, 35, 36, 37, 38, 6, 39, 25, 40, 41, 42, 43, 44, 45, 46, 2, 24, 47, 48, 49, 50, 51, 52, 53, 54, 55, 56, 57, 58, 59, 60, 61, 62, 63, 64, 65, 66, 67, 68, 69, 70, 71, 72, 73, 74, 75, 76, 77, 78, 79, 80, 81, 82, 83, 84, 85] (by decide +kernel) (by decide +kernel)
set_option maxRecDepth 20000 in
theorem gX5_rather_X5_elects : GoodIn wsX5_rather (wsV RX5 172 RX5 yX5_elects wsX5_elects) := goodIn_app (goodIn_of _ (by decide +kernel)) ggX5_rather_X5_elects
theorem dX5_rather_0 : decode cX5_rather 0 = .ok (.iload_n 1, 1) := by decide +kernel
theorem dX5_rather_1 : decode cX5_rather 1 = .ok (.invokestatic 185, 3) := by decide +kernel
theorem dX5_rather_4 : decode cX5_rather 4 = .ok (.ifCond .eq 20, 3) := by decide +kernel
theorem dX5_rather_7 : decode cX5_rather 7 = .ok (.aload_n 0, 1) := by decide +kernel
theorem dX5_rather_8 : decode cX5_rather 8 = .ok (.iload_n 2, 1) := by decide +kernel
theorem dX5_rather_9 : decode cX5_rather 9 = .ok (.invokevirtual 118, 3) := by decide +kernel
theorem dX5_rather_12 : decode cX5_rather 12 = .ok (.ifCond .eq 12, 3) := by decide +kernel
theorem dX5_rather_15 : decode cX5_rather 15 = .ok (.iload_n 3, 1) := by decide +kernel
theorem dX5_rather_16 : decode cX5_rather 16 = .ok (.iconst 0, 1) := by decide +kernel
theorem dX5_rather_17 : decode cX5_rather 17 = .ok (.iconst 1, 1) := by decide +kernel
theorem dX5_rather_18 : decode cX5_rather 18 = .ok (.invokestatic 48, 3) := by decide +kernel
theorem dX5_rather_21 : decode cX5_rather 21 = .ok (.ifCond .ne 5, 3) := by decide +kernel
theorem dX5_rather_24 : decode cX5_rather 24 = .ok (.iconst (-1), 1) := by decide +kernel
theorem dX5_rather_25 : decode cX5_rather 25 = .ok (.ireturn, 1) := by decide +kernel
theorem dX5_rather_26 : decode cX5_rather 26 = .ok (.aload_n 0, 1) := by decide +kernel
theorem dX5_rather_27 : decode cX5_rather 27 = .ok (.getfield 7, 3) := by decide +kernel
theorem dX5_rather_30 : decode cX5_rather 30 = .ok (.bipush 12, 2) := by decide +kernel
theorem dX5_rather_32 : decode cX5_rather 32 = .ok (.iload_n 2, 1) := by decide +kernel
theorem dX5_rather_33 : decode cX5_rather 33 = .ok (.iadd, 1) := by decide +kernel
theorem dX5_rather_34 : decode cX5_rather 34 = .ok (.iaload, 1) := by decide +kernel
theorem dX5_rather_35 : decode cX5_rather 35 = .ok (.istore 4, 2) := by decide +kernel
theorem dX5_rather_37 : decode cX5_rather 37 = .ok (.aload_n 0, 1) := by decide +kernel
theorem dX5_rather_38 : decode cX5_rather 38 = .ok (.iload_n 1, 1) := by decide +kernel
theorem dX5_rather_39 : decode cX5_rather 39 = .ok (.invokevirtual 176, 3) := by decide +kernel
theorem dX5_rather_42 : decode cX5_rather 42 = .ok (.iload 4, 2) := by decide +kernel
theorem dX5_rather_44 : decode cX5_rather 44 = .ok (.iand, 1) := by decide +kernel
theorem dX5_rather_45 : decode cX5_rather 45 = .ok (.invokestatic 128, 3) := by decide +kernel
theorem dX5_rather_48 : decode cX5_rather 48 = .ok (.istore 5, 2) := by decide +kernel
theorem dX5_rather_50 : decode cX5_rather 50 = .ok (.bipush (-4), 2) := by decide +kernel
theorem dX5_rather_52 : decode cX5_rather 52 = .ok (.istore 6, 2) := by decide +kernel
theorem dX5_rather_54 : decode cX5_rather 54 = .ok (.iconst 1, 1) := by decide +kernel
theorem dX5_rather_55 : decode cX5_rather 55 = .ok (.istore 7, 2) := by decide +kernel
theorem dX5_rather_57 : decode cX5_rather 57 = .ok (.iload 7, 2) := by decide +kernel
theorem dX5_rather_59 : decode cX5_rather 59 = .ok (.iconst 1, 1) := by decide +kernel
theorem dX5_rather_60 : decode cX5_rather 60 = .ok (.aload_n 0, 1) := by decide +kernel
theorem dX5_rather_61 : decode cX5_rather 61 = .ok (.getfield 7, 3) := by decide +kernel
theorem dX5_rather_64 : decode cX5_rather 64 = .ok (.iconst 0, 1) := by decide +kernel
theorem dX5_rather_65 : decode cX5_rather 65 = .ok (.iaload, 1) := by decide +kernel
theorem dX5_rather_66 : decode cX5_rather 66 = .ok (.ishl, 1) := by decide +kernel
theorem dX5_rather_67 : decode cX5_rather 67 = .ok (.if_icmp .ge 66, 3) := by decide +kernel
theorem dX5_rather_70 : decode cX5_rather 70 = .ok (.aload_n 0, 1) := by decide +kernel
theorem dX5_rather_71 : decode cX5_rather 71 = .ok (.getfield 25, 3) := by decide +kernel
theorem dX5_rather_74 : decode cX5_rather 74 = .ok (.iload_n 2, 1) := by decide +kernel
theorem dX5_rather_75 : decode cX5_rather 75 = .ok (.iload 7, 2) := by decide +kernel
theorem dX5_rather_77 : decode cX5_rather 77 = .ok (.iastore, 1) := by decide +kernel
theorem dX5_rather_78 : decode cX5_rather 78 = .ok (.aload_n 0, 1) := by decide +kernel
theorem dX5_rather_79 : decode cX5_rather 79 = .ok (.iload_n 1, 1) := by decide +kernel
theorem dX5_rather_80 : decode cX5_rather 80 = .ok (.invokevirtual 172, 3) := by decide +kernel
theorem dX5_rather_83 : decode cX5_rather 83 = .ok (.aload_n 0, 1) := by decide +kernel
theorem dX5_rather_84 : decode cX5_rather 84 = .ok (.getfield 141, 3) := by decide +kernel
theorem dX5_rather_87 : decode cX5_rather 87 = .ok (.iload 4, 2) := by decide +kernel
theorem dX5_rather_89 : decode cX5_rather 89 = .ok (.iand, 1) := by decide +kernel
theorem dX5_rather_90 : decode cX5_rather 90 = .ok (.invokestatic 128, 3) := by decide +kernel
theorem dX5_rather_93 : decode cX5_rather 93 = .ok (.istore 8, 2) := by decide +kernel
theorem dX5_rather_95 : decode cX5_rather 95 = .ok (.iload 8, 2) := by decide +kernel
theorem dX5_rather_97 : decode cX5_rather 97 = .ok (.iload 5, 2) := by decide +kernel
theorem dX5_rather_99 : decode cX5_rather 99 = .ok (.if_icmp .le 8, 3) := by decide +kernel
theorem dX5_rather_102 : decode cX5_rather 102 = .ok (.iload 7, 2) := by decide +kernel
theorem dX5_rather_104 : decode cX5_rather 104 = .ok (.goto 5, 3) := by decide +kernel
theorem dX5_rather_107 : decode cX5_rather 107 = .ok (.iload 6, 2) := by decide +kernel
theorem dX5_rather_109 : decode cX5_rather 109 = .ok (.istore 6, 2) := by decide +kernel
theorem dX5_rather_111 : decode cX5_rather 111 = .ok (.iload 8, 2) := by decide +kernel
theorem dX5_rather_113 : decode cX5_rather 113 = .ok (.iload 5, 2) := by decide +kernel
theorem dX5_rather_115 : decode cX5_rather 115 = .ok (.if_icmp .le 8, 3) := by decide +kernel
theorem dX5_rather_118 : decode cX5_rather 118 = .ok (.iload 8, 2) := by decide +kernel
theorem dX5_rather_120 : decode cX5_rather 120 = .ok (.goto 5, 3) := by decide +kernel
theorem dX5_rather_123 : decode cX5_rather 123 = .ok (.iload 5, 2) := by decide +kernel
theorem dX5_rather_125 : decode cX5_rather 125 = .ok (.istore 5, 2) := by decide +kernel
theorem dX5_rather_127 : decode cX5_rather 127 = .ok (.iinc 7 1, 3) := by decide +kernel
theorem dX5_rather_130 : decode cX5_rather 130 = .ok (.goto (-73), 3) := by decide +kernel
theorem dX5_rather_133 : decode cX5_rather 133 = .ok (.iload 6, 2) := by decide +kernel
theorem dX5_rather_135 : decode cX5_rather 135 = .ok (.bipush (-4), 2) := by decide +kernel
theorem dX5_rather_137 : decode cX5_rather 137 = .ok (.if_icmp .eq 7, 3) := by decide +kernel
theorem dX5_rather_140 : decode cX5_rather 140 = .ok (.iload_n 3, 1) := by decide +kernel
theorem dX5_rather_141 : decode cX5_rather 141 = .ok (.ifCond .ne 8, 3) := by decide +kernel
theorem dX5_rather_144 : decode cX5_rather 144 = .ok (.iload 6, 2) := by decide +kernel
theorem dX5_rather_146 : decode cX5_rather 146 = .ok (.goto 5, 3) := by decide +kernel
theorem dX5_rather_149 : decode cX5_rather 149 = .ok (.iload 5, 2) := by decide +kernel
theorem dX5_rather_151 : decode cX5_rather 151 = .ok (.ireturn, 1) := by decide +kernel
set_option maxRecDepth 20000 in
theorem ggX5_decided_X5_isLaw : GoodIn wsX5_decided wsX5_isLaw := goodIn_r _ [7, 8, 9, 6, 10] (by decide +kernel) (by decide +kernel)
set_option maxRecDepth 20000 in
theorem gX5_decided_X5_isLaw : GoodIn wsX5_decided (va_wsS RX5 185 yX5_isLaw wsX5_isLaw) := goodIn_app (goodIn_of _ (by decide +kernel)) ggX5_decided_X5_isLaw
set_option maxRecDepth 20000 in
theorem ggX5_decided_X5_membersBy : GoodIn wsX5_decided wsX5_membersBy := goodIn_r _ [14, 3, 15, 16, 17, 6, 18, 1, 19, 20, 21, 2, 22, 23, 24, 25, 26, 27, 28, 29, 30, 31, 32, 33, 34, 35, 36, 37, 38, 39, 40, 41, 42, 43, 44, 45, 46, 47, 48, 49, 50, 51, 52, 53, 54, 55, 56, 57, 58, 59, 60, 61, 62, 63, 64, 65, 66, 67, 68, 69, 70, 71, 72, 73, 74, 75, 76, 77, 78, 79, 80, 81] (by decide +kernel) (by decide +kernel)
set_option maxRecDepth 20000 in
theorem gX5_decided_X5_membersBy : GoodIn wsX5_decided (wsV RX5 176 RX5 yX5_membersBy wsX5_membersBy) := goodIn_app (goodIn_of _ (by decide +kernel)) ggX5_decided_X5_membersBy
set_option maxRecDepth 20000 in
theorem ggX5_decided_X5_elects : GoodIn wsX5_decided wsX5_elects := goodIn_r _ [25, 26, 3, 27, 19, 28, 1, 29, 30, 31, 32, 33, 34, 6, 35, 2, 36, 37, 38, 39, 40, 41, 42, 21, 20, 43, 44, 45, 46, 47, 48, 49, 50, 51, 52, 53, 54, 55, 56, 57, 58, 59, 60, 61, 62, 63, 64, 65, 66, 67, 68, 69, 70, 71, 72, 73, 74, 75, 76, 77, 78, 79, 80, 81] (by decide +kernel) (by decide +kernel)
set_option maxRecDepth 20000 in
theorem gX5_decided_X5_elects : GoodIn wsX5_decided (wsV RX5 172 RX5 yX5_elects wsX5_elects) := goodIn_app (goodIn_of _ (by decide +kernel)) ggX5_decided_X5_elects
theorem dX5_decided_0 : decode cX5_decided 0 = .ok (.iload_n 1, 1) := by decide +kernel
theorem dX5_decided_1 : decode cX5_decided 1 = .ok (.invokestatic 185, 3) := by decide +kernel
theorem dX5_decided_4 : decode cX5_decided 4 = .ok (.ifCond .ne 5, 3) := by decide +kernel
theorem dX5_decided_7 : decode cX5_decided 7 = .ok (.iconst (-1), 1) := by decide +kernel
theorem dX5_decided_8 : decode cX5_decided 8 = .ok (.ireturn, 1) := by decide +kernel
theorem dX5_decided_9 : decode cX5_decided 9 = .ok (.aload_n 0, 1) := by decide +kernel
theorem dX5_decided_10 : decode cX5_decided 10 = .ok (.iload_n 1, 1) := by decide +kernel
theorem dX5_decided_11 : decode cX5_decided 11 = .ok (.invokevirtual 176, 3) := by decide +kernel
theorem dX5_decided_14 : decode cX5_decided 14 = .ok (.istore_n 2, 1) := by decide +kernel
theorem dX5_decided_15 : decode cX5_decided 15 = .ok (.aload_n 0, 1) := by decide +kernel
theorem dX5_decided_16 : decode cX5_decided 16 = .ok (.getfield 7, 3) := by decide +kernel
theorem dX5_decided_19 : decode cX5_decided 19 = .ok (.iconst 0, 1) := by decide +kernel
theorem dX5_decided_20 : decode cX5_decided 20 = .ok (.iaload, 1) := by decide +kernel
theorem dX5_decided_21 : decode cX5_decided 21 = .ok (.istore_n 3, 1) := by decide +kernel
theorem dX5_decided_22 : decode cX5_decided 22 = .ok (.iconst 0, 1) := by decide +kernel
theorem dX5_decided_23 : decode cX5_decided 23 = .ok (.istore 4, 2) := by decide +kernel
theorem dX5_decided_25 : decode cX5_decided 25 = .ok (.iload 4, 2) := by decide +kernel
theorem dX5_decided_27 : decode cX5_decided 27 = .ok (.iload_n 3, 1) := by decide +kernel
theorem dX5_decided_28 : decode cX5_decided 28 = .ok (.if_icmp .ge 30, 3) := by decide +kernel
theorem dX5_decided_31 : decode cX5_decided 31 = .ok (.aload_n 0, 1) := by decide +kernel
theorem dX5_decided_32 : decode cX5_decided 32 = .ok (.getfield 28, 3) := by decide +kernel
theorem dX5_decided_35 : decode cX5_decided 35 = .ok (.iload 4, 2) := by decide +kernel
theorem dX5_decided_37 : decode cX5_decided 37 = .ok (.aload_n 0, 1) := by decide +kernel
theorem dX5_decided_38 : decode cX5_decided 38 = .ok (.getfield 7, 3) := by decide +kernel
theorem dX5_decided_41 : decode cX5_decided 41 = .ok (.bipush 24, 2) := by decide +kernel
theorem dX5_decided_43 : decode cX5_decided 43 = .ok (.iload_n 3, 1) := by decide +kernel
theorem dX5_decided_44 : decode cX5_decided 44 = .ok (.iadd, 1) := by decide +kernel
theorem dX5_decided_45 : decode cX5_decided 45 = .ok (.iconst 1, 1) := by decide +kernel
theorem dX5_decided_46 : decode cX5_decided 46 = .ok (.isub, 1) := by decide +kernel
theorem dX5_decided_47 : decode cX5_decided 47 = .ok (.iload 4, 2) := by decide +kernel
theorem dX5_decided_49 : decode cX5_decided 49 = .ok (.isub, 1) := by decide +kernel
theorem dX5_decided_50 : decode cX5_decided 50 = .ok (.iaload, 1) := by decide +kernel
theorem dX5_decided_51 : decode cX5_decided 51 = .ok (.iastore, 1) := by decide +kernel
theorem dX5_decided_52 : decode cX5_decided 52 = .ok (.iinc 4 1, 3) := by decide +kernel
theorem dX5_decided_55 : decode cX5_decided 55 = .ok (.goto (-30), 3) := by decide +kernel
theorem dX5_decided_58 : decode cX5_decided 58 = .ok (.aload_n 0, 1) := by decide +kernel
theorem dX5_decided_59 : decode cX5_decided 59 = .ok (.iload_n 1, 1) := by decide +kernel
theorem dX5_decided_60 : decode cX5_decided 60 = .ok (.invokevirtual 172, 3) := by decide +kernel
theorem dX5_decided_63 : decode cX5_decided 63 = .ok (.aload_n 0, 1) := by decide +kernel
theorem dX5_decided_64 : decode cX5_decided 64 = .ok (.getfield 141, 3) := by decide +kernel
theorem dX5_decided_67 : decode cX5_decided 67 = .ok (.iload_n 2, 1) := by decide +kernel
theorem dX5_decided_68 : decode cX5_decided 68 = .ok (.if_icmp .eq 7, 3) := by decide +kernel
theorem dX5_decided_71 : decode cX5_decided 71 = .ok (.iconst 1, 1) := by decide +kernel
theorem dX5_decided_72 : decode cX5_decided 72 = .ok (.goto 4, 3) := by decide +kernel
theorem dX5_decided_75 : decode cX5_decided 75 = .ok (.iconst 0, 1) := by decide +kernel
theorem dX5_decided_76 : decode cX5_decided 76 = .ok (.ireturn, 1) := by decide +kernel
set_option maxRecDepth 20000 in
theorem ggX5_both_X5_isLaw : GoodIn wsX5_both wsX5_isLaw := goodIn_r _ [4, 5, 6, 3, 7] (by decide +kernel) (by decide +kernel)
set_option maxRecDepth 20000 in
theorem gX5_both_X5_isLaw : GoodIn wsX5_both (va_wsS RX5 185 yX5_isLaw wsX5_isLaw) := goodIn_app (goodIn_of _ (by decide +kernel)) ggX5_both_X5_isLaw
set_option maxRecDepth 20000 in
theorem ggX5_both_X5_membersBy : GoodIn wsX5_both wsX5_membersBy := goodIn_r _ [11, 12, 13, 14, 15, 3, 16, 17, 18, 19, 20, 21, 22, 23, 24, 25, 26, 27, 28, 29, 30, 31, 32, 33, 34, 35, 36, 37, 38, 39, 40, 41, 42, 43, 44, 45, 46, 47, 48, 49, 50, 51, 52, 53, 54, 55, 56, 57, 58, 59, 60, 61, 62, 63, 64, 65, 66, 67, 68, 69, 70, 71, 72, 73, 74, 75, 76, 77, 78, 79, 80, 81] (by decide +kernel) (by decide +kernel)
set_option maxRecDepth 20000 in
theorem gX5_both_X5_membersBy : GoodIn wsX5_both (wsV RX5 176 RX5 yX5_membersBy wsX5_membersBy) := goodIn_app (goodIn_of _ (by decide +kernel)) ggX5_both_X5_membersBy
set_option maxRecDepth 20000 in
theorem ggX5_both_X5_ones : GoodIn wsX5_both wsX5_ones := goodIn_r _ [53] (by decide +kernel) (by decide +kernel)
set_option maxRecDepth 20000 in
theorem gX5_both_X5_ones : GoodIn wsX5_both (va_wsS RX5 128 yX5_ones wsX5_ones) := goodIn_app (goodIn_of _ (by decide +kernel)) ggX5_both_X5_ones
theorem dX5_both_0 : decode cX5_both 0 = .ok (.iload_n 1, 1) := by decide +kernel
theorem dX5_both_1 : decode cX5_both 1 = .ok (.invokestatic 185, 3) := by decide +kernel
theorem dX5_both_4 : decode cX5_both 4 = .ok (.ifCond .eq 10, 3) := by decide +kernel
theorem dX5_both_7 : decode cX5_both 7 = .ok (.iload_n 2, 1) := by decide +kernel
theorem dX5_both_8 : decode cX5_both 8 = .ok (.invokestatic 185, 3) := by decide +kernel
theorem dX5_both_11 : decode cX5_both 11 = .ok (.ifCond .ne 5, 3) := by decide +kernel
theorem dX5_both_14 : decode cX5_both 14 = .ok (.iconst (-1), 1) := by decide +kernel
theorem dX5_both_15 : decode cX5_both 15 = .ok (.ireturn, 1) := by decide +kernel
theorem dX5_both_16 : decode cX5_both 16 = .ok (.aload_n 0, 1) := by decide +kernel
theorem dX5_both_17 : decode cX5_both 17 = .ok (.iload_n 1, 1) := by decide +kernel
theorem dX5_both_18 : decode cX5_both 18 = .ok (.invokevirtual 176, 3) := by decide +kernel
theorem dX5_both_21 : decode cX5_both 21 = .ok (.istore_n 3, 1) := by decide +kernel
theorem dX5_both_22 : decode cX5_both 22 = .ok (.iload_n 3, 1) := by decide +kernel
theorem dX5_both_23 : decode cX5_both 23 = .ok (.aload_n 0, 1) := by decide +kernel
theorem dX5_both_24 : decode cX5_both 24 = .ok (.iload_n 2, 1) := by decide +kernel
theorem dX5_both_25 : decode cX5_both 25 = .ok (.invokevirtual 176, 3) := by decide +kernel
theorem dX5_both_28 : decode cX5_both 28 = .ok (.iand, 1) := by decide +kernel
theorem dX5_both_29 : decode cX5_both 29 = .ok (.invokestatic 128, 3) := by decide +kernel
theorem dX5_both_32 : decode cX5_both 32 = .ok (.ireturn, 1) := by decide +kernel
set_option maxRecDepth 20000 in
theorem ggX5_count_X5_allVoters : GoodIn wsX5_count wsX5_allVoters := goodIn_r _ [8, 1, 12, 13, 14, 15, 16, 17, 18, 19, 20, 21, 22, 23, 24, 25, 26, 27, 28, 29, 30] (by decide +kernel) (by decide +kernel)
set_option maxRecDepth 20000 in
theorem gX5_count_X5_allVoters : GoodIn wsX5_count (wsV RX5 115 RX5 yX5_allVoters wsX5_allVoters) := goodIn_app (goodIn_of _ (by decide +kernel)) ggX5_count_X5_allVoters
set_option maxRecDepth 20000 in
theorem ggX5_count_X5_ones : GoodIn wsX5_count wsX5_ones := goodIn_r _ [11] (by decide +kernel) (by decide +kernel)
set_option maxRecDepth 20000 in
theorem gX5_count_X5_ones : GoodIn wsX5_count (va_wsS RX5 128 yX5_ones wsX5_ones) := goodIn_app (goodIn_of _ (by decide +kernel)) ggX5_count_X5_ones
theorem dX5_count_0 : decode cX5_count 0 = .ok (.iload_n 1, 1) := by decide +kernel
theorem dX5_count_1 : decode cX5_count 1 = .ok (.tableswitch 91 0 6 #[43, 50, 57, 62, 70, 81, 86], 43) := by decide +kernel
theorem dX5_count_44 : decode cX5_count 44 = .ok (.aload_n 0, 1) := by decide +kernel
theorem dX5_count_45 : decode cX5_count 45 = .ok (.getfield 7, 3) := by decide +kernel
theorem dX5_count_48 : decode cX5_count 48 = .ok (.iconst 0, 1) := by decide +kernel
theorem dX5_count_49 : decode cX5_count 49 = .ok (.iaload, 1) := by decide +kernel
theorem dX5_count_50 : decode cX5_count 50 = .ok (.ireturn, 1) := by decide +kernel
theorem dX5_count_51 : decode cX5_count 51 = .ok (.aload_n 0, 1) := by decide +kernel
theorem dX5_count_52 : decode cX5_count 52 = .ok (.getfield 7, 3) := by decide +kernel
theorem dX5_count_55 : decode cX5_count 55 = .ok (.iconst 1, 1) := by decide +kernel
theorem dX5_count_56 : decode cX5_count 56 = .ok (.iaload, 1) := by decide +kernel
theorem dX5_count_57 : decode cX5_count 57 = .ok (.ireturn, 1) := by decide +kernel
theorem dX5_count_58 : decode cX5_count 58 = .ok (.aload_n 0, 1) := by decide +kernel
theorem dX5_count_59 : decode cX5_count 59 = .ok (.invokevirtual 115, 3) := by decide +kernel
theorem dX5_count_62 : decode cX5_count 62 = .ok (.ireturn, 1) := by decide +kernel
theorem dX5_count_63 : decode cX5_count 63 = .ok (.aload_n 0, 1) := by decide +kernel
theorem dX5_count_64 : decode cX5_count 64 = .ok (.getfield 7, 3) := by decide +kernel
theorem dX5_count_67 : decode cX5_count 67 = .ok (.bipush 22, 2) := by decide +kernel
theorem dX5_count_69 : decode cX5_count 69 = .ok (.iaload, 1) := by decide +kernel
theorem dX5_count_70 : decode cX5_count 70 = .ok (.ireturn, 1) := by decide +kernel
theorem dX5_count_71 : decode cX5_count 71 = .ok (.aload_n 0, 1) := by decide +kernel
theorem dX5_count_72 : decode cX5_count 72 = .ok (.getfield 7, 3) := by decide +kernel
theorem dX5_count_75 : decode cX5_count 75 = .ok (.bipush 23, 2) := by decide +kernel
theorem dX5_count_77 : decode cX5_count 77 = .ok (.iaload, 1) := by decide +kernel
theorem dX5_count_78 : decode cX5_count 78 = .ok (.invokestatic 128, 3) := by decide +kernel
theorem dX5_count_81 : decode cX5_count 81 = .ok (.ireturn, 1) := by decide +kernel
theorem dX5_count_82 : decode cX5_count 82 = .ok (.aload_n 0, 1) := by decide +kernel
theorem dX5_count_83 : decode cX5_count 83 = .ok (.getfield 106, 3) := by decide +kernel
theorem dX5_count_86 : decode cX5_count 86 = .ok (.ireturn, 1) := by decide +kernel
theorem dX5_count_87 : decode cX5_count 87 = .ok (.aload_n 0, 1) := by decide +kernel
theorem dX5_count_88 : decode cX5_count 88 = .ok (.getfield 52, 3) := by decide +kernel
theorem dX5_count_91 : decode cX5_count 91 = .ok (.ireturn, 1) := by decide +kernel
theorem dX5_count_92 : decode cX5_count 92 = .ok (.iconst (-1), 1) := by decide +kernel
theorem dX5_count_93 : decode cX5_count 93 = .ok (.ireturn, 1) := by decide +kernel
