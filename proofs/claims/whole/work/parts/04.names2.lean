set_option maxRecDepth 20000 in
theorem ggX4_init_X3_init : GoodIn wsX4_init wsX3_init := goodIn_r _ [22, 23, 2, 3, 24, 25, 160, 161] (by decide +kernel) (by decide +kernel)
set_option maxRecDepth 20000 in
theorem gX4_init_X3_init_n11 : GoodIn wsX4_init (wsX3_init) := ggX4_init_X3_init
set_option maxRecDepth 20000 in
theorem ggX4_init_X0_init : GoodIn wsX4_init wsX0_init := goodIn_r _ [27, 28, 2, 3, 24, 29, 30, 31, 167, 168, 169, 170, 171, 172, 173] (by decide +kernel) (by decide +kernel)
set_option maxRecDepth 20000 in
theorem gX4_init_X0_init_n18 : GoodIn wsX4_init (wsX0_init) := ggX4_init_X0_init
set_option maxRecDepth 20000 in
theorem ggX4_init_X2_init : GoodIn wsX4_init wsX2_init := goodIn_r _ [33, 34, 2, 3, 35, 36, 9, 10, 26, 27, 28, 24, 29, 30, 31, 174, 175, 176, 167, 168, 169, 170, 171, 172, 173] (by decide +kernel) (by decide +kernel)
set_option maxRecDepth 20000 in
theorem gX4_init_X2_init_n28 : GoodIn wsX4_init (wsX2_init) := ggX4_init_X2_init
set_option maxRecDepth 20000 in
theorem ggX4_init_X1_init : GoodIn wsX4_init wsX1_init := goodIn_r _ [38, 39, 2, 3, 24, 40, 41, 42, 43, 44, 45, 46, 177, 178, 179, 180, 181, 182, 183, 184, 185] (by decide +kernel) (by decide +kernel)
set_option maxRecDepth 20000 in
theorem gX4_init_X1_init_n35 : GoodIn wsX4_init (wsX1_init) := ggX4_init_X1_init
set_option maxRecDepth 20000 in
theorem ggX4_init_J0_length_8abf5 : GoodIn wsX4_init wsJ0_length_8abf5 := goodIn_r _ [51, 52, 53, 54, 55, 50, 56, 57, 58] (by decide +kernel) (by decide +kernel)
set_option maxRecDepth 20000 in
theorem gX4_init_J0_length_8abf5 : GoodIn wsX4_init (wsV RX4 42 RJ0 yJ0_length_8abf5 wsJ0_length_8abf5) := goodIn_app (goodIn_of _ (by decide +kernel)) ggX4_init_J0_length_8abf5
set_option maxRecDepth 20000 in
theorem ggX4_init_J0_charAt_5068e : GoodIn wsX4_init wsJ0_charAt_5068e := goodIn_r _ [62, 52, 63, 64, 65, 50, 66, 57, 58, 67, 68, 69, 70, 71, 72, 73, 74, 75, 76, 77, 78, 79, 80, 81, 82, 83, 84, 85, 86, 87, 88, 89, 90, 91, 92, 93, 94, 95] (by decide +kernel) (by decide +kernel)
set_option maxRecDepth 20000 in
theorem gX4_init_J0_charAt_5068e : GoodIn wsX4_init (wsV RX4 48 RJ0 yJ0_charAt_5068e wsJ0_charAt_5068e) := goodIn_app (goodIn_of _ (by decide +kernel)) ggX4_init_J0_charAt_5068e
set_option maxRecDepth 20000 in
theorem ggX4_init_X3_add : GoodIn wsX4_init wsX3_add := goodIn_r _ [98, 99, 25, 160, 161] (by decide +kernel) (by decide +kernel)
set_option maxRecDepth 20000 in
theorem gX4_init_X3_add_n52 : GoodIn wsX4_init (wsX3_add) := ggX4_init_X3_add
set_option maxRecDepth 20000 in
theorem ggX4_init_X3_readInto : GoodIn wsX4_init wsX3_readInto := goodIn_r _ [102, 99, 25, 103, 10, 104, 105, 106, 107, 108, 109, 31, 110, 111, 112, 6, 113, 114, 115, 116, 117, 118, 119, 120, 121, 122, 123, 124, 125, 126, 127, 128, 129, 130, 131, 132, 133, 134, 135, 136, 137, 138, 139, 29, 140, 141, 142, 143, 30, 144, 145, 146, 147, 148, 149, 150, 151, 152, 153, 154, 155, 156, 160, 161, 167, 168, 169, 170, 171, 172, 173] (by decide +kernel) (by decide +kernel)
set_option maxRecDepth 20000 in
theorem gX4_init_X3_readInto_n56 : GoodIn wsX4_init (wsX3_readInto) := ggX4_init_X3_readInto
set_option maxRecDepth 20000 in
theorem ggX4_init_X3_clear : GoodIn wsX4_init wsX3_clear := goodIn_r _ [159, 99, 160, 161] (by decide +kernel) (by decide +kernel)
set_option maxRecDepth 20000 in
theorem gX4_init_X3_clear_n60 : GoodIn wsX4_init (wsX3_clear) := ggX4_init_X3_clear
theorem dX4_init_0 : decode cX4_init 0 = .ok (.aload_n 0, 1) := by decide +kernel
theorem dX4_init_1 : decode cX4_init 1 = .ok (.invokespecial 3, 3) := by decide +kernel
theorem dX4_init_4 : decode cX4_init 4 = .ok (.aload_n 0, 1) := by decide +kernel
theorem dX4_init_5 : decode cX4_init 5 = .ok (.new 9, 3) := by decide +kernel
theorem dX4_init_8 : decode cX4_init 8 = .ok (.dup, 1) := by decide +kernel
theorem dX4_init_9 : decode cX4_init 9 = .ok (.invokespecial 11, 3) := by decide +kernel
theorem dX4_init_12 : decode cX4_init 12 = .ok (.putfield 12, 3) := by decide +kernel
theorem dX4_init_15 : decode cX4_init 15 = .ok (.aload_n 0, 1) := by decide +kernel
theorem dX4_init_16 : decode cX4_init 16 = .ok (.new 16, 3) := by decide +kernel
theorem dX4_init_19 : decode cX4_init 19 = .ok (.dup, 1) := by decide +kernel
theorem dX4_init_20 : decode cX4_init 20 = .ok (.invokespecial 18, 3) := by decide +kernel
theorem dX4_init_23 : decode cX4_init 23 = .ok (.putfield 19, 3) := by decide +kernel
theorem dX4_init_26 : decode cX4_init 26 = .ok (.aload_n 0, 1) := by decide +kernel
theorem dX4_init_27 : decode cX4_init 27 = .ok (.new 16, 3) := by decide +kernel
theorem dX4_init_30 : decode cX4_init 30 = .ok (.dup, 1) := by decide +kernel
theorem dX4_init_31 : decode cX4_init 31 = .ok (.invokespecial 18, 3) := by decide +kernel
theorem dX4_init_34 : decode cX4_init 34 = .ok (.putfield 23, 3) := by decide +kernel
theorem dX4_init_37 : decode cX4_init 37 = .ok (.aload_n 0, 1) := by decide +kernel
theorem dX4_init_38 : decode cX4_init 38 = .ok (.new 26, 3) := by decide +kernel
theorem dX4_init_41 : decode cX4_init 41 = .ok (.dup, 1) := by decide +kernel
theorem dX4_init_42 : decode cX4_init 42 = .ok (.invokespecial 28, 3) := by decide +kernel
theorem dX4_init_45 : decode cX4_init 45 = .ok (.putfield 29, 3) := by decide +kernel
theorem dX4_init_48 : decode cX4_init 48 = .ok (.aload_n 0, 1) := by decide +kernel
theorem dX4_init_49 : decode cX4_init 49 = .ok (.new 33, 3) := by decide +kernel
theorem dX4_init_52 : decode cX4_init 52 = .ok (.dup, 1) := by decide +kernel
theorem dX4_init_53 : decode cX4_init 53 = .ok (.invokespecial 35, 3) := by decide +kernel
theorem dX4_init_56 : decode cX4_init 56 = .ok (.putfield 36, 3) := by decide +kernel
theorem dX4_init_59 : decode cX4_init 59 = .ok (.iconst 0, 1) := by decide +kernel
theorem dX4_init_60 : decode cX4_init 60 = .ok (.istore_n 1, 1) := by decide +kernel
theorem dX4_init_61 : decode cX4_init 61 = .ok (.iload_n 1, 1) := by decide +kernel
theorem dX4_init_62 : decode cX4_init 62 = .ok (.ldc 40, 2) := by decide +kernel
theorem dX4_init_64 : decode cX4_init 64 = .ok (.invokevirtual 42, 3) := by decide +kernel
theorem dX4_init_67 : decode cX4_init 67 = .ok (.if_icmp .ge 23, 3) := by decide +kernel
theorem dX4_init_70 : decode cX4_init 70 = .ok (.aload_n 0, 1) := by decide +kernel
theorem dX4_init_71 : decode cX4_init 71 = .ok (.getfield 12, 3) := by decide +kernel
theorem dX4_init_74 : decode cX4_init 74 = .ok (.ldc 40, 2) := by decide +kernel
theorem dX4_init_76 : decode cX4_init 76 = .ok (.iload_n 1, 1) := by decide +kernel
theorem dX4_init_77 : decode cX4_init 77 = .ok (.invokevirtual 48, 3) := by decide +kernel
theorem dX4_init_80 : decode cX4_init 80 = .ok (.invokevirtual 52, 3) := by decide +kernel
theorem dX4_init_83 : decode cX4_init 83 = .ok (.pop, 1) := by decide +kernel
theorem dX4_init_84 : decode cX4_init 84 = .ok (.iinc 1 1, 3) := by decide +kernel
theorem dX4_init_87 : decode cX4_init 87 = .ok (.goto (-26), 3) := by decide +kernel
theorem dX4_init_90 : decode cX4_init 90 = .ok (.aload_n 0, 1) := by decide +kernel
theorem dX4_init_91 : decode cX4_init 91 = .ok (.getfield 12, 3) := by decide +kernel
theorem dX4_init_94 : decode cX4_init 94 = .ok (.aload_n 0, 1) := by decide +kernel
theorem dX4_init_95 : decode cX4_init 95 = .ok (.getfield 19, 3) := by decide +kernel
theorem dX4_init_98 : decode cX4_init 98 = .ok (.invokevirtual 56, 3) := by decide +kernel
theorem dX4_init_101 : decode cX4_init 101 = .ok (.pop, 1) := by decide +kernel
theorem dX4_init_102 : decode cX4_init 102 = .ok (.aload_n 0, 1) := by decide +kernel
theorem dX4_init_103 : decode cX4_init 103 = .ok (.getfield 12, 3) := by decide +kernel
theorem dX4_init_106 : decode cX4_init 106 = .ok (.invokevirtual 60, 3) := by decide +kernel
theorem dX4_init_109 : decode cX4_init 109 = .ok (.return_, 1) := by decide +kernel
set_option maxRecDepth 20000 in
theorem ggX4_write_X3_add : GoodIn wsX4_write wsX3_add := goodIn_r _ [5, 6, 7, 13, 14] (by decide +kernel) (by decide +kernel)
set_option maxRecDepth 20000 in
theorem gX4_write_X3_add_n52 : GoodIn wsX4_write (wsX3_add) := ggX4_write_X3_add
theorem dX4_write_0 : decode cX4_write 0 = .ok (.iload_n 1, 1) := by decide +kernel
theorem dX4_write_1 : decode cX4_write 1 = .ok (.bipush 32, 2) := by decide +kernel
theorem dX4_write_3 : decode cX4_write 3 = .ok (.if_icmp .lt 9, 3) := by decide +kernel
theorem dX4_write_6 : decode cX4_write 6 = .ok (.iload_n 1, 1) := by decide +kernel
theorem dX4_write_7 : decode cX4_write 7 = .ok (.bipush 126, 2) := by decide +kernel
theorem dX4_write_9 : decode cX4_write 9 = .ok (.if_icmp .le 5, 3) := by decide +kernel
theorem dX4_write_12 : decode cX4_write 12 = .ok (.iconst (-1), 1) := by decide +kernel
theorem dX4_write_13 : decode cX4_write 13 = .ok (.ireturn, 1) := by decide +kernel
theorem dX4_write_14 : decode cX4_write 14 = .ok (.aload_n 0, 1) := by decide +kernel
theorem dX4_write_15 : decode cX4_write 15 = .ok (.getfield 12, 3) := by decide +kernel
theorem dX4_write_18 : decode cX4_write 18 = .ok (.iload_n 1, 1) := by decide +kernel
theorem dX4_write_19 : decode cX4_write 19 = .ok (.invokevirtual 52, 3) := by decide +kernel
theorem dX4_write_22 : decode cX4_write 22 = .ok (.ifCond .eq 13, 3) := by decide +kernel
theorem dX4_write_25 : decode cX4_write 25 = .ok (.aload_n 0, 1) := by decide +kernel
theorem dX4_write_26 : decode cX4_write 26 = .ok (.getfield 12, 3) := by decide +kernel
theorem dX4_write_29 : decode cX4_write 29 = .ok (.getfield 63, 3) := by decide +kernel
theorem dX4_write_32 : decode cX4_write 32 = .ok (.goto 5, 3) := by decide +kernel
theorem dX4_write_35 : decode cX4_write 35 = .ok (.bipush (-3), 2) := by decide +kernel
theorem dX4_write_37 : decode cX4_write 37 = .ok (.ireturn, 1) := by decide +kernel
set_option maxRecDepth 20000 in
theorem ggX4_wipe_X3_clear : GoodIn wsX4_wipe wsX3_clear := goodIn_r _ [5, 6, 12, 13] (by decide +kernel) (by decide +kernel)
set_option maxRecDepth 20000 in
theorem gX4_wipe_X3_clear_n60 : GoodIn wsX4_wipe (wsX3_clear) := ggX4_wipe_X3_clear
theorem dX4_wipe_0 : decode cX4_wipe 0 = .ok (.aload_n 0, 1) := by decide +kernel
theorem dX4_wipe_1 : decode cX4_wipe 1 = .ok (.getfield 12, 3) := by decide +kernel
theorem dX4_wipe_4 : decode cX4_wipe 4 = .ok (.getfield 63, 3) := by decide +kernel
theorem dX4_wipe_7 : decode cX4_wipe 7 = .ok (.istore_n 1, 1) := by decide +kernel
theorem dX4_wipe_8 : decode cX4_wipe 8 = .ok (.aload_n 0, 1) := by decide +kernel
theorem dX4_wipe_9 : decode cX4_wipe 9 = .ok (.getfield 12, 3) := by decide +kernel
theorem dX4_wipe_12 : decode cX4_wipe 12 = .ok (.invokevirtual 60, 3) := by decide +kernel
theorem dX4_wipe_15 : decode cX4_wipe 15 = .ok (.iload_n 1, 1) := by decide +kernel
theorem dX4_wipe_16 : decode cX4_wipe 16 = .ok (.ireturn, 1) := by decide +kernel
set_option maxRecDepth 20000 in
theorem ggX4_fault_X3_readInto : GoodIn wsX4_fault wsX3_readInto := goodIn_r _ [6, 7, 8, 9, 10, 11, 12, 13, 14, 15, 16, 17, 18, 19, 20, 4, 21, 22, 23, 24, 25, 26, 27, 28, 29, 30, 31, 32, 33, 34, 35, 36, 37, 38, 39, 40, 41, 42, 43, 44, 45, 46, 47, 48, 49, 50, 51, 52, 53, 54, 55, 56, 57, 58, 59, 60, 61, 62, 63, 64, 65, 66, 72, 73, 74, 75, 76, 77, 78, 79, 80] (by decide +kernel) (by decide +kernel)
set_option maxRecDepth 20000 in
theorem gX4_fault_X3_readInto_n56 : GoodIn wsX4_fault (wsX3_readInto) := ggX4_fault_X3_readInto
theorem dX4_fault_0 : decode cX4_fault 0 = .ok (.aload_n 0, 1) := by decide +kernel
theorem dX4_fault_1 : decode cX4_fault 1 = .ok (.getfield 12, 3) := by decide +kernel
theorem dX4_fault_4 : decode cX4_fault 4 = .ok (.aload_n 0, 1) := by decide +kernel
theorem dX4_fault_5 : decode cX4_fault 5 = .ok (.getfield 23, 3) := by decide +kernel
theorem dX4_fault_8 : decode cX4_fault 8 = .ok (.invokevirtual 56, 3) := by decide +kernel
theorem dX4_fault_11 : decode cX4_fault 11 = .ok (.ireturn, 1) := by decide +kernel
set_option maxRecDepth 20000 in
theorem ggX4_lay_X3_readInto : GoodIn wsX4_lay wsX3_readInto := goodIn_r _ [8, 9, 10, 11, 12, 13, 14, 15, 16, 17, 18, 19, 20, 21, 22, 6, 23, 24, 25, 26, 27, 28, 29, 30, 31, 32, 33, 34, 35, 36, 37, 38, 39, 40, 41, 42, 43, 44, 45, 46, 47, 48, 49, 50, 51, 52, 53, 54, 55, 56, 57, 58, 59, 60, 61, 62, 63, 64, 65, 66, 67, 68, 93, 94, 86, 87, 88, 89, 90, 91, 92] (by decide +kernel) (by decide +kernel)
set_option maxRecDepth 20000 in
theorem gX4_lay_X3_readInto_n56 : GoodIn wsX4_lay (wsX3_readInto) := ggX4_lay_X3_readInto
set_option maxRecDepth 20000 in
theorem ggX4_lay_X0_copyFrom : GoodIn wsX4_lay wsX0_copyFrom := goodIn_r _ [71, 15, 16, 17, 18, 50, 72, 73, 74, 75, 55, 19, 86, 87, 88, 89, 90, 91, 92] (by decide +kernel) (by decide +kernel)
set_option maxRecDepth 20000 in
theorem gX4_lay_X0_copyFrom_n69 : GoodIn wsX4_lay (wsX0_copyFrom) := ggX4_lay_X0_copyFrom
set_option maxRecDepth 20000 in
theorem ggX4_lay_X2_forget : GoodIn wsX4_lay wsX2_forget := goodIn_r _ [79, 80, 95, 96, 97] (by decide +kernel) (by decide +kernel)
set_option maxRecDepth 20000 in
theorem gX4_lay_X2_forget_n73 : GoodIn wsX4_lay (wsX2_forget) := ggX4_lay_X2_forget
theorem dX4_lay_0 : decode cX4_lay 0 = .ok (.aload_n 0, 1) := by decide +kernel
theorem dX4_lay_1 : decode cX4_lay 1 = .ok (.getfield 12, 3) := by decide +kernel
theorem dX4_lay_4 : decode cX4_lay 4 = .ok (.aload_n 0, 1) := by decide +kernel
theorem dX4_lay_5 : decode cX4_lay 5 = .ok (.getfield 23, 3) := by decide +kernel
theorem dX4_lay_8 : decode cX4_lay 8 = .ok (.invokevirtual 56, 3) := by decide +kernel
theorem dX4_lay_11 : decode cX4_lay 11 = .ok (.bipush (-4), 2) := by decide +kernel
theorem dX4_lay_13 : decode cX4_lay 13 = .ok (.if_icmp .ne 13, 3) := by decide +kernel
theorem dX4_lay_16 : decode cX4_lay 16 = .ok (.aload_n 0, 1) := by decide +kernel
theorem dX4_lay_17 : decode cX4_lay 17 = .ok (.getfield 23, 3) := by decide +kernel
theorem dX4_lay_20 : decode cX4_lay 20 = .ok (.getfield 66, 3) := by decide +kernel
theorem dX4_lay_23 : decode cX4_lay 23 = .ok (.ifCond .ne 6, 3) := by decide +kernel
theorem dX4_lay_26 : decode cX4_lay 26 = .ok (.bipush (-2), 2) := by decide +kernel
theorem dX4_lay_28 : decode cX4_lay 28 = .ok (.ireturn, 1) := by decide +kernel
theorem dX4_lay_29 : decode cX4_lay 29 = .ok (.aload_n 0, 1) := by decide +kernel
theorem dX4_lay_30 : decode cX4_lay 30 = .ok (.getfield 19, 3) := by decide +kernel
theorem dX4_lay_33 : decode cX4_lay 33 = .ok (.aload_n 0, 1) := by decide +kernel
theorem dX4_lay_34 : decode cX4_lay 34 = .ok (.getfield 23, 3) := by decide +kernel
theorem dX4_lay_37 : decode cX4_lay 37 = .ok (.invokevirtual 69, 3) := by decide +kernel
theorem dX4_lay_40 : decode cX4_lay 40 = .ok (.aload_n 0, 1) := by decide +kernel
theorem dX4_lay_41 : decode cX4_lay 41 = .ok (.getfield 29, 3) := by decide +kernel
theorem dX4_lay_44 : decode cX4_lay 44 = .ok (.invokevirtual 73, 3) := by decide +kernel
theorem dX4_lay_47 : decode cX4_lay 47 = .ok (.aload_n 0, 1) := by decide +kernel
theorem dX4_lay_48 : decode cX4_lay 48 = .ok (.getfield 19, 3) := by decide +kernel
theorem dX4_lay_51 : decode cX4_lay 51 = .ok (.getfield 66, 3) := by decide +kernel
theorem dX4_lay_54 : decode cX4_lay 54 = .ok (.ireturn, 1) := by decide +kernel
set_option maxRecDepth 20000 in
theorem ggX4_ballot_X4_isVoters : GoodIn wsX4_ballot wsX4_isVoters := goodIn_r _ [6] (by decide +kernel) (by decide +kernel)
set_option maxRecDepth 20000 in
theorem gX4_ballot_X4_isVoters : GoodIn wsX4_ballot (va_wsS RX4 76 yX4_isVoters wsX4_isVoters) := goodIn_app (goodIn_of _ (by decide +kernel)) ggX4_ballot_X4_isVoters
set_option maxRecDepth 20000 in
theorem ggX4_ballot_X4_isSet : GoodIn wsX4_ballot wsX4_isSet := goodIn_r _ [10, 1, 51, 52, 53, 54, 55, 56, 57, 58, 59, 60, 61, 62] (by decide +kernel) (by decide +kernel)
set_option maxRecDepth 20000 in
theorem gX4_ballot_X4_isSet : GoodIn wsX4_ballot (wsV RX4 79 RX4 yX4_isSet wsX4_isSet) := goodIn_app (goodIn_of _ (by decide +kernel)) ggX4_ballot_X4_isSet
set_option maxRecDepth 20000 in
theorem ggX4_ballot_X0_allVoters : GoodIn wsX4_ballot wsX0_allVoters := goodIn_r _ [14, 15, 16, 17, 12, 18, 19, 20, 21, 22, 23, 24, 25, 56, 57, 58, 59, 60, 61, 62] (by decide +kernel) (by decide +kernel)
set_option maxRecDepth 20000 in
theorem gX4_ballot_X0_allVoters_n85 : GoodIn wsX4_ballot (wsX0_allVoters) := ggX4_ballot_X0_allVoters
set_option maxRecDepth 20000 in
theorem ggX4_ballot_X2_keep : GoodIn wsX4_ballot wsX2_keep := goodIn_r _ [29, 30, 31, 32, 33, 34, 35, 36, 37, 12, 38, 39, 40, 19, 41, 42, 20, 43, 44, 45, 46, 25, 47, 63, 64, 65, 56, 57, 58, 59, 60, 61, 62] (by decide +kernel) (by decide +kernel)
set_option maxRecDepth 20000 in
theorem gX4_ballot_X2_keep_n88 : GoodIn wsX4_ballot (wsX2_keep) := ggX4_ballot_X2_keep
set_option maxRecDepth 20000 in
theorem ggX4_ballot_X0_addBallot : GoodIn wsX4_ballot wsX0_addBallot := goodIn_r _ [50, 19, 20, 25, 56, 57, 58, 59, 60, 61, 62] (by decide +kernel) (by decide +kernel)
set_option maxRecDepth 20000 in
theorem gX4_ballot_X0_addBallot_n91 : GoodIn wsX4_ballot (wsX0_addBallot) := ggX4_ballot_X0_addBallot
theorem dX4_ballot_0 : decode cX4_ballot 0 = .ok (.iload_n 1, 1) := by decide +kernel
theorem dX4_ballot_1 : decode cX4_ballot 1 = .ok (.invokestatic 76, 3) := by decide +kernel
theorem dX4_ballot_4 : decode cX4_ballot 4 = .ok (.ifCond .eq 11, 3) := by decide +kernel
theorem dX4_ballot_7 : decode cX4_ballot 7 = .ok (.aload_n 0, 1) := by decide +kernel
theorem dX4_ballot_8 : decode cX4_ballot 8 = .ok (.iload_n 2, 1) := by decide +kernel
theorem dX4_ballot_9 : decode cX4_ballot 9 = .ok (.invokevirtual 79, 3) := by decide +kernel
theorem dX4_ballot_12 : decode cX4_ballot 12 = .ok (.ifCond .ne 5, 3) := by decide +kernel
theorem dX4_ballot_15 : decode cX4_ballot 15 = .ok (.iconst (-1), 1) := by decide +kernel
theorem dX4_ballot_16 : decode cX4_ballot 16 = .ok (.ireturn, 1) := by decide +kernel
theorem dX4_ballot_17 : decode cX4_ballot 17 = .ok (.aload_n 0, 1) := by decide +kernel
theorem dX4_ballot_18 : decode cX4_ballot 18 = .ok (.getfield 19, 3) := by decide +kernel
theorem dX4_ballot_21 : decode cX4_ballot 21 = .ok (.getfield 82, 3) := by decide +kernel
theorem dX4_ballot_24 : decode cX4_ballot 24 = .ok (.bipush 10, 2) := by decide +kernel
theorem dX4_ballot_26 : decode cX4_ballot 26 = .ok (.if_icmp .ge 17, 3) := by decide +kernel
theorem dX4_ballot_29 : decode cX4_ballot 29 = .ok (.aload_n 0, 1) := by decide +kernel
theorem dX4_ballot_30 : decode cX4_ballot 30 = .ok (.getfield 19, 3) := by decide +kernel
theorem dX4_ballot_33 : decode cX4_ballot 33 = .ok (.invokevirtual 85, 3) := by decide +kernel
theorem dX4_ballot_36 : decode cX4_ballot 36 = .ok (.iload_n 1, 1) := by decide +kernel
theorem dX4_ballot_37 : decode cX4_ballot 37 = .ok (.iadd, 1) := by decide +kernel
theorem dX4_ballot_38 : decode cX4_ballot 38 = .ok (.bipush 40, 2) := by decide +kernel
theorem dX4_ballot_40 : decode cX4_ballot 40 = .ok (.if_icmp .le 6, 3) := by decide +kernel
theorem dX4_ballot_43 : decode cX4_ballot 43 = .ok (.bipush (-3), 2) := by decide +kernel
theorem dX4_ballot_45 : decode cX4_ballot 45 = .ok (.ireturn, 1) := by decide +kernel
theorem dX4_ballot_46 : decode cX4_ballot 46 = .ok (.aload_n 0, 1) := by decide +kernel
theorem dX4_ballot_47 : decode cX4_ballot 47 = .ok (.getfield 29, 3) := by decide +kernel
theorem dX4_ballot_50 : decode cX4_ballot 50 = .ok (.aload_n 0, 1) := by decide +kernel
theorem dX4_ballot_51 : decode cX4_ballot 51 = .ok (.getfield 19, 3) := by decide +kernel
theorem dX4_ballot_54 : decode cX4_ballot 54 = .ok (.invokevirtual 88, 3) := by decide +kernel
theorem dX4_ballot_57 : decode cX4_ballot 57 = .ok (.aload_n 0, 1) := by decide +kernel
theorem dX4_ballot_58 : decode cX4_ballot 58 = .ok (.getfield 19, 3) := by decide +kernel
theorem dX4_ballot_61 : decode cX4_ballot 61 = .ok (.iload_n 1, 1) := by decide +kernel
theorem dX4_ballot_62 : decode cX4_ballot 62 = .ok (.iload_n 2, 1) := by decide +kernel
theorem dX4_ballot_63 : decode cX4_ballot 63 = .ok (.invokevirtual 91, 3) := by decide +kernel
theorem dX4_ballot_66 : decode cX4_ballot 66 = .ok (.aload_n 0, 1) := by decide +kernel
theorem dX4_ballot_67 : decode cX4_ballot 67 = .ok (.getfield 19, 3) := by decide +kernel
theorem dX4_ballot_70 : decode cX4_ballot 70 = .ok (.getfield 82, 3) := by decide +kernel
theorem dX4_ballot_73 : decode cX4_ballot 73 = .ok (.iconst 1, 1) := by decide +kernel
theorem dX4_ballot_74 : decode cX4_ballot 74 = .ok (.isub, 1) := by decide +kernel
theorem dX4_ballot_75 : decode cX4_ballot 75 = .ok (.ireturn, 1) := by decide +kernel
set_option maxRecDepth 20000 in
theorem ggX4_voters_X4_isBallot : GoodIn wsX4_voters wsX4_isBallot := goodIn_r _ [7, 1, 48, 49, 50, 51, 52, 53, 54, 55, 56, 57, 58, 59] (by decide +kernel) (by decide +kernel)
set_option maxRecDepth 20000 in
theorem gX4_voters_X4_isBallot : GoodIn wsX4_voters (wsV RX4 95 RX4 yX4_isBallot wsX4_isBallot) := goodIn_app (goodIn_of _ (by decide +kernel)) ggX4_voters_X4_isBallot
set_option maxRecDepth 20000 in
theorem ggX4_voters_X4_isVoters : GoodIn wsX4_voters wsX4_isVoters := goodIn_r _ [10] (by decide +kernel) (by decide +kernel)
set_option maxRecDepth 20000 in
theorem gX4_voters_X4_isVoters : GoodIn wsX4_voters (va_wsS RX4 76 yX4_isVoters wsX4_isVoters) := goodIn_app (goodIn_of _ (by decide +kernel)) ggX4_voters_X4_isVoters
set_option maxRecDepth 20000 in
theorem ggX4_voters_X0_allVoters : GoodIn wsX4_voters wsX0_allVoters := goodIn_r _ [14, 15, 16, 17, 12, 18, 19, 20, 21, 22, 23, 24, 25, 53, 54, 55, 56, 57, 58, 59] (by decide +kernel) (by decide +kernel)
set_option maxRecDepth 20000 in
theorem gX4_voters_X0_allVoters_n85 : GoodIn wsX4_voters (wsX0_allVoters) := ggX4_voters_X0_allVoters
set_option maxRecDepth 20000 in
theorem ggX4_voters_X2_keep : GoodIn wsX4_voters wsX2_keep := goodIn_r _ [29, 30, 31, 32, 33, 34, 35, 36, 37, 12, 38, 39, 40, 19, 41, 42, 20, 43, 44, 45, 46, 25, 47, 60, 61, 62, 53, 54, 55, 56, 57, 58, 59] (by decide +kernel) (by decide +kernel)
set_option maxRecDepth 20000 in
theorem gX4_voters_X2_keep_n88 : GoodIn wsX4_voters (wsX2_keep) := ggX4_voters_X2_keep
theorem dX4_voters_0 : decode cX4_voters 0 = .ok (.aload_n 0, 1) := by decide +kernel
theorem dX4_voters_1 : decode cX4_voters 1 = .ok (.iload_n 1, 1) := by decide +kernel
theorem dX4_voters_2 : decode cX4_voters 2 = .ok (.invokevirtual 95, 3) := by decide +kernel
theorem dX4_voters_5 : decode cX4_voters 5 = .ok (.ifCond .eq 10, 3) := by decide +kernel
theorem dX4_voters_8 : decode cX4_voters 8 = .ok (.iload_n 2, 1) := by decide +kernel
theorem dX4_voters_9 : decode cX4_voters 9 = .ok (.invokestatic 76, 3) := by decide +kernel
theorem dX4_voters_12 : decode cX4_voters 12 = .ok (.ifCond .ne 5, 3) := by decide +kernel
theorem dX4_voters_15 : decode cX4_voters 15 = .ok (.iconst (-1), 1) := by decide +kernel
theorem dX4_voters_16 : decode cX4_voters 16 = .ok (.ireturn, 1) := by decide +kernel
theorem dX4_voters_17 : decode cX4_voters 17 = .ok (.aload_n 0, 1) := by decide +kernel
theorem dX4_voters_18 : decode cX4_voters 18 = .ok (.getfield 19, 3) := by decide +kernel
theorem dX4_voters_21 : decode cX4_voters 21 = .ok (.getfield 98, 3) := by decide +kernel
theorem dX4_voters_24 : decode cX4_voters 24 = .ok (.iload_n 1, 1) := by decide +kernel
theorem dX4_voters_25 : decode cX4_voters 25 = .ok (.iaload, 1) := by decide +kernel
theorem dX4_voters_26 : decode cX4_voters 26 = .ok (.istore_n 3, 1) := by decide +kernel
theorem dX4_voters_27 : decode cX4_voters 27 = .ok (.iload_n 3, 1) := by decide +kernel
theorem dX4_voters_28 : decode cX4_voters 28 = .ok (.iload_n 2, 1) := by decide +kernel
theorem dX4_voters_29 : decode cX4_voters 29 = .ok (.if_icmp .ne 6, 3) := by decide +kernel
theorem dX4_voters_32 : decode cX4_voters 32 = .ok (.bipush (-2), 2) := by decide +kernel
theorem dX4_voters_34 : decode cX4_voters 34 = .ok (.ireturn, 1) := by decide +kernel
theorem dX4_voters_35 : decode cX4_voters 35 = .ok (.aload_n 0, 1) := by decide +kernel
theorem dX4_voters_36 : decode cX4_voters 36 = .ok (.getfield 19, 3) := by decide +kernel
theorem dX4_voters_39 : decode cX4_voters 39 = .ok (.invokevirtual 85, 3) := by decide +kernel
theorem dX4_voters_42 : decode cX4_voters 42 = .ok (.iload_n 3, 1) := by decide +kernel
theorem dX4_voters_43 : decode cX4_voters 43 = .ok (.isub, 1) := by decide +kernel
theorem dX4_voters_44 : decode cX4_voters 44 = .ok (.iload_n 2, 1) := by decide +kernel
theorem dX4_voters_45 : decode cX4_voters 45 = .ok (.iadd, 1) := by decide +kernel
theorem dX4_voters_46 : decode cX4_voters 46 = .ok (.bipush 40, 2) := by decide +kernel
theorem dX4_voters_48 : decode cX4_voters 48 = .ok (.if_icmp .le 6, 3) := by decide +kernel
theorem dX4_voters_51 : decode cX4_voters 51 = .ok (.bipush (-3), 2) := by decide +kernel
theorem dX4_voters_53 : decode cX4_voters 53 = .ok (.ireturn, 1) := by decide +kernel
theorem dX4_voters_54 : decode cX4_voters 54 = .ok (.aload_n 0, 1) := by decide +kernel
theorem dX4_voters_55 : decode cX4_voters 55 = .ok (.getfield 29, 3) := by decide +kernel
theorem dX4_voters_58 : decode cX4_voters 58 = .ok (.aload_n 0, 1) := by decide +kernel
theorem dX4_voters_59 : decode cX4_voters 59 = .ok (.getfield 19, 3) := by decide +kernel
theorem dX4_voters_62 : decode cX4_voters 62 = .ok (.invokevirtual 88, 3) := by decide +kernel
theorem dX4_voters_65 : decode cX4_voters 65 = .ok (.aload_n 0, 1) := by decide +kernel
theorem dX4_voters_66 : decode cX4_voters 66 = .ok (.getfield 19, 3) := by decide +kernel
theorem dX4_voters_69 : decode cX4_voters 69 = .ok (.getfield 98, 3) := by decide +kernel
theorem dX4_voters_72 : decode cX4_voters 72 = .ok (.iload_n 1, 1) := by decide +kernel
theorem dX4_voters_73 : decode cX4_voters 73 = .ok (.iload_n 2, 1) := by decide +kernel
theorem dX4_voters_74 : decode cX4_voters 74 = .ok (.iastore, 1) := by decide +kernel
theorem dX4_voters_75 : decode cX4_voters 75 = .ok (.iload_n 3, 1) := by decide +kernel
theorem dX4_voters_76 : decode cX4_voters 76 = .ok (.ireturn, 1) := by decide +kernel
set_option maxRecDepth 20000 in
theorem ggX4_approve_X4_isBallot : GoodIn wsX4_approve wsX4_isBallot := goodIn_r _ [7, 1, 38, 39, 40, 41, 42, 43, 44, 45, 46, 47, 48, 49] (by decide +kernel) (by decide +kernel)
set_option maxRecDepth 20000 in
theorem gX4_approve_X4_isBallot : GoodIn wsX4_approve (wsV RX4 95 RX4 yX4_isBallot wsX4_isBallot) := goodIn_app (goodIn_of _ (by decide +kernel)) ggX4_approve_X4_isBallot
set_option maxRecDepth 20000 in
theorem ggX4_approve_X4_isSet : GoodIn wsX4_approve wsX4_isSet := goodIn_r _ [11, 1, 38, 39, 40, 41, 42, 43, 44, 45, 46, 47, 48, 49] (by decide +kernel) (by decide +kernel)
set_option maxRecDepth 20000 in
theorem gX4_approve_X4_isSet : GoodIn wsX4_approve (wsV RX4 79 RX4 yX4_isSet wsX4_isSet) := goodIn_app (goodIn_of _ (by decide +kernel)) ggX4_approve_X4_isSet
set_option maxRecDepth 20000 in
theorem ggX4_approve_X2_keep : GoodIn wsX4_approve wsX2_keep := goodIn_r _ [15, 16, 17, 18, 19, 20, 21, 22, 23, 24, 25, 26, 27, 28, 29, 30, 31, 32, 33, 34, 35, 36, 37, 50, 51, 52, 43, 44, 45, 46, 47, 48, 49] (by decide +kernel) (by decide +kernel)
set_option maxRecDepth 20000 in
theorem gX4_approve_X2_keep_n88 : GoodIn wsX4_approve (wsX2_keep) := ggX4_approve_X2_keep
theorem dX4_approve_0 : decode cX4_approve 0 = .ok (.aload_n 0, 1) := by decide +kernel
theorem dX4_approve_1 : decode cX4_approve 1 = .ok (.iload_n 1, 1) := by decide +kernel
theorem dX4_approve_2 : decode cX4_approve 2 = .ok (.invokevirtual 95, 3) := by decide +kernel
theorem dX4_approve_5 : decode cX4_approve 5 = .ok (.ifCond .eq 11, 3) := by decide +kernel
theorem dX4_approve_8 : decode cX4_approve 8 = .ok (.aload_n 0, 1) := by decide +kernel
theorem dX4_approve_9 : decode cX4_approve 9 = .ok (.iload_n 2, 1) := by decide +kernel
theorem dX4_approve_10 : decode cX4_approve 10 = .ok (.invokevirtual 79, 3) := by decide +kernel
theorem dX4_approve_13 : decode cX4_approve 13 = .ok (.ifCond .ne 5, 3) := by decide +kernel
theorem dX4_approve_16 : decode cX4_approve 16 = .ok (.iconst (-1), 1) := by decide +kernel
theorem dX4_approve_17 : decode cX4_approve 17 = .ok (.ireturn, 1) := by decide +kernel
theorem dX4_approve_18 : decode cX4_approve 18 = .ok (.aload_n 0, 1) := by decide +kernel
theorem dX4_approve_19 : decode cX4_approve 19 = .ok (.getfield 19, 3) := by decide +kernel
theorem dX4_approve_22 : decode cX4_approve 22 = .ok (.getfield 102, 3) := by decide +kernel
theorem dX4_approve_25 : decode cX4_approve 25 = .ok (.iload_n 1, 1) := by decide +kernel
theorem dX4_approve_26 : decode cX4_approve 26 = .ok (.iaload, 1) := by decide +kernel
theorem dX4_approve_27 : decode cX4_approve 27 = .ok (.istore_n 3, 1) := by decide +kernel
theorem dX4_approve_28 : decode cX4_approve 28 = .ok (.iload_n 3, 1) := by decide +kernel
theorem dX4_approve_29 : decode cX4_approve 29 = .ok (.iload_n 2, 1) := by decide +kernel
theorem dX4_approve_30 : decode cX4_approve 30 = .ok (.if_icmp .ne 6, 3) := by decide +kernel
theorem dX4_approve_33 : decode cX4_approve 33 = .ok (.bipush (-2), 2) := by decide +kernel
theorem dX4_approve_35 : decode cX4_approve 35 = .ok (.ireturn, 1) := by decide +kernel
theorem dX4_approve_36 : decode cX4_approve 36 = .ok (.aload_n 0, 1) := by decide +kernel
theorem dX4_approve_37 : decode cX4_approve 37 = .ok (.getfield 29, 3) := by decide +kernel
theorem dX4_approve_40 : decode cX4_approve 40 = .ok (.aload_n 0, 1) := by decide +kernel
theorem dX4_approve_41 : decode cX4_approve 41 = .ok (.getfield 19, 3) := by decide +kernel
theorem dX4_approve_44 : decode cX4_approve 44 = .ok (.invokevirtual 88, 3) := by decide +kernel
theorem dX4_approve_47 : decode cX4_approve 47 = .ok (.aload_n 0, 1) := by decide +kernel
theorem dX4_approve_48 : decode cX4_approve 48 = .ok (.getfield 19, 3) := by decide +kernel
theorem dX4_approve_51 : decode cX4_approve 51 = .ok (.getfield 102, 3) := by decide +kernel
theorem dX4_approve_54 : decode cX4_approve 54 = .ok (.iload_n 1, 1) := by decide +kernel
theorem dX4_approve_55 : decode cX4_approve 55 = .ok (.iload_n 2, 1) := by decide +kernel
theorem dX4_approve_56 : decode cX4_approve 56 = .ok (.iastore, 1) := by decide +kernel
theorem dX4_approve_57 : decode cX4_approve 57 = .ok (.iload_n 3, 1) := by decide +kernel
theorem dX4_approve_58 : decode cX4_approve 58 = .ok (.ireturn, 1) := by decide +kernel
set_option maxRecDepth 20000 in
theorem ggX4_seats_X2_keep : GoodIn wsX4_seats wsX2_keep := goodIn_r _ [6, 7, 8, 9, 10, 11, 12, 13, 14, 15, 16, 17, 18, 19, 20, 21, 22, 23, 24, 25, 26, 27, 28, 41, 42, 43, 34, 35, 36, 37, 38, 39, 40] (by decide +kernel) (by decide +kernel)
set_option maxRecDepth 20000 in
theorem gX4_seats_X2_keep_n88 : GoodIn wsX4_seats (wsX2_keep) := ggX4_seats_X2_keep
theorem dX4_seats_0 : decode cX4_seats 0 = .ok (.iload_n 1, 1) := by decide +kernel
theorem dX4_seats_1 : decode cX4_seats 1 = .ok (.iconst 1, 1) := by decide +kernel
theorem dX4_seats_2 : decode cX4_seats 2 = .ok (.if_icmp .lt 9, 3) := by decide +kernel
theorem dX4_seats_5 : decode cX4_seats 5 = .ok (.iload_n 1, 1) := by decide +kernel
theorem dX4_seats_6 : decode cX4_seats 6 = .ok (.bipush 8, 2) := by decide +kernel
theorem dX4_seats_8 : decode cX4_seats 8 = .ok (.if_icmp .le 5, 3) := by decide +kernel
theorem dX4_seats_11 : decode cX4_seats 11 = .ok (.iconst (-1), 1) := by decide +kernel
theorem dX4_seats_12 : decode cX4_seats 12 = .ok (.ireturn, 1) := by decide +kernel
theorem dX4_seats_13 : decode cX4_seats 13 = .ok (.aload_n 0, 1) := by decide +kernel
theorem dX4_seats_14 : decode cX4_seats 14 = .ok (.getfield 19, 3) := by decide +kernel
theorem dX4_seats_17 : decode cX4_seats 17 = .ok (.getfield 105, 3) := by decide +kernel
theorem dX4_seats_20 : decode cX4_seats 20 = .ok (.istore_n 2, 1) := by decide +kernel
theorem dX4_seats_21 : decode cX4_seats 21 = .ok (.iload_n 2, 1) := by decide +kernel
theorem dX4_seats_22 : decode cX4_seats 22 = .ok (.iload_n 1, 1) := by decide +kernel
theorem dX4_seats_23 : decode cX4_seats 23 = .ok (.if_icmp .ne 6, 3) := by decide +kernel
theorem dX4_seats_26 : decode cX4_seats 26 = .ok (.bipush (-2), 2) := by decide +kernel
theorem dX4_seats_28 : decode cX4_seats 28 = .ok (.ireturn, 1) := by decide +kernel
theorem dX4_seats_29 : decode cX4_seats 29 = .ok (.aload_n 0, 1) := by decide +kernel
theorem dX4_seats_30 : decode cX4_seats 30 = .ok (.getfield 29, 3) := by decide +kernel
theorem dX4_seats_33 : decode cX4_seats 33 = .ok (.aload_n 0, 1) := by decide +kernel
theorem dX4_seats_34 : decode cX4_seats 34 = .ok (.getfield 19, 3) := by decide +kernel
theorem dX4_seats_37 : decode cX4_seats 37 = .ok (.invokevirtual 88, 3) := by decide +kernel
theorem dX4_seats_40 : decode cX4_seats 40 = .ok (.aload_n 0, 1) := by decide +kernel
theorem dX4_seats_41 : decode cX4_seats 41 = .ok (.getfield 19, 3) := by decide +kernel
theorem dX4_seats_44 : decode cX4_seats 44 = .ok (.iload_n 1, 1) := by decide +kernel
theorem dX4_seats_45 : decode cX4_seats 45 = .ok (.putfield 105, 3) := by decide +kernel
theorem dX4_seats_48 : decode cX4_seats 48 = .ok (.iload_n 2, 1) := by decide +kernel
theorem dX4_seats_49 : decode cX4_seats 49 = .ok (.ireturn, 1) := by decide +kernel
set_option maxRecDepth 20000 in
theorem ggX4_withdraw_X4_isCandidate : GoodIn wsX4_withdraw wsX4_isCandidate := goodIn_r _ [7, 1, 46, 47, 48, 49, 50, 51, 52, 53, 54, 55, 56, 57] (by decide +kernel) (by decide +kernel)
set_option maxRecDepth 20000 in
theorem gX4_withdraw_X4_isCandidate : GoodIn wsX4_withdraw (wsV RX4 108 RX4 yX4_isCandidate wsX4_isCandidate) := goodIn_app (goodIn_of _ (by decide +kernel)) ggX4_withdraw_X4_isCandidate
set_option maxRecDepth 20000 in
theorem ggX4_withdraw_X0_isWithdrawn : GoodIn wsX4_withdraw wsX0_isWithdrawn := goodIn_r _ [11, 12, 13, 6, 14, 51, 52, 53, 54, 55, 56, 57] (by decide +kernel) (by decide +kernel)
set_option maxRecDepth 20000 in
theorem gX4_withdraw_X0_isWithdrawn_n111 : GoodIn wsX4_withdraw (wsX0_isWithdrawn) := ggX4_withdraw_X0_isWithdrawn
set_option maxRecDepth 20000 in
theorem ggX4_withdraw_X2_keep : GoodIn wsX4_withdraw wsX2_keep := goodIn_r _ [18, 19, 20, 21, 22, 23, 24, 25, 26, 9, 27, 28, 29, 30, 31, 12, 32, 33, 34, 35, 36, 37, 38, 58, 59, 60, 51, 52, 53, 54, 55, 56, 57] (by decide +kernel) (by decide +kernel)
set_option maxRecDepth 20000 in
theorem gX4_withdraw_X2_keep_n88 : GoodIn wsX4_withdraw (wsX2_keep) := ggX4_withdraw_X2_keep
set_option maxRecDepth 20000 in
theorem ggX4_withdraw_J6_bitCount_0f7a4 : GoodIn wsX4_withdraw wsJ6_bitCount_0f7a4 := goodIn_r _ [42, 43, 44, 45] (by decide +kernel) (by decide +kernel)
set_option maxRecDepth 20000 in
theorem gX4_withdraw_J6_bitCount_0f7a4 : GoodIn wsX4_withdraw (va_wsS RX4 117 yJ6_bitCount_0f7a4 wsJ6_bitCount_0f7a4) := goodIn_app (goodIn_of _ (by decide +kernel)) ggX4_withdraw_J6_bitCount_0f7a4
theorem dX4_withdraw_0 : decode cX4_withdraw 0 = .ok (.aload_n 0, 1) := by decide +kernel
theorem dX4_withdraw_1 : decode cX4_withdraw 1 = .ok (.iload_n 1, 1) := by decide +kernel
theorem dX4_withdraw_2 : decode cX4_withdraw 2 = .ok (.invokevirtual 108, 3) := by decide +kernel
theorem dX4_withdraw_5 : decode cX4_withdraw 5 = .ok (.ifCond .eq 12, 3) := by decide +kernel
theorem dX4_withdraw_8 : decode cX4_withdraw 8 = .ok (.iload_n 2, 1) := by decide +kernel
theorem dX4_withdraw_9 : decode cX4_withdraw 9 = .ok (.ifCond .lt 8, 3) := by decide +kernel
theorem dX4_withdraw_12 : decode cX4_withdraw 12 = .ok (.iload_n 2, 1) := by decide +kernel
theorem dX4_withdraw_13 : decode cX4_withdraw 13 = .ok (.iconst 1, 1) := by decide +kernel
theorem dX4_withdraw_14 : decode cX4_withdraw 14 = .ok (.if_icmp .le 5, 3) := by decide +kernel
theorem dX4_withdraw_17 : decode cX4_withdraw 17 = .ok (.iconst (-1), 1) := by decide +kernel
theorem dX4_withdraw_18 : decode cX4_withdraw 18 = .ok (.ireturn, 1) := by decide +kernel
theorem dX4_withdraw_19 : decode cX4_withdraw 19 = .ok (.aload_n 0, 1) := by decide +kernel
theorem dX4_withdraw_20 : decode cX4_withdraw 20 = .ok (.getfield 19, 3) := by decide +kernel
theorem dX4_withdraw_23 : decode cX4_withdraw 23 = .ok (.iload_n 1, 1) := by decide +kernel
theorem dX4_withdraw_24 : decode cX4_withdraw 24 = .ok (.invokevirtual 111, 3) := by decide +kernel
theorem dX4_withdraw_27 : decode cX4_withdraw 27 = .ok (.iload_n 2, 1) := by decide +kernel
theorem dX4_withdraw_28 : decode cX4_withdraw 28 = .ok (.iconst 1, 1) := by decide +kernel
theorem dX4_withdraw_29 : decode cX4_withdraw 29 = .ok (.if_icmp .ne 7, 3) := by decide +kernel
theorem dX4_withdraw_32 : decode cX4_withdraw 32 = .ok (.iconst 1, 1) := by decide +kernel
theorem dX4_withdraw_33 : decode cX4_withdraw 33 = .ok (.goto 4, 3) := by decide +kernel
theorem dX4_withdraw_36 : decode cX4_withdraw 36 = .ok (.iconst 0, 1) := by decide +kernel
theorem dX4_withdraw_37 : decode cX4_withdraw 37 = .ok (.if_icmp .ne 6, 3) := by decide +kernel
theorem dX4_withdraw_40 : decode cX4_withdraw 40 = .ok (.bipush (-2), 2) := by decide +kernel
theorem dX4_withdraw_42 : decode cX4_withdraw 42 = .ok (.ireturn, 1) := by decide +kernel
theorem dX4_withdraw_43 : decode cX4_withdraw 43 = .ok (.aload_n 0, 1) := by decide +kernel
theorem dX4_withdraw_44 : decode cX4_withdraw 44 = .ok (.getfield 29, 3) := by decide +kernel
theorem dX4_withdraw_47 : decode cX4_withdraw 47 = .ok (.aload_n 0, 1) := by decide +kernel
theorem dX4_withdraw_48 : decode cX4_withdraw 48 = .ok (.getfield 19, 3) := by decide +kernel
theorem dX4_withdraw_51 : decode cX4_withdraw 51 = .ok (.invokevirtual 88, 3) := by decide +kernel
theorem dX4_withdraw_54 : decode cX4_withdraw 54 = .ok (.aload_n 0, 1) := by decide +kernel
theorem dX4_withdraw_55 : decode cX4_withdraw 55 = .ok (.getfield 19, 3) := by decide +kernel
theorem dX4_withdraw_58 : decode cX4_withdraw 58 = .ok (.dup, 1) := by decide +kernel
theorem dX4_withdraw_59 : decode cX4_withdraw 59 = .ok (.getfield 114, 3) := by decide +kernel
theorem dX4_withdraw_62 : decode cX4_withdraw 62 = .ok (.iconst 1, 1) := by decide +kernel
theorem dX4_withdraw_63 : decode cX4_withdraw 63 = .ok (.iload_n 1, 1) := by decide +kernel
theorem dX4_withdraw_64 : decode cX4_withdraw 64 = .ok (.ishl, 1) := by decide +kernel
theorem dX4_withdraw_65 : decode cX4_withdraw 65 = .ok (.ixor, 1) := by decide +kernel
theorem dX4_withdraw_66 : decode cX4_withdraw 66 = .ok (.putfield 114, 3) := by decide +kernel
theorem dX4_withdraw_69 : decode cX4_withdraw 69 = .ok (.aload_n 0, 1) := by decide +kernel
theorem dX4_withdraw_70 : decode cX4_withdraw 70 = .ok (.getfield 19, 3) := by decide +kernel
theorem dX4_withdraw_73 : decode cX4_withdraw 73 = .ok (.getfield 114, 3) := by decide +kernel
theorem dX4_withdraw_76 : decode cX4_withdraw 76 = .ok (.invokestatic 117, 3) := by decide +kernel
theorem dX4_withdraw_79 : decode cX4_withdraw 79 = .ok (.ireturn, 1) := by decide +kernel
set_option maxRecDepth 20000 in
theorem ggX4_prefer_X4_isCandidate : GoodIn wsX4_prefer wsX4_isCandidate := goodIn_r _ [7, 1, 40, 41, 42, 43, 44, 45, 46, 47, 48, 49, 50, 51] (by decide +kernel) (by decide +kernel)
set_option maxRecDepth 20000 in
theorem gX4_prefer_X4_isCandidate : GoodIn wsX4_prefer (wsV RX4 108 RX4 yX4_isCandidate wsX4_isCandidate) := goodIn_app (goodIn_of _ (by decide +kernel)) ggX4_prefer_X4_isCandidate
set_option maxRecDepth 20000 in
theorem ggX4_prefer_X0_placeOf : GoodIn wsX4_prefer wsX0_placeOf := goodIn_r _ [11, 12, 13, 45, 46, 47, 48, 49, 50, 51] (by decide +kernel) (by decide +kernel)
set_option maxRecDepth 20000 in
theorem gX4_prefer_X0_placeOf_n123 : GoodIn wsX4_prefer (wsX0_placeOf) := ggX4_prefer_X0_placeOf
set_option maxRecDepth 20000 in
theorem ggX4_prefer_X2_keep : GoodIn wsX4_prefer wsX2_keep := goodIn_r _ [17, 18, 19, 20, 21, 22, 23, 24, 25, 9, 26, 27, 12, 28, 29, 30, 31, 32, 33, 34, 35, 36, 13, 52, 53, 54, 45, 46, 47, 48, 49, 50, 51] (by decide +kernel) (by decide +kernel)
set_option maxRecDepth 20000 in
theorem gX4_prefer_X2_keep_n88 : GoodIn wsX4_prefer (wsX2_keep) := ggX4_prefer_X2_keep
set_option maxRecDepth 20000 in
theorem ggX4_prefer_X0_bringToFront : GoodIn wsX4_prefer wsX0_bringToFront := goodIn_r _ [39, 13, 45, 46, 47, 48, 49, 50, 51] (by decide +kernel) (by decide +kernel)
set_option maxRecDepth 20000 in
theorem gX4_prefer_X0_bringToFront_n126 : GoodIn wsX4_prefer (wsX0_bringToFront) := ggX4_prefer_X0_bringToFront
theorem dX4_prefer_0 : decode cX4_prefer 0 = .ok (.aload_n 0, 1) := by decide +kernel
theorem dX4_prefer_1 : decode cX4_prefer 1 = .ok (.iload_n 1, 1) := by decide +kernel
theorem dX4_prefer_2 : decode cX4_prefer 2 = .ok (.invokevirtual 108, 3) := by decide +kernel
theorem dX4_prefer_5 : decode cX4_prefer 5 = .ok (.ifCond .ne 5, 3) := by decide +kernel
theorem dX4_prefer_8 : decode cX4_prefer 8 = .ok (.iconst (-1), 1) := by decide +kernel
theorem dX4_prefer_9 : decode cX4_prefer 9 = .ok (.ireturn, 1) := by decide +kernel
theorem dX4_prefer_10 : decode cX4_prefer 10 = .ok (.aload_n 0, 1) := by decide +kernel
theorem dX4_prefer_11 : decode cX4_prefer 11 = .ok (.getfield 19, 3) := by decide +kernel
theorem dX4_prefer_14 : decode cX4_prefer 14 = .ok (.iload_n 1, 1) := by decide +kernel
theorem dX4_prefer_15 : decode cX4_prefer 15 = .ok (.invokevirtual 123, 3) := by decide +kernel
theorem dX4_prefer_18 : decode cX4_prefer 18 = .ok (.istore_n 2, 1) := by decide +kernel
theorem dX4_prefer_19 : decode cX4_prefer 19 = .ok (.iload_n 2, 1) := by decide +kernel
theorem dX4_prefer_20 : decode cX4_prefer 20 = .ok (.ifCond .ne 6, 3) := by decide +kernel
theorem dX4_prefer_23 : decode cX4_prefer 23 = .ok (.bipush (-2), 2) := by decide +kernel
theorem dX4_prefer_25 : decode cX4_prefer 25 = .ok (.ireturn, 1) := by decide +kernel
theorem dX4_prefer_26 : decode cX4_prefer 26 = .ok (.aload_n 0, 1) := by decide +kernel
theorem dX4_prefer_27 : decode cX4_prefer 27 = .ok (.getfield 29, 3) := by decide +kernel
theorem dX4_prefer_30 : decode cX4_prefer 30 = .ok (.aload_n 0, 1) := by decide +kernel
theorem dX4_prefer_31 : decode cX4_prefer 31 = .ok (.getfield 19, 3) := by decide +kernel
theorem dX4_prefer_34 : decode cX4_prefer 34 = .ok (.invokevirtual 88, 3) := by decide +kernel
theorem dX4_prefer_37 : decode cX4_prefer 37 = .ok (.aload_n 0, 1) := by decide +kernel
theorem dX4_prefer_38 : decode cX4_prefer 38 = .ok (.getfield 19, 3) := by decide +kernel
theorem dX4_prefer_41 : decode cX4_prefer 41 = .ok (.iload_n 2, 1) := by decide +kernel
theorem dX4_prefer_42 : decode cX4_prefer 42 = .ok (.invokevirtual 126, 3) := by decide +kernel
theorem dX4_prefer_45 : decode cX4_prefer 45 = .ok (.iload_n 2, 1) := by decide +kernel
theorem dX4_prefer_46 : decode cX4_prefer 46 = .ok (.ireturn, 1) := by decide +kernel
set_option maxRecDepth 20000 in
theorem ggX4_undo_X2_bringBack : GoodIn wsX4_undo wsX2_bringBack := goodIn_r _ [6, 7, 8, 9, 10, 11, 12, 13, 14, 15, 16, 17, 18, 19, 20, 21, 22, 23, 24, 30, 31, 32, 33, 34, 35, 36, 37, 38, 39] (by decide +kernel) (by decide +kernel)
set_option maxRecDepth 20000 in
theorem gX4_undo_X2_bringBack_n133 : GoodIn wsX4_undo (wsX2_bringBack) := ggX4_undo_X2_bringBack
theorem dX4_undo_0 : decode cX4_undo 0 = .ok (.aload_n 0, 1) := by decide +kernel
theorem dX4_undo_1 : decode cX4_undo 1 = .ok (.getfield 29, 3) := by decide +kernel
theorem dX4_undo_4 : decode cX4_undo 4 = .ok (.getfield 130, 3) := by decide +kernel
theorem dX4_undo_7 : decode cX4_undo 7 = .ok (.ifCond .ne 6, 3) := by decide +kernel
theorem dX4_undo_10 : decode cX4_undo 10 = .ok (.bipush (-2), 2) := by decide +kernel
theorem dX4_undo_12 : decode cX4_undo 12 = .ok (.ireturn, 1) := by decide +kernel
theorem dX4_undo_13 : decode cX4_undo 13 = .ok (.aload_n 0, 1) := by decide +kernel
theorem dX4_undo_14 : decode cX4_undo 14 = .ok (.getfield 29, 3) := by decide +kernel
theorem dX4_undo_17 : decode cX4_undo 17 = .ok (.aload_n 0, 1) := by decide +kernel
theorem dX4_undo_18 : decode cX4_undo 18 = .ok (.getfield 19, 3) := by decide +kernel
theorem dX4_undo_21 : decode cX4_undo 21 = .ok (.invokevirtual 133, 3) := by decide +kernel
theorem dX4_undo_24 : decode cX4_undo 24 = .ok (.aload_n 0, 1) := by decide +kernel
theorem dX4_undo_25 : decode cX4_undo 25 = .ok (.getfield 29, 3) := by decide +kernel
theorem dX4_undo_28 : decode cX4_undo 28 = .ok (.getfield 130, 3) := by decide +kernel
theorem dX4_undo_31 : decode cX4_undo 31 = .ok (.ireturn, 1) := by decide +kernel
set_option maxRecDepth 20000 in
theorem ggX4_candidate_X4_isCandidate : GoodIn wsX4_candidate wsX4_isCandidate := goodIn_r _ [6, 1, 88, 89, 90, 91, 92, 93, 94, 95, 96, 97, 98, 99] (by decide +kernel) (by decide +kernel)
set_option maxRecDepth 20000 in
theorem gX4_candidate_X4_isCandidate : GoodIn wsX4_candidate (wsV RX4 108 RX4 yX4_isCandidate wsX4_isCandidate) := goodIn_app (goodIn_of _ (by decide +kernel)) ggX4_candidate_X4_isCandidate
set_option maxRecDepth 20000 in
theorem ggX4_candidate_X0_supportOf : GoodIn wsX4_candidate wsX0_supportOf := goodIn_r _ [10, 11, 12, 13, 8, 14, 15, 16, 17, 18, 19, 20, 21, 93, 94, 95, 96, 97, 98, 99] (by decide +kernel) (by decide +kernel)
set_option maxRecDepth 20000 in
theorem gX4_candidate_X0_supportOf_n136 : GoodIn wsX4_candidate (wsX0_supportOf) := ggX4_candidate_X0_supportOf
set_option maxRecDepth 20000 in
theorem ggX4_candidate_X0_placeOf : GoodIn wsX4_candidate wsX0_placeOf := goodIn_r _ [24, 25, 26, 93, 94, 95, 96, 97, 98, 99] (by decide +kernel) (by decide +kernel)
set_option maxRecDepth 20000 in
theorem gX4_candidate_X0_placeOf_n123 : GoodIn wsX4_candidate (wsX0_placeOf) := ggX4_candidate_X0_placeOf
set_option maxRecDepth 20000 in
theorem ggX4_candidate_X0_isWithdrawn : GoodIn wsX4_candidate wsX0_isWithdrawn := goodIn_r _ [29, 30, 31, 5, 32, 93, 94, 95, 96, 97, 98, 99] (by decide +kernel) (by decide +kernel)
set_option maxRecDepth 20000 in
theorem gX4_candidate_X0_isWithdrawn_n111 : GoodIn wsX4_candidate (wsX0_isWithdrawn) := ggX4_candidate_X0_isWithdrawn
set_option maxRecDepth 20000 in
theorem ggX4_candidate_X4_lawsThatElect : GoodIn wsX4_candidate wsX4_lawsThatElect := goodIn_r _ [36, 37, 1, 38, 39, 40, 41, 42, 43, 44, 45, 46, 47, 48, 49, 50, 7, 8, 9, 10, 11, 12, 13, 14, 15, 16, 17, 18, 19, 20, 21, 51, 52, 53, 54, 55, 31, 5, 32, 56, 57, 58, 59, 60, 61, 62, 63, 64, 65, 66, 67, 68, 69, 70, 71, 72, 73, 74, 75, 76, 77, 78, 79, 80, 81, 82, 83, 84, 85, 86, 87, 88, 89, 90, 91, 92, 93, 94, 95, 96, 97, 98, 99, 100, 101, 102, 103, 104, 105, 106, 107, 108] (by decide +kernel) (by decide +kernel)
set_option maxRecDepth 20000 in
theorem gX4_candidate_X4_lawsThatElect : GoodIn wsX4_candidate (wsV RX4 139 RX4 yX4_lawsThatElect wsX4_lawsThatElect) := goodIn_app (goodIn_of _ (by decide +kernel)) ggX4_candidate_X4_lawsThatElect
theorem dX4_candidate_0 : decode cX4_candidate 0 = .ok (.aload_n 0, 1) := by decide +kernel
theorem dX4_candidate_1 : decode cX4_candidate 1 = .ok (.iload_n 1, 1) := by decide +kernel
theorem dX4_candidate_2 : decode cX4_candidate 2 = .ok (.invokevirtual 108, 3) := by decide +kernel
theorem dX4_candidate_5 : decode cX4_candidate 5 = .ok (.ifCond .ne 5, 3) := by decide +kernel
theorem dX4_candidate_8 : decode cX4_candidate 8 = .ok (.iconst (-1), 1) := by decide +kernel
theorem dX4_candidate_9 : decode cX4_candidate 9 = .ok (.ireturn, 1) := by decide +kernel
theorem dX4_candidate_10 : decode cX4_candidate 10 = .ok (.iload_n 2, 1) := by decide +kernel
theorem dX4_candidate_11 : decode cX4_candidate 11 = .ok (.tableswitch 70 0 3 #[29, 38, 47, 64], 29) := by decide +kernel
theorem dX4_candidate_40 : decode cX4_candidate 40 = .ok (.aload_n 0, 1) := by decide +kernel
theorem dX4_candidate_41 : decode cX4_candidate 41 = .ok (.getfield 19, 3) := by decide +kernel
theorem dX4_candidate_44 : decode cX4_candidate 44 = .ok (.iload_n 1, 1) := by decide +kernel
theorem dX4_candidate_45 : decode cX4_candidate 45 = .ok (.invokevirtual 136, 3) := by decide +kernel
theorem dX4_candidate_48 : decode cX4_candidate 48 = .ok (.ireturn, 1) := by decide +kernel
theorem dX4_candidate_49 : decode cX4_candidate 49 = .ok (.aload_n 0, 1) := by decide +kernel
theorem dX4_candidate_50 : decode cX4_candidate 50 = .ok (.getfield 19, 3) := by decide +kernel
theorem dX4_candidate_53 : decode cX4_candidate 53 = .ok (.iload_n 1, 1) := by decide +kernel
theorem dX4_candidate_54 : decode cX4_candidate 54 = .ok (.invokevirtual 123, 3) := by decide +kernel
theorem dX4_candidate_57 : decode cX4_candidate 57 = .ok (.ireturn, 1) := by decide +kernel
theorem dX4_candidate_58 : decode cX4_candidate 58 = .ok (.aload_n 0, 1) := by decide +kernel
theorem dX4_candidate_59 : decode cX4_candidate 59 = .ok (.getfield 19, 3) := by decide +kernel
theorem dX4_candidate_62 : decode cX4_candidate 62 = .ok (.iload_n 1, 1) := by decide +kernel
theorem dX4_candidate_63 : decode cX4_candidate 63 = .ok (.invokevirtual 111, 3) := by decide +kernel
theorem dX4_candidate_66 : decode cX4_candidate 66 = .ok (.ifCond .eq 7, 3) := by decide +kernel
theorem dX4_candidate_69 : decode cX4_candidate 69 = .ok (.iconst 1, 1) := by decide +kernel
theorem dX4_candidate_70 : decode cX4_candidate 70 = .ok (.goto 4, 3) := by decide +kernel
theorem dX4_candidate_73 : decode cX4_candidate 73 = .ok (.iconst 0, 1) := by decide +kernel
theorem dX4_candidate_74 : decode cX4_candidate 74 = .ok (.ireturn, 1) := by decide +kernel
theorem dX4_candidate_75 : decode cX4_candidate 75 = .ok (.aload_n 0, 1) := by decide +kernel
theorem dX4_candidate_76 : decode cX4_candidate 76 = .ok (.iload_n 1, 1) := by decide +kernel
theorem dX4_candidate_77 : decode cX4_candidate 77 = .ok (.invokevirtual 139, 3) := by decide +kernel
theorem dX4_candidate_80 : decode cX4_candidate 80 = .ok (.ireturn, 1) := by decide +kernel
theorem dX4_candidate_81 : decode cX4_candidate 81 = .ok (.iconst (-1), 1) := by decide +kernel
theorem dX4_candidate_82 : decode cX4_candidate 82 = .ok (.ireturn, 1) := by decide +kernel
set_option maxRecDepth 20000 in
theorem ggX4_vote_X4_isBallot : GoodIn wsX4_vote wsX4_isBallot := goodIn_r _ [7, 1, 75, 76, 77, 78, 79, 80, 81, 82, 83, 84, 85, 86] (by decide +kernel) (by decide +kernel)
set_option maxRecDepth 20000 in
theorem gX4_vote_X4_isBallot : GoodIn wsX4_vote (wsV RX4 95 RX4 yX4_isBallot wsX4_isBallot) := goodIn_app (goodIn_of _ (by decide +kernel)) ggX4_vote_X4_isBallot
set_option maxRecDepth 20000 in
theorem ggX4_vote_X1_hold : GoodIn wsX4_vote wsX1_hold := goodIn_r _ [11, 12, 13, 14, 15, 9, 16, 17, 18, 19, 20, 21, 22, 23, 24, 25, 26, 27, 28, 29, 30, 31, 32, 33, 34, 35, 36, 37, 38, 39, 40, 41, 6, 42, 43, 44, 45, 46, 47, 48, 49, 50, 51, 52, 53, 54, 55, 56, 57, 58, 59, 60, 61, 62, 63, 64, 65, 66, 67, 68, 69, 70, 71, 72, 73, 80, 81, 82, 83, 84, 85, 86, 87, 88, 89, 90, 91, 92, 93, 94, 95] (by decide +kernel) (by decide +kernel)
set_option maxRecDepth 20000 in
theorem gX4_vote_X1_hold_n142 : GoodIn wsX4_vote (wsX1_hold) := ggX4_vote_X1_hold
set_option maxRecDepth 20000 in
theorem ggX4_vote_J6_bitCount_0f7a4 : GoodIn wsX4_vote wsJ6_bitCount_0f7a4 := goodIn_r _ [54, 55, 56, 57] (by decide +kernel) (by decide +kernel)
set_option maxRecDepth 20000 in
theorem gX4_vote_J6_bitCount_0f7a4 : GoodIn wsX4_vote (va_wsS RX4 117 yJ6_bitCount_0f7a4 wsJ6_bitCount_0f7a4) := goodIn_app (goodIn_of _ (by decide +kernel)) ggX4_vote_J6_bitCount_0f7a4
theorem dX4_vote_0 : decode cX4_vote 0 = .ok (.aload_n 0, 1) := by decide +kernel
theorem dX4_vote_1 : decode cX4_vote 1 = .ok (.iload_n 1, 1) := by decide +kernel
theorem dX4_vote_2 : decode cX4_vote 2 = .ok (.invokevirtual 95, 3) := by decide +kernel
theorem dX4_vote_5 : decode cX4_vote 5 = .ok (.ifCond .eq 12, 3) := by decide +kernel
theorem dX4_vote_8 : decode cX4_vote 8 = .ok (.iload_n 2, 1) := by decide +kernel
theorem dX4_vote_9 : decode cX4_vote 9 = .ok (.ifCond .lt 8, 3) := by decide +kernel
theorem dX4_vote_12 : decode cX4_vote 12 = .ok (.iload_n 2, 1) := by decide +kernel
theorem dX4_vote_13 : decode cX4_vote 13 = .ok (.iconst 5, 1) := by decide +kernel
theorem dX4_vote_14 : decode cX4_vote 14 = .ok (.if_icmp .le 5, 3) := by decide +kernel
theorem dX4_vote_17 : decode cX4_vote 17 = .ok (.iconst (-1), 1) := by decide +kernel
theorem dX4_vote_18 : decode cX4_vote 18 = .ok (.ireturn, 1) := by decide +kernel
theorem dX4_vote_19 : decode cX4_vote 19 = .ok (.iload_n 2, 1) := by decide +kernel
theorem dX4_vote_20 : decode cX4_vote 20 = .ok (.ifCond .ne 13, 3) := by decide +kernel
theorem dX4_vote_23 : decode cX4_vote 23 = .ok (.aload_n 0, 1) := by decide +kernel
theorem dX4_vote_24 : decode cX4_vote 24 = .ok (.getfield 19, 3) := by decide +kernel
theorem dX4_vote_27 : decode cX4_vote 27 = .ok (.getfield 98, 3) := by decide +kernel
theorem dX4_vote_30 : decode cX4_vote 30 = .ok (.iload_n 1, 1) := by decide +kernel
theorem dX4_vote_31 : decode cX4_vote 31 = .ok (.iaload, 1) := by decide +kernel
theorem dX4_vote_32 : decode cX4_vote 32 = .ok (.ireturn, 1) := by decide +kernel
theorem dX4_vote_33 : decode cX4_vote 33 = .ok (.iload_n 2, 1) := by decide +kernel
theorem dX4_vote_34 : decode cX4_vote 34 = .ok (.iconst 1, 1) := by decide +kernel
theorem dX4_vote_35 : decode cX4_vote 35 = .ok (.if_icmp .ne 13, 3) := by decide +kernel
theorem dX4_vote_38 : decode cX4_vote 38 = .ok (.aload_n 0, 1) := by decide +kernel
theorem dX4_vote_39 : decode cX4_vote 39 = .ok (.getfield 19, 3) := by decide +kernel
theorem dX4_vote_42 : decode cX4_vote 42 = .ok (.getfield 102, 3) := by decide +kernel
theorem dX4_vote_45 : decode cX4_vote 45 = .ok (.iload_n 1, 1) := by decide +kernel
theorem dX4_vote_46 : decode cX4_vote 46 = .ok (.iaload, 1) := by decide +kernel
theorem dX4_vote_47 : decode cX4_vote 47 = .ok (.ireturn, 1) := by decide +kernel
theorem dX4_vote_48 : decode cX4_vote 48 = .ok (.aload_n 0, 1) := by decide +kernel
theorem dX4_vote_49 : decode cX4_vote 49 = .ok (.getfield 36, 3) := by decide +kernel
theorem dX4_vote_52 : decode cX4_vote 52 = .ok (.aload_n 0, 1) := by decide +kernel
theorem dX4_vote_53 : decode cX4_vote 53 = .ok (.getfield 19, 3) := by decide +kernel
theorem dX4_vote_56 : decode cX4_vote 56 = .ok (.iload_n 2, 1) := by decide +kernel
theorem dX4_vote_57 : decode cX4_vote 57 = .ok (.iconst 2, 1) := by decide +kernel
theorem dX4_vote_58 : decode cX4_vote 58 = .ok (.isub, 1) := by decide +kernel
theorem dX4_vote_59 : decode cX4_vote 59 = .ok (.invokevirtual 142, 3) := by decide +kernel
theorem dX4_vote_62 : decode cX4_vote 62 = .ok (.aload_n 0, 1) := by decide +kernel
theorem dX4_vote_63 : decode cX4_vote 63 = .ok (.getfield 19, 3) := by decide +kernel
theorem dX4_vote_66 : decode cX4_vote 66 = .ok (.getfield 102, 3) := by decide +kernel
theorem dX4_vote_69 : decode cX4_vote 69 = .ok (.iload_n 1, 1) := by decide +kernel
theorem dX4_vote_70 : decode cX4_vote 70 = .ok (.iaload, 1) := by decide +kernel
theorem dX4_vote_71 : decode cX4_vote 71 = .ok (.iand, 1) := by decide +kernel
theorem dX4_vote_72 : decode cX4_vote 72 = .ok (.invokestatic 117, 3) := by decide +kernel
theorem dX4_vote_75 : decode cX4_vote 75 = .ok (.ireturn, 1) := by decide +kernel
set_option maxRecDepth 20000 in
theorem ggX4_member_X4_isLaw : GoodIn wsX4_member wsX4_isLaw := goodIn_r _ [6] (by decide +kernel) (by decide +kernel)
set_option maxRecDepth 20000 in
theorem gX4_member_X4_isLaw : GoodIn wsX4_member (va_wsS RX4 146 yX4_isLaw wsX4_isLaw) := goodIn_app (goodIn_of _ (by decide +kernel)) ggX4_member_X4_isLaw
set_option maxRecDepth 20000 in
theorem ggX4_member_X1_hold : GoodIn wsX4_member wsX1_hold := goodIn_r _ [10, 11, 12, 13, 14, 8, 15, 16, 17, 18, 19, 20, 21, 22, 23, 24, 25, 26, 27, 28, 29, 30, 31, 32, 33, 34, 35, 36, 37, 38, 39, 40, 5, 41, 42, 43, 44, 45, 46, 47, 48, 49, 50, 51, 52, 53, 54, 55, 56, 57, 58, 59, 60, 61, 62, 63, 64, 65, 66, 67, 68, 69, 70, 71, 72, 87, 88, 89, 90, 91, 92, 93, 78, 79, 80, 81, 82, 83, 84, 85, 86] (by decide +kernel) (by decide +kernel)
set_option maxRecDepth 20000 in
theorem gX4_member_X1_hold_n142 : GoodIn wsX4_member (wsX1_hold) := ggX4_member_X1_hold
theorem dX4_member_0 : decode cX4_member 0 = .ok (.iload_n 1, 1) := by decide +kernel
theorem dX4_member_1 : decode cX4_member 1 = .ok (.invokestatic 146, 3) := by decide +kernel
theorem dX4_member_4 : decode cX4_member 4 = .ok (.ifCond .eq 8, 3) := by decide +kernel
theorem dX4_member_7 : decode cX4_member 7 = .ok (.iload_n 2, 1) := by decide +kernel
theorem dX4_member_8 : decode cX4_member 8 = .ok (.iconst (-1), 1) := by decide +kernel
theorem dX4_member_9 : decode cX4_member 9 = .ok (.if_icmp .ge 5, 3) := by decide +kernel
theorem dX4_member_12 : decode cX4_member 12 = .ok (.iconst (-1), 1) := by decide +kernel
theorem dX4_member_13 : decode cX4_member 13 = .ok (.ireturn, 1) := by decide +kernel
theorem dX4_member_14 : decode cX4_member 14 = .ok (.aload_n 0, 1) := by decide +kernel
theorem dX4_member_15 : decode cX4_member 15 = .ok (.getfield 36, 3) := by decide +kernel
theorem dX4_member_18 : decode cX4_member 18 = .ok (.aload_n 0, 1) := by decide +kernel
theorem dX4_member_19 : decode cX4_member 19 = .ok (.getfield 19, 3) := by decide +kernel
theorem dX4_member_22 : decode cX4_member 22 = .ok (.iload_n 1, 1) := by decide +kernel
theorem dX4_member_23 : decode cX4_member 23 = .ok (.invokevirtual 142, 3) := by decide +kernel
theorem dX4_member_26 : decode cX4_member 26 = .ok (.pop, 1) := by decide +kernel
theorem dX4_member_27 : decode cX4_member 27 = .ok (.iload_n 2, 1) := by decide +kernel
theorem dX4_member_28 : decode cX4_member 28 = .ok (.iconst (-1), 1) := by decide +kernel
theorem dX4_member_29 : decode cX4_member 29 = .ok (.if_icmp .ne 11, 3) := by decide +kernel
theorem dX4_member_32 : decode cX4_member 32 = .ok (.aload_n 0, 1) := by decide +kernel
theorem dX4_member_33 : decode cX4_member 33 = .ok (.getfield 36, 3) := by decide +kernel
theorem dX4_member_36 : decode cX4_member 36 = .ok (.getfield 149, 3) := by decide +kernel
theorem dX4_member_39 : decode cX4_member 39 = .ok (.ireturn, 1) := by decide +kernel
theorem dX4_member_40 : decode cX4_member 40 = .ok (.iload_n 2, 1) := by decide +kernel
theorem dX4_member_41 : decode cX4_member 41 = .ok (.aload_n 0, 1) := by decide +kernel
theorem dX4_member_42 : decode cX4_member 42 = .ok (.getfield 36, 3) := by decide +kernel
theorem dX4_member_45 : decode cX4_member 45 = .ok (.getfield 149, 3) := by decide +kernel
theorem dX4_member_48 : decode cX4_member 48 = .ok (.if_icmp .ge 15, 3) := by decide +kernel
theorem dX4_member_51 : decode cX4_member 51 = .ok (.aload_n 0, 1) := by decide +kernel
theorem dX4_member_52 : decode cX4_member 52 = .ok (.getfield 36, 3) := by decide +kernel
theorem dX4_member_55 : decode cX4_member 55 = .ok (.getfield 152, 3) := by decide +kernel
theorem dX4_member_58 : decode cX4_member 58 = .ok (.iload_n 2, 1) := by decide +kernel
theorem dX4_member_59 : decode cX4_member 59 = .ok (.iaload, 1) := by decide +kernel
theorem dX4_member_60 : decode cX4_member 60 = .ok (.goto 5, 3) := by decide +kernel
theorem dX4_member_63 : decode cX4_member 63 = .ok (.bipush (-4), 2) := by decide +kernel
theorem dX4_member_65 : decode cX4_member 65 = .ok (.ireturn, 1) := by decide +kernel
set_option maxRecDepth 20000 in
theorem ggX4_members_X4_isLaw : GoodIn wsX4_members wsX4_isLaw := goodIn_r _ [6] (by decide +kernel) (by decide +kernel)
set_option maxRecDepth 20000 in
theorem gX4_members_X4_isLaw : GoodIn wsX4_members (va_wsS RX4 146 yX4_isLaw wsX4_isLaw) := goodIn_app (goodIn_of _ (by decide +kernel)) ggX4_members_X4_isLaw
set_option maxRecDepth 20000 in
theorem ggX4_members_X1_hold : GoodIn wsX4_members wsX1_hold := goodIn_r _ [10, 11, 12, 13, 14, 8, 15, 16, 17, 18, 19, 20, 21, 22, 23, 24, 25, 26, 27, 28, 29, 30, 31, 32, 33, 34, 35, 36, 37, 38, 39, 40, 5, 41, 42, 43, 44, 45, 46, 47, 48, 49, 50, 51, 52, 53, 54, 55, 56, 57, 58, 59, 60, 61, 62, 63, 64, 65, 66, 67, 68, 69, 70, 71, 72, 78, 79, 80, 81, 82, 83, 84, 85, 86, 87, 88, 89, 90, 91, 92, 93] (by decide +kernel) (by decide +kernel)
set_option maxRecDepth 20000 in
theorem gX4_members_X1_hold_n142 : GoodIn wsX4_members (wsX1_hold) := ggX4_members_X1_hold
theorem dX4_members_0 : decode cX4_members 0 = .ok (.iload_n 1, 1) := by decide +kernel
theorem dX4_members_1 : decode cX4_members 1 = .ok (.invokestatic 146, 3) := by decide +kernel
theorem dX4_members_4 : decode cX4_members 4 = .ok (.ifCond .eq 18, 3) := by decide +kernel
theorem dX4_members_7 : decode cX4_members 7 = .ok (.aload_n 0, 1) := by decide +kernel
theorem dX4_members_8 : decode cX4_members 8 = .ok (.getfield 36, 3) := by decide +kernel
theorem dX4_members_11 : decode cX4_members 11 = .ok (.aload_n 0, 1) := by decide +kernel
theorem dX4_members_12 : decode cX4_members 12 = .ok (.getfield 19, 3) := by decide +kernel
theorem dX4_members_15 : decode cX4_members 15 = .ok (.iload_n 1, 1) := by decide +kernel
theorem dX4_members_16 : decode cX4_members 16 = .ok (.invokevirtual 142, 3) := by decide +kernel
theorem dX4_members_19 : decode cX4_members 19 = .ok (.goto 4, 3) := by decide +kernel
theorem dX4_members_22 : decode cX4_members 22 = .ok (.iconst (-1), 1) := by decide +kernel
theorem dX4_members_23 : decode cX4_members 23 = .ok (.ireturn, 1) := by decide +kernel
set_option maxRecDepth 20000 in
theorem ggX4_came_X4_isLaw : GoodIn wsX4_came wsX4_isLaw := goodIn_r _ [8] (by decide +kernel) (by decide +kernel)
set_option maxRecDepth 20000 in
theorem gX4_came_X4_isLaw : GoodIn wsX4_came (va_wsS RX4 146 yX4_isLaw wsX4_isLaw) := goodIn_app (goodIn_of _ (by decide +kernel)) ggX4_came_X4_isLaw
set_option maxRecDepth 20000 in
theorem ggX4_came_X4_isPart : GoodIn wsX4_came wsX4_isPart := goodIn_r _ [11] (by decide +kernel) (by decide +kernel)
set_option maxRecDepth 20000 in
theorem gX4_came_X4_isPart : GoodIn wsX4_came (va_wsS RX4 155 yX4_isPart wsX4_isPart) := goodIn_app (goodIn_of _ (by decide +kernel)) ggX4_came_X4_isPart
set_option maxRecDepth 20000 in
theorem ggX4_came_X1_hold : GoodIn wsX4_came wsX1_hold := goodIn_r _ [15, 16, 17, 18, 19, 13, 20, 21, 22, 23, 24, 25, 26, 27, 28, 29, 30, 31, 32, 33, 34, 35, 36, 37, 38, 39, 40, 41, 42, 43, 44, 45, 7, 46, 47, 48, 49, 50, 51, 52, 53, 54, 55, 56, 57, 58, 59, 60, 61, 62, 63, 64, 65, 66, 67, 68, 69, 70, 71, 72, 73, 74, 75, 76, 77, 102, 103, 104, 105, 106, 107, 108, 93, 94, 95, 96, 97, 98, 99, 100, 101] (by decide +kernel) (by decide +kernel)
set_option maxRecDepth 20000 in
theorem gX4_came_X1_hold_n142 : GoodIn wsX4_came (wsX1_hold) := ggX4_came_X1_hold
set_option maxRecDepth 20000 in
theorem ggX4_came_X4_partOf : GoodIn wsX4_came wsX4_partOf := goodIn_r _ [80, 81, 82, 83, 84, 85, 86, 7, 87] (by decide +kernel) (by decide +kernel)
set_option maxRecDepth 20000 in
theorem gX4_came_X4_partOf : GoodIn wsX4_came (va_wsS RX4 169 yX4_partOf wsX4_partOf) := goodIn_app (goodIn_of _ (by decide +kernel)) ggX4_came_X4_partOf
theorem dX4_came_0 : decode cX4_came 0 = .ok (.iload_n 1, 1) := by decide +kernel
theorem dX4_came_1 : decode cX4_came 1 = .ok (.invokestatic 146, 3) := by decide +kernel
theorem dX4_came_4 : decode cX4_came 4 = .ok (.ifCond .eq 14, 3) := by decide +kernel
theorem dX4_came_7 : decode cX4_came 7 = .ok (.iload_n 2, 1) := by decide +kernel
theorem dX4_came_8 : decode cX4_came 8 = .ok (.ifCond .lt 10, 3) := by decide +kernel
theorem dX4_came_11 : decode cX4_came 11 = .ok (.iload_n 3, 1) := by decide +kernel
theorem dX4_came_12 : decode cX4_came 12 = .ok (.invokestatic 155, 3) := by decide +kernel
theorem dX4_came_15 : decode cX4_came 15 = .ok (.ifCond .ne 7, 3) := by decide +kernel
theorem dX4_came_18 : decode cX4_came 18 = .ok (.ldc2_w 158, 3) := by decide +kernel
theorem dX4_came_21 : decode cX4_came 21 = .ok (.lreturn, 1) := by decide +kernel
theorem dX4_came_22 : decode cX4_came 22 = .ok (.aload_n 0, 1) := by decide +kernel
theorem dX4_came_23 : decode cX4_came 23 = .ok (.getfield 36, 3) := by decide +kernel
theorem dX4_came_26 : decode cX4_came 26 = .ok (.aload_n 0, 1) := by decide +kernel
theorem dX4_came_27 : decode cX4_came 27 = .ok (.getfield 19, 3) := by decide +kernel
theorem dX4_came_30 : decode cX4_came 30 = .ok (.iload_n 1, 1) := by decide +kernel
theorem dX4_came_31 : decode cX4_came 31 = .ok (.invokevirtual 142, 3) := by decide +kernel
theorem dX4_came_34 : decode cX4_came 34 = .ok (.pop, 1) := by decide +kernel
theorem dX4_came_35 : decode cX4_came 35 = .ok (.iload_n 2, 1) := by decide +kernel
theorem dX4_came_36 : decode cX4_came 36 = .ok (.aload_n 0, 1) := by decide +kernel
theorem dX4_came_37 : decode cX4_came 37 = .ok (.getfield 36, 3) := by decide +kernel
theorem dX4_came_40 : decode cX4_came 40 = .ok (.getfield 149, 3) := by decide +kernel
theorem dX4_came_43 : decode cX4_came 43 = .ok (.if_icmp .ge 17, 3) := by decide +kernel
theorem dX4_came_46 : decode cX4_came 46 = .ok (.aload_n 0, 1) := by decide +kernel
theorem dX4_came_47 : decode cX4_came 47 = .ok (.getfield 36, 3) := by decide +kernel
theorem dX4_came_50 : decode cX4_came 50 = .ok (.getfield 160, 3) := by decide +kernel
theorem dX4_came_53 : decode cX4_came 53 = .ok (.iload_n 2, 1) := by decide +kernel
theorem dX4_came_54 : decode cX4_came 54 = .ok (.laload, 1) := by decide +kernel
theorem dX4_came_55 : decode cX4_came 55 = .ok (.lconst 0, 1) := by decide +kernel
theorem dX4_came_56 : decode cX4_came 56 = .ok (.lcmp, 1) := by decide +kernel
theorem dX4_came_57 : decode cX4_came 57 = .ok (.ifCond .ne 7, 3) := by decide +kernel
theorem dX4_came_60 : decode cX4_came 60 = .ok (.ldc2_w 164, 3) := by decide +kernel
theorem dX4_came_63 : decode cX4_came 63 = .ok (.lreturn, 1) := by decide +kernel
theorem dX4_came_64 : decode cX4_came 64 = .ok (.aload_n 0, 1) := by decide +kernel
theorem dX4_came_65 : decode cX4_came 65 = .ok (.getfield 36, 3) := by decide +kernel
theorem dX4_came_68 : decode cX4_came 68 = .ok (.getfield 166, 3) := by decide +kernel
theorem dX4_came_71 : decode cX4_came 71 = .ok (.iload_n 2, 1) := by decide +kernel
theorem dX4_came_72 : decode cX4_came 72 = .ok (.laload, 1) := by decide +kernel
theorem dX4_came_73 : decode cX4_came 73 = .ok (.aload_n 0, 1) := by decide +kernel
theorem dX4_came_74 : decode cX4_came 74 = .ok (.getfield 36, 3) := by decide +kernel
theorem dX4_came_77 : decode cX4_came 77 = .ok (.getfield 160, 3) := by decide +kernel
theorem dX4_came_80 : decode cX4_came 80 = .ok (.iload_n 2, 1) := by decide +kernel
theorem dX4_came_81 : decode cX4_came 81 = .ok (.laload, 1) := by decide +kernel
theorem dX4_came_82 : decode cX4_came 82 = .ok (.iload_n 3, 1) := by decide +kernel
theorem dX4_came_83 : decode cX4_came 83 = .ok (.invokestatic 169, 3) := by decide +kernel
theorem dX4_came_86 : decode cX4_came 86 = .ok (.lreturn, 1) := by decide +kernel
set_option maxRecDepth 20000 in
theorem ggX4_load_X4_isBallot : GoodIn wsX4_load wsX4_isBallot := goodIn_r _ [8, 3, 88, 89, 90, 91, 92, 102, 103, 104, 105, 106, 107, 108] (by decide +kernel) (by decide +kernel)
set_option maxRecDepth 20000 in
theorem gX4_load_X4_isBallot : GoodIn wsX4_load (wsV RX4 95 RX4 yX4_isBallot wsX4_isBallot) := goodIn_app (goodIn_of _ (by decide +kernel)) ggX4_load_X4_isBallot
set_option maxRecDepth 20000 in
theorem ggX4_load_X4_isPart : GoodIn wsX4_load wsX4_isPart := goodIn_r _ [11] (by decide +kernel) (by decide +kernel)
set_option maxRecDepth 20000 in
theorem gX4_load_X4_isPart : GoodIn wsX4_load (va_wsS RX4 155 yX4_isPart wsX4_isPart) := goodIn_app (goodIn_of _ (by decide +kernel)) ggX4_load_X4_isPart
set_option maxRecDepth 20000 in
theorem ggX4_load_X1_hold : GoodIn wsX4_load wsX1_hold := goodIn_r _ [15, 16, 17, 18, 19, 13, 20, 21, 22, 23, 24, 25, 26, 27, 28, 29, 30, 31, 32, 33, 34, 35, 36, 37, 38, 39, 40, 41, 42, 43, 44, 45, 7, 46, 47, 48, 49, 50, 51, 52, 53, 54, 55, 56, 57, 58, 59, 60, 61, 62, 63, 64, 65, 66, 67, 68, 69, 70, 71, 72, 73, 74, 75, 76, 77, 102, 103, 104, 105, 106, 107, 108, 93, 94, 95, 96, 97, 98, 99, 100, 101] (by decide +kernel) (by decide +kernel)
set_option maxRecDepth 20000 in
theorem gX4_load_X1_hold_n142 : GoodIn wsX4_load (wsX1_hold) := ggX4_load_X1_hold
set_option maxRecDepth 20000 in
theorem ggX4_load_X4_partOf : GoodIn wsX4_load wsX4_partOf := goodIn_r _ [80, 81, 82, 83, 84, 85, 86, 7, 87] (by decide +kernel) (by decide +kernel)
set_option maxRecDepth 20000 in
theorem gX4_load_X4_partOf : GoodIn wsX4_load (va_wsS RX4 169 yX4_partOf wsX4_partOf) := goodIn_app (goodIn_of _ (by decide +kernel)) ggX4_load_X4_partOf
theorem dX4_load_0 : decode cX4_load 0 = .ok (.aload_n 0, 1) := by decide +kernel
theorem dX4_load_1 : decode cX4_load 1 = .ok (.iload_n 1, 1) := by decide +kernel
theorem dX4_load_2 : decode cX4_load 2 = .ok (.invokevirtual 95, 3) := by decide +kernel
theorem dX4_load_5 : decode cX4_load 5 = .ok (.ifCond .eq 10, 3) := by decide +kernel
theorem dX4_load_8 : decode cX4_load 8 = .ok (.iload_n 2, 1) := by decide +kernel
theorem dX4_load_9 : decode cX4_load 9 = .ok (.invokestatic 155, 3) := by decide +kernel
theorem dX4_load_12 : decode cX4_load 12 = .ok (.ifCond .ne 7, 3) := by decide +kernel
theorem dX4_load_15 : decode cX4_load 15 = .ok (.ldc2_w 158, 3) := by decide +kernel
theorem dX4_load_18 : decode cX4_load 18 = .ok (.lreturn, 1) := by decide +kernel
theorem dX4_load_19 : decode cX4_load 19 = .ok (.aload_n 0, 1) := by decide +kernel
theorem dX4_load_20 : decode cX4_load 20 = .ok (.getfield 36, 3) := by decide +kernel
theorem dX4_load_23 : decode cX4_load 23 = .ok (.aload_n 0, 1) := by decide +kernel
theorem dX4_load_24 : decode cX4_load 24 = .ok (.getfield 19, 3) := by decide +kernel
theorem dX4_load_27 : decode cX4_load 27 = .ok (.iconst 0, 1) := by decide +kernel
theorem dX4_load_28 : decode cX4_load 28 = .ok (.invokevirtual 142, 3) := by decide +kernel
theorem dX4_load_31 : decode cX4_load 31 = .ok (.pop, 1) := by decide +kernel
theorem dX4_load_32 : decode cX4_load 32 = .ok (.aload_n 0, 1) := by decide +kernel
theorem dX4_load_33 : decode cX4_load 33 = .ok (.getfield 36, 3) := by decide +kernel
theorem dX4_load_36 : decode cX4_load 36 = .ok (.getfield 173, 3) := by decide +kernel
theorem dX4_load_39 : decode cX4_load 39 = .ok (.iload_n 1, 1) := by decide +kernel
theorem dX4_load_40 : decode cX4_load 40 = .ok (.laload, 1) := by decide +kernel
theorem dX4_load_41 : decode cX4_load 41 = .ok (.aload_n 0, 1) := by decide +kernel
theorem dX4_load_42 : decode cX4_load 42 = .ok (.getfield 36, 3) := by decide +kernel
theorem dX4_load_45 : decode cX4_load 45 = .ok (.getfield 176, 3) := by decide +kernel
theorem dX4_load_48 : decode cX4_load 48 = .ok (.iload_n 2, 1) := by decide +kernel
theorem dX4_load_49 : decode cX4_load 49 = .ok (.invokestatic 169, 3) := by decide +kernel
theorem dX4_load_52 : decode cX4_load 52 = .ok (.lreturn, 1) := by decide +kernel
set_option maxRecDepth 20000 in
theorem ggX4_greatest_X4_isPart : GoodIn wsX4_greatest wsX4_isPart := goodIn_r _ [11] (by decide +kernel) (by decide +kernel)
set_option maxRecDepth 20000 in
theorem gX4_greatest_X4_isPart : GoodIn wsX4_greatest (va_wsS RX4 155 yX4_isPart wsX4_isPart) := goodIn_app (goodIn_of _ (by decide +kernel)) ggX4_greatest_X4_isPart
set_option maxRecDepth 20000 in
theorem ggX4_greatest_X1_hold : GoodIn wsX4_greatest wsX1_hold := goodIn_r _ [15, 16, 17, 18, 19, 13, 20, 21, 22, 23, 24, 25, 26, 27, 28, 29, 30, 31, 32, 33, 34, 35, 36, 37, 38, 39, 40, 41, 42, 43, 44, 45, 10, 46, 47, 48, 49, 50, 51, 52, 53, 54, 55, 56, 57, 58, 59, 60, 61, 62, 63, 64, 65, 66, 67, 68, 69, 70, 71, 72, 73, 74, 75, 76, 77, 89, 90, 91, 92, 93, 94, 95, 96, 97, 98, 99, 100, 101, 102, 103, 104] (by decide +kernel) (by decide +kernel)
set_option maxRecDepth 20000 in
theorem gX4_greatest_X1_hold_n142 : GoodIn wsX4_greatest (wsX1_hold) := ggX4_greatest_X1_hold
set_option maxRecDepth 20000 in
theorem ggX4_greatest_X4_partOf : GoodIn wsX4_greatest wsX4_partOf := goodIn_r _ [80, 4, 5, 6, 7, 81, 82, 10, 83] (by decide +kernel) (by decide +kernel)
set_option maxRecDepth 20000 in
theorem gX4_greatest_X4_partOf : GoodIn wsX4_greatest (va_wsS RX4 169 yX4_partOf wsX4_partOf) := goodIn_app (goodIn_of _ (by decide +kernel)) ggX4_greatest_X4_partOf
theorem dX4_greatest_0 : decode cX4_greatest 0 = .ok (.iload_n 1, 1) := by decide +kernel
theorem dX4_greatest_1 : decode cX4_greatest 1 = .ok (.invokestatic 155, 3) := by decide +kernel
theorem dX4_greatest_4 : decode cX4_greatest 4 = .ok (.ifCond .ne 7, 3) := by decide +kernel
theorem dX4_greatest_7 : decode cX4_greatest 7 = .ok (.ldc2_w 158, 3) := by decide +kernel
theorem dX4_greatest_10 : decode cX4_greatest 10 = .ok (.lreturn, 1) := by decide +kernel
theorem dX4_greatest_11 : decode cX4_greatest 11 = .ok (.aload_n 0, 1) := by decide +kernel
theorem dX4_greatest_12 : decode cX4_greatest 12 = .ok (.getfield 36, 3) := by decide +kernel
theorem dX4_greatest_15 : decode cX4_greatest 15 = .ok (.aload_n 0, 1) := by decide +kernel
theorem dX4_greatest_16 : decode cX4_greatest 16 = .ok (.getfield 19, 3) := by decide +kernel
theorem dX4_greatest_19 : decode cX4_greatest 19 = .ok (.iconst 0, 1) := by decide +kernel
theorem dX4_greatest_20 : decode cX4_greatest 20 = .ok (.invokevirtual 142, 3) := by decide +kernel
theorem dX4_greatest_23 : decode cX4_greatest 23 = .ok (.pop, 1) := by decide +kernel
theorem dX4_greatest_24 : decode cX4_greatest 24 = .ok (.lconst 0, 1) := by decide +kernel
theorem dX4_greatest_25 : decode cX4_greatest 25 = .ok (.lstore_n 2, 1) := by decide +kernel
theorem dX4_greatest_26 : decode cX4_greatest 26 = .ok (.iconst 0, 1) := by decide +kernel
theorem dX4_greatest_27 : decode cX4_greatest 27 = .ok (.istore 4, 2) := by decide +kernel
theorem dX4_greatest_29 : decode cX4_greatest 29 = .ok (.iload 4, 2) := by decide +kernel
theorem dX4_greatest_31 : decode cX4_greatest 31 = .ok (.aload_n 0, 1) := by decide +kernel
theorem dX4_greatest_32 : decode cX4_greatest 32 = .ok (.getfield 19, 3) := by decide +kernel
theorem dX4_greatest_35 : decode cX4_greatest 35 = .ok (.getfield 82, 3) := by decide +kernel
theorem dX4_greatest_38 : decode cX4_greatest 38 = .ok (.if_icmp .ge 24, 3) := by decide +kernel
theorem dX4_greatest_41 : decode cX4_greatest 41 = .ok (.lload_n 2, 1) := by decide +kernel
theorem dX4_greatest_42 : decode cX4_greatest 42 = .ok (.aload_n 0, 1) := by decide +kernel
theorem dX4_greatest_43 : decode cX4_greatest 43 = .ok (.getfield 36, 3) := by decide +kernel
theorem dX4_greatest_46 : decode cX4_greatest 46 = .ok (.getfield 173, 3) := by decide +kernel
theorem dX4_greatest_49 : decode cX4_greatest 49 = .ok (.iload 4, 2) := by decide +kernel
theorem dX4_greatest_51 : decode cX4_greatest 51 = .ok (.laload, 1) := by decide +kernel
theorem dX4_greatest_52 : decode cX4_greatest 52 = .ok (.invokestatic 180, 3) := by decide +kernel
theorem dX4_greatest_55 : decode cX4_greatest 55 = .ok (.lstore_n 2, 1) := by decide +kernel
theorem dX4_greatest_56 : decode cX4_greatest 56 = .ok (.iinc 4 1, 3) := by decide +kernel
theorem dX4_greatest_59 : decode cX4_greatest 59 = .ok (.goto (-30), 3) := by decide +kernel
theorem dX4_greatest_62 : decode cX4_greatest 62 = .ok (.lload_n 2, 1) := by decide +kernel
theorem dX4_greatest_63 : decode cX4_greatest 63 = .ok (.aload_n 0, 1) := by decide +kernel
theorem dX4_greatest_64 : decode cX4_greatest 64 = .ok (.getfield 36, 3) := by decide +kernel
theorem dX4_greatest_67 : decode cX4_greatest 67 = .ok (.getfield 176, 3) := by decide +kernel
theorem dX4_greatest_70 : decode cX4_greatest 70 = .ok (.iload_n 1, 1) := by decide +kernel
theorem dX4_greatest_71 : decode cX4_greatest 71 = .ok (.invokestatic 169, 3) := by decide +kernel
theorem dX4_greatest_74 : decode cX4_greatest 74 = .ok (.lreturn, 1) := by decide +kernel
set_option maxRecDepth 20000 in
theorem ggX4_agrees_X4_isSet : GoodIn wsX4_agrees wsX4_isSet := goodIn_r _ [7, 1, 87, 88, 89, 90, 91, 92, 93, 94, 95, 96, 97, 98] (by decide +kernel) (by decide +kernel)
set_option maxRecDepth 20000 in
theorem gX4_agrees_X4_isSet : GoodIn wsX4_agrees (wsV RX4 79 RX4 yX4_isSet wsX4_isSet) := goodIn_app (goodIn_of _ (by decide +kernel)) ggX4_agrees_X4_isSet
set_option maxRecDepth 20000 in
theorem ggX4_agrees_X0_votersWhoAgree : GoodIn wsX4_agrees wsX0_votersWhoAgree := goodIn_r _ [11, 12, 13, 14, 15, 16, 9, 17, 18, 92, 93, 94, 95, 96, 97, 98] (by decide +kernel) (by decide +kernel)
set_option maxRecDepth 20000 in
theorem gX4_agrees_X0_votersWhoAgree_n186 : GoodIn wsX4_agrees (wsX0_votersWhoAgree) := ggX4_agrees_X0_votersWhoAgree
set_option maxRecDepth 20000 in
theorem ggX4_agrees_X0_isOwed : GoodIn wsX4_agrees wsX0_isOwed := goodIn_r _ [21, 22, 23, 8, 10, 9, 11, 12, 13, 14, 15, 16, 17, 18, 24, 25, 26, 27, 28, 29, 30, 31, 32, 33, 34, 92, 93, 94, 95, 96, 97, 98] (by decide +kernel) (by decide +kernel)
set_option maxRecDepth 20000 in
theorem gX4_agrees_X0_isOwed_n189 : GoodIn wsX4_agrees (wsX0_isOwed) := ggX4_agrees_X0_isOwed
set_option maxRecDepth 20000 in
theorem ggX4_agrees_X1_hold : GoodIn wsX4_agrees wsX1_hold := goodIn_r _ [38, 39, 40, 41, 42, 36, 43, 44, 45, 46, 47, 48, 9, 49, 50, 23, 8, 10, 11, 12, 13, 14, 15, 16, 17, 18, 51, 52, 53, 54, 55, 56, 6, 57, 58, 59, 60, 61, 62, 63, 64, 65, 66, 25, 26, 27, 28, 29, 30, 67, 68, 69, 70, 71, 72, 73, 74, 75, 76, 77, 78, 79, 80, 81, 82, 92, 93, 94, 95, 96, 97, 98, 99, 100, 101, 102, 103, 104, 105, 106, 107] (by decide +kernel) (by decide +kernel)
set_option maxRecDepth 20000 in
theorem gX4_agrees_X1_hold_n142 : GoodIn wsX4_agrees (wsX1_hold) := ggX4_agrees_X1_hold
set_option maxRecDepth 20000 in
theorem ggX4_agrees_X0_approvedByThoseWhoAgree : GoodIn wsX4_agrees wsX0_approvedByThoseWhoAgree := goodIn_r _ [85, 12, 18, 14, 15, 16, 9, 17, 92, 93, 94, 95, 96, 97, 98] (by decide +kernel) (by decide +kernel)
set_option maxRecDepth 20000 in
theorem gX4_agrees_X0_approvedByThoseWhoAgree_n192 : GoodIn wsX4_agrees (wsX0_approvedByThoseWhoAgree) := ggX4_agrees_X0_approvedByThoseWhoAgree
set_option maxRecDepth 20000 in
theorem ggX4_agrees_J6_bitCount_0f7a4 : GoodIn wsX4_agrees wsJ6_bitCount_0f7a4 := goodIn_r _ [27, 28, 29, 30] (by decide +kernel) (by decide +kernel)
set_option maxRecDepth 20000 in
theorem gX4_agrees_J6_bitCount_0f7a4 : GoodIn wsX4_agrees (va_wsS RX4 117 yJ6_bitCount_0f7a4 wsJ6_bitCount_0f7a4) := goodIn_app (goodIn_of _ (by decide +kernel)) ggX4_agrees_J6_bitCount_0f7a4
theorem dX4_agrees_0 : decode cX4_agrees 0 = .ok (.aload_n 0, 1) := by decide +kernel
theorem dX4_agrees_1 : decode cX4_agrees 1 = .ok (.iload_n 1, 1) := by decide +kernel
theorem dX4_agrees_2 : decode cX4_agrees 2 = .ok (.invokevirtual 79, 3) := by decide +kernel
theorem dX4_agrees_5 : decode cX4_agrees 5 = .ok (.ifCond .eq 12, 3) := by decide +kernel
theorem dX4_agrees_8 : decode cX4_agrees 8 = .ok (.iload_n 2, 1) := by decide +kernel
theorem dX4_agrees_9 : decode cX4_agrees 9 = .ok (.ifCond .lt 8, 3) := by decide +kernel
theorem dX4_agrees_12 : decode cX4_agrees 12 = .ok (.iload_n 2, 1) := by decide +kernel
theorem dX4_agrees_13 : decode cX4_agrees 13 = .ok (.iconst 5, 1) := by decide +kernel
theorem dX4_agrees_14 : decode cX4_agrees 14 = .ok (.if_icmp .le 5, 3) := by decide +kernel
theorem dX4_agrees_17 : decode cX4_agrees 17 = .ok (.iconst (-1), 1) := by decide +kernel
theorem dX4_agrees_18 : decode cX4_agrees 18 = .ok (.ireturn, 1) := by decide +kernel
theorem dX4_agrees_19 : decode cX4_agrees 19 = .ok (.iload_n 2, 1) := by decide +kernel
theorem dX4_agrees_20 : decode cX4_agrees 20 = .ok (.ifCond .ne 12, 3) := by decide +kernel
theorem dX4_agrees_23 : decode cX4_agrees 23 = .ok (.aload_n 0, 1) := by decide +kernel
theorem dX4_agrees_24 : decode cX4_agrees 24 = .ok (.getfield 19, 3) := by decide +kernel
theorem dX4_agrees_27 : decode cX4_agrees 27 = .ok (.iload_n 1, 1) := by decide +kernel
theorem dX4_agrees_28 : decode cX4_agrees 28 = .ok (.invokevirtual 186, 3) := by decide +kernel
theorem dX4_agrees_31 : decode cX4_agrees 31 = .ok (.ireturn, 1) := by decide +kernel
theorem dX4_agrees_32 : decode cX4_agrees 32 = .ok (.iload_n 2, 1) := by decide +kernel
theorem dX4_agrees_33 : decode cX4_agrees 33 = .ok (.iconst 1, 1) := by decide +kernel
theorem dX4_agrees_34 : decode cX4_agrees 34 = .ok (.if_icmp .ne 20, 3) := by decide +kernel
theorem dX4_agrees_37 : decode cX4_agrees 37 = .ok (.aload_n 0, 1) := by decide +kernel
theorem dX4_agrees_38 : decode cX4_agrees 38 = .ok (.getfield 19, 3) := by decide +kernel
theorem dX4_agrees_41 : decode cX4_agrees 41 = .ok (.iload_n 1, 1) := by decide +kernel
theorem dX4_agrees_42 : decode cX4_agrees 42 = .ok (.invokevirtual 189, 3) := by decide +kernel
theorem dX4_agrees_45 : decode cX4_agrees 45 = .ok (.ifCond .eq 7, 3) := by decide +kernel
theorem dX4_agrees_48 : decode cX4_agrees 48 = .ok (.iconst 1, 1) := by decide +kernel
theorem dX4_agrees_49 : decode cX4_agrees 49 = .ok (.goto 4, 3) := by decide +kernel
theorem dX4_agrees_52 : decode cX4_agrees 52 = .ok (.iconst 0, 1) := by decide +kernel
theorem dX4_agrees_53 : decode cX4_agrees 53 = .ok (.ireturn, 1) := by decide +kernel
theorem dX4_agrees_54 : decode cX4_agrees 54 = .ok (.aload_n 0, 1) := by decide +kernel
theorem dX4_agrees_55 : decode cX4_agrees 55 = .ok (.getfield 36, 3) := by decide +kernel
theorem dX4_agrees_58 : decode cX4_agrees 58 = .ok (.aload_n 0, 1) := by decide +kernel
theorem dX4_agrees_59 : decode cX4_agrees 59 = .ok (.getfield 19, 3) := by decide +kernel
theorem dX4_agrees_62 : decode cX4_agrees 62 = .ok (.iload_n 2, 1) := by decide +kernel
theorem dX4_agrees_63 : decode cX4_agrees 63 = .ok (.iconst 2, 1) := by decide +kernel
theorem dX4_agrees_64 : decode cX4_agrees 64 = .ok (.isub, 1) := by decide +kernel
theorem dX4_agrees_65 : decode cX4_agrees 65 = .ok (.invokevirtual 142, 3) := by decide +kernel
theorem dX4_agrees_68 : decode cX4_agrees 68 = .ok (.aload_n 0, 1) := by decide +kernel
theorem dX4_agrees_69 : decode cX4_agrees 69 = .ok (.getfield 19, 3) := by decide +kernel
theorem dX4_agrees_72 : decode cX4_agrees 72 = .ok (.iload_n 1, 1) := by decide +kernel
theorem dX4_agrees_73 : decode cX4_agrees 73 = .ok (.invokevirtual 192, 3) := by decide +kernel
theorem dX4_agrees_76 : decode cX4_agrees 76 = .ok (.iand, 1) := by decide +kernel
theorem dX4_agrees_77 : decode cX4_agrees 77 = .ok (.invokestatic 117, 3) := by decide +kernel
theorem dX4_agrees_80 : decode cX4_agrees 80 = .ok (.ireturn, 1) := by decide +kernel
set_option maxRecDepth 20000 in
theorem ggX4_shorts_X4_isLaw : GoodIn wsX4_shorts wsX4_isLaw := goodIn_r _ [6] (by decide +kernel) (by decide +kernel)
set_option maxRecDepth 20000 in
theorem gX4_shorts_X4_isLaw : GoodIn wsX4_shorts (va_wsS RX4 146 yX4_isLaw wsX4_isLaw) := goodIn_app (goodIn_of _ (by decide +kernel)) ggX4_shorts_X4_isLaw
set_option maxRecDepth 20000 in
theorem ggX4_shorts_X1_hold : GoodIn wsX4_shorts wsX1_hold := goodIn_r _ [10, 11, 12, 13, 14, 8, 15, 16, 17, 18, 19, 20, 21, 22, 23, 24, 25, 26, 27, 28, 29, 30, 31, 32, 33, 34, 35, 36, 37, 38, 39, 40, 5, 41, 42, 43, 44, 45, 46, 47, 48, 49, 50, 51, 52, 53, 54, 55, 56, 57, 58, 59, 60, 61, 62, 63, 64, 65, 66, 67, 68, 69, 70, 71, 72, 95, 96, 97, 98, 99, 100, 101, 102, 103, 104, 105, 106, 107, 108, 109, 110] (by decide +kernel) (by decide +kernel)
set_option maxRecDepth 20000 in
theorem gX4_shorts_X1_hold_n142 : GoodIn wsX4_shorts (wsX1_hold) := ggX4_shorts_X1_hold
set_option maxRecDepth 20000 in
theorem ggX4_shorts_X0_isShort : GoodIn wsX4_shorts wsX0_isShort := goodIn_r _ [75, 76, 77, 78, 21, 79, 80, 24, 25, 26, 27, 28, 29, 30, 31, 32, 33, 34, 81, 51, 52, 53, 54, 55, 56, 82, 83, 84, 85, 86, 87, 88, 89, 95, 96, 97, 98, 99, 100, 101] (by decide +kernel) (by decide +kernel)
set_option maxRecDepth 20000 in
theorem gX4_shorts_X0_isShort_n195 : GoodIn wsX4_shorts (wsX0_isShort) := ggX4_shorts_X0_isShort
theorem dX4_shorts_0 : decode cX4_shorts 0 = .ok (.iload_n 1, 1) := by decide +kernel
theorem dX4_shorts_1 : decode cX4_shorts 1 = .ok (.invokestatic 146, 3) := by decide +kernel
theorem dX4_shorts_4 : decode cX4_shorts 4 = .ok (.ifCond .eq 8, 3) := by decide +kernel
theorem dX4_shorts_7 : decode cX4_shorts 7 = .ok (.iload_n 2, 1) := by decide +kernel
theorem dX4_shorts_8 : decode cX4_shorts 8 = .ok (.iconst (-1), 1) := by decide +kernel
theorem dX4_shorts_9 : decode cX4_shorts 9 = .ok (.if_icmp .ge 5, 3) := by decide +kernel
theorem dX4_shorts_12 : decode cX4_shorts 12 = .ok (.iconst (-1), 1) := by decide +kernel
theorem dX4_shorts_13 : decode cX4_shorts 13 = .ok (.ireturn, 1) := by decide +kernel
theorem dX4_shorts_14 : decode cX4_shorts 14 = .ok (.aload_n 0, 1) := by decide +kernel
theorem dX4_shorts_15 : decode cX4_shorts 15 = .ok (.getfield 36, 3) := by decide +kernel
theorem dX4_shorts_18 : decode cX4_shorts 18 = .ok (.aload_n 0, 1) := by decide +kernel
theorem dX4_shorts_19 : decode cX4_shorts 19 = .ok (.getfield 19, 3) := by decide +kernel
theorem dX4_shorts_22 : decode cX4_shorts 22 = .ok (.iload_n 1, 1) := by decide +kernel
theorem dX4_shorts_23 : decode cX4_shorts 23 = .ok (.invokevirtual 142, 3) := by decide +kernel
theorem dX4_shorts_26 : decode cX4_shorts 26 = .ok (.istore_n 3, 1) := by decide +kernel
theorem dX4_shorts_27 : decode cX4_shorts 27 = .ok (.iconst 0, 1) := by decide +kernel
theorem dX4_shorts_28 : decode cX4_shorts 28 = .ok (.istore 4, 2) := by decide +kernel
theorem dX4_shorts_30 : decode cX4_shorts 30 = .ok (.iconst 1, 1) := by decide +kernel
theorem dX4_shorts_31 : decode cX4_shorts 31 = .ok (.istore 5, 2) := by decide +kernel
theorem dX4_shorts_33 : decode cX4_shorts 33 = .ok (.iload 5, 2) := by decide +kernel
theorem dX4_shorts_35 : decode cX4_shorts 35 = .ok (.iconst 1, 1) := by decide +kernel
theorem dX4_shorts_36 : decode cX4_shorts 36 = .ok (.aload_n 0, 1) := by decide +kernel
theorem dX4_shorts_37 : decode cX4_shorts 37 = .ok (.getfield 19, 3) := by decide +kernel
theorem dX4_shorts_40 : decode cX4_shorts 40 = .ok (.getfield 66, 3) := by decide +kernel
theorem dX4_shorts_43 : decode cX4_shorts 43 = .ok (.ishl, 1) := by decide +kernel
theorem dX4_shorts_44 : decode cX4_shorts 44 = .ok (.if_icmp .ge 34, 3) := by decide +kernel
theorem dX4_shorts_47 : decode cX4_shorts 47 = .ok (.aload_n 0, 1) := by decide +kernel
theorem dX4_shorts_48 : decode cX4_shorts 48 = .ok (.getfield 19, 3) := by decide +kernel
theorem dX4_shorts_51 : decode cX4_shorts 51 = .ok (.iload 5, 2) := by decide +kernel
theorem dX4_shorts_53 : decode cX4_shorts 53 = .ok (.iload_n 3, 1) := by decide +kernel
theorem dX4_shorts_54 : decode cX4_shorts 54 = .ok (.invokevirtual 195, 3) := by decide +kernel
theorem dX4_shorts_57 : decode cX4_shorts 57 = .ok (.ifCond .eq 15, 3) := by decide +kernel
theorem dX4_shorts_60 : decode cX4_shorts 60 = .ok (.iload 4, 2) := by decide +kernel
theorem dX4_shorts_62 : decode cX4_shorts 62 = .ok (.iload_n 2, 1) := by decide +kernel
theorem dX4_shorts_63 : decode cX4_shorts 63 = .ok (.if_icmp .ne 6, 3) := by decide +kernel
theorem dX4_shorts_66 : decode cX4_shorts 66 = .ok (.iload 5, 2) := by decide +kernel
theorem dX4_shorts_68 : decode cX4_shorts 68 = .ok (.ireturn, 1) := by decide +kernel
theorem dX4_shorts_69 : decode cX4_shorts 69 = .ok (.iinc 4 1, 3) := by decide +kernel
theorem dX4_shorts_72 : decode cX4_shorts 72 = .ok (.iinc 5 1, 3) := by decide +kernel
theorem dX4_shorts_75 : decode cX4_shorts 75 = .ok (.goto (-42), 3) := by decide +kernel
theorem dX4_shorts_78 : decode cX4_shorts 78 = .ok (.iload_n 2, 1) := by decide +kernel
theorem dX4_shorts_79 : decode cX4_shorts 79 = .ok (.iconst (-1), 1) := by decide +kernel
theorem dX4_shorts_80 : decode cX4_shorts 80 = .ok (.if_icmp .ne 8, 3) := by decide +kernel
theorem dX4_shorts_83 : decode cX4_shorts 83 = .ok (.iload 4, 2) := by decide +kernel
theorem dX4_shorts_85 : decode cX4_shorts 85 = .ok (.goto 5, 3) := by decide +kernel
theorem dX4_shorts_88 : decode cX4_shorts 88 = .ok (.bipush (-4), 2) := by decide +kernel
theorem dX4_shorts_90 : decode cX4_shorts 90 = .ok (.ireturn, 1) := by decide +kernel
set_option maxRecDepth 20000 in
theorem ggX4_joins_X4_isLaw : GoodIn wsX4_joins wsX4_isLaw := goodIn_r _ [7] (by decide +kernel) (by decide +kernel)
set_option maxRecDepth 20000 in
theorem gX4_joins_X4_isLaw : GoodIn wsX4_joins (va_wsS RX4 146 yX4_isLaw wsX4_isLaw) := goodIn_app (goodIn_of _ (by decide +kernel)) ggX4_joins_X4_isLaw
set_option maxRecDepth 20000 in
theorem ggX4_joins_X4_isCandidate : GoodIn wsX4_joins wsX4_isCandidate := goodIn_r _ [11, 1, 96, 97, 98, 99, 100, 101, 102, 103, 104, 105, 106, 107] (by decide +kernel) (by decide +kernel)
set_option maxRecDepth 20000 in
theorem gX4_joins_X4_isCandidate : GoodIn wsX4_joins (wsV RX4 108 RX4 yX4_isCandidate wsX4_isCandidate) := goodIn_app (goodIn_of _ (by decide +kernel)) ggX4_joins_X4_isCandidate
set_option maxRecDepth 20000 in
theorem ggX4_joins_X0_isWithdrawn : GoodIn wsX4_joins wsX0_isWithdrawn := goodIn_r _ [15, 16, 17, 6, 18, 101, 102, 103, 104, 105, 106, 107] (by decide +kernel) (by decide +kernel)
set_option maxRecDepth 20000 in
theorem gX4_joins_X0_isWithdrawn_n111 : GoodIn wsX4_joins (wsX0_isWithdrawn) := ggX4_joins_X0_isWithdrawn
set_option maxRecDepth 20000 in
theorem ggX4_joins_X0_copyFrom : GoodIn wsX4_joins wsX0_copyFrom := goodIn_r _ [21, 22, 23, 24, 16, 25, 26, 27, 28, 29, 30, 31, 101, 102, 103, 104, 105, 106, 107] (by decide +kernel) (by decide +kernel)
set_option maxRecDepth 20000 in
theorem gX4_joins_X0_copyFrom_n69 : GoodIn wsX4_joins (wsX0_copyFrom) := ggX4_joins_X0_copyFrom
set_option maxRecDepth 20000 in
theorem ggX4_joins_X0_addBallot : GoodIn wsX4_joins wsX0_addBallot := goodIn_r _ [34, 23, 25, 30, 101, 102, 103, 104, 105, 106, 107] (by decide +kernel) (by decide +kernel)
set_option maxRecDepth 20000 in
theorem gX4_joins_X0_addBallot_n91 : GoodIn wsX4_joins (wsX0_addBallot) := ggX4_joins_X0_addBallot
set_option maxRecDepth 20000 in
theorem ggX4_joins_X1_hold : GoodIn wsX4_joins wsX1_hold := goodIn_r _ [38, 39, 40, 41, 42, 36, 43, 44, 45, 46, 47, 48, 13, 49, 50, 51, 52, 53, 54, 23, 25, 55, 56, 57, 58, 30, 59, 60, 61, 62, 63, 17, 6, 18, 64, 65, 66, 67, 68, 69, 70, 71, 72, 73, 74, 75, 76, 77, 78, 79, 80, 81, 82, 83, 84, 85, 86, 87, 88, 89, 90, 91, 92, 93, 94, 101, 102, 103, 104, 105, 106, 107, 108, 109, 110, 111, 112, 113, 114, 115, 116] (by decide +kernel) (by decide +kernel)
set_option maxRecDepth 20000 in
theorem gX4_joins_X1_hold_n142 : GoodIn wsX4_joins (wsX1_hold) := ggX4_joins_X1_hold
set_option maxRecDepth 20000 in
theorem ggX4_joins_X4_hasBit : GoodIn wsX4_joins wsX4_hasBit := goodIn_r _ [18] (by decide +kernel) (by decide +kernel)
set_option maxRecDepth 20000 in
theorem gX4_joins_X4_hasBit : GoodIn wsX4_joins (va_wsS RX4 199 yX4_hasBit wsX4_hasBit) := goodIn_app (goodIn_of _ (by decide +kernel)) ggX4_joins_X4_hasBit
theorem dX4_joins_0 : decode cX4_joins 0 = .ok (.iload_n 1, 1) := by decide +kernel
theorem dX4_joins_1 : decode cX4_joins 1 = .ok (.invokestatic 146, 3) := by decide +kernel
theorem dX4_joins_4 : decode cX4_joins 4 = .ok (.ifCond .eq 11, 3) := by decide +kernel
theorem dX4_joins_7 : decode cX4_joins 7 = .ok (.aload_n 0, 1) := by decide +kernel
theorem dX4_joins_8 : decode cX4_joins 8 = .ok (.iload_n 2, 1) := by decide +kernel
theorem dX4_joins_9 : decode cX4_joins 9 = .ok (.invokevirtual 108, 3) := by decide +kernel
theorem dX4_joins_12 : decode cX4_joins 12 = .ok (.ifCond .ne 5, 3) := by decide +kernel
theorem dX4_joins_15 : decode cX4_joins 15 = .ok (.iconst (-1), 1) := by decide +kernel
theorem dX4_joins_16 : decode cX4_joins 16 = .ok (.ireturn, 1) := by decide +kernel
theorem dX4_joins_17 : decode cX4_joins 17 = .ok (.aload_n 0, 1) := by decide +kernel
theorem dX4_joins_18 : decode cX4_joins 18 = .ok (.getfield 19, 3) := by decide +kernel
theorem dX4_joins_21 : decode cX4_joins 21 = .ok (.iload_n 2, 1) := by decide +kernel
theorem dX4_joins_22 : decode cX4_joins 22 = .ok (.invokevirtual 111, 3) := by decide +kernel
theorem dX4_joins_25 : decode cX4_joins 25 = .ok (.ifCond .eq 6, 3) := by decide +kernel
theorem dX4_joins_28 : decode cX4_joins 28 = .ok (.bipush (-2), 2) := by decide +kernel
theorem dX4_joins_30 : decode cX4_joins 30 = .ok (.ireturn, 1) := by decide +kernel
theorem dX4_joins_31 : decode cX4_joins 31 = .ok (.aload_n 0, 1) := by decide +kernel
theorem dX4_joins_32 : decode cX4_joins 32 = .ok (.getfield 23, 3) := by decide +kernel
theorem dX4_joins_35 : decode cX4_joins 35 = .ok (.aload_n 0, 1) := by decide +kernel
theorem dX4_joins_36 : decode cX4_joins 36 = .ok (.getfield 19, 3) := by decide +kernel
theorem dX4_joins_39 : decode cX4_joins 39 = .ok (.invokevirtual 69, 3) := by decide +kernel
theorem dX4_joins_42 : decode cX4_joins 42 = .ok (.aload_n 0, 1) := by decide +kernel
theorem dX4_joins_43 : decode cX4_joins 43 = .ok (.getfield 23, 3) := by decide +kernel
theorem dX4_joins_46 : decode cX4_joins 46 = .ok (.iconst 0, 1) := by decide +kernel
theorem dX4_joins_47 : decode cX4_joins 47 = .ok (.iconst 1, 1) := by decide +kernel
theorem dX4_joins_48 : decode cX4_joins 48 = .ok (.iload_n 2, 1) := by decide +kernel
theorem dX4_joins_49 : decode cX4_joins 49 = .ok (.ishl, 1) := by decide +kernel
theorem dX4_joins_50 : decode cX4_joins 50 = .ok (.invokevirtual 91, 3) := by decide +kernel
theorem dX4_joins_53 : decode cX4_joins 53 = .ok (.iconst 0, 1) := by decide +kernel
theorem dX4_joins_54 : decode cX4_joins 54 = .ok (.istore_n 3, 1) := by decide +kernel
theorem dX4_joins_55 : decode cX4_joins 55 = .ok (.iload_n 3, 1) := by decide +kernel
theorem dX4_joins_56 : decode cX4_joins 56 = .ok (.bipush 20, 2) := by decide +kernel
theorem dX4_joins_58 : decode cX4_joins 58 = .ok (.if_icmp .gt 46, 3) := by decide +kernel
theorem dX4_joins_61 : decode cX4_joins 61 = .ok (.aload_n 0, 1) := by decide +kernel
theorem dX4_joins_62 : decode cX4_joins 62 = .ok (.getfield 23, 3) := by decide +kernel
theorem dX4_joins_65 : decode cX4_joins 65 = .ok (.getfield 98, 3) := by decide +kernel
theorem dX4_joins_68 : decode cX4_joins 68 = .ok (.aload_n 0, 1) := by decide +kernel
theorem dX4_joins_69 : decode cX4_joins 69 = .ok (.getfield 19, 3) := by decide +kernel
theorem dX4_joins_72 : decode cX4_joins 72 = .ok (.getfield 82, 3) := by decide +kernel
theorem dX4_joins_75 : decode cX4_joins 75 = .ok (.iload_n 3, 1) := by decide +kernel
theorem dX4_joins_76 : decode cX4_joins 76 = .ok (.iastore, 1) := by decide +kernel
theorem dX4_joins_77 : decode cX4_joins 77 = .ok (.aload_n 0, 1) := by decide +kernel
theorem dX4_joins_78 : decode cX4_joins 78 = .ok (.getfield 36, 3) := by decide +kernel
theorem dX4_joins_81 : decode cX4_joins 81 = .ok (.aload_n 0, 1) := by decide +kernel
theorem dX4_joins_82 : decode cX4_joins 82 = .ok (.getfield 23, 3) := by decide +kernel
theorem dX4_joins_85 : decode cX4_joins 85 = .ok (.iload_n 1, 1) := by decide +kernel
theorem dX4_joins_86 : decode cX4_joins 86 = .ok (.invokevirtual 142, 3) := by decide +kernel
theorem dX4_joins_89 : decode cX4_joins 89 = .ok (.iload_n 2, 1) := by decide +kernel
theorem dX4_joins_90 : decode cX4_joins 90 = .ok (.invokestatic 199, 3) := by decide +kernel
theorem dX4_joins_93 : decode cX4_joins 93 = .ok (.ifCond .eq 5, 3) := by decide +kernel
theorem dX4_joins_96 : decode cX4_joins 96 = .ok (.iload_n 3, 1) := by decide +kernel
theorem dX4_joins_97 : decode cX4_joins 97 = .ok (.ireturn, 1) := by decide +kernel
theorem dX4_joins_98 : decode cX4_joins 98 = .ok (.iinc 3 1, 3) := by decide +kernel
theorem dX4_joins_101 : decode cX4_joins 101 = .ok (.goto (-46), 3) := by decide +kernel
theorem dX4_joins_104 : decode cX4_joins 104 = .ok (.bipush (-4), 2) := by decide +kernel
theorem dX4_joins_106 : decode cX4_joins 106 = .ok (.ireturn, 1) := by decide +kernel
set_option maxRecDepth 20000 in
theorem ggX4_matters_X4_isLaw : GoodIn wsX4_matters wsX4_isLaw := goodIn_r _ [7] (by decide +kernel) (by decide +kernel)
set_option maxRecDepth 20000 in
theorem gX4_matters_X4_isLaw : GoodIn wsX4_matters (va_wsS RX4 146 yX4_isLaw wsX4_isLaw) := goodIn_app (goodIn_of _ (by decide +kernel)) ggX4_matters_X4_isLaw
set_option maxRecDepth 20000 in
theorem ggX4_matters_X1_hold : GoodIn wsX4_matters wsX1_hold := goodIn_r _ [11, 12, 13, 14, 15, 9, 16, 17, 18, 19, 20, 21, 22, 23, 24, 25, 26, 27, 28, 29, 30, 31, 32, 33, 34, 35, 36, 37, 38, 39, 40, 41, 6, 42, 43, 44, 45, 46, 47, 48, 49, 50, 51, 52, 53, 54, 55, 56, 57, 58, 59, 60, 61, 62, 63, 64, 65, 66, 67, 68, 69, 70, 71, 72, 73, 90, 91, 92, 93, 94, 95, 96, 97, 98, 99, 100, 101, 102, 103, 104, 105] (by decide +kernel) (by decide +kernel)
set_option maxRecDepth 20000 in
theorem gX4_matters_X1_hold_n142 : GoodIn wsX4_matters (wsX1_hold) := ggX4_matters_X1_hold
set_option maxRecDepth 20000 in
theorem ggX4_matters_X0_copyFrom : GoodIn wsX4_matters wsX0_copyFrom := goodIn_r _ [76, 77, 29, 78, 79, 30, 80, 81, 82, 83, 35, 84, 90, 91, 92, 93, 94, 95, 96] (by decide +kernel) (by decide +kernel)
set_option maxRecDepth 20000 in
theorem gX4_matters_X0_copyFrom_n69 : GoodIn wsX4_matters (wsX0_copyFrom) := ggX4_matters_X0_copyFrom
theorem dX4_matters_0 : decode cX4_matters 0 = .ok (.iload_n 1, 1) := by decide +kernel
theorem dX4_matters_1 : decode cX4_matters 1 = .ok (.invokestatic 146, 3) := by decide +kernel
theorem dX4_matters_4 : decode cX4_matters 4 = .ok (.ifCond .ne 5, 3) := by decide +kernel
theorem dX4_matters_7 : decode cX4_matters 7 = .ok (.iconst (-1), 1) := by decide +kernel
theorem dX4_matters_8 : decode cX4_matters 8 = .ok (.ireturn, 1) := by decide +kernel
theorem dX4_matters_9 : decode cX4_matters 9 = .ok (.aload_n 0, 1) := by decide +kernel
theorem dX4_matters_10 : decode cX4_matters 10 = .ok (.getfield 36, 3) := by decide +kernel
theorem dX4_matters_13 : decode cX4_matters 13 = .ok (.aload_n 0, 1) := by decide +kernel
theorem dX4_matters_14 : decode cX4_matters 14 = .ok (.getfield 19, 3) := by decide +kernel
theorem dX4_matters_17 : decode cX4_matters 17 = .ok (.iload_n 1, 1) := by decide +kernel
theorem dX4_matters_18 : decode cX4_matters 18 = .ok (.invokevirtual 142, 3) := by decide +kernel
theorem dX4_matters_21 : decode cX4_matters 21 = .ok (.istore_n 2, 1) := by decide +kernel
theorem dX4_matters_22 : decode cX4_matters 22 = .ok (.iconst 0, 1) := by decide +kernel
theorem dX4_matters_23 : decode cX4_matters 23 = .ok (.istore_n 3, 1) := by decide +kernel
theorem dX4_matters_24 : decode cX4_matters 24 = .ok (.aload_n 0, 1) := by decide +kernel
theorem dX4_matters_25 : decode cX4_matters 25 = .ok (.getfield 23, 3) := by decide +kernel
theorem dX4_matters_28 : decode cX4_matters 28 = .ok (.aload_n 0, 1) := by decide +kernel
theorem dX4_matters_29 : decode cX4_matters 29 = .ok (.getfield 19, 3) := by decide +kernel
theorem dX4_matters_32 : decode cX4_matters 32 = .ok (.invokevirtual 69, 3) := by decide +kernel
theorem dX4_matters_35 : decode cX4_matters 35 = .ok (.iconst 0, 1) := by decide +kernel
theorem dX4_matters_36 : decode cX4_matters 36 = .ok (.istore 4, 2) := by decide +kernel
theorem dX4_matters_38 : decode cX4_matters 38 = .ok (.iload 4, 2) := by decide +kernel
theorem dX4_matters_40 : decode cX4_matters 40 = .ok (.aload_n 0, 1) := by decide +kernel
theorem dX4_matters_41 : decode cX4_matters 41 = .ok (.getfield 19, 3) := by decide +kernel
theorem dX4_matters_44 : decode cX4_matters 44 = .ok (.getfield 82, 3) := by decide +kernel
theorem dX4_matters_47 : decode cX4_matters 47 = .ok (.if_icmp .ge 74, 3) := by decide +kernel
theorem dX4_matters_50 : decode cX4_matters 50 = .ok (.aload_n 0, 1) := by decide +kernel
theorem dX4_matters_51 : decode cX4_matters 51 = .ok (.getfield 23, 3) := by decide +kernel
theorem dX4_matters_54 : decode cX4_matters 54 = .ok (.getfield 98, 3) := by decide +kernel
theorem dX4_matters_57 : decode cX4_matters 57 = .ok (.iload 4, 2) := by decide +kernel
theorem dX4_matters_59 : decode cX4_matters 59 = .ok (.aload_n 0, 1) := by decide +kernel
theorem dX4_matters_60 : decode cX4_matters 60 = .ok (.getfield 19, 3) := by decide +kernel
theorem dX4_matters_63 : decode cX4_matters 63 = .ok (.getfield 98, 3) := by decide +kernel
theorem dX4_matters_66 : decode cX4_matters 66 = .ok (.iload 4, 2) := by decide +kernel
theorem dX4_matters_68 : decode cX4_matters 68 = .ok (.iaload, 1) := by decide +kernel
theorem dX4_matters_69 : decode cX4_matters 69 = .ok (.iconst 1, 1) := by decide +kernel
theorem dX4_matters_70 : decode cX4_matters 70 = .ok (.isub, 1) := by decide +kernel
theorem dX4_matters_71 : decode cX4_matters 71 = .ok (.iastore, 1) := by decide +kernel
theorem dX4_matters_72 : decode cX4_matters 72 = .ok (.aload_n 0, 1) := by decide +kernel
theorem dX4_matters_73 : decode cX4_matters 73 = .ok (.getfield 36, 3) := by decide +kernel
theorem dX4_matters_76 : decode cX4_matters 76 = .ok (.aload_n 0, 1) := by decide +kernel
theorem dX4_matters_77 : decode cX4_matters 77 = .ok (.getfield 23, 3) := by decide +kernel
theorem dX4_matters_80 : decode cX4_matters 80 = .ok (.iload_n 1, 1) := by decide +kernel
theorem dX4_matters_81 : decode cX4_matters 81 = .ok (.invokevirtual 142, 3) := by decide +kernel
theorem dX4_matters_84 : decode cX4_matters 84 = .ok (.iload_n 2, 1) := by decide +kernel
theorem dX4_matters_85 : decode cX4_matters 85 = .ok (.if_icmp .eq 10, 3) := by decide +kernel
theorem dX4_matters_88 : decode cX4_matters 88 = .ok (.iload_n 3, 1) := by decide +kernel
theorem dX4_matters_89 : decode cX4_matters 89 = .ok (.iconst 1, 1) := by decide +kernel
theorem dX4_matters_90 : decode cX4_matters 90 = .ok (.iload 4, 2) := by decide +kernel
theorem dX4_matters_92 : decode cX4_matters 92 = .ok (.ishl, 1) := by decide +kernel
theorem dX4_matters_93 : decode cX4_matters 93 = .ok (.ior, 1) := by decide +kernel
theorem dX4_matters_94 : decode cX4_matters 94 = .ok (.istore_n 3, 1) := by decide +kernel
theorem dX4_matters_95 : decode cX4_matters 95 = .ok (.aload_n 0, 1) := by decide +kernel
theorem dX4_matters_96 : decode cX4_matters 96 = .ok (.getfield 23, 3) := by decide +kernel
theorem dX4_matters_99 : decode cX4_matters 99 = .ok (.getfield 98, 3) := by decide +kernel
theorem dX4_matters_102 : decode cX4_matters 102 = .ok (.iload 4, 2) := by decide +kernel
theorem dX4_matters_104 : decode cX4_matters 104 = .ok (.aload_n 0, 1) := by decide +kernel
theorem dX4_matters_105 : decode cX4_matters 105 = .ok (.getfield 19, 3) := by decide +kernel
theorem dX4_matters_108 : decode cX4_matters 108 = .ok (.getfield 98, 3) := by decide +kernel
theorem dX4_matters_111 : decode cX4_matters 111 = .ok (.iload 4, 2) := by decide +kernel
theorem dX4_matters_113 : decode cX4_matters 113 = .ok (.iaload, 1) := by decide +kernel
theorem dX4_matters_114 : decode cX4_matters 114 = .ok (.iastore, 1) := by decide +kernel
theorem dX4_matters_115 : decode cX4_matters 115 = .ok (.iinc 4 1, 3) := by decide +kernel
theorem dX4_matters_118 : decode cX4_matters 118 = .ok (.goto (-80), 3) := by decide +kernel
theorem dX4_matters_121 : decode cX4_matters 121 = .ok (.iload_n 3, 1) := by decide +kernel
theorem dX4_matters_122 : decode cX4_matters 122 = .ok (.ireturn, 1) := by decide +kernel
set_option maxRecDepth 20000 in
theorem ggX4_rather_X4_isLaw : GoodIn wsX4_rather wsX4_isLaw := goodIn_r _ [7] (by decide +kernel) (by decide +kernel)
set_option maxRecDepth 20000 in
theorem gX4_rather_X4_isLaw : GoodIn wsX4_rather (va_wsS RX4 146 yX4_isLaw wsX4_isLaw) := goodIn_app (goodIn_of _ (by decide +kernel)) ggX4_rather_X4_isLaw
set_option maxRecDepth 20000 in
theorem ggX4_rather_X4_isBallot : GoodIn wsX4_rather wsX4_isBallot := goodIn_r _ [11, 1, 90, 91, 92, 93, 94, 95, 96, 97, 98, 99, 100, 101] (by decide +kernel) (by decide +kernel)
set_option maxRecDepth 20000 in
theorem gX4_rather_X4_isBallot : GoodIn wsX4_rather (wsV RX4 95 RX4 yX4_isBallot wsX4_isBallot) := goodIn_app (goodIn_of _ (by decide +kernel)) ggX4_rather_X4_isBallot
set_option maxRecDepth 20000 in
theorem ggX4_rather_X1_hold : GoodIn wsX4_rather wsX1_hold := goodIn_r _ [15, 16, 17, 18, 19, 13, 20, 21, 22, 23, 24, 25, 26, 27, 28, 29, 30, 31, 32, 33, 34, 35, 36, 37, 38, 39, 40, 41, 42, 43, 44, 45, 6, 46, 47, 48, 49, 50, 51, 52, 53, 54, 55, 56, 57, 58, 59, 60, 61, 62, 63, 64, 65, 66, 67, 68, 69, 70, 71, 72, 73, 74, 75, 76, 77, 95, 96, 97, 98, 99, 100, 101, 102, 103, 104, 105, 106, 107, 108, 109, 110] (by decide +kernel) (by decide +kernel)
set_option maxRecDepth 20000 in
theorem gX4_rather_X1_hold_n142 : GoodIn wsX4_rather (wsX1_hold) := ggX4_rather_X1_hold
set_option maxRecDepth 20000 in
theorem ggX4_rather_J6_bitCount_0f7a4 : GoodIn wsX4_rather wsJ6_bitCount_0f7a4 := goodIn_r _ [58, 59, 60, 61] (by decide +kernel) (by decide +kernel)
set_option maxRecDepth 20000 in
theorem gX4_rather_J6_bitCount_0f7a4 : GoodIn wsX4_rather (va_wsS RX4 117 yJ6_bitCount_0f7a4 wsJ6_bitCount_0f7a4) := goodIn_app (goodIn_of _ (by decide +kernel)) ggX4_rather_J6_bitCount_0f7a4
set_option maxRecDepth 20000 in
theorem ggX4_rather_X0_copyFrom : GoodIn wsX4_rather wsX0_copyFrom := goodIn_r _ [81, 82, 33, 83, 84, 34, 85, 86, 87, 88, 39, 89, 95, 96, 97, 98, 99, 100, 101] (by decide +kernel) (by decide +kernel)
set_option maxRecDepth 20000 in
theorem gX4_rather_X0_copyFrom_n69 : GoodIn wsX4_rather (wsX0_copyFrom) := ggX4_rather_X0_copyFrom
theorem dX4_rather_0 : decode cX4_rather 0 = .ok (.iload_n 1, 1) := by decide +kernel
theorem dX4_rather_1 : decode cX4_rather 1 = .ok (.invokestatic 146, 3) := by decide +kernel
theorem dX4_rather_4 : decode cX4_rather 4 = .ok (.ifCond .eq 20, 3) := by decide +kernel
theorem dX4_rather_7 : decode cX4_rather 7 = .ok (.aload_n 0, 1) := by decide +kernel
theorem dX4_rather_8 : decode cX4_rather 8 = .ok (.iload_n 2, 1) := by decide +kernel
theorem dX4_rather_9 : decode cX4_rather 9 = .ok (.invokevirtual 95, 3) := by decide +kernel
theorem dX4_rather_12 : decode cX4_rather 12 = .ok (.ifCond .eq 12, 3) := by decide +kernel
theorem dX4_rather_15 : decode cX4_rather 15 = .ok (.iload_n 3, 1) := by decide +kernel
theorem dX4_rather_16 : decode cX4_rather 16 = .ok (.ifCond .lt 8, 3) := by decide +kernel
theorem dX4_rather_19 : decode cX4_rather 19 = .ok (.iload_n 3, 1) := by decide +kernel
theorem dX4_rather_20 : decode cX4_rather 20 = .ok (.iconst 1, 1) := by decide +kernel
theorem dX4_rather_21 : decode cX4_rather 21 = .ok (.if_icmp .le 5, 3) := by decide +kernel
theorem dX4_rather_24 : decode cX4_rather 24 = .ok (.iconst (-1), 1) := by decide +kernel
theorem dX4_rather_25 : decode cX4_rather 25 = .ok (.ireturn, 1) := by decide +kernel
theorem dX4_rather_26 : decode cX4_rather 26 = .ok (.aload_n 0, 1) := by decide +kernel
theorem dX4_rather_27 : decode cX4_rather 27 = .ok (.getfield 19, 3) := by decide +kernel
theorem dX4_rather_30 : decode cX4_rather 30 = .ok (.getfield 102, 3) := by decide +kernel
theorem dX4_rather_33 : decode cX4_rather 33 = .ok (.iload_n 2, 1) := by decide +kernel
theorem dX4_rather_34 : decode cX4_rather 34 = .ok (.iaload, 1) := by decide +kernel
theorem dX4_rather_35 : decode cX4_rather 35 = .ok (.istore 4, 2) := by decide +kernel
theorem dX4_rather_37 : decode cX4_rather 37 = .ok (.aload_n 0, 1) := by decide +kernel
theorem dX4_rather_38 : decode cX4_rather 38 = .ok (.getfield 36, 3) := by decide +kernel
theorem dX4_rather_41 : decode cX4_rather 41 = .ok (.aload_n 0, 1) := by decide +kernel
theorem dX4_rather_42 : decode cX4_rather 42 = .ok (.getfield 19, 3) := by decide +kernel
theorem dX4_rather_45 : decode cX4_rather 45 = .ok (.iload_n 1, 1) := by decide +kernel
theorem dX4_rather_46 : decode cX4_rather 46 = .ok (.invokevirtual 142, 3) := by decide +kernel
theorem dX4_rather_49 : decode cX4_rather 49 = .ok (.iload 4, 2) := by decide +kernel
theorem dX4_rather_51 : decode cX4_rather 51 = .ok (.iand, 1) := by decide +kernel
theorem dX4_rather_52 : decode cX4_rather 52 = .ok (.invokestatic 117, 3) := by decide +kernel
theorem dX4_rather_55 : decode cX4_rather 55 = .ok (.istore 5, 2) := by decide +kernel
theorem dX4_rather_57 : decode cX4_rather 57 = .ok (.bipush (-4), 2) := by decide +kernel
theorem dX4_rather_59 : decode cX4_rather 59 = .ok (.istore 6, 2) := by decide +kernel
theorem dX4_rather_61 : decode cX4_rather 61 = .ok (.aload_n 0, 1) := by decide +kernel
theorem dX4_rather_62 : decode cX4_rather 62 = .ok (.getfield 23, 3) := by decide +kernel
theorem dX4_rather_65 : decode cX4_rather 65 = .ok (.aload_n 0, 1) := by decide +kernel
theorem dX4_rather_66 : decode cX4_rather 66 = .ok (.getfield 19, 3) := by decide +kernel
theorem dX4_rather_69 : decode cX4_rather 69 = .ok (.invokevirtual 69, 3) := by decide +kernel
theorem dX4_rather_72 : decode cX4_rather 72 = .ok (.iconst 1, 1) := by decide +kernel
theorem dX4_rather_73 : decode cX4_rather 73 = .ok (.istore 7, 2) := by decide +kernel
theorem dX4_rather_75 : decode cX4_rather 75 = .ok (.iload 7, 2) := by decide +kernel
theorem dX4_rather_77 : decode cX4_rather 77 = .ok (.iconst 1, 1) := by decide +kernel
theorem dX4_rather_78 : decode cX4_rather 78 = .ok (.aload_n 0, 1) := by decide +kernel
theorem dX4_rather_79 : decode cX4_rather 79 = .ok (.getfield 19, 3) := by decide +kernel
theorem dX4_rather_82 : decode cX4_rather 82 = .ok (.getfield 66, 3) := by decide +kernel
theorem dX4_rather_85 : decode cX4_rather 85 = .ok (.ishl, 1) := by decide +kernel
theorem dX4_rather_86 : decode cX4_rather 86 = .ok (.if_icmp .ge 55, 3) := by decide +kernel
theorem dX4_rather_89 : decode cX4_rather 89 = .ok (.aload_n 0, 1) := by decide +kernel
theorem dX4_rather_90 : decode cX4_rather 90 = .ok (.getfield 23, 3) := by decide +kernel
theorem dX4_rather_93 : decode cX4_rather 93 = .ok (.getfield 102, 3) := by decide +kernel
theorem dX4_rather_96 : decode cX4_rather 96 = .ok (.iload_n 2, 1) := by decide +kernel
theorem dX4_rather_97 : decode cX4_rather 97 = .ok (.iload 7, 2) := by decide +kernel
theorem dX4_rather_99 : decode cX4_rather 99 = .ok (.iastore, 1) := by decide +kernel
theorem dX4_rather_100 : decode cX4_rather 100 = .ok (.aload_n 0, 1) := by decide +kernel
theorem dX4_rather_101 : decode cX4_rather 101 = .ok (.getfield 36, 3) := by decide +kernel
theorem dX4_rather_104 : decode cX4_rather 104 = .ok (.aload_n 0, 1) := by decide +kernel
theorem dX4_rather_105 : decode cX4_rather 105 = .ok (.getfield 23, 3) := by decide +kernel
theorem dX4_rather_108 : decode cX4_rather 108 = .ok (.iload_n 1, 1) := by decide +kernel
theorem dX4_rather_109 : decode cX4_rather 109 = .ok (.invokevirtual 142, 3) := by decide +kernel
theorem dX4_rather_112 : decode cX4_rather 112 = .ok (.iload 4, 2) := by decide +kernel
theorem dX4_rather_114 : decode cX4_rather 114 = .ok (.iand, 1) := by decide +kernel
theorem dX4_rather_115 : decode cX4_rather 115 = .ok (.invokestatic 117, 3) := by decide +kernel
theorem dX4_rather_118 : decode cX4_rather 118 = .ok (.istore 8, 2) := by decide +kernel
theorem dX4_rather_120 : decode cX4_rather 120 = .ok (.iload 8, 2) := by decide +kernel
theorem dX4_rather_122 : decode cX4_rather 122 = .ok (.iload 5, 2) := by decide +kernel
theorem dX4_rather_124 : decode cX4_rather 124 = .ok (.if_icmp .le 11, 3) := by decide +kernel
theorem dX4_rather_127 : decode cX4_rather 127 = .ok (.iload 8, 2) := by decide +kernel
theorem dX4_rather_129 : decode cX4_rather 129 = .ok (.istore 5, 2) := by decide +kernel
theorem dX4_rather_131 : decode cX4_rather 131 = .ok (.iload 7, 2) := by decide +kernel
theorem dX4_rather_133 : decode cX4_rather 133 = .ok (.istore 6, 2) := by decide +kernel
theorem dX4_rather_135 : decode cX4_rather 135 = .ok (.iinc 7 1, 3) := by decide +kernel
theorem dX4_rather_138 : decode cX4_rather 138 = .ok (.goto (-63), 3) := by decide +kernel
theorem dX4_rather_141 : decode cX4_rather 141 = .ok (.iload 6, 2) := by decide +kernel
theorem dX4_rather_143 : decode cX4_rather 143 = .ok (.bipush (-4), 2) := by decide +kernel
theorem dX4_rather_145 : decode cX4_rather 145 = .ok (.if_icmp .eq 7, 3) := by decide +kernel
theorem dX4_rather_148 : decode cX4_rather 148 = .ok (.iload_n 3, 1) := by decide +kernel
theorem dX4_rather_149 : decode cX4_rather 149 = .ok (.ifCond .ne 8, 3) := by decide +kernel
theorem dX4_rather_152 : decode cX4_rather 152 = .ok (.iload 6, 2) := by decide +kernel
theorem dX4_rather_154 : decode cX4_rather 154 = .ok (.goto 5, 3) := by decide +kernel
theorem dX4_rather_157 : decode cX4_rather 157 = .ok (.iload 5, 2) := by decide +kernel
theorem dX4_rather_159 : decode cX4_rather 159 = .ok (.ireturn, 1) := by decide +kernel
set_option maxRecDepth 20000 in
theorem ggX4_decided_X4_isLaw : GoodIn wsX4_decided wsX4_isLaw := goodIn_r _ [7] (by decide +kernel) (by decide +kernel)
set_option maxRecDepth 20000 in
theorem gX4_decided_X4_isLaw : GoodIn wsX4_decided (va_wsS RX4 146 yX4_isLaw wsX4_isLaw) := goodIn_app (goodIn_of _ (by decide +kernel)) ggX4_decided_X4_isLaw
set_option maxRecDepth 20000 in
theorem ggX4_decided_X1_hold : GoodIn wsX4_decided wsX1_hold := goodIn_r _ [11, 12, 13, 14, 15, 9, 16, 17, 18, 19, 20, 21, 22, 23, 24, 25, 26, 27, 28, 29, 30, 31, 32, 33, 34, 35, 36, 37, 38, 39, 40, 41, 6, 42, 43, 44, 45, 46, 47, 48, 49, 50, 51, 52, 53, 54, 55, 56, 57, 58, 59, 60, 61, 62, 63, 64, 65, 66, 67, 68, 69, 70, 71, 72, 73, 93, 94, 95, 96, 97, 98, 99, 100, 101, 102, 103, 104, 105, 106, 107, 108] (by decide +kernel) (by decide +kernel)
set_option maxRecDepth 20000 in
theorem gX4_decided_X1_hold_n142 : GoodIn wsX4_decided (wsX1_hold) := ggX4_decided_X1_hold
set_option maxRecDepth 20000 in
theorem ggX4_decided_X0_copyFrom : GoodIn wsX4_decided wsX0_copyFrom := goodIn_r _ [76, 77, 29, 78, 79, 30, 80, 81, 82, 83, 35, 84, 93, 94, 95, 96, 97, 98, 99] (by decide +kernel) (by decide +kernel)
set_option maxRecDepth 20000 in
theorem gX4_decided_X0_copyFrom_n69 : GoodIn wsX4_decided (wsX0_copyFrom) := ggX4_decided_X0_copyFrom
set_option maxRecDepth 20000 in
theorem ggX4_decided_X0_turnRankRound : GoodIn wsX4_decided wsX0_turnRankRound := goodIn_r _ [87, 77, 84, 93, 94, 95, 96, 97, 98, 99] (by decide +kernel) (by decide +kernel)
set_option maxRecDepth 20000 in
theorem gX4_decided_X0_turnRankRound_n202 : GoodIn wsX4_decided (wsX0_turnRankRound) := ggX4_decided_X0_turnRankRound
theorem dX4_decided_0 : decode cX4_decided 0 = .ok (.iload_n 1, 1) := by decide +kernel
theorem dX4_decided_1 : decode cX4_decided 1 = .ok (.invokestatic 146, 3) := by decide +kernel
theorem dX4_decided_4 : decode cX4_decided 4 = .ok (.ifCond .ne 5, 3) := by decide +kernel
theorem dX4_decided_7 : decode cX4_decided 7 = .ok (.iconst (-1), 1) := by decide +kernel
theorem dX4_decided_8 : decode cX4_decided 8 = .ok (.ireturn, 1) := by decide +kernel
theorem dX4_decided_9 : decode cX4_decided 9 = .ok (.aload_n 0, 1) := by decide +kernel
theorem dX4_decided_10 : decode cX4_decided 10 = .ok (.getfield 36, 3) := by decide +kernel
theorem dX4_decided_13 : decode cX4_decided 13 = .ok (.aload_n 0, 1) := by decide +kernel
theorem dX4_decided_14 : decode cX4_decided 14 = .ok (.getfield 19, 3) := by decide +kernel
theorem dX4_decided_17 : decode cX4_decided 17 = .ok (.iload_n 1, 1) := by decide +kernel
theorem dX4_decided_18 : decode cX4_decided 18 = .ok (.invokevirtual 142, 3) := by decide +kernel
theorem dX4_decided_21 : decode cX4_decided 21 = .ok (.istore_n 2, 1) := by decide +kernel
theorem dX4_decided_22 : decode cX4_decided 22 = .ok (.aload_n 0, 1) := by decide +kernel
theorem dX4_decided_23 : decode cX4_decided 23 = .ok (.getfield 23, 3) := by decide +kernel
theorem dX4_decided_26 : decode cX4_decided 26 = .ok (.aload_n 0, 1) := by decide +kernel
theorem dX4_decided_27 : decode cX4_decided 27 = .ok (.getfield 19, 3) := by decide +kernel
theorem dX4_decided_30 : decode cX4_decided 30 = .ok (.invokevirtual 69, 3) := by decide +kernel
theorem dX4_decided_33 : decode cX4_decided 33 = .ok (.aload_n 0, 1) := by decide +kernel
theorem dX4_decided_34 : decode cX4_decided 34 = .ok (.getfield 23, 3) := by decide +kernel
theorem dX4_decided_37 : decode cX4_decided 37 = .ok (.invokevirtual 202, 3) := by decide +kernel
theorem dX4_decided_40 : decode cX4_decided 40 = .ok (.aload_n 0, 1) := by decide +kernel
theorem dX4_decided_41 : decode cX4_decided 41 = .ok (.getfield 36, 3) := by decide +kernel
theorem dX4_decided_44 : decode cX4_decided 44 = .ok (.aload_n 0, 1) := by decide +kernel
theorem dX4_decided_45 : decode cX4_decided 45 = .ok (.getfield 23, 3) := by decide +kernel
theorem dX4_decided_48 : decode cX4_decided 48 = .ok (.iload_n 1, 1) := by decide +kernel
theorem dX4_decided_49 : decode cX4_decided 49 = .ok (.invokevirtual 142, 3) := by decide +kernel
theorem dX4_decided_52 : decode cX4_decided 52 = .ok (.iload_n 2, 1) := by decide +kernel
theorem dX4_decided_53 : decode cX4_decided 53 = .ok (.if_icmp .eq 7, 3) := by decide +kernel
theorem dX4_decided_56 : decode cX4_decided 56 = .ok (.iconst 1, 1) := by decide +kernel
theorem dX4_decided_57 : decode cX4_decided 57 = .ok (.goto 4, 3) := by decide +kernel
theorem dX4_decided_60 : decode cX4_decided 60 = .ok (.iconst 0, 1) := by decide +kernel
theorem dX4_decided_61 : decode cX4_decided 61 = .ok (.ireturn, 1) := by decide +kernel
set_option maxRecDepth 20000 in
theorem ggX4_both_X4_isLaw : GoodIn wsX4_both wsX4_isLaw := goodIn_r _ [6] (by decide +kernel) (by decide +kernel)
set_option maxRecDepth 20000 in
theorem gX4_both_X4_isLaw : GoodIn wsX4_both (va_wsS RX4 146 yX4_isLaw wsX4_isLaw) := goodIn_app (goodIn_of _ (by decide +kernel)) ggX4_both_X4_isLaw
set_option maxRecDepth 20000 in
theorem ggX4_both_X1_hold : GoodIn wsX4_both wsX1_hold := goodIn_r _ [10, 11, 12, 13, 14, 8, 15, 16, 17, 18, 19, 20, 21, 22, 23, 24, 25, 26, 27, 28, 29, 30, 31, 32, 33, 34, 35, 36, 37, 38, 39, 40, 5, 41, 42, 43, 44, 45, 46, 47, 48, 49, 50, 51, 52, 53, 54, 55, 56, 57, 58, 59, 60, 61, 62, 63, 64, 65, 66, 67, 68, 69, 70, 71, 72, 79, 80, 81, 82, 83, 84, 85, 86, 87, 88, 89, 90, 91, 92, 93, 94] (by decide +kernel) (by decide +kernel)
set_option maxRecDepth 20000 in
theorem gX4_both_X1_hold_n142 : GoodIn wsX4_both (wsX1_hold) := ggX4_both_X1_hold
set_option maxRecDepth 20000 in
theorem ggX4_both_J6_bitCount_0f7a4 : GoodIn wsX4_both wsJ6_bitCount_0f7a4 := goodIn_r _ [53, 54, 55, 56] (by decide +kernel) (by decide +kernel)
set_option maxRecDepth 20000 in
theorem gX4_both_J6_bitCount_0f7a4 : GoodIn wsX4_both (va_wsS RX4 117 yJ6_bitCount_0f7a4 wsJ6_bitCount_0f7a4) := goodIn_app (goodIn_of _ (by decide +kernel)) ggX4_both_J6_bitCount_0f7a4
theorem dX4_both_0 : decode cX4_both 0 = .ok (.iload_n 1, 1) := by decide +kernel
theorem dX4_both_1 : decode cX4_both 1 = .ok (.invokestatic 146, 3) := by decide +kernel
theorem dX4_both_4 : decode cX4_both 4 = .ok (.ifCond .eq 10, 3) := by decide +kernel
theorem dX4_both_7 : decode cX4_both 7 = .ok (.iload_n 2, 1) := by decide +kernel
theorem dX4_both_8 : decode cX4_both 8 = .ok (.invokestatic 146, 3) := by decide +kernel
theorem dX4_both_11 : decode cX4_both 11 = .ok (.ifCond .ne 5, 3) := by decide +kernel
theorem dX4_both_14 : decode cX4_both 14 = .ok (.iconst (-1), 1) := by decide +kernel
theorem dX4_both_15 : decode cX4_both 15 = .ok (.ireturn, 1) := by decide +kernel
theorem dX4_both_16 : decode cX4_both 16 = .ok (.aload_n 0, 1) := by decide +kernel
theorem dX4_both_17 : decode cX4_both 17 = .ok (.getfield 36, 3) := by decide +kernel
theorem dX4_both_20 : decode cX4_both 20 = .ok (.aload_n 0, 1) := by decide +kernel
theorem dX4_both_21 : decode cX4_both 21 = .ok (.getfield 19, 3) := by decide +kernel
theorem dX4_both_24 : decode cX4_both 24 = .ok (.iload_n 1, 1) := by decide +kernel
theorem dX4_both_25 : decode cX4_both 25 = .ok (.invokevirtual 142, 3) := by decide +kernel
theorem dX4_both_28 : decode cX4_both 28 = .ok (.istore_n 3, 1) := by decide +kernel
theorem dX4_both_29 : decode cX4_both 29 = .ok (.iload_n 3, 1) := by decide +kernel
theorem dX4_both_30 : decode cX4_both 30 = .ok (.aload_n 0, 1) := by decide +kernel
theorem dX4_both_31 : decode cX4_both 31 = .ok (.getfield 36, 3) := by decide +kernel
theorem dX4_both_34 : decode cX4_both 34 = .ok (.aload_n 0, 1) := by decide +kernel
theorem dX4_both_35 : decode cX4_both 35 = .ok (.getfield 19, 3) := by decide +kernel
theorem dX4_both_38 : decode cX4_both 38 = .ok (.iload_n 2, 1) := by decide +kernel
theorem dX4_both_39 : decode cX4_both 39 = .ok (.invokevirtual 142, 3) := by decide +kernel
theorem dX4_both_42 : decode cX4_both 42 = .ok (.iand, 1) := by decide +kernel
theorem dX4_both_43 : decode cX4_both 43 = .ok (.invokestatic 117, 3) := by decide +kernel
theorem dX4_both_46 : decode cX4_both 46 = .ok (.ireturn, 1) := by decide +kernel
set_option maxRecDepth 20000 in
theorem ggX4_count_X0_allVoters : GoodIn wsX4_count wsX0_allVoters := goodIn_r _ [7, 8, 9, 10, 5, 11, 12, 13, 14, 15, 16, 17, 18, 31, 32, 33, 34, 35, 36, 37] (by decide +kernel) (by decide +kernel)
set_option maxRecDepth 20000 in
theorem gX4_count_X0_allVoters_n85 : GoodIn wsX4_count (wsX0_allVoters) := ggX4_count_X0_allVoters
set_option maxRecDepth 20000 in
theorem ggX4_count_J6_bitCount_0f7a4 : GoodIn wsX4_count wsJ6_bitCount_0f7a4 := goodIn_r _ [22, 23, 24, 25] (by decide +kernel) (by decide +kernel)
set_option maxRecDepth 20000 in
theorem gX4_count_J6_bitCount_0f7a4 : GoodIn wsX4_count (va_wsS RX4 117 yJ6_bitCount_0f7a4 wsJ6_bitCount_0f7a4) := goodIn_app (goodIn_of _ (by decide +kernel)) ggX4_count_J6_bitCount_0f7a4
theorem dX4_count_0 : decode cX4_count 0 = .ok (.iload_n 1, 1) := by decide +kernel
theorem dX4_count_1 : decode cX4_count 1 = .ok (.tableswitch 102 0 6 #[43, 51, 59, 67, 75, 86, 94], 43) := by decide +kernel
theorem dX4_count_44 : decode cX4_count 44 = .ok (.aload_n 0, 1) := by decide +kernel
theorem dX4_count_45 : decode cX4_count 45 = .ok (.getfield 19, 3) := by decide +kernel
theorem dX4_count_48 : decode cX4_count 48 = .ok (.getfield 66, 3) := by decide +kernel
theorem dX4_count_51 : decode cX4_count 51 = .ok (.ireturn, 1) := by decide +kernel
theorem dX4_count_52 : decode cX4_count 52 = .ok (.aload_n 0, 1) := by decide +kernel
theorem dX4_count_53 : decode cX4_count 53 = .ok (.getfield 19, 3) := by decide +kernel
theorem dX4_count_56 : decode cX4_count 56 = .ok (.getfield 82, 3) := by decide +kernel
theorem dX4_count_59 : decode cX4_count 59 = .ok (.ireturn, 1) := by decide +kernel
theorem dX4_count_60 : decode cX4_count 60 = .ok (.aload_n 0, 1) := by decide +kernel
theorem dX4_count_61 : decode cX4_count 61 = .ok (.getfield 19, 3) := by decide +kernel
theorem dX4_count_64 : decode cX4_count 64 = .ok (.invokevirtual 85, 3) := by decide +kernel
theorem dX4_count_67 : decode cX4_count 67 = .ok (.ireturn, 1) := by decide +kernel
theorem dX4_count_68 : decode cX4_count 68 = .ok (.aload_n 0, 1) := by decide +kernel
theorem dX4_count_69 : decode cX4_count 69 = .ok (.getfield 19, 3) := by decide +kernel
theorem dX4_count_72 : decode cX4_count 72 = .ok (.getfield 105, 3) := by decide +kernel
theorem dX4_count_75 : decode cX4_count 75 = .ok (.ireturn, 1) := by decide +kernel
theorem dX4_count_76 : decode cX4_count 76 = .ok (.aload_n 0, 1) := by decide +kernel
theorem dX4_count_77 : decode cX4_count 77 = .ok (.getfield 19, 3) := by decide +kernel
theorem dX4_count_80 : decode cX4_count 80 = .ok (.getfield 114, 3) := by decide +kernel
theorem dX4_count_83 : decode cX4_count 83 = .ok (.invokestatic 117, 3) := by decide +kernel
theorem dX4_count_86 : decode cX4_count 86 = .ok (.ireturn, 1) := by decide +kernel
theorem dX4_count_87 : decode cX4_count 87 = .ok (.aload_n 0, 1) := by decide +kernel
theorem dX4_count_88 : decode cX4_count 88 = .ok (.getfield 29, 3) := by decide +kernel
theorem dX4_count_91 : decode cX4_count 91 = .ok (.getfield 130, 3) := by decide +kernel
theorem dX4_count_94 : decode cX4_count 94 = .ok (.ireturn, 1) := by decide +kernel
theorem dX4_count_95 : decode cX4_count 95 = .ok (.aload_n 0, 1) := by decide +kernel
theorem dX4_count_96 : decode cX4_count 96 = .ok (.getfield 12, 3) := by decide +kernel
theorem dX4_count_99 : decode cX4_count 99 = .ok (.getfield 63, 3) := by decide +kernel
theorem dX4_count_102 : decode cX4_count 102 = .ok (.ireturn, 1) := by decide +kernel
theorem dX4_count_103 : decode cX4_count 103 = .ok (.iconst (-1), 1) := by decide +kernel
theorem dX4_count_104 : decode cX4_count 104 = .ok (.ireturn, 1) := by decide +kernel
set_option maxRecDepth 20000 in
theorem ggX4_lawsThatElect_X1_hold : GoodIn wsX4_lawsThatElect wsX1_hold := goodIn_r _ [6, 7, 8, 9, 10, 4, 11, 12, 13, 14, 15, 16, 17, 18, 19, 20, 21, 22, 23, 24, 25, 26, 27, 28, 29, 30, 31, 32, 33, 34, 35, 36, 37, 38, 39, 40, 41, 42, 43, 44, 45, 46, 47, 48, 49, 50, 51, 52, 53, 54, 55, 56, 57, 58, 59, 60, 61, 62, 63, 64, 65, 66, 67, 68, 69, 76, 77, 78, 79, 80, 81, 82, 83, 84, 85, 86, 87, 88, 89, 90, 91] (by decide +kernel) (by decide +kernel)
set_option maxRecDepth 20000 in
theorem gX4_lawsThatElect_X1_hold_n142 : GoodIn wsX4_lawsThatElect (wsX1_hold) := ggX4_lawsThatElect_X1_hold
set_option maxRecDepth 20000 in
theorem ggX4_lawsThatElect_X4_hasBit : GoodIn wsX4_lawsThatElect wsX4_hasBit := goodIn_r _ [38] (by decide +kernel) (by decide +kernel)
set_option maxRecDepth 20000 in
theorem gX4_lawsThatElect_X4_hasBit : GoodIn wsX4_lawsThatElect (va_wsS RX4 199 yX4_hasBit wsX4_hasBit) := goodIn_app (goodIn_of _ (by decide +kernel)) ggX4_lawsThatElect_X4_hasBit
theorem dX4_lawsThatElect_0 : decode cX4_lawsThatElect 0 = .ok (.iconst 0, 1) := by decide +kernel
theorem dX4_lawsThatElect_1 : decode cX4_lawsThatElect 1 = .ok (.istore_n 2, 1) := by decide +kernel
theorem dX4_lawsThatElect_2 : decode cX4_lawsThatElect 2 = .ok (.iconst 0, 1) := by decide +kernel
theorem dX4_lawsThatElect_3 : decode cX4_lawsThatElect 3 = .ok (.istore_n 3, 1) := by decide +kernel
theorem dX4_lawsThatElect_4 : decode cX4_lawsThatElect 4 = .ok (.iload_n 3, 1) := by decide +kernel
theorem dX4_lawsThatElect_5 : decode cX4_lawsThatElect 5 = .ok (.iconst 4, 1) := by decide +kernel
theorem dX4_lawsThatElect_6 : decode cX4_lawsThatElect 6 = .ok (.if_icmp .ge 34, 3) := by decide +kernel
theorem dX4_lawsThatElect_9 : decode cX4_lawsThatElect 9 = .ok (.aload_n 0, 1) := by decide +kernel
theorem dX4_lawsThatElect_10 : decode cX4_lawsThatElect 10 = .ok (.getfield 36, 3) := by decide +kernel
theorem dX4_lawsThatElect_13 : decode cX4_lawsThatElect 13 = .ok (.aload_n 0, 1) := by decide +kernel
theorem dX4_lawsThatElect_14 : decode cX4_lawsThatElect 14 = .ok (.getfield 19, 3) := by decide +kernel
theorem dX4_lawsThatElect_17 : decode cX4_lawsThatElect 17 = .ok (.iload_n 3, 1) := by decide +kernel
theorem dX4_lawsThatElect_18 : decode cX4_lawsThatElect 18 = .ok (.invokevirtual 142, 3) := by decide +kernel
theorem dX4_lawsThatElect_21 : decode cX4_lawsThatElect 21 = .ok (.iload_n 1, 1) := by decide +kernel
theorem dX4_lawsThatElect_22 : decode cX4_lawsThatElect 22 = .ok (.invokestatic 199, 3) := by decide +kernel
theorem dX4_lawsThatElect_25 : decode cX4_lawsThatElect 25 = .ok (.ifCond .eq 9, 3) := by decide +kernel
theorem dX4_lawsThatElect_28 : decode cX4_lawsThatElect 28 = .ok (.iload_n 2, 1) := by decide +kernel
theorem dX4_lawsThatElect_29 : decode cX4_lawsThatElect 29 = .ok (.iconst 1, 1) := by decide +kernel
theorem dX4_lawsThatElect_30 : decode cX4_lawsThatElect 30 = .ok (.iload_n 3, 1) := by decide +kernel
theorem dX4_lawsThatElect_31 : decode cX4_lawsThatElect 31 = .ok (.ishl, 1) := by decide +kernel
theorem dX4_lawsThatElect_32 : decode cX4_lawsThatElect 32 = .ok (.ior, 1) := by decide +kernel
theorem dX4_lawsThatElect_33 : decode cX4_lawsThatElect 33 = .ok (.istore_n 2, 1) := by decide +kernel
theorem dX4_lawsThatElect_34 : decode cX4_lawsThatElect 34 = .ok (.iinc 3 1, 3) := by decide +kernel
theorem dX4_lawsThatElect_37 : decode cX4_lawsThatElect 37 = .ok (.goto (-33), 3) := by decide +kernel
theorem dX4_lawsThatElect_40 : decode cX4_lawsThatElect 40 = .ok (.iload_n 2, 1) := by decide +kernel
theorem dX4_lawsThatElect_41 : decode cX4_lawsThatElect 41 = .ok (.ireturn, 1) := by decide +kernel
theorem dX4_isCandidate_0 : decode cX4_isCandidate 0 = .ok (.iload_n 1, 1) := by decide +kernel
theorem dX4_isCandidate_1 : decode cX4_isCandidate 1 = .ok (.ifCond .lt 18, 3) := by decide +kernel
theorem dX4_isCandidate_4 : decode cX4_isCandidate 4 = .ok (.iload_n 1, 1) := by decide +kernel
theorem dX4_isCandidate_5 : decode cX4_isCandidate 5 = .ok (.aload_n 0, 1) := by decide +kernel
theorem dX4_isCandidate_6 : decode cX4_isCandidate 6 = .ok (.getfield 19, 3) := by decide +kernel
theorem dX4_isCandidate_9 : decode cX4_isCandidate 9 = .ok (.getfield 66, 3) := by decide +kernel
theorem dX4_isCandidate_12 : decode cX4_isCandidate 12 = .ok (.if_icmp .ge 7, 3) := by decide +kernel
theorem dX4_isCandidate_15 : decode cX4_isCandidate 15 = .ok (.iconst 1, 1) := by decide +kernel
theorem dX4_isCandidate_16 : decode cX4_isCandidate 16 = .ok (.goto 4, 3) := by decide +kernel
theorem dX4_isCandidate_19 : decode cX4_isCandidate 19 = .ok (.iconst 0, 1) := by decide +kernel
theorem dX4_isCandidate_20 : decode cX4_isCandidate 20 = .ok (.ireturn, 1) := by decide +kernel
theorem dX4_isBallot_0 : decode cX4_isBallot 0 = .ok (.iload_n 1, 1) := by decide +kernel
theorem dX4_isBallot_1 : decode cX4_isBallot 1 = .ok (.ifCond .lt 18, 3) := by decide +kernel
theorem dX4_isBallot_4 : decode cX4_isBallot 4 = .ok (.iload_n 1, 1) := by decide +kernel
theorem dX4_isBallot_5 : decode cX4_isBallot 5 = .ok (.aload_n 0, 1) := by decide +kernel
theorem dX4_isBallot_6 : decode cX4_isBallot 6 = .ok (.getfield 19, 3) := by decide +kernel
theorem dX4_isBallot_9 : decode cX4_isBallot 9 = .ok (.getfield 82, 3) := by decide +kernel
theorem dX4_isBallot_12 : decode cX4_isBallot 12 = .ok (.if_icmp .ge 7, 3) := by decide +kernel
theorem dX4_isBallot_15 : decode cX4_isBallot 15 = .ok (.iconst 1, 1) := by decide +kernel
theorem dX4_isBallot_16 : decode cX4_isBallot 16 = .ok (.goto 4, 3) := by decide +kernel
theorem dX4_isBallot_19 : decode cX4_isBallot 19 = .ok (.iconst 0, 1) := by decide +kernel
theorem dX4_isBallot_20 : decode cX4_isBallot 20 = .ok (.ireturn, 1) := by decide +kernel
theorem dX4_isSet_0 : decode cX4_isSet 0 = .ok (.iload_n 1, 1) := by decide +kernel
theorem dX4_isSet_1 : decode cX4_isSet 1 = .ok (.iconst 1, 1) := by decide +kernel
theorem dX4_isSet_2 : decode cX4_isSet 2 = .ok (.if_icmp .lt 20, 3) := by decide +kernel
theorem dX4_isSet_5 : decode cX4_isSet 5 = .ok (.iload_n 1, 1) := by decide +kernel
theorem dX4_isSet_6 : decode cX4_isSet 6 = .ok (.iconst 1, 1) := by decide +kernel
theorem dX4_isSet_7 : decode cX4_isSet 7 = .ok (.aload_n 0, 1) := by decide +kernel
theorem dX4_isSet_8 : decode cX4_isSet 8 = .ok (.getfield 19, 3) := by decide +kernel
theorem dX4_isSet_11 : decode cX4_isSet 11 = .ok (.getfield 66, 3) := by decide +kernel
theorem dX4_isSet_14 : decode cX4_isSet 14 = .ok (.ishl, 1) := by decide +kernel
theorem dX4_isSet_15 : decode cX4_isSet 15 = .ok (.if_icmp .ge 7, 3) := by decide +kernel
theorem dX4_isSet_18 : decode cX4_isSet 18 = .ok (.iconst 1, 1) := by decide +kernel
theorem dX4_isSet_19 : decode cX4_isSet 19 = .ok (.goto 4, 3) := by decide +kernel
theorem dX4_isSet_22 : decode cX4_isSet 22 = .ok (.iconst 0, 1) := by decide +kernel
theorem dX4_isSet_23 : decode cX4_isSet 23 = .ok (.ireturn, 1) := by decide +kernel
theorem dX4_isVoters_0 : decode cX4_isVoters 0 = .ok (.iload_n 0, 1) := by decide +kernel
theorem dX4_isVoters_1 : decode cX4_isVoters 1 = .ok (.iconst 1, 1) := by decide +kernel
theorem dX4_isVoters_2 : decode cX4_isVoters 2 = .ok (.if_icmp .lt 13, 3) := by decide +kernel
theorem dX4_isVoters_5 : decode cX4_isVoters 5 = .ok (.iload_n 0, 1) := by decide +kernel
theorem dX4_isVoters_6 : decode cX4_isVoters 6 = .ok (.bipush 20, 2) := by decide +kernel
theorem dX4_isVoters_8 : decode cX4_isVoters 8 = .ok (.if_icmp .gt 7, 3) := by decide +kernel
theorem dX4_isVoters_11 : decode cX4_isVoters 11 = .ok (.iconst 1, 1) := by decide +kernel
theorem dX4_isVoters_12 : decode cX4_isVoters 12 = .ok (.goto 4, 3) := by decide +kernel
theorem dX4_isVoters_15 : decode cX4_isVoters 15 = .ok (.iconst 0, 1) := by decide +kernel
theorem dX4_isVoters_16 : decode cX4_isVoters 16 = .ok (.ireturn, 1) := by decide +kernel
theorem dX4_isLaw_0 : decode cX4_isLaw 0 = .ok (.iload_n 0, 1) := by decide +kernel
theorem dX4_isLaw_1 : decode cX4_isLaw 1 = .ok (.ifCond .lt 12, 3) := by decide +kernel
theorem dX4_isLaw_4 : decode cX4_isLaw 4 = .ok (.iload_n 0, 1) := by decide +kernel
theorem dX4_isLaw_5 : decode cX4_isLaw 5 = .ok (.iconst 4, 1) := by decide +kernel
theorem dX4_isLaw_6 : decode cX4_isLaw 6 = .ok (.if_icmp .ge 7, 3) := by decide +kernel
theorem dX4_isLaw_9 : decode cX4_isLaw 9 = .ok (.iconst 1, 1) := by decide +kernel
theorem dX4_isLaw_10 : decode cX4_isLaw 10 = .ok (.goto 4, 3) := by decide +kernel
theorem dX4_isLaw_13 : decode cX4_isLaw 13 = .ok (.iconst 0, 1) := by decide +kernel
theorem dX4_isLaw_14 : decode cX4_isLaw 14 = .ok (.ireturn, 1) := by decide +kernel
theorem dX4_isPart_0 : decode cX4_isPart 0 = .ok (.iload_n 0, 1) := by decide +kernel
theorem dX4_isPart_1 : decode cX4_isPart 1 = .ok (.ifCond .eq 8, 3) := by decide +kernel
theorem dX4_isPart_4 : decode cX4_isPart 4 = .ok (.iload_n 0, 1) := by decide +kernel
theorem dX4_isPart_5 : decode cX4_isPart 5 = .ok (.iconst 1, 1) := by decide +kernel
theorem dX4_isPart_6 : decode cX4_isPart 6 = .ok (.if_icmp .ne 7, 3) := by decide +kernel
theorem dX4_isPart_9 : decode cX4_isPart 9 = .ok (.iconst 1, 1) := by decide +kernel
theorem dX4_isPart_10 : decode cX4_isPart 10 = .ok (.goto 4, 3) := by decide +kernel
theorem dX4_isPart_13 : decode cX4_isPart 13 = .ok (.iconst 0, 1) := by decide +kernel
theorem dX4_isPart_14 : decode cX4_isPart 14 = .ok (.ireturn, 1) := by decide +kernel
theorem dX4_hasBit_0 : decode cX4_hasBit 0 = .ok (.iload_n 0, 1) := by decide +kernel
theorem dX4_hasBit_1 : decode cX4_hasBit 1 = .ok (.iload_n 1, 1) := by decide +kernel
theorem dX4_hasBit_2 : decode cX4_hasBit 2 = .ok (.ishr, 1) := by decide +kernel
theorem dX4_hasBit_3 : decode cX4_hasBit 3 = .ok (.iconst 1, 1) := by decide +kernel
theorem dX4_hasBit_4 : decode cX4_hasBit 4 = .ok (.iand, 1) := by decide +kernel
theorem dX4_hasBit_5 : decode cX4_hasBit 5 = .ok (.iconst 1, 1) := by decide +kernel
theorem dX4_hasBit_6 : decode cX4_hasBit 6 = .ok (.if_icmp .ne 7, 3) := by decide +kernel
theorem dX4_hasBit_9 : decode cX4_hasBit 9 = .ok (.iconst 1, 1) := by decide +kernel
theorem dX4_hasBit_10 : decode cX4_hasBit 10 = .ok (.goto 4, 3) := by decide +kernel
theorem dX4_hasBit_13 : decode cX4_hasBit 13 = .ok (.iconst 0, 1) := by decide +kernel
theorem dX4_hasBit_14 : decode cX4_hasBit 14 = .ok (.ireturn, 1) := by decide +kernel
set_option maxRecDepth 20000 in
theorem ggX4_partOf_X4_greatestDivisor : GoodIn wsX4_partOf wsX4_greatestDivisor := goodIn_r _ [8] (by decide +kernel) (by decide +kernel)
set_option maxRecDepth 20000 in
theorem gX4_partOf_X4_greatestDivisor : GoodIn wsX4_partOf (va_wsS RX4 205 yX4_greatestDivisor wsX4_greatestDivisor) := goodIn_app (goodIn_of _ (by decide +kernel)) ggX4_partOf_X4_greatestDivisor
theorem dX4_partOf_0 : decode cX4_partOf 0 = .ok (.lconst 1, 1) := by decide +kernel
theorem dX4_partOf_1 : decode cX4_partOf 1 = .ok (.lload_n 0, 1) := by decide +kernel
theorem dX4_partOf_2 : decode cX4_partOf 2 = .ok (.lload_n 2, 1) := by decide +kernel
theorem dX4_partOf_3 : decode cX4_partOf 3 = .ok (.invokestatic 205, 3) := by decide +kernel
theorem dX4_partOf_6 : decode cX4_partOf 6 = .ok (.invokestatic 180, 3) := by decide +kernel
theorem dX4_partOf_9 : decode cX4_partOf 9 = .ok (.lstore 5, 2) := by decide +kernel
theorem dX4_partOf_11 : decode cX4_partOf 11 = .ok (.iload 4, 2) := by decide +kernel
theorem dX4_partOf_13 : decode cX4_partOf 13 = .ok (.ifCond .ne 7, 3) := by decide +kernel
theorem dX4_partOf_16 : decode cX4_partOf 16 = .ok (.lload_n 0, 1) := by decide +kernel
theorem dX4_partOf_17 : decode cX4_partOf 17 = .ok (.goto 4, 3) := by decide +kernel
theorem dX4_partOf_20 : decode cX4_partOf 20 = .ok (.lload_n 2, 1) := by decide +kernel
theorem dX4_partOf_21 : decode cX4_partOf 21 = .ok (.lload 5, 2) := by decide +kernel
theorem dX4_partOf_23 : decode cX4_partOf 23 = .ok (.ldiv, 1) := by decide +kernel
theorem dX4_partOf_24 : decode cX4_partOf 24 = .ok (.lreturn, 1) := by decide +kernel
theorem dX4_greatestDivisor_0 : decode cX4_greatestDivisor 0 = .ok (.lload_n 0, 1) := by decide +kernel
theorem dX4_greatestDivisor_1 : decode cX4_greatestDivisor 1 = .ok (.lstore 4, 2) := by decide +kernel
theorem dX4_greatestDivisor_3 : decode cX4_greatestDivisor 3 = .ok (.lload_n 2, 1) := by decide +kernel
theorem dX4_greatestDivisor_4 : decode cX4_greatestDivisor 4 = .ok (.lstore 6, 2) := by decide +kernel
theorem dX4_greatestDivisor_6 : decode cX4_greatestDivisor 6 = .ok (.iconst 0, 1) := by decide +kernel
theorem dX4_greatestDivisor_7 : decode cX4_greatestDivisor 7 = .ok (.istore 8, 2) := by decide +kernel
theorem dX4_greatestDivisor_9 : decode cX4_greatestDivisor 9 = .ok (.iload 8, 2) := by decide +kernel
theorem dX4_greatestDivisor_11 : decode cX4_greatestDivisor 11 = .ok (.sipush 128, 3) := by decide +kernel
theorem dX4_greatestDivisor_14 : decode cX4_greatestDivisor 14 = .ok (.if_icmp .ge 31, 3) := by decide +kernel
theorem dX4_greatestDivisor_17 : decode cX4_greatestDivisor 17 = .ok (.lload 6, 2) := by decide +kernel
theorem dX4_greatestDivisor_19 : decode cX4_greatestDivisor 19 = .ok (.lconst 0, 1) := by decide +kernel
theorem dX4_greatestDivisor_20 : decode cX4_greatestDivisor 20 = .ok (.lcmp, 1) := by decide +kernel
theorem dX4_greatestDivisor_21 : decode cX4_greatestDivisor 21 = .ok (.ifCond .eq 24, 3) := by decide +kernel
theorem dX4_greatestDivisor_24 : decode cX4_greatestDivisor 24 = .ok (.lload 4, 2) := by decide +kernel
theorem dX4_greatestDivisor_26 : decode cX4_greatestDivisor 26 = .ok (.lload 6, 2) := by decide +kernel
theorem dX4_greatestDivisor_28 : decode cX4_greatestDivisor 28 = .ok (.lrem, 1) := by decide +kernel
theorem dX4_greatestDivisor_29 : decode cX4_greatestDivisor 29 = .ok (.lstore 9, 2) := by decide +kernel
theorem dX4_greatestDivisor_31 : decode cX4_greatestDivisor 31 = .ok (.lload 6, 2) := by decide +kernel
theorem dX4_greatestDivisor_33 : decode cX4_greatestDivisor 33 = .ok (.lstore 4, 2) := by decide +kernel
theorem dX4_greatestDivisor_35 : decode cX4_greatestDivisor 35 = .ok (.lload 9, 2) := by decide +kernel
theorem dX4_greatestDivisor_37 : decode cX4_greatestDivisor 37 = .ok (.lstore 6, 2) := by decide +kernel
theorem dX4_greatestDivisor_39 : decode cX4_greatestDivisor 39 = .ok (.iinc 8 1, 3) := by decide +kernel
theorem dX4_greatestDivisor_42 : decode cX4_greatestDivisor 42 = .ok (.goto (-33), 3) := by decide +kernel
theorem dX4_greatestDivisor_45 : decode cX4_greatestDivisor 45 = .ok (.lload 4, 2) := by decide +kernel
theorem dX4_greatestDivisor_47 : decode cX4_greatestDivisor 47 = .ok (.lreturn, 1) := by decide +kernel
