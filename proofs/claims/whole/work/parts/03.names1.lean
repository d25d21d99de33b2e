theorem dX0_init_0 : decode cX0_init 0 = .ok (.aload_n 0, 1) := by decide +kernel
theorem dX0_init_1 : decode cX0_init 1 = .ok (.invokespecial 3, 3) := by decide +kernel
theorem dX0_init_4 : decode cX0_init 4 = .ok (.aload_n 0, 1) := by decide +kernel
theorem dX0_init_5 : decode cX0_init 5 = .ok (.bipush 11, 2) := by decide +kernel
theorem dX0_init_7 : decode cX0_init 7 = .ok (.newarray .int, 2) := by decide +kernel
theorem dX0_init_9 : decode cX0_init 9 = .ok (.putfield 9, 3) := by decide +kernel
theorem dX0_init_12 : decode cX0_init 12 = .ok (.aload_n 0, 1) := by decide +kernel
theorem dX0_init_13 : decode cX0_init 13 = .ok (.bipush 11, 2) := by decide +kernel
theorem dX0_init_15 : decode cX0_init 15 = .ok (.newarray .int, 2) := by decide +kernel
theorem dX0_init_17 : decode cX0_init 17 = .ok (.putfield 15, 3) := by decide +kernel
theorem dX0_init_20 : decode cX0_init 20 = .ok (.aload_n 0, 1) := by decide +kernel
theorem dX0_init_21 : decode cX0_init 21 = .ok (.bipush 8, 2) := by decide +kernel
theorem dX0_init_23 : decode cX0_init 23 = .ok (.newarray .int, 2) := by decide +kernel
theorem dX0_init_25 : decode cX0_init 25 = .ok (.putfield 18, 3) := by decide +kernel
theorem dX0_init_28 : decode cX0_init 28 = .ok (.return_, 1) := by decide +kernel
theorem dX0_beginWith_0 : decode cX0_beginWith 0 = .ok (.aload_n 0, 1) := by decide +kernel
theorem dX0_beginWith_1 : decode cX0_beginWith 1 = .ok (.iload_n 1, 1) := by decide +kernel
theorem dX0_beginWith_2 : decode cX0_beginWith 2 = .ok (.putfield 21, 3) := by decide +kernel
theorem dX0_beginWith_5 : decode cX0_beginWith 5 = .ok (.aload_n 0, 1) := by decide +kernel
theorem dX0_beginWith_6 : decode cX0_beginWith 6 = .ok (.iconst 0, 1) := by decide +kernel
theorem dX0_beginWith_7 : decode cX0_beginWith 7 = .ok (.putfield 25, 3) := by decide +kernel
theorem dX0_beginWith_10 : decode cX0_beginWith 10 = .ok (.aload_n 0, 1) := by decide +kernel
theorem dX0_beginWith_11 : decode cX0_beginWith 11 = .ok (.iconst 3, 1) := by decide +kernel
theorem dX0_beginWith_12 : decode cX0_beginWith 12 = .ok (.putfield 28, 3) := by decide +kernel
theorem dX0_beginWith_15 : decode cX0_beginWith 15 = .ok (.aload_n 0, 1) := by decide +kernel
theorem dX0_beginWith_16 : decode cX0_beginWith 16 = .ok (.iconst 0, 1) := by decide +kernel
theorem dX0_beginWith_17 : decode cX0_beginWith 17 = .ok (.putfield 31, 3) := by decide +kernel
theorem dX0_beginWith_20 : decode cX0_beginWith 20 = .ok (.iconst 0, 1) := by decide +kernel
theorem dX0_beginWith_21 : decode cX0_beginWith 21 = .ok (.istore_n 2, 1) := by decide +kernel
theorem dX0_beginWith_22 : decode cX0_beginWith 22 = .ok (.iload_n 2, 1) := by decide +kernel
theorem dX0_beginWith_23 : decode cX0_beginWith 23 = .ok (.bipush 8, 2) := by decide +kernel
theorem dX0_beginWith_25 : decode cX0_beginWith 25 = .ok (.if_icmp .ge 16, 3) := by decide +kernel
theorem dX0_beginWith_28 : decode cX0_beginWith 28 = .ok (.aload_n 0, 1) := by decide +kernel
theorem dX0_beginWith_29 : decode cX0_beginWith 29 = .ok (.getfield 18, 3) := by decide +kernel
theorem dX0_beginWith_32 : decode cX0_beginWith 32 = .ok (.iload_n 2, 1) := by decide +kernel
theorem dX0_beginWith_33 : decode cX0_beginWith 33 = .ok (.iload_n 2, 1) := by decide +kernel
theorem dX0_beginWith_34 : decode cX0_beginWith 34 = .ok (.iastore, 1) := by decide +kernel
theorem dX0_beginWith_35 : decode cX0_beginWith 35 = .ok (.iinc 2 1, 3) := by decide +kernel
theorem dX0_beginWith_38 : decode cX0_beginWith 38 = .ok (.goto (-16), 3) := by decide +kernel
theorem dX0_beginWith_41 : decode cX0_beginWith 41 = .ok (.return_, 1) := by decide +kernel
theorem dX0_copyFrom_0 : decode cX0_copyFrom 0 = .ok (.aload_n 0, 1) := by decide +kernel
theorem dX0_copyFrom_1 : decode cX0_copyFrom 1 = .ok (.aload_n 1, 1) := by decide +kernel
theorem dX0_copyFrom_2 : decode cX0_copyFrom 2 = .ok (.getfield 21, 3) := by decide +kernel
theorem dX0_copyFrom_5 : decode cX0_copyFrom 5 = .ok (.putfield 21, 3) := by decide +kernel
theorem dX0_copyFrom_8 : decode cX0_copyFrom 8 = .ok (.aload_n 0, 1) := by decide +kernel
theorem dX0_copyFrom_9 : decode cX0_copyFrom 9 = .ok (.aload_n 1, 1) := by decide +kernel
theorem dX0_copyFrom_10 : decode cX0_copyFrom 10 = .ok (.getfield 25, 3) := by decide +kernel
theorem dX0_copyFrom_13 : decode cX0_copyFrom 13 = .ok (.putfield 25, 3) := by decide +kernel
theorem dX0_copyFrom_16 : decode cX0_copyFrom 16 = .ok (.aload_n 0, 1) := by decide +kernel
theorem dX0_copyFrom_17 : decode cX0_copyFrom 17 = .ok (.aload_n 1, 1) := by decide +kernel
theorem dX0_copyFrom_18 : decode cX0_copyFrom 18 = .ok (.getfield 28, 3) := by decide +kernel
theorem dX0_copyFrom_21 : decode cX0_copyFrom 21 = .ok (.putfield 28, 3) := by decide +kernel
theorem dX0_copyFrom_24 : decode cX0_copyFrom 24 = .ok (.aload_n 0, 1) := by decide +kernel
theorem dX0_copyFrom_25 : decode cX0_copyFrom 25 = .ok (.aload_n 1, 1) := by decide +kernel
theorem dX0_copyFrom_26 : decode cX0_copyFrom 26 = .ok (.getfield 31, 3) := by decide +kernel
theorem dX0_copyFrom_29 : decode cX0_copyFrom 29 = .ok (.putfield 31, 3) := by decide +kernel
theorem dX0_copyFrom_32 : decode cX0_copyFrom 32 = .ok (.aload_n 1, 1) := by decide +kernel
theorem dX0_copyFrom_33 : decode cX0_copyFrom 33 = .ok (.getfield 9, 3) := by decide +kernel
theorem dX0_copyFrom_36 : decode cX0_copyFrom 36 = .ok (.iconst 0, 1) := by decide +kernel
theorem dX0_copyFrom_37 : decode cX0_copyFrom 37 = .ok (.aload_n 0, 1) := by decide +kernel
theorem dX0_copyFrom_38 : decode cX0_copyFrom 38 = .ok (.getfield 9, 3) := by decide +kernel
theorem dX0_copyFrom_41 : decode cX0_copyFrom 41 = .ok (.iconst 0, 1) := by decide +kernel
theorem dX0_copyFrom_42 : decode cX0_copyFrom 42 = .ok (.bipush 11, 2) := by decide +kernel
theorem dX0_copyFrom_44 : decode cX0_copyFrom 44 = .ok (.invokestatic 34, 3) := by decide +kernel
theorem dX0_copyFrom_47 : decode cX0_copyFrom 47 = .ok (.aload_n 1, 1) := by decide +kernel
theorem dX0_copyFrom_48 : decode cX0_copyFrom 48 = .ok (.getfield 15, 3) := by decide +kernel
theorem dX0_copyFrom_51 : decode cX0_copyFrom 51 = .ok (.iconst 0, 1) := by decide +kernel
theorem dX0_copyFrom_52 : decode cX0_copyFrom 52 = .ok (.aload_n 0, 1) := by decide +kernel
theorem dX0_copyFrom_53 : decode cX0_copyFrom 53 = .ok (.getfield 15, 3) := by decide +kernel
theorem dX0_copyFrom_56 : decode cX0_copyFrom 56 = .ok (.iconst 0, 1) := by decide +kernel
theorem dX0_copyFrom_57 : decode cX0_copyFrom 57 = .ok (.bipush 11, 2) := by decide +kernel
theorem dX0_copyFrom_59 : decode cX0_copyFrom 59 = .ok (.invokestatic 34, 3) := by decide +kernel
theorem dX0_copyFrom_62 : decode cX0_copyFrom 62 = .ok (.aload_n 1, 1) := by decide +kernel
theorem dX0_copyFrom_63 : decode cX0_copyFrom 63 = .ok (.getfield 18, 3) := by decide +kernel
theorem dX0_copyFrom_66 : decode cX0_copyFrom 66 = .ok (.iconst 0, 1) := by decide +kernel
theorem dX0_copyFrom_67 : decode cX0_copyFrom 67 = .ok (.aload_n 0, 1) := by decide +kernel
theorem dX0_copyFrom_68 : decode cX0_copyFrom 68 = .ok (.getfield 18, 3) := by decide +kernel
theorem dX0_copyFrom_71 : decode cX0_copyFrom 71 = .ok (.iconst 0, 1) := by decide +kernel
theorem dX0_copyFrom_72 : decode cX0_copyFrom 72 = .ok (.bipush 8, 2) := by decide +kernel
theorem dX0_copyFrom_74 : decode cX0_copyFrom 74 = .ok (.invokestatic 34, 3) := by decide +kernel
theorem dX0_copyFrom_77 : decode cX0_copyFrom 77 = .ok (.return_, 1) := by decide +kernel
theorem dX0_addBallot_0 : decode cX0_addBallot 0 = .ok (.aload_n 0, 1) := by decide +kernel
theorem dX0_addBallot_1 : decode cX0_addBallot 1 = .ok (.getfield 25, 3) := by decide +kernel
theorem dX0_addBallot_4 : decode cX0_addBallot 4 = .ok (.bipush 11, 2) := by decide +kernel
theorem dX0_addBallot_6 : decode cX0_addBallot 6 = .ok (.if_icmp .ge 33, 3) := by decide +kernel
theorem dX0_addBallot_9 : decode cX0_addBallot 9 = .ok (.aload_n 0, 1) := by decide +kernel
theorem dX0_addBallot_10 : decode cX0_addBallot 10 = .ok (.getfield 9, 3) := by decide +kernel
theorem dX0_addBallot_13 : decode cX0_addBallot 13 = .ok (.aload_n 0, 1) := by decide +kernel
theorem dX0_addBallot_14 : decode cX0_addBallot 14 = .ok (.getfield 25, 3) := by decide +kernel
theorem dX0_addBallot_17 : decode cX0_addBallot 17 = .ok (.iload_n 1, 1) := by decide +kernel
theorem dX0_addBallot_18 : decode cX0_addBallot 18 = .ok (.iastore, 1) := by decide +kernel
theorem dX0_addBallot_19 : decode cX0_addBallot 19 = .ok (.aload_n 0, 1) := by decide +kernel
theorem dX0_addBallot_20 : decode cX0_addBallot 20 = .ok (.getfield 15, 3) := by decide +kernel
theorem dX0_addBallot_23 : decode cX0_addBallot 23 = .ok (.aload_n 0, 1) := by decide +kernel
theorem dX0_addBallot_24 : decode cX0_addBallot 24 = .ok (.getfield 25, 3) := by decide +kernel
theorem dX0_addBallot_27 : decode cX0_addBallot 27 = .ok (.iload_n 2, 1) := by decide +kernel
theorem dX0_addBallot_28 : decode cX0_addBallot 28 = .ok (.iastore, 1) := by decide +kernel
theorem dX0_addBallot_29 : decode cX0_addBallot 29 = .ok (.aload_n 0, 1) := by decide +kernel
theorem dX0_addBallot_30 : decode cX0_addBallot 30 = .ok (.dup, 1) := by decide +kernel
theorem dX0_addBallot_31 : decode cX0_addBallot 31 = .ok (.getfield 25, 3) := by decide +kernel
theorem dX0_addBallot_34 : decode cX0_addBallot 34 = .ok (.iconst 1, 1) := by decide +kernel
theorem dX0_addBallot_35 : decode cX0_addBallot 35 = .ok (.iadd, 1) := by decide +kernel
theorem dX0_addBallot_36 : decode cX0_addBallot 36 = .ok (.putfield 25, 3) := by decide +kernel
theorem dX0_addBallot_39 : decode cX0_addBallot 39 = .ok (.return_, 1) := by decide +kernel
set_option maxRecDepth 20000 in
theorem ggX0_allVoters_X0_votersWhoAgree : GoodIn wsX0_allVoters wsX0_votersWhoAgree := goodIn_r _ [5, 6, 7, 8, 9, 10, 4, 11, 12, 13, 14, 15, 16, 17, 18, 19] (by decide +kernel) (by decide +kernel)
set_option maxRecDepth 20000 in
theorem gX0_allVoters_X0_votersWhoAgree : GoodIn wsX0_allVoters (wsV RX0 40 RX0 yX0_votersWhoAgree wsX0_votersWhoAgree) := goodIn_app (goodIn_of _ (by decide +kernel)) ggX0_allVoters_X0_votersWhoAgree
theorem dX0_allVoters_0 : decode cX0_allVoters 0 = .ok (.aload_n 0, 1) := by decide +kernel
theorem dX0_allVoters_1 : decode cX0_allVoters 1 = .ok (.iconst 0, 1) := by decide +kernel
theorem dX0_allVoters_2 : decode cX0_allVoters 2 = .ok (.invokevirtual 40, 3) := by decide +kernel
theorem dX0_allVoters_5 : decode cX0_allVoters 5 = .ok (.ireturn, 1) := by decide +kernel
set_option maxRecDepth 20000 in
theorem ggX0_supportOf_X0_votersWhoAgree : GoodIn wsX0_supportOf wsX0_votersWhoAgree := goodIn_r _ [5, 6, 7, 8, 9, 10, 4, 11, 12, 13, 14, 15, 16, 17, 18, 19] (by decide +kernel) (by decide +kernel)
set_option maxRecDepth 20000 in
theorem gX0_supportOf_X0_votersWhoAgree : GoodIn wsX0_supportOf (wsV RX0 40 RX0 yX0_votersWhoAgree wsX0_votersWhoAgree) := goodIn_app (goodIn_of _ (by decide +kernel)) ggX0_supportOf_X0_votersWhoAgree
theorem dX0_supportOf_0 : decode cX0_supportOf 0 = .ok (.aload_n 0, 1) := by decide +kernel
theorem dX0_supportOf_1 : decode cX0_supportOf 1 = .ok (.iconst 1, 1) := by decide +kernel
theorem dX0_supportOf_2 : decode cX0_supportOf 2 = .ok (.iload_n 1, 1) := by decide +kernel
theorem dX0_supportOf_3 : decode cX0_supportOf 3 = .ok (.ishl, 1) := by decide +kernel
theorem dX0_supportOf_4 : decode cX0_supportOf 4 = .ok (.invokevirtual 40, 3) := by decide +kernel
theorem dX0_supportOf_7 : decode cX0_supportOf 7 = .ok (.ireturn, 1) := by decide +kernel
theorem dX0_agreesTo_0 : decode cX0_agreesTo 0 = .ok (.aload_n 0, 1) := by decide +kernel
theorem dX0_agreesTo_1 : decode cX0_agreesTo 1 = .ok (.getfield 15, 3) := by decide +kernel
theorem dX0_agreesTo_4 : decode cX0_agreesTo 4 = .ok (.iload_n 1, 1) := by decide +kernel
theorem dX0_agreesTo_5 : decode cX0_agreesTo 5 = .ok (.iaload, 1) := by decide +kernel
theorem dX0_agreesTo_6 : decode cX0_agreesTo 6 = .ok (.iload_n 2, 1) := by decide +kernel
theorem dX0_agreesTo_7 : decode cX0_agreesTo 7 = .ok (.iand, 1) := by decide +kernel
theorem dX0_agreesTo_8 : decode cX0_agreesTo 8 = .ok (.iload_n 2, 1) := by decide +kernel
theorem dX0_agreesTo_9 : decode cX0_agreesTo 9 = .ok (.if_icmp .ne 7, 3) := by decide +kernel
theorem dX0_agreesTo_12 : decode cX0_agreesTo 12 = .ok (.iconst 1, 1) := by decide +kernel
theorem dX0_agreesTo_13 : decode cX0_agreesTo 13 = .ok (.goto 4, 3) := by decide +kernel
theorem dX0_agreesTo_16 : decode cX0_agreesTo 16 = .ok (.iconst 0, 1) := by decide +kernel
theorem dX0_agreesTo_17 : decode cX0_agreesTo 17 = .ok (.ireturn, 1) := by decide +kernel
set_option maxRecDepth 20000 in
theorem ggX0_votersWhoAgree_X0_agreesTo : GoodIn wsX0_votersWhoAgree wsX0_agreesTo := goodIn_r _ [7, 8, 9, 10, 11, 12, 13, 14, 15] (by decide +kernel) (by decide +kernel)
set_option maxRecDepth 20000 in
theorem gX0_votersWhoAgree_X0_agreesTo : GoodIn wsX0_votersWhoAgree (wsV RX0 44 RX0 yX0_agreesTo wsX0_agreesTo) := goodIn_app (goodIn_of _ (by decide +kernel)) ggX0_votersWhoAgree_X0_agreesTo
theorem dX0_votersWhoAgree_0 : decode cX0_votersWhoAgree 0 = .ok (.iconst 0, 1) := by decide +kernel
theorem dX0_votersWhoAgree_1 : decode cX0_votersWhoAgree 1 = .ok (.istore_n 2, 1) := by decide +kernel
theorem dX0_votersWhoAgree_2 : decode cX0_votersWhoAgree 2 = .ok (.iconst 0, 1) := by decide +kernel
theorem dX0_votersWhoAgree_3 : decode cX0_votersWhoAgree 3 = .ok (.istore_n 3, 1) := by decide +kernel
theorem dX0_votersWhoAgree_4 : decode cX0_votersWhoAgree 4 = .ok (.iload_n 3, 1) := by decide +kernel
theorem dX0_votersWhoAgree_5 : decode cX0_votersWhoAgree 5 = .ok (.aload_n 0, 1) := by decide +kernel
theorem dX0_votersWhoAgree_6 : decode cX0_votersWhoAgree 6 = .ok (.getfield 25, 3) := by decide +kernel
theorem dX0_votersWhoAgree_9 : decode cX0_votersWhoAgree 9 = .ok (.if_icmp .ge 27, 3) := by decide +kernel
theorem dX0_votersWhoAgree_12 : decode cX0_votersWhoAgree 12 = .ok (.aload_n 0, 1) := by decide +kernel
theorem dX0_votersWhoAgree_13 : decode cX0_votersWhoAgree 13 = .ok (.iload_n 3, 1) := by decide +kernel
theorem dX0_votersWhoAgree_14 : decode cX0_votersWhoAgree 14 = .ok (.iload_n 1, 1) := by decide +kernel
theorem dX0_votersWhoAgree_15 : decode cX0_votersWhoAgree 15 = .ok (.invokevirtual 44, 3) := by decide +kernel
theorem dX0_votersWhoAgree_18 : decode cX0_votersWhoAgree 18 = .ok (.ifCond .eq 12, 3) := by decide +kernel
theorem dX0_votersWhoAgree_21 : decode cX0_votersWhoAgree 21 = .ok (.iload_n 2, 1) := by decide +kernel
theorem dX0_votersWhoAgree_22 : decode cX0_votersWhoAgree 22 = .ok (.aload_n 0, 1) := by decide +kernel
theorem dX0_votersWhoAgree_23 : decode cX0_votersWhoAgree 23 = .ok (.getfield 9, 3) := by decide +kernel
theorem dX0_votersWhoAgree_26 : decode cX0_votersWhoAgree 26 = .ok (.iload_n 3, 1) := by decide +kernel
theorem dX0_votersWhoAgree_27 : decode cX0_votersWhoAgree 27 = .ok (.iaload, 1) := by decide +kernel
theorem dX0_votersWhoAgree_28 : decode cX0_votersWhoAgree 28 = .ok (.iadd, 1) := by decide +kernel
theorem dX0_votersWhoAgree_29 : decode cX0_votersWhoAgree 29 = .ok (.istore_n 2, 1) := by decide +kernel
theorem dX0_votersWhoAgree_30 : decode cX0_votersWhoAgree 30 = .ok (.iinc 3 1, 3) := by decide +kernel
theorem dX0_votersWhoAgree_33 : decode cX0_votersWhoAgree 33 = .ok (.goto (-29), 3) := by decide +kernel
theorem dX0_votersWhoAgree_36 : decode cX0_votersWhoAgree 36 = .ok (.iload_n 2, 1) := by decide +kernel
theorem dX0_votersWhoAgree_37 : decode cX0_votersWhoAgree 37 = .ok (.ireturn, 1) := by decide +kernel
set_option maxRecDepth 20000 in
theorem ggX0_approvedByThoseWhoAgree_X0_agreesTo : GoodIn wsX0_approvedByThoseWhoAgree wsX0_agreesTo := goodIn_r _ [7, 2, 8, 9, 10, 11, 12, 13, 14] (by decide +kernel) (by decide +kernel)
set_option maxRecDepth 20000 in
theorem gX0_approvedByThoseWhoAgree_X0_agreesTo : GoodIn wsX0_approvedByThoseWhoAgree (wsV RX0 44 RX0 yX0_agreesTo wsX0_agreesTo) := goodIn_app (goodIn_of _ (by decide +kernel)) ggX0_approvedByThoseWhoAgree_X0_agreesTo
theorem dX0_approvedByThoseWhoAgree_0 : decode cX0_approvedByThoseWhoAgree 0 = .ok (.iconst 0, 1) := by decide +kernel
theorem dX0_approvedByThoseWhoAgree_1 : decode cX0_approvedByThoseWhoAgree 1 = .ok (.istore_n 2, 1) := by decide +kernel
theorem dX0_approvedByThoseWhoAgree_2 : decode cX0_approvedByThoseWhoAgree 2 = .ok (.iconst 0, 1) := by decide +kernel
theorem dX0_approvedByThoseWhoAgree_3 : decode cX0_approvedByThoseWhoAgree 3 = .ok (.istore_n 3, 1) := by decide +kernel
theorem dX0_approvedByThoseWhoAgree_4 : decode cX0_approvedByThoseWhoAgree 4 = .ok (.iload_n 3, 1) := by decide +kernel
theorem dX0_approvedByThoseWhoAgree_5 : decode cX0_approvedByThoseWhoAgree 5 = .ok (.aload_n 0, 1) := by decide +kernel
theorem dX0_approvedByThoseWhoAgree_6 : decode cX0_approvedByThoseWhoAgree 6 = .ok (.getfield 25, 3) := by decide +kernel
theorem dX0_approvedByThoseWhoAgree_9 : decode cX0_approvedByThoseWhoAgree 9 = .ok (.if_icmp .ge 27, 3) := by decide +kernel
theorem dX0_approvedByThoseWhoAgree_12 : decode cX0_approvedByThoseWhoAgree 12 = .ok (.aload_n 0, 1) := by decide +kernel
theorem dX0_approvedByThoseWhoAgree_13 : decode cX0_approvedByThoseWhoAgree 13 = .ok (.iload_n 3, 1) := by decide +kernel
theorem dX0_approvedByThoseWhoAgree_14 : decode cX0_approvedByThoseWhoAgree 14 = .ok (.iload_n 1, 1) := by decide +kernel
theorem dX0_approvedByThoseWhoAgree_15 : decode cX0_approvedByThoseWhoAgree 15 = .ok (.invokevirtual 44, 3) := by decide +kernel
theorem dX0_approvedByThoseWhoAgree_18 : decode cX0_approvedByThoseWhoAgree 18 = .ok (.ifCond .eq 12, 3) := by decide +kernel
theorem dX0_approvedByThoseWhoAgree_21 : decode cX0_approvedByThoseWhoAgree 21 = .ok (.iload_n 2, 1) := by decide +kernel
theorem dX0_approvedByThoseWhoAgree_22 : decode cX0_approvedByThoseWhoAgree 22 = .ok (.aload_n 0, 1) := by decide +kernel
theorem dX0_approvedByThoseWhoAgree_23 : decode cX0_approvedByThoseWhoAgree 23 = .ok (.getfield 15, 3) := by decide +kernel
theorem dX0_approvedByThoseWhoAgree_26 : decode cX0_approvedByThoseWhoAgree 26 = .ok (.iload_n 3, 1) := by decide +kernel
theorem dX0_approvedByThoseWhoAgree_27 : decode cX0_approvedByThoseWhoAgree 27 = .ok (.iaload, 1) := by decide +kernel
theorem dX0_approvedByThoseWhoAgree_28 : decode cX0_approvedByThoseWhoAgree 28 = .ok (.ior, 1) := by decide +kernel
theorem dX0_approvedByThoseWhoAgree_29 : decode cX0_approvedByThoseWhoAgree 29 = .ok (.istore_n 2, 1) := by decide +kernel
theorem dX0_approvedByThoseWhoAgree_30 : decode cX0_approvedByThoseWhoAgree 30 = .ok (.iinc 3 1, 3) := by decide +kernel
theorem dX0_approvedByThoseWhoAgree_33 : decode cX0_approvedByThoseWhoAgree 33 = .ok (.goto (-29), 3) := by decide +kernel
theorem dX0_approvedByThoseWhoAgree_36 : decode cX0_approvedByThoseWhoAgree 36 = .ok (.iload_n 2, 1) := by decide +kernel
theorem dX0_approvedByThoseWhoAgree_37 : decode cX0_approvedByThoseWhoAgree 37 = .ok (.ireturn, 1) := by decide +kernel
set_option maxRecDepth 20000 in
theorem ggX0_isOwed_X0_votersWhoAgree : GoodIn wsX0_isOwed wsX0_votersWhoAgree := goodIn_r _ [6, 7, 8, 9, 10, 11, 5, 12, 13, 25, 26, 27, 28, 29, 30, 31] (by decide +kernel) (by decide +kernel)
set_option maxRecDepth 20000 in
theorem gX0_isOwed_X0_votersWhoAgree : GoodIn wsX0_isOwed (wsV RX0 40 RX0 yX0_votersWhoAgree wsX0_votersWhoAgree) := goodIn_app (goodIn_of _ (by decide +kernel)) ggX0_isOwed_X0_votersWhoAgree
set_option maxRecDepth 20000 in
theorem ggX0_isOwed_J6_bitCount_0f7a4 : GoodIn wsX0_isOwed wsJ6_bitCount_0f7a4 := goodIn_r _ [17, 18, 19, 20] (by decide +kernel) (by decide +kernel)
set_option maxRecDepth 20000 in
theorem gX0_isOwed_J6_bitCount_0f7a4 : GoodIn wsX0_isOwed (va_wsS RX0 48 yJ6_bitCount_0f7a4 wsJ6_bitCount_0f7a4) := goodIn_app (goodIn_of _ (by decide +kernel)) ggX0_isOwed_J6_bitCount_0f7a4
set_option maxRecDepth 20000 in
theorem ggX0_isOwed_X0_allVoters : GoodIn wsX0_isOwed wsX0_allVoters := goodIn_r _ [24, 2, 3, 4, 5, 6, 7, 8, 9, 10, 11, 12, 13, 25, 26, 27, 28, 29, 30, 31] (by decide +kernel) (by decide +kernel)
set_option maxRecDepth 20000 in
theorem gX0_isOwed_X0_allVoters : GoodIn wsX0_isOwed (wsV RX0 53 RX0 yX0_allVoters wsX0_allVoters) := goodIn_app (goodIn_of _ (by decide +kernel)) ggX0_isOwed_X0_allVoters
theorem dX0_isOwed_0 : decode cX0_isOwed 0 = .ok (.aload_n 0, 1) := by decide +kernel
theorem dX0_isOwed_1 : decode cX0_isOwed 1 = .ok (.iload_n 1, 1) := by decide +kernel
theorem dX0_isOwed_2 : decode cX0_isOwed 2 = .ok (.invokevirtual 40, 3) := by decide +kernel
theorem dX0_isOwed_5 : decode cX0_isOwed 5 = .ok (.istore_n 2, 1) := by decide +kernel
theorem dX0_isOwed_6 : decode cX0_isOwed 6 = .ok (.iload_n 2, 1) := by decide +kernel
theorem dX0_isOwed_7 : decode cX0_isOwed 7 = .ok (.ifCond .le 25, 3) := by decide +kernel
theorem dX0_isOwed_10 : decode cX0_isOwed 10 = .ok (.iload_n 2, 1) := by decide +kernel
theorem dX0_isOwed_11 : decode cX0_isOwed 11 = .ok (.aload_n 0, 1) := by decide +kernel
theorem dX0_isOwed_12 : decode cX0_isOwed 12 = .ok (.getfield 28, 3) := by decide +kernel
theorem dX0_isOwed_15 : decode cX0_isOwed 15 = .ok (.imul, 1) := by decide +kernel
theorem dX0_isOwed_16 : decode cX0_isOwed 16 = .ok (.iload_n 1, 1) := by decide +kernel
theorem dX0_isOwed_17 : decode cX0_isOwed 17 = .ok (.invokestatic 48, 3) := by decide +kernel
theorem dX0_isOwed_20 : decode cX0_isOwed 20 = .ok (.aload_n 0, 1) := by decide +kernel
theorem dX0_isOwed_21 : decode cX0_isOwed 21 = .ok (.invokevirtual 53, 3) := by decide +kernel
theorem dX0_isOwed_24 : decode cX0_isOwed 24 = .ok (.imul, 1) := by decide +kernel
theorem dX0_isOwed_25 : decode cX0_isOwed 25 = .ok (.if_icmp .lt 7, 3) := by decide +kernel
theorem dX0_isOwed_28 : decode cX0_isOwed 28 = .ok (.iconst 1, 1) := by decide +kernel
theorem dX0_isOwed_29 : decode cX0_isOwed 29 = .ok (.goto 4, 3) := by decide +kernel
theorem dX0_isOwed_32 : decode cX0_isOwed 32 = .ok (.iconst 0, 1) := by decide +kernel
theorem dX0_isOwed_33 : decode cX0_isOwed 33 = .ok (.ireturn, 1) := by decide +kernel
set_option maxRecDepth 20000 in
theorem ggX0_isShort_X0_isOwed : GoodIn wsX0_isShort wsX0_isOwed := goodIn_r _ [5, 6, 7, 8, 9, 4, 10, 11, 12, 13, 14, 15, 16, 17, 18, 19, 20, 21, 22, 23, 24, 25, 26, 27, 28, 33, 34, 35, 36, 37, 38, 39] (by decide +kernel) (by decide +kernel)
set_option maxRecDepth 20000 in
theorem gX0_isShort_X0_isOwed : GoodIn wsX0_isShort (wsV RX0 57 RX0 yX0_isOwed wsX0_isOwed) := goodIn_app (goodIn_of _ (by decide +kernel)) ggX0_isShort_X0_isOwed
set_option maxRecDepth 20000 in
theorem ggX0_isShort_X0_approvedByThoseWhoAgree : GoodIn wsX0_isShort wsX0_approvedByThoseWhoAgree := goodIn_r _ [32, 11, 17, 13, 14, 15, 4, 16, 33, 34, 35, 36, 37, 38, 39] (by decide +kernel) (by decide +kernel)
set_option maxRecDepth 20000 in
theorem gX0_isShort_X0_approvedByThoseWhoAgree : GoodIn wsX0_isShort (wsV RX0 61 RX0 yX0_approvedByThoseWhoAgree wsX0_approvedByThoseWhoAgree) := goodIn_app (goodIn_of _ (by decide +kernel)) ggX0_isShort_X0_approvedByThoseWhoAgree
set_option maxRecDepth 20000 in
theorem ggX0_isShort_J6_bitCount_0f7a4 : GoodIn wsX0_isShort wsJ6_bitCount_0f7a4 := goodIn_r _ [21, 22, 23, 24] (by decide +kernel) (by decide +kernel)
set_option maxRecDepth 20000 in
theorem gX0_isShort_J6_bitCount_0f7a4 : GoodIn wsX0_isShort (va_wsS RX0 48 yJ6_bitCount_0f7a4 wsJ6_bitCount_0f7a4) := goodIn_app (goodIn_of _ (by decide +kernel)) ggX0_isShort_J6_bitCount_0f7a4
theorem dX0_isShort_0 : decode cX0_isShort 0 = .ok (.aload_n 0, 1) := by decide +kernel
theorem dX0_isShort_1 : decode cX0_isShort 1 = .ok (.iload_n 1, 1) := by decide +kernel
theorem dX0_isShort_2 : decode cX0_isShort 2 = .ok (.invokevirtual 57, 3) := by decide +kernel
theorem dX0_isShort_5 : decode cX0_isShort 5 = .ok (.ifCond .eq 24, 3) := by decide +kernel
theorem dX0_isShort_8 : decode cX0_isShort 8 = .ok (.iload_n 2, 1) := by decide +kernel
theorem dX0_isShort_9 : decode cX0_isShort 9 = .ok (.aload_n 0, 1) := by decide +kernel
theorem dX0_isShort_10 : decode cX0_isShort 10 = .ok (.iload_n 1, 1) := by decide +kernel
theorem dX0_isShort_11 : decode cX0_isShort 11 = .ok (.invokevirtual 61, 3) := by decide +kernel
theorem dX0_isShort_14 : decode cX0_isShort 14 = .ok (.iand, 1) := by decide +kernel
theorem dX0_isShort_15 : decode cX0_isShort 15 = .ok (.invokestatic 48, 3) := by decide +kernel
theorem dX0_isShort_18 : decode cX0_isShort 18 = .ok (.iload_n 1, 1) := by decide +kernel
theorem dX0_isShort_19 : decode cX0_isShort 19 = .ok (.invokestatic 48, 3) := by decide +kernel
theorem dX0_isShort_22 : decode cX0_isShort 22 = .ok (.if_icmp .ge 7, 3) := by decide +kernel
theorem dX0_isShort_25 : decode cX0_isShort 25 = .ok (.iconst 1, 1) := by decide +kernel
theorem dX0_isShort_26 : decode cX0_isShort 26 = .ok (.goto 4, 3) := by decide +kernel
theorem dX0_isShort_29 : decode cX0_isShort 29 = .ok (.iconst 0, 1) := by decide +kernel
theorem dX0_isShort_30 : decode cX0_isShort 30 = .ok (.ireturn, 1) := by decide +kernel
set_option maxRecDepth 20000 in
theorem ggX0_isWithdrawn_X4_hasBit : GoodIn wsX0_isWithdrawn wsX4_hasBit := goodIn_r _ [4] (by decide +kernel) (by decide +kernel)
set_option maxRecDepth 20000 in
theorem gX0_isWithdrawn_X4_hasBit_n64 : GoodIn wsX0_isWithdrawn (wsX4_hasBit) := ggX0_isWithdrawn_X4_hasBit
theorem dX0_isWithdrawn_0 : decode cX0_isWithdrawn 0 = .ok (.aload_n 0, 1) := by decide +kernel
theorem dX0_isWithdrawn_1 : decode cX0_isWithdrawn 1 = .ok (.getfield 31, 3) := by decide +kernel
theorem dX0_isWithdrawn_4 : decode cX0_isWithdrawn 4 = .ok (.iload_n 1, 1) := by decide +kernel
theorem dX0_isWithdrawn_5 : decode cX0_isWithdrawn 5 = .ok (.invokestatic 64, 3) := by decide +kernel
theorem dX0_isWithdrawn_8 : decode cX0_isWithdrawn 8 = .ok (.ireturn, 1) := by decide +kernel
theorem dX0_placeOf_0 : decode cX0_placeOf 0 = .ok (.iconst 0, 1) := by decide +kernel
theorem dX0_placeOf_1 : decode cX0_placeOf 1 = .ok (.istore_n 2, 1) := by decide +kernel
theorem dX0_placeOf_2 : decode cX0_placeOf 2 = .ok (.iconst 0, 1) := by decide +kernel
theorem dX0_placeOf_3 : decode cX0_placeOf 3 = .ok (.istore_n 3, 1) := by decide +kernel
theorem dX0_placeOf_4 : decode cX0_placeOf 4 = .ok (.iload_n 3, 1) := by decide +kernel
theorem dX0_placeOf_5 : decode cX0_placeOf 5 = .ok (.aload_n 0, 1) := by decide +kernel
theorem dX0_placeOf_6 : decode cX0_placeOf 6 = .ok (.getfield 21, 3) := by decide +kernel
theorem dX0_placeOf_9 : decode cX0_placeOf 9 = .ok (.if_icmp .ge 21, 3) := by decide +kernel
theorem dX0_placeOf_12 : decode cX0_placeOf 12 = .ok (.aload_n 0, 1) := by decide +kernel
theorem dX0_placeOf_13 : decode cX0_placeOf 13 = .ok (.getfield 18, 3) := by decide +kernel
theorem dX0_placeOf_16 : decode cX0_placeOf 16 = .ok (.iload_n 3, 1) := by decide +kernel
theorem dX0_placeOf_17 : decode cX0_placeOf 17 = .ok (.iaload, 1) := by decide +kernel
theorem dX0_placeOf_18 : decode cX0_placeOf 18 = .ok (.iload_n 1, 1) := by decide +kernel
theorem dX0_placeOf_19 : decode cX0_placeOf 19 = .ok (.if_icmp .ne 5, 3) := by decide +kernel
theorem dX0_placeOf_22 : decode cX0_placeOf 22 = .ok (.iload_n 3, 1) := by decide +kernel
theorem dX0_placeOf_23 : decode cX0_placeOf 23 = .ok (.istore_n 2, 1) := by decide +kernel
theorem dX0_placeOf_24 : decode cX0_placeOf 24 = .ok (.iinc 3 1, 3) := by decide +kernel
theorem dX0_placeOf_27 : decode cX0_placeOf 27 = .ok (.goto (-23), 3) := by decide +kernel
theorem dX0_placeOf_30 : decode cX0_placeOf 30 = .ok (.iload_n 2, 1) := by decide +kernel
theorem dX0_placeOf_31 : decode cX0_placeOf 31 = .ok (.ireturn, 1) := by decide +kernel
theorem dX0_bringToFront_0 : decode cX0_bringToFront 0 = .ok (.aload_n 0, 1) := by decide +kernel
theorem dX0_bringToFront_1 : decode cX0_bringToFront 1 = .ok (.getfield 18, 3) := by decide +kernel
theorem dX0_bringToFront_4 : decode cX0_bringToFront 4 = .ok (.iload_n 1, 1) := by decide +kernel
theorem dX0_bringToFront_5 : decode cX0_bringToFront 5 = .ok (.iaload, 1) := by decide +kernel
theorem dX0_bringToFront_6 : decode cX0_bringToFront 6 = .ok (.istore_n 2, 1) := by decide +kernel
theorem dX0_bringToFront_7 : decode cX0_bringToFront 7 = .ok (.iload_n 1, 1) := by decide +kernel
theorem dX0_bringToFront_8 : decode cX0_bringToFront 8 = .ok (.istore_n 3, 1) := by decide +kernel
theorem dX0_bringToFront_9 : decode cX0_bringToFront 9 = .ok (.iload_n 3, 1) := by decide +kernel
theorem dX0_bringToFront_10 : decode cX0_bringToFront 10 = .ok (.ifCond .le 23, 3) := by decide +kernel
theorem dX0_bringToFront_13 : decode cX0_bringToFront 13 = .ok (.aload_n 0, 1) := by decide +kernel
theorem dX0_bringToFront_14 : decode cX0_bringToFront 14 = .ok (.getfield 18, 3) := by decide +kernel
theorem dX0_bringToFront_17 : decode cX0_bringToFront 17 = .ok (.iload_n 3, 1) := by decide +kernel
theorem dX0_bringToFront_18 : decode cX0_bringToFront 18 = .ok (.aload_n 0, 1) := by decide +kernel
theorem dX0_bringToFront_19 : decode cX0_bringToFront 19 = .ok (.getfield 18, 3) := by decide +kernel
theorem dX0_bringToFront_22 : decode cX0_bringToFront 22 = .ok (.iload_n 3, 1) := by decide +kernel
theorem dX0_bringToFront_23 : decode cX0_bringToFront 23 = .ok (.iconst 1, 1) := by decide +kernel
theorem dX0_bringToFront_24 : decode cX0_bringToFront 24 = .ok (.isub, 1) := by decide +kernel
theorem dX0_bringToFront_25 : decode cX0_bringToFront 25 = .ok (.iaload, 1) := by decide +kernel
theorem dX0_bringToFront_26 : decode cX0_bringToFront 26 = .ok (.iastore, 1) := by decide +kernel
theorem dX0_bringToFront_27 : decode cX0_bringToFront 27 = .ok (.iinc 3 (-1), 3) := by decide +kernel
theorem dX0_bringToFront_30 : decode cX0_bringToFront 30 = .ok (.goto (-21), 3) := by decide +kernel
theorem dX0_bringToFront_33 : decode cX0_bringToFront 33 = .ok (.aload_n 0, 1) := by decide +kernel
theorem dX0_bringToFront_34 : decode cX0_bringToFront 34 = .ok (.getfield 18, 3) := by decide +kernel
theorem dX0_bringToFront_37 : decode cX0_bringToFront 37 = .ok (.iconst 0, 1) := by decide +kernel
theorem dX0_bringToFront_38 : decode cX0_bringToFront 38 = .ok (.iload_n 2, 1) := by decide +kernel
theorem dX0_bringToFront_39 : decode cX0_bringToFront 39 = .ok (.iastore, 1) := by decide +kernel
theorem dX0_bringToFront_40 : decode cX0_bringToFront 40 = .ok (.return_, 1) := by decide +kernel
theorem dX0_turnRankRound_0 : decode cX0_turnRankRound 0 = .ok (.iconst 0, 1) := by decide +kernel
theorem dX0_turnRankRound_1 : decode cX0_turnRankRound 1 = .ok (.istore_n 1, 1) := by decide +kernel
theorem dX0_turnRankRound_2 : decode cX0_turnRankRound 2 = .ok (.iload_n 1, 1) := by decide +kernel
theorem dX0_turnRankRound_3 : decode cX0_turnRankRound 3 = .ok (.aload_n 0, 1) := by decide +kernel
theorem dX0_turnRankRound_4 : decode cX0_turnRankRound 4 = .ok (.getfield 21, 3) := by decide +kernel
theorem dX0_turnRankRound_7 : decode cX0_turnRankRound 7 = .ok (.iconst 2, 1) := by decide +kernel
theorem dX0_turnRankRound_8 : decode cX0_turnRankRound 8 = .ok (.idiv, 1) := by decide +kernel
theorem dX0_turnRankRound_9 : decode cX0_turnRankRound 9 = .ok (.if_icmp .ge 49, 3) := by decide +kernel
theorem dX0_turnRankRound_12 : decode cX0_turnRankRound 12 = .ok (.aload_n 0, 1) := by decide +kernel
theorem dX0_turnRankRound_13 : decode cX0_turnRankRound 13 = .ok (.getfield 18, 3) := by decide +kernel
theorem dX0_turnRankRound_16 : decode cX0_turnRankRound 16 = .ok (.iload_n 1, 1) := by decide +kernel
theorem dX0_turnRankRound_17 : decode cX0_turnRankRound 17 = .ok (.iaload, 1) := by decide +kernel
theorem dX0_turnRankRound_18 : decode cX0_turnRankRound 18 = .ok (.istore_n 2, 1) := by decide +kernel
theorem dX0_turnRankRound_19 : decode cX0_turnRankRound 19 = .ok (.aload_n 0, 1) := by decide +kernel
theorem dX0_turnRankRound_20 : decode cX0_turnRankRound 20 = .ok (.getfield 18, 3) := by decide +kernel
theorem dX0_turnRankRound_23 : decode cX0_turnRankRound 23 = .ok (.iload_n 1, 1) := by decide +kernel
theorem dX0_turnRankRound_24 : decode cX0_turnRankRound 24 = .ok (.aload_n 0, 1) := by decide +kernel
theorem dX0_turnRankRound_25 : decode cX0_turnRankRound 25 = .ok (.getfield 18, 3) := by decide +kernel
theorem dX0_turnRankRound_28 : decode cX0_turnRankRound 28 = .ok (.aload_n 0, 1) := by decide +kernel
theorem dX0_turnRankRound_29 : decode cX0_turnRankRound 29 = .ok (.getfield 21, 3) := by decide +kernel
theorem dX0_turnRankRound_32 : decode cX0_turnRankRound 32 = .ok (.iconst 1, 1) := by decide +kernel
theorem dX0_turnRankRound_33 : decode cX0_turnRankRound 33 = .ok (.isub, 1) := by decide +kernel
theorem dX0_turnRankRound_34 : decode cX0_turnRankRound 34 = .ok (.iload_n 1, 1) := by decide +kernel
theorem dX0_turnRankRound_35 : decode cX0_turnRankRound 35 = .ok (.isub, 1) := by decide +kernel
theorem dX0_turnRankRound_36 : decode cX0_turnRankRound 36 = .ok (.iaload, 1) := by decide +kernel
theorem dX0_turnRankRound_37 : decode cX0_turnRankRound 37 = .ok (.iastore, 1) := by decide +kernel
theorem dX0_turnRankRound_38 : decode cX0_turnRankRound 38 = .ok (.aload_n 0, 1) := by decide +kernel
theorem dX0_turnRankRound_39 : decode cX0_turnRankRound 39 = .ok (.getfield 18, 3) := by decide +kernel
theorem dX0_turnRankRound_42 : decode cX0_turnRankRound 42 = .ok (.aload_n 0, 1) := by decide +kernel
theorem dX0_turnRankRound_43 : decode cX0_turnRankRound 43 = .ok (.getfield 21, 3) := by decide +kernel
theorem dX0_turnRankRound_46 : decode cX0_turnRankRound 46 = .ok (.iconst 1, 1) := by decide +kernel
theorem dX0_turnRankRound_47 : decode cX0_turnRankRound 47 = .ok (.isub, 1) := by decide +kernel
theorem dX0_turnRankRound_48 : decode cX0_turnRankRound 48 = .ok (.iload_n 1, 1) := by decide +kernel
theorem dX0_turnRankRound_49 : decode cX0_turnRankRound 49 = .ok (.isub, 1) := by decide +kernel
theorem dX0_turnRankRound_50 : decode cX0_turnRankRound 50 = .ok (.iload_n 2, 1) := by decide +kernel
theorem dX0_turnRankRound_51 : decode cX0_turnRankRound 51 = .ok (.iastore, 1) := by decide +kernel
theorem dX0_turnRankRound_52 : decode cX0_turnRankRound 52 = .ok (.iinc 1 1, 3) := by decide +kernel
theorem dX0_turnRankRound_55 : decode cX0_turnRankRound 55 = .ok (.goto (-53), 3) := by decide +kernel
theorem dX0_turnRankRound_58 : decode cX0_turnRankRound 58 = .ok (.return_, 1) := by decide +kernel
theorem dX1_init_0 : decode cX1_init 0 = .ok (.aload_n 0, 1) := by decide +kernel
theorem dX1_init_1 : decode cX1_init 1 = .ok (.invokespecial 3, 3) := by decide +kernel
theorem dX1_init_4 : decode cX1_init 4 = .ok (.aload_n 0, 1) := by decide +kernel
theorem dX1_init_5 : decode cX1_init 5 = .ok (.bipush 8, 2) := by decide +kernel
theorem dX1_init_7 : decode cX1_init 7 = .ok (.newarray .int, 2) := by decide +kernel
theorem dX1_init_9 : decode cX1_init 9 = .ok (.putfield 9, 3) := by decide +kernel
theorem dX1_init_12 : decode cX1_init 12 = .ok (.aload_n 0, 1) := by decide +kernel
theorem dX1_init_13 : decode cX1_init 13 = .ok (.bipush 8, 2) := by decide +kernel
theorem dX1_init_15 : decode cX1_init 15 = .ok (.newarray .long, 2) := by decide +kernel
theorem dX1_init_17 : decode cX1_init 17 = .ok (.putfield 15, 3) := by decide +kernel
theorem dX1_init_20 : decode cX1_init 20 = .ok (.aload_n 0, 1) := by decide +kernel
theorem dX1_init_21 : decode cX1_init 21 = .ok (.bipush 8, 2) := by decide +kernel
theorem dX1_init_23 : decode cX1_init 23 = .ok (.newarray .long, 2) := by decide +kernel
theorem dX1_init_25 : decode cX1_init 25 = .ok (.putfield 19, 3) := by decide +kernel
theorem dX1_init_28 : decode cX1_init 28 = .ok (.aload_n 0, 1) := by decide +kernel
theorem dX1_init_29 : decode cX1_init 29 = .ok (.bipush 8, 2) := by decide +kernel
theorem dX1_init_31 : decode cX1_init 31 = .ok (.newarray .int, 2) := by decide +kernel
theorem dX1_init_33 : decode cX1_init 33 = .ok (.putfield 22, 3) := by decide +kernel
theorem dX1_init_36 : decode cX1_init 36 = .ok (.aload_n 0, 1) := by decide +kernel
theorem dX1_init_37 : decode cX1_init 37 = .ok (.bipush 8, 2) := by decide +kernel
theorem dX1_init_39 : decode cX1_init 39 = .ok (.newarray .long, 2) := by decide +kernel
theorem dX1_init_41 : decode cX1_init 41 = .ok (.putfield 25, 3) := by decide +kernel
theorem dX1_init_44 : decode cX1_init 44 = .ok (.aload_n 0, 1) := by decide +kernel
theorem dX1_init_45 : decode cX1_init 45 = .ok (.bipush 11, 2) := by decide +kernel
theorem dX1_init_47 : decode cX1_init 47 = .ok (.newarray .long, 2) := by decide +kernel
theorem dX1_init_49 : decode cX1_init 49 = .ok (.putfield 28, 3) := by decide +kernel
theorem dX1_init_52 : decode cX1_init 52 = .ok (.return_, 1) := by decide +kernel
set_option maxRecDepth 20000 in
theorem ggX1_hold_X1_begin : GoodIn wsX1_hold wsX1_begin := goodIn_r _ [6, 7, 1, 8, 9, 10, 11, 12, 13, 14, 15, 16, 17, 18, 19, 20, 21, 22, 23, 24, 25, 72, 73, 74, 75, 76, 77, 78, 79, 80, 65, 66, 67, 68, 69, 70, 71] (by decide +kernel) (by decide +kernel)
set_option maxRecDepth 20000 in
theorem gX1_hold_X1_begin : GoodIn wsX1_hold (wsV RX1 31 RX1 yX1_begin wsX1_begin) := goodIn_app (goodIn_of _ (by decide +kernel)) ggX1_hold_X1_begin
set_option maxRecDepth 20000 in
theorem ggX1_hold_X1_nextMember : GoodIn wsX1_hold wsX1_nextMember := goodIn_r _ [29, 1, 30, 31, 32, 33, 34, 35, 36, 5, 37, 10, 8, 9, 38, 39, 40, 41, 42, 43, 44, 45, 46, 47, 48, 49, 50, 51, 52, 65, 66, 67, 68, 69, 70, 71, 72, 73, 74, 75, 76, 77, 78, 79, 80] (by decide +kernel) (by decide +kernel)
set_option maxRecDepth 20000 in
theorem gX1_hold_X1_nextMember : GoodIn wsX1_hold (wsV RX1 41 RX1 yX1_nextMember wsX1_nextMember) := goodIn_app (goodIn_of _ (by decide +kernel)) ggX1_hold_X1_nextMember
set_option maxRecDepth 20000 in
theorem ggX1_hold_X1_elect : GoodIn wsX1_hold wsX1_elect := goodIn_r _ [56, 7, 57, 58, 30, 10, 59, 60, 8, 1, 61, 62, 63, 5, 64, 9, 31, 32, 33, 72, 73, 74, 75, 76, 77, 78, 79, 80, 65, 66, 67, 68, 69, 70, 71] (by decide +kernel) (by decide +kernel)
set_option maxRecDepth 20000 in
theorem gX1_hold_X1_elect : GoodIn wsX1_hold (wsV RX1 48 RX1 yX1_elect wsX1_elect) := goodIn_app (goodIn_of _ (by decide +kernel)) ggX1_hold_X1_elect
theorem dX1_hold_0 : decode cX1_hold 0 = .ok (.aload_n 0, 1) := by decide +kernel
theorem dX1_hold_1 : decode cX1_hold 1 = .ok (.aload_n 1, 1) := by decide +kernel
theorem dX1_hold_2 : decode cX1_hold 2 = .ok (.invokevirtual 31, 3) := by decide +kernel
theorem dX1_hold_5 : decode cX1_hold 5 = .ok (.iconst 0, 1) := by decide +kernel
theorem dX1_hold_6 : decode cX1_hold 6 = .ok (.istore_n 3, 1) := by decide +kernel
theorem dX1_hold_7 : decode cX1_hold 7 = .ok (.iload_n 3, 1) := by decide +kernel
theorem dX1_hold_8 : decode cX1_hold 8 = .ok (.aload_n 1, 1) := by decide +kernel
theorem dX1_hold_9 : decode cX1_hold 9 = .ok (.getfield 35, 3) := by decide +kernel
theorem dX1_hold_12 : decode cX1_hold 12 = .ok (.if_icmp .ge 37, 3) := by decide +kernel
theorem dX1_hold_15 : decode cX1_hold 15 = .ok (.aload_n 0, 1) := by decide +kernel
theorem dX1_hold_16 : decode cX1_hold 16 = .ok (.aload_n 1, 1) := by decide +kernel
theorem dX1_hold_17 : decode cX1_hold 17 = .ok (.iload_n 2, 1) := by decide +kernel
theorem dX1_hold_18 : decode cX1_hold 18 = .ok (.invokevirtual 41, 3) := by decide +kernel
theorem dX1_hold_21 : decode cX1_hold 21 = .ok (.istore 4, 2) := by decide +kernel
theorem dX1_hold_23 : decode cX1_hold 23 = .ok (.iload 4, 2) := by decide +kernel
theorem dX1_hold_25 : decode cX1_hold 25 = .ok (.bipush (-4), 2) := by decide +kernel
theorem dX1_hold_27 : decode cX1_hold 27 = .ok (.if_icmp .ne 8, 3) := by decide +kernel
theorem dX1_hold_30 : decode cX1_hold 30 = .ok (.aload_n 0, 1) := by decide +kernel
theorem dX1_hold_31 : decode cX1_hold 31 = .ok (.getfield 45, 3) := by decide +kernel
theorem dX1_hold_34 : decode cX1_hold 34 = .ok (.ireturn, 1) := by decide +kernel
theorem dX1_hold_35 : decode cX1_hold 35 = .ok (.aload_n 0, 1) := by decide +kernel
theorem dX1_hold_36 : decode cX1_hold 36 = .ok (.aload_n 1, 1) := by decide +kernel
theorem dX1_hold_37 : decode cX1_hold 37 = .ok (.iload_n 2, 1) := by decide +kernel
theorem dX1_hold_38 : decode cX1_hold 38 = .ok (.iload 4, 2) := by decide +kernel
theorem dX1_hold_40 : decode cX1_hold 40 = .ok (.invokevirtual 48, 3) := by decide +kernel
theorem dX1_hold_43 : decode cX1_hold 43 = .ok (.iinc 3 1, 3) := by decide +kernel
theorem dX1_hold_46 : decode cX1_hold 46 = .ok (.goto (-39), 3) := by decide +kernel
theorem dX1_hold_49 : decode cX1_hold 49 = .ok (.aload_n 0, 1) := by decide +kernel
theorem dX1_hold_50 : decode cX1_hold 50 = .ok (.getfield 45, 3) := by decide +kernel
theorem dX1_hold_53 : decode cX1_hold 53 = .ok (.ireturn, 1) := by decide +kernel
set_option maxRecDepth 20000 in
theorem ggX1_begin_X0_supportOf : GoodIn wsX1_begin wsX0_supportOf := goodIn_r _ [9, 10, 11, 12, 7, 13, 14, 15, 16, 17, 18, 19, 20, 30, 31, 32, 33, 34, 35, 36] (by decide +kernel) (by decide +kernel)
set_option maxRecDepth 20000 in
theorem gX1_begin_X0_supportOf_n62 : GoodIn wsX1_begin (wsX0_supportOf) := ggX1_begin_X0_supportOf
theorem dX1_begin_0 : decode cX1_begin 0 = .ok (.aload_n 0, 1) := by decide +kernel
theorem dX1_begin_1 : decode cX1_begin 1 = .ok (.iconst 0, 1) := by decide +kernel
theorem dX1_begin_2 : decode cX1_begin 2 = .ok (.putfield 52, 3) := by decide +kernel
theorem dX1_begin_5 : decode cX1_begin 5 = .ok (.aload_n 0, 1) := by decide +kernel
theorem dX1_begin_6 : decode cX1_begin 6 = .ok (.iconst 0, 1) := by decide +kernel
theorem dX1_begin_7 : decode cX1_begin 7 = .ok (.putfield 45, 3) := by decide +kernel
theorem dX1_begin_10 : decode cX1_begin 10 = .ok (.aload_n 0, 1) := by decide +kernel
theorem dX1_begin_11 : decode cX1_begin 11 = .ok (.lconst 1, 1) := by decide +kernel
theorem dX1_begin_12 : decode cX1_begin 12 = .ok (.putfield 55, 3) := by decide +kernel
theorem dX1_begin_15 : decode cX1_begin 15 = .ok (.iconst 0, 1) := by decide +kernel
theorem dX1_begin_16 : decode cX1_begin 16 = .ok (.istore_n 2, 1) := by decide +kernel
theorem dX1_begin_17 : decode cX1_begin 17 = .ok (.iload_n 2, 1) := by decide +kernel
theorem dX1_begin_18 : decode cX1_begin 18 = .ok (.bipush 11, 2) := by decide +kernel
theorem dX1_begin_20 : decode cX1_begin 20 = .ok (.if_icmp .ge 16, 3) := by decide +kernel
theorem dX1_begin_23 : decode cX1_begin 23 = .ok (.aload_n 0, 1) := by decide +kernel
theorem dX1_begin_24 : decode cX1_begin 24 = .ok (.getfield 28, 3) := by decide +kernel
theorem dX1_begin_27 : decode cX1_begin 27 = .ok (.iload_n 2, 1) := by decide +kernel
theorem dX1_begin_28 : decode cX1_begin 28 = .ok (.lconst 0, 1) := by decide +kernel
theorem dX1_begin_29 : decode cX1_begin 29 = .ok (.lastore, 1) := by decide +kernel
theorem dX1_begin_30 : decode cX1_begin 30 = .ok (.iinc 2 1, 3) := by decide +kernel
theorem dX1_begin_33 : decode cX1_begin 33 = .ok (.goto (-16), 3) := by decide +kernel
theorem dX1_begin_36 : decode cX1_begin 36 = .ok (.iconst 0, 1) := by decide +kernel
theorem dX1_begin_37 : decode cX1_begin 37 = .ok (.istore_n 2, 1) := by decide +kernel
theorem dX1_begin_38 : decode cX1_begin 38 = .ok (.iload_n 2, 1) := by decide +kernel
theorem dX1_begin_39 : decode cX1_begin 39 = .ok (.aload_n 1, 1) := by decide +kernel
theorem dX1_begin_40 : decode cX1_begin 40 = .ok (.getfield 59, 3) := by decide +kernel
theorem dX1_begin_43 : decode cX1_begin 43 = .ok (.if_icmp .ge 20, 3) := by decide +kernel
theorem dX1_begin_46 : decode cX1_begin 46 = .ok (.aload_n 0, 1) := by decide +kernel
theorem dX1_begin_47 : decode cX1_begin 47 = .ok (.getfield 22, 3) := by decide +kernel
theorem dX1_begin_50 : decode cX1_begin 50 = .ok (.iload_n 2, 1) := by decide +kernel
theorem dX1_begin_51 : decode cX1_begin 51 = .ok (.aload_n 1, 1) := by decide +kernel
theorem dX1_begin_52 : decode cX1_begin 52 = .ok (.iload_n 2, 1) := by decide +kernel
theorem dX1_begin_53 : decode cX1_begin 53 = .ok (.invokevirtual 62, 3) := by decide +kernel
theorem dX1_begin_56 : decode cX1_begin 56 = .ok (.iastore, 1) := by decide +kernel
theorem dX1_begin_57 : decode cX1_begin 57 = .ok (.iinc 2 1, 3) := by decide +kernel
theorem dX1_begin_60 : decode cX1_begin 60 = .ok (.goto (-22), 3) := by decide +kernel
theorem dX1_begin_63 : decode cX1_begin 63 = .ok (.return_, 1) := by decide +kernel
set_option maxRecDepth 20000 in
theorem ggX1_nextMember_X4_hasBit : GoodIn wsX1_nextMember wsX4_hasBit := goodIn_r _ [5] (by decide +kernel) (by decide +kernel)
set_option maxRecDepth 20000 in
theorem gX1_nextMember_X4_hasBit_n72 : GoodIn wsX1_nextMember (wsX4_hasBit) := ggX1_nextMember_X4_hasBit
set_option maxRecDepth 20000 in
theorem ggX1_nextMember_X1_worthOf : GoodIn wsX1_nextMember wsX1_worthOf := goodIn_r _ [10, 11, 12, 13, 3, 4, 5, 14, 15, 16, 9, 17, 1, 18, 19, 20, 21, 22, 23, 24, 36, 37, 38, 39, 40, 41, 42, 43, 44, 29, 30, 31, 32, 33, 34, 35] (by decide +kernel) (by decide +kernel)
set_option maxRecDepth 20000 in
theorem gX1_nextMember_X1_worthOf : GoodIn wsX1_nextMember (wsV RX1 76 RX1 yX1_worthOf wsX1_worthOf) := goodIn_app (goodIn_of _ (by decide +kernel)) ggX1_nextMember_X1_worthOf
set_option maxRecDepth 20000 in
theorem ggX1_nextMember_X1_isAhead : GoodIn wsX1_nextMember wsX1_isAhead := goodIn_r _ [28, 11, 2, 36, 37, 38, 39, 40, 41, 42, 43, 44] (by decide +kernel) (by decide +kernel)
set_option maxRecDepth 20000 in
theorem gX1_nextMember_X1_isAhead : GoodIn wsX1_nextMember (wsV RX1 80 RX1 yX1_isAhead wsX1_isAhead) := goodIn_app (goodIn_of _ (by decide +kernel)) ggX1_nextMember_X1_isAhead
theorem dX1_nextMember_0 : decode cX1_nextMember 0 = .ok (.bipush (-4), 2) := by decide +kernel
theorem dX1_nextMember_2 : decode cX1_nextMember 2 = .ok (.istore_n 3, 1) := by decide +kernel
theorem dX1_nextMember_3 : decode cX1_nextMember 3 = .ok (.iconst 0, 1) := by decide +kernel
theorem dX1_nextMember_4 : decode cX1_nextMember 4 = .ok (.istore 4, 2) := by decide +kernel
theorem dX1_nextMember_6 : decode cX1_nextMember 6 = .ok (.iload 4, 2) := by decide +kernel
theorem dX1_nextMember_8 : decode cX1_nextMember 8 = .ok (.aload_n 1, 1) := by decide +kernel
theorem dX1_nextMember_9 : decode cX1_nextMember 9 = .ok (.getfield 59, 3) := by decide +kernel
theorem dX1_nextMember_12 : decode cX1_nextMember 12 = .ok (.if_icmp .ge 70, 3) := by decide +kernel
theorem dX1_nextMember_15 : decode cX1_nextMember 15 = .ok (.aload_n 1, 1) := by decide +kernel
theorem dX1_nextMember_16 : decode cX1_nextMember 16 = .ok (.getfield 66, 3) := by decide +kernel
theorem dX1_nextMember_19 : decode cX1_nextMember 19 = .ok (.iload 4, 2) := by decide +kernel
theorem dX1_nextMember_21 : decode cX1_nextMember 21 = .ok (.iaload, 1) := by decide +kernel
theorem dX1_nextMember_22 : decode cX1_nextMember 22 = .ok (.istore 5, 2) := by decide +kernel
theorem dX1_nextMember_24 : decode cX1_nextMember 24 = .ok (.aload_n 1, 1) := by decide +kernel
theorem dX1_nextMember_25 : decode cX1_nextMember 25 = .ok (.getfield 69, 3) := by decide +kernel
theorem dX1_nextMember_28 : decode cX1_nextMember 28 = .ok (.aload_n 0, 1) := by decide +kernel
theorem dX1_nextMember_29 : decode cX1_nextMember 29 = .ok (.getfield 45, 3) := by decide +kernel
theorem dX1_nextMember_32 : decode cX1_nextMember 32 = .ok (.ior, 1) := by decide +kernel
theorem dX1_nextMember_33 : decode cX1_nextMember 33 = .ok (.iload 5, 2) := by decide +kernel
theorem dX1_nextMember_35 : decode cX1_nextMember 35 = .ok (.invokestatic 72, 3) := by decide +kernel
theorem dX1_nextMember_38 : decode cX1_nextMember 38 = .ok (.ifCond .ne 38, 3) := by decide +kernel
theorem dX1_nextMember_41 : decode cX1_nextMember 41 = .ok (.aload_n 0, 1) := by decide +kernel
theorem dX1_nextMember_42 : decode cX1_nextMember 42 = .ok (.getfield 25, 3) := by decide +kernel
theorem dX1_nextMember_45 : decode cX1_nextMember 45 = .ok (.iload 5, 2) := by decide +kernel
theorem dX1_nextMember_47 : decode cX1_nextMember 47 = .ok (.aload_n 0, 1) := by decide +kernel
theorem dX1_nextMember_48 : decode cX1_nextMember 48 = .ok (.aload_n 1, 1) := by decide +kernel
theorem dX1_nextMember_49 : decode cX1_nextMember 49 = .ok (.iload_n 2, 1) := by decide +kernel
theorem dX1_nextMember_50 : decode cX1_nextMember 50 = .ok (.iload 5, 2) := by decide +kernel
theorem dX1_nextMember_52 : decode cX1_nextMember 52 = .ok (.invokevirtual 76, 3) := by decide +kernel
theorem dX1_nextMember_55 : decode cX1_nextMember 55 = .ok (.lastore, 1) := by decide +kernel
theorem dX1_nextMember_56 : decode cX1_nextMember 56 = .ok (.iload_n 3, 1) := by decide +kernel
theorem dX1_nextMember_57 : decode cX1_nextMember 57 = .ok (.bipush (-4), 2) := by decide +kernel
theorem dX1_nextMember_59 : decode cX1_nextMember 59 = .ok (.if_icmp .eq 14, 3) := by decide +kernel
theorem dX1_nextMember_62 : decode cX1_nextMember 62 = .ok (.aload_n 0, 1) := by decide +kernel
theorem dX1_nextMember_63 : decode cX1_nextMember 63 = .ok (.iload_n 2, 1) := by decide +kernel
theorem dX1_nextMember_64 : decode cX1_nextMember 64 = .ok (.iload 5, 2) := by decide +kernel
theorem dX1_nextMember_66 : decode cX1_nextMember 66 = .ok (.iload_n 3, 1) := by decide +kernel
theorem dX1_nextMember_67 : decode cX1_nextMember 67 = .ok (.invokevirtual 80, 3) := by decide +kernel
theorem dX1_nextMember_70 : decode cX1_nextMember 70 = .ok (.ifCond .eq 6, 3) := by decide +kernel
theorem dX1_nextMember_73 : decode cX1_nextMember 73 = .ok (.iload 5, 2) := by decide +kernel
theorem dX1_nextMember_75 : decode cX1_nextMember 75 = .ok (.istore_n 3, 1) := by decide +kernel
theorem dX1_nextMember_76 : decode cX1_nextMember 76 = .ok (.iinc 4 1, 3) := by decide +kernel
theorem dX1_nextMember_79 : decode cX1_nextMember 79 = .ok (.goto (-73), 3) := by decide +kernel
theorem dX1_nextMember_82 : decode cX1_nextMember 82 = .ok (.iload_n 3, 1) := by decide +kernel
theorem dX1_nextMember_83 : decode cX1_nextMember 83 = .ok (.ireturn, 1) := by decide +kernel
set_option maxRecDepth 20000 in
theorem ggX1_worthOf_X4_hasBit : GoodIn wsX1_worthOf wsX4_hasBit := goodIn_r _ [6] (by decide +kernel) (by decide +kernel)
set_option maxRecDepth 20000 in
theorem gX1_worthOf_X4_hasBit_n72 : GoodIn wsX1_worthOf (wsX4_hasBit) := ggX1_worthOf_X4_hasBit
set_option maxRecDepth 20000 in
theorem ggX1_worthOf_X1_weightOf : GoodIn wsX1_worthOf wsX1_weightOf := goodIn_r _ [11, 12, 13, 14, 15, 16, 17, 18, 19, 29, 30, 31, 32, 33, 34, 35, 20, 21, 22, 23, 24, 25, 26, 27, 28] (by decide +kernel) (by decide +kernel)
set_option maxRecDepth 20000 in
theorem gX1_worthOf_X1_weightOf : GoodIn wsX1_worthOf (wsV RX1 93 RX1 yX1_weightOf wsX1_weightOf) := goodIn_app (goodIn_of _ (by decide +kernel)) ggX1_worthOf_X1_weightOf
theorem dX1_worthOf_0 : decode cX1_worthOf 0 = .ok (.iload_n 2, 1) := by decide +kernel
theorem dX1_worthOf_1 : decode cX1_worthOf 1 = .ok (.iconst 1, 1) := by decide +kernel
theorem dX1_worthOf_2 : decode cX1_worthOf 2 = .ok (.if_icmp .ne 11, 3) := by decide +kernel
theorem dX1_worthOf_5 : decode cX1_worthOf 5 = .ok (.aload_n 0, 1) := by decide +kernel
theorem dX1_worthOf_6 : decode cX1_worthOf 6 = .ok (.getfield 22, 3) := by decide +kernel
theorem dX1_worthOf_9 : decode cX1_worthOf 9 = .ok (.iload_n 3, 1) := by decide +kernel
theorem dX1_worthOf_10 : decode cX1_worthOf 10 = .ok (.iaload, 1) := by decide +kernel
theorem dX1_worthOf_11 : decode cX1_worthOf 11 = .ok (.i2l, 1) := by decide +kernel
theorem dX1_worthOf_12 : decode cX1_worthOf 12 = .ok (.lreturn, 1) := by decide +kernel
theorem dX1_worthOf_13 : decode cX1_worthOf 13 = .ok (.iload_n 2, 1) := by decide +kernel
theorem dX1_worthOf_14 : decode cX1_worthOf 14 = .ok (.iconst 2, 1) := by decide +kernel
theorem dX1_worthOf_15 : decode cX1_worthOf 15 = .ok (.if_icmp .ne 7, 3) := by decide +kernel
theorem dX1_worthOf_18 : decode cX1_worthOf 18 = .ok (.lconst 0, 1) := by decide +kernel
theorem dX1_worthOf_19 : decode cX1_worthOf 19 = .ok (.goto 7, 3) := by decide +kernel
theorem dX1_worthOf_22 : decode cX1_worthOf 22 = .ok (.aload_n 0, 1) := by decide +kernel
theorem dX1_worthOf_23 : decode cX1_worthOf 23 = .ok (.getfield 55, 3) := by decide +kernel
theorem dX1_worthOf_26 : decode cX1_worthOf 26 = .ok (.lstore 4, 2) := by decide +kernel
theorem dX1_worthOf_28 : decode cX1_worthOf 28 = .ok (.iconst 0, 1) := by decide +kernel
theorem dX1_worthOf_29 : decode cX1_worthOf 29 = .ok (.istore 6, 2) := by decide +kernel
theorem dX1_worthOf_31 : decode cX1_worthOf 31 = .ok (.iload 6, 2) := by decide +kernel
theorem dX1_worthOf_33 : decode cX1_worthOf 33 = .ok (.aload_n 1, 1) := by decide +kernel
theorem dX1_worthOf_34 : decode cX1_worthOf 34 = .ok (.getfield 84, 3) := by decide +kernel
theorem dX1_worthOf_37 : decode cX1_worthOf 37 = .ok (.if_icmp .ge 59, 3) := by decide +kernel
theorem dX1_worthOf_40 : decode cX1_worthOf 40 = .ok (.aload_n 1, 1) := by decide +kernel
theorem dX1_worthOf_41 : decode cX1_worthOf 41 = .ok (.getfield 87, 3) := by decide +kernel
theorem dX1_worthOf_44 : decode cX1_worthOf 44 = .ok (.iload 6, 2) := by decide +kernel
theorem dX1_worthOf_46 : decode cX1_worthOf 46 = .ok (.iaload, 1) := by decide +kernel
theorem dX1_worthOf_47 : decode cX1_worthOf 47 = .ok (.iload_n 3, 1) := by decide +kernel
theorem dX1_worthOf_48 : decode cX1_worthOf 48 = .ok (.invokestatic 72, 3) := by decide +kernel
theorem dX1_worthOf_51 : decode cX1_worthOf 51 = .ok (.ifCond .eq 39, 3) := by decide +kernel
theorem dX1_worthOf_54 : decode cX1_worthOf 54 = .ok (.lload 4, 2) := by decide +kernel
theorem dX1_worthOf_56 : decode cX1_worthOf 56 = .ok (.aload_n 1, 1) := by decide +kernel
theorem dX1_worthOf_57 : decode cX1_worthOf 57 = .ok (.getfield 90, 3) := by decide +kernel
theorem dX1_worthOf_60 : decode cX1_worthOf 60 = .ok (.iload 6, 2) := by decide +kernel
theorem dX1_worthOf_62 : decode cX1_worthOf 62 = .ok (.iaload, 1) := by decide +kernel
theorem dX1_worthOf_63 : decode cX1_worthOf 63 = .ok (.i2l, 1) := by decide +kernel
theorem dX1_worthOf_64 : decode cX1_worthOf 64 = .ok (.iload_n 2, 1) := by decide +kernel
theorem dX1_worthOf_65 : decode cX1_worthOf 65 = .ok (.iconst 2, 1) := by decide +kernel
theorem dX1_worthOf_66 : decode cX1_worthOf 66 = .ok (.if_icmp .ne 13, 3) := by decide +kernel
theorem dX1_worthOf_69 : decode cX1_worthOf 69 = .ok (.aload_n 0, 1) := by decide +kernel
theorem dX1_worthOf_70 : decode cX1_worthOf 70 = .ok (.aload_n 1, 1) := by decide +kernel
theorem dX1_worthOf_71 : decode cX1_worthOf 71 = .ok (.iload 6, 2) := by decide +kernel
theorem dX1_worthOf_73 : decode cX1_worthOf 73 = .ok (.invokevirtual 93, 3) := by decide +kernel
theorem dX1_worthOf_76 : decode cX1_worthOf 76 = .ok (.goto 10, 3) := by decide +kernel
theorem dX1_worthOf_79 : decode cX1_worthOf 79 = .ok (.aload_n 0, 1) := by decide +kernel
theorem dX1_worthOf_80 : decode cX1_worthOf 80 = .ok (.getfield 28, 3) := by decide +kernel
theorem dX1_worthOf_83 : decode cX1_worthOf 83 = .ok (.iload 6, 2) := by decide +kernel
theorem dX1_worthOf_85 : decode cX1_worthOf 85 = .ok (.laload, 1) := by decide +kernel
theorem dX1_worthOf_86 : decode cX1_worthOf 86 = .ok (.lmul, 1) := by decide +kernel
theorem dX1_worthOf_87 : decode cX1_worthOf 87 = .ok (.ladd, 1) := by decide +kernel
theorem dX1_worthOf_88 : decode cX1_worthOf 88 = .ok (.lstore 4, 2) := by decide +kernel
theorem dX1_worthOf_90 : decode cX1_worthOf 90 = .ok (.iinc 6 1, 3) := by decide +kernel
theorem dX1_worthOf_93 : decode cX1_worthOf 93 = .ok (.goto (-62), 3) := by decide +kernel
theorem dX1_worthOf_96 : decode cX1_worthOf 96 = .ok (.lload 4, 2) := by decide +kernel
theorem dX1_worthOf_98 : decode cX1_worthOf 98 = .ok (.lreturn, 1) := by decide +kernel
set_option maxRecDepth 20000 in
theorem ggX1_weightOf_J6_bitCount_0f7a4 : GoodIn wsX1_weightOf wsJ6_bitCount_0f7a4 := goodIn_r _ [5, 6, 7, 8] (by decide +kernel) (by decide +kernel)
set_option maxRecDepth 20000 in
theorem gX1_weightOf_J6_bitCount_0f7a4 : GoodIn wsX1_weightOf (va_wsS RX1 97 yJ6_bitCount_0f7a4 wsJ6_bitCount_0f7a4) := goodIn_app (goodIn_of _ (by decide +kernel)) ggX1_weightOf_J6_bitCount_0f7a4
theorem dX1_weightOf_0 : decode cX1_weightOf 0 = .ok (.sipush 840, 3) := by decide +kernel
theorem dX1_weightOf_3 : decode cX1_weightOf 3 = .ok (.iconst 1, 1) := by decide +kernel
theorem dX1_weightOf_4 : decode cX1_weightOf 4 = .ok (.aload_n 1, 1) := by decide +kernel
theorem dX1_weightOf_5 : decode cX1_weightOf 5 = .ok (.getfield 87, 3) := by decide +kernel
theorem dX1_weightOf_8 : decode cX1_weightOf 8 = .ok (.iload_n 2, 1) := by decide +kernel
theorem dX1_weightOf_9 : decode cX1_weightOf 9 = .ok (.iaload, 1) := by decide +kernel
theorem dX1_weightOf_10 : decode cX1_weightOf 10 = .ok (.aload_n 0, 1) := by decide +kernel
theorem dX1_weightOf_11 : decode cX1_weightOf 11 = .ok (.getfield 45, 3) := by decide +kernel
theorem dX1_weightOf_14 : decode cX1_weightOf 14 = .ok (.iand, 1) := by decide +kernel
theorem dX1_weightOf_15 : decode cX1_weightOf 15 = .ok (.invokestatic 97, 3) := by decide +kernel
theorem dX1_weightOf_18 : decode cX1_weightOf 18 = .ok (.iadd, 1) := by decide +kernel
theorem dX1_weightOf_19 : decode cX1_weightOf 19 = .ok (.idiv, 1) := by decide +kernel
theorem dX1_weightOf_20 : decode cX1_weightOf 20 = .ok (.i2l, 1) := by decide +kernel
theorem dX1_weightOf_21 : decode cX1_weightOf 21 = .ok (.lreturn, 1) := by decide +kernel
theorem dX1_isAhead_0 : decode cX1_isAhead 0 = .ok (.aload_n 0, 1) := by decide +kernel
theorem dX1_isAhead_1 : decode cX1_isAhead 1 = .ok (.getfield 22, 3) := by decide +kernel
theorem dX1_isAhead_4 : decode cX1_isAhead 4 = .ok (.iload_n 2, 1) := by decide +kernel
theorem dX1_isAhead_5 : decode cX1_isAhead 5 = .ok (.iaload, 1) := by decide +kernel
theorem dX1_isAhead_6 : decode cX1_isAhead 6 = .ok (.ifCond .eq 12, 3) := by decide +kernel
theorem dX1_isAhead_9 : decode cX1_isAhead 9 = .ok (.aload_n 0, 1) := by decide +kernel
theorem dX1_isAhead_10 : decode cX1_isAhead 10 = .ok (.getfield 22, 3) := by decide +kernel
theorem dX1_isAhead_13 : decode cX1_isAhead 13 = .ok (.iload_n 3, 1) := by decide +kernel
theorem dX1_isAhead_14 : decode cX1_isAhead 14 = .ok (.iaload, 1) := by decide +kernel
theorem dX1_isAhead_15 : decode cX1_isAhead 15 = .ok (.ifCond .ne 24, 3) := by decide +kernel
theorem dX1_isAhead_18 : decode cX1_isAhead 18 = .ok (.aload_n 0, 1) := by decide +kernel
theorem dX1_isAhead_19 : decode cX1_isAhead 19 = .ok (.getfield 22, 3) := by decide +kernel
theorem dX1_isAhead_22 : decode cX1_isAhead 22 = .ok (.iload_n 2, 1) := by decide +kernel
theorem dX1_isAhead_23 : decode cX1_isAhead 23 = .ok (.iaload, 1) := by decide +kernel
theorem dX1_isAhead_24 : decode cX1_isAhead 24 = .ok (.aload_n 0, 1) := by decide +kernel
theorem dX1_isAhead_25 : decode cX1_isAhead 25 = .ok (.getfield 22, 3) := by decide +kernel
theorem dX1_isAhead_28 : decode cX1_isAhead 28 = .ok (.iload_n 3, 1) := by decide +kernel
theorem dX1_isAhead_29 : decode cX1_isAhead 29 = .ok (.iaload, 1) := by decide +kernel
theorem dX1_isAhead_30 : decode cX1_isAhead 30 = .ok (.if_icmp .le 7, 3) := by decide +kernel
theorem dX1_isAhead_33 : decode cX1_isAhead 33 = .ok (.iconst 1, 1) := by decide +kernel
theorem dX1_isAhead_34 : decode cX1_isAhead 34 = .ok (.goto 4, 3) := by decide +kernel
theorem dX1_isAhead_37 : decode cX1_isAhead 37 = .ok (.iconst 0, 1) := by decide +kernel
theorem dX1_isAhead_38 : decode cX1_isAhead 38 = .ok (.ireturn, 1) := by decide +kernel
theorem dX1_isAhead_39 : decode cX1_isAhead 39 = .ok (.iload_n 1, 1) := by decide +kernel
theorem dX1_isAhead_40 : decode cX1_isAhead 40 = .ok (.iconst 1, 1) := by decide +kernel
theorem dX1_isAhead_41 : decode cX1_isAhead 41 = .ok (.if_icmp .eq 8, 3) := by decide +kernel
theorem dX1_isAhead_44 : decode cX1_isAhead 44 = .ok (.iload_n 1, 1) := by decide +kernel
theorem dX1_isAhead_45 : decode cX1_isAhead 45 = .ok (.iconst 2, 1) := by decide +kernel
theorem dX1_isAhead_46 : decode cX1_isAhead 46 = .ok (.if_icmp .ne 25, 3) := by decide +kernel
theorem dX1_isAhead_49 : decode cX1_isAhead 49 = .ok (.aload_n 0, 1) := by decide +kernel
theorem dX1_isAhead_50 : decode cX1_isAhead 50 = .ok (.getfield 25, 3) := by decide +kernel
theorem dX1_isAhead_53 : decode cX1_isAhead 53 = .ok (.iload_n 2, 1) := by decide +kernel
theorem dX1_isAhead_54 : decode cX1_isAhead 54 = .ok (.laload, 1) := by decide +kernel
theorem dX1_isAhead_55 : decode cX1_isAhead 55 = .ok (.aload_n 0, 1) := by decide +kernel
theorem dX1_isAhead_56 : decode cX1_isAhead 56 = .ok (.getfield 25, 3) := by decide +kernel
theorem dX1_isAhead_59 : decode cX1_isAhead 59 = .ok (.iload_n 3, 1) := by decide +kernel
theorem dX1_isAhead_60 : decode cX1_isAhead 60 = .ok (.laload, 1) := by decide +kernel
theorem dX1_isAhead_61 : decode cX1_isAhead 61 = .ok (.lcmp, 1) := by decide +kernel
theorem dX1_isAhead_62 : decode cX1_isAhead 62 = .ok (.ifCond .le 7, 3) := by decide +kernel
theorem dX1_isAhead_65 : decode cX1_isAhead 65 = .ok (.iconst 1, 1) := by decide +kernel
theorem dX1_isAhead_66 : decode cX1_isAhead 66 = .ok (.goto 4, 3) := by decide +kernel
theorem dX1_isAhead_69 : decode cX1_isAhead 69 = .ok (.iconst 0, 1) := by decide +kernel
theorem dX1_isAhead_70 : decode cX1_isAhead 70 = .ok (.ireturn, 1) := by decide +kernel
theorem dX1_isAhead_71 : decode cX1_isAhead 71 = .ok (.aload_n 0, 1) := by decide +kernel
theorem dX1_isAhead_72 : decode cX1_isAhead 72 = .ok (.getfield 25, 3) := by decide +kernel
theorem dX1_isAhead_75 : decode cX1_isAhead 75 = .ok (.iload_n 2, 1) := by decide +kernel
theorem dX1_isAhead_76 : decode cX1_isAhead 76 = .ok (.laload, 1) := by decide +kernel
theorem dX1_isAhead_77 : decode cX1_isAhead 77 = .ok (.aload_n 0, 1) := by decide +kernel
theorem dX1_isAhead_78 : decode cX1_isAhead 78 = .ok (.getfield 22, 3) := by decide +kernel
theorem dX1_isAhead_81 : decode cX1_isAhead 81 = .ok (.iload_n 3, 1) := by decide +kernel
theorem dX1_isAhead_82 : decode cX1_isAhead 82 = .ok (.iaload, 1) := by decide +kernel
theorem dX1_isAhead_83 : decode cX1_isAhead 83 = .ok (.i2l, 1) := by decide +kernel
theorem dX1_isAhead_84 : decode cX1_isAhead 84 = .ok (.lmul, 1) := by decide +kernel
theorem dX1_isAhead_85 : decode cX1_isAhead 85 = .ok (.aload_n 0, 1) := by decide +kernel
theorem dX1_isAhead_86 : decode cX1_isAhead 86 = .ok (.getfield 25, 3) := by decide +kernel
theorem dX1_isAhead_89 : decode cX1_isAhead 89 = .ok (.iload_n 3, 1) := by decide +kernel
theorem dX1_isAhead_90 : decode cX1_isAhead 90 = .ok (.laload, 1) := by decide +kernel
theorem dX1_isAhead_91 : decode cX1_isAhead 91 = .ok (.aload_n 0, 1) := by decide +kernel
theorem dX1_isAhead_92 : decode cX1_isAhead 92 = .ok (.getfield 22, 3) := by decide +kernel
theorem dX1_isAhead_95 : decode cX1_isAhead 95 = .ok (.iload_n 2, 1) := by decide +kernel
theorem dX1_isAhead_96 : decode cX1_isAhead 96 = .ok (.iaload, 1) := by decide +kernel
theorem dX1_isAhead_97 : decode cX1_isAhead 97 = .ok (.i2l, 1) := by decide +kernel
theorem dX1_isAhead_98 : decode cX1_isAhead 98 = .ok (.lmul, 1) := by decide +kernel
theorem dX1_isAhead_99 : decode cX1_isAhead 99 = .ok (.lcmp, 1) := by decide +kernel
theorem dX1_isAhead_100 : decode cX1_isAhead 100 = .ok (.ifCond .ge 7, 3) := by decide +kernel
theorem dX1_isAhead_103 : decode cX1_isAhead 103 = .ok (.iconst 1, 1) := by decide +kernel
theorem dX1_isAhead_104 : decode cX1_isAhead 104 = .ok (.goto 4, 3) := by decide +kernel
theorem dX1_isAhead_107 : decode cX1_isAhead 107 = .ok (.iconst 0, 1) := by decide +kernel
theorem dX1_isAhead_108 : decode cX1_isAhead 108 = .ok (.ireturn, 1) := by decide +kernel
set_option maxRecDepth 20000 in
theorem ggX1_elect_X1_spreadLoad : GoodIn wsX1_elect wsX1_spreadLoad := goodIn_r _ [14, 15, 4, 5, 8, 16, 17, 18, 28, 29, 30, 31, 32, 33, 34, 19, 20, 21, 22, 23, 24, 25, 26, 27] (by decide +kernel) (by decide +kernel)
set_option maxRecDepth 20000 in
theorem gX1_elect_X1_spreadLoad : GoodIn wsX1_elect (wsV RX1 104 RX1 yX1_spreadLoad wsX1_spreadLoad) := goodIn_app (goodIn_of _ (by decide +kernel)) ggX1_elect_X1_spreadLoad
theorem dX1_elect_0 : decode cX1_elect 0 = .ok (.aload_n 0, 1) := by decide +kernel
theorem dX1_elect_1 : decode cX1_elect 1 = .ok (.getfield 52, 3) := by decide +kernel
theorem dX1_elect_4 : decode cX1_elect 4 = .ok (.bipush 8, 2) := by decide +kernel
theorem dX1_elect_6 : decode cX1_elect 6 = .ok (.if_icmp .lt 4, 3) := by decide +kernel
theorem dX1_elect_9 : decode cX1_elect 9 = .ok (.return_, 1) := by decide +kernel
theorem dX1_elect_10 : decode cX1_elect 10 = .ok (.aload_n 0, 1) := by decide +kernel
theorem dX1_elect_11 : decode cX1_elect 11 = .ok (.getfield 9, 3) := by decide +kernel
theorem dX1_elect_14 : decode cX1_elect 14 = .ok (.aload_n 0, 1) := by decide +kernel
theorem dX1_elect_15 : decode cX1_elect 15 = .ok (.getfield 52, 3) := by decide +kernel
theorem dX1_elect_18 : decode cX1_elect 18 = .ok (.iload_n 3, 1) := by decide +kernel
theorem dX1_elect_19 : decode cX1_elect 19 = .ok (.iastore, 1) := by decide +kernel
theorem dX1_elect_20 : decode cX1_elect 20 = .ok (.aload_n 0, 1) := by decide +kernel
theorem dX1_elect_21 : decode cX1_elect 21 = .ok (.getfield 15, 3) := by decide +kernel
theorem dX1_elect_24 : decode cX1_elect 24 = .ok (.aload_n 0, 1) := by decide +kernel
theorem dX1_elect_25 : decode cX1_elect 25 = .ok (.getfield 52, 3) := by decide +kernel
theorem dX1_elect_28 : decode cX1_elect 28 = .ok (.aload_n 0, 1) := by decide +kernel
theorem dX1_elect_29 : decode cX1_elect 29 = .ok (.getfield 25, 3) := by decide +kernel
theorem dX1_elect_32 : decode cX1_elect 32 = .ok (.iload_n 3, 1) := by decide +kernel
theorem dX1_elect_33 : decode cX1_elect 33 = .ok (.laload, 1) := by decide +kernel
theorem dX1_elect_34 : decode cX1_elect 34 = .ok (.lastore, 1) := by decide +kernel
theorem dX1_elect_35 : decode cX1_elect 35 = .ok (.aload_n 0, 1) := by decide +kernel
theorem dX1_elect_36 : decode cX1_elect 36 = .ok (.getfield 22, 3) := by decide +kernel
theorem dX1_elect_39 : decode cX1_elect 39 = .ok (.iload_n 3, 1) := by decide +kernel
theorem dX1_elect_40 : decode cX1_elect 40 = .ok (.iaload, 1) := by decide +kernel
theorem dX1_elect_41 : decode cX1_elect 41 = .ok (.ifCond .ne 16, 3) := by decide +kernel
theorem dX1_elect_44 : decode cX1_elect 44 = .ok (.aload_n 0, 1) := by decide +kernel
theorem dX1_elect_45 : decode cX1_elect 45 = .ok (.getfield 19, 3) := by decide +kernel
theorem dX1_elect_48 : decode cX1_elect 48 = .ok (.aload_n 0, 1) := by decide +kernel
theorem dX1_elect_49 : decode cX1_elect 49 = .ok (.getfield 52, 3) := by decide +kernel
theorem dX1_elect_52 : decode cX1_elect 52 = .ok (.lconst 0, 1) := by decide +kernel
theorem dX1_elect_53 : decode cX1_elect 53 = .ok (.lastore, 1) := by decide +kernel
theorem dX1_elect_54 : decode cX1_elect 54 = .ok (.goto 60, 3) := by decide +kernel
theorem dX1_elect_57 : decode cX1_elect 57 = .ok (.iload_n 2, 1) := by decide +kernel
theorem dX1_elect_58 : decode cX1_elect 58 = .ok (.iconst 1, 1) := by decide +kernel
theorem dX1_elect_59 : decode cX1_elect 59 = .ok (.if_icmp .ne 16, 3) := by decide +kernel
theorem dX1_elect_62 : decode cX1_elect 62 = .ok (.aload_n 0, 1) := by decide +kernel
theorem dX1_elect_63 : decode cX1_elect 63 = .ok (.getfield 19, 3) := by decide +kernel
theorem dX1_elect_66 : decode cX1_elect 66 = .ok (.aload_n 0, 1) := by decide +kernel
theorem dX1_elect_67 : decode cX1_elect 67 = .ok (.getfield 52, 3) := by decide +kernel
theorem dX1_elect_70 : decode cX1_elect 70 = .ok (.lconst 1, 1) := by decide +kernel
theorem dX1_elect_71 : decode cX1_elect 71 = .ok (.lastore, 1) := by decide +kernel
theorem dX1_elect_72 : decode cX1_elect 72 = .ok (.goto 42, 3) := by decide +kernel
theorem dX1_elect_75 : decode cX1_elect 75 = .ok (.iload_n 2, 1) := by decide +kernel
theorem dX1_elect_76 : decode cX1_elect 76 = .ok (.iconst 2, 1) := by decide +kernel
theorem dX1_elect_77 : decode cX1_elect 77 = .ok (.if_icmp .ne 18, 3) := by decide +kernel
theorem dX1_elect_80 : decode cX1_elect 80 = .ok (.aload_n 0, 1) := by decide +kernel
theorem dX1_elect_81 : decode cX1_elect 81 = .ok (.getfield 19, 3) := by decide +kernel
theorem dX1_elect_84 : decode cX1_elect 84 = .ok (.aload_n 0, 1) := by decide +kernel
theorem dX1_elect_85 : decode cX1_elect 85 = .ok (.getfield 52, 3) := by decide +kernel
theorem dX1_elect_88 : decode cX1_elect 88 = .ok (.ldc2_w 102, 3) := by decide +kernel
theorem dX1_elect_91 : decode cX1_elect 91 = .ok (.lastore, 1) := by decide +kernel
theorem dX1_elect_92 : decode cX1_elect 92 = .ok (.goto 22, 3) := by decide +kernel
theorem dX1_elect_95 : decode cX1_elect 95 = .ok (.aload_n 0, 1) := by decide +kernel
theorem dX1_elect_96 : decode cX1_elect 96 = .ok (.aload_n 1, 1) := by decide +kernel
theorem dX1_elect_97 : decode cX1_elect 97 = .ok (.iload_n 3, 1) := by decide +kernel
theorem dX1_elect_98 : decode cX1_elect 98 = .ok (.invokevirtual 104, 3) := by decide +kernel
theorem dX1_elect_101 : decode cX1_elect 101 = .ok (.aload_n 0, 1) := by decide +kernel
theorem dX1_elect_102 : decode cX1_elect 102 = .ok (.getfield 19, 3) := by decide +kernel
theorem dX1_elect_105 : decode cX1_elect 105 = .ok (.aload_n 0, 1) := by decide +kernel
theorem dX1_elect_106 : decode cX1_elect 106 = .ok (.getfield 52, 3) := by decide +kernel
theorem dX1_elect_109 : decode cX1_elect 109 = .ok (.aload_n 0, 1) := by decide +kernel
theorem dX1_elect_110 : decode cX1_elect 110 = .ok (.getfield 55, 3) := by decide +kernel
theorem dX1_elect_113 : decode cX1_elect 113 = .ok (.lastore, 1) := by decide +kernel
theorem dX1_elect_114 : decode cX1_elect 114 = .ok (.aload_n 0, 1) := by decide +kernel
theorem dX1_elect_115 : decode cX1_elect 115 = .ok (.dup, 1) := by decide +kernel
theorem dX1_elect_116 : decode cX1_elect 116 = .ok (.getfield 52, 3) := by decide +kernel
theorem dX1_elect_119 : decode cX1_elect 119 = .ok (.iconst 1, 1) := by decide +kernel
theorem dX1_elect_120 : decode cX1_elect 120 = .ok (.iadd, 1) := by decide +kernel
theorem dX1_elect_121 : decode cX1_elect 121 = .ok (.putfield 52, 3) := by decide +kernel
theorem dX1_elect_124 : decode cX1_elect 124 = .ok (.aload_n 0, 1) := by decide +kernel
theorem dX1_elect_125 : decode cX1_elect 125 = .ok (.dup, 1) := by decide +kernel
theorem dX1_elect_126 : decode cX1_elect 126 = .ok (.getfield 45, 3) := by decide +kernel
theorem dX1_elect_129 : decode cX1_elect 129 = .ok (.iconst 1, 1) := by decide +kernel
theorem dX1_elect_130 : decode cX1_elect 130 = .ok (.iload_n 3, 1) := by decide +kernel
theorem dX1_elect_131 : decode cX1_elect 131 = .ok (.ishl, 1) := by decide +kernel
theorem dX1_elect_132 : decode cX1_elect 132 = .ok (.ior, 1) := by decide +kernel
theorem dX1_elect_133 : decode cX1_elect 133 = .ok (.putfield 45, 3) := by decide +kernel
theorem dX1_elect_136 : decode cX1_elect 136 = .ok (.return_, 1) := by decide +kernel
set_option maxRecDepth 20000 in
theorem ggX1_spreadLoad_X4_hasBit : GoodIn wsX1_spreadLoad wsX4_hasBit := goodIn_r _ [7] (by decide +kernel) (by decide +kernel)
set_option maxRecDepth 20000 in
theorem gX1_spreadLoad_X4_hasBit_n72 : GoodIn wsX1_spreadLoad (wsX4_hasBit) := ggX1_spreadLoad_X4_hasBit
theorem dX1_spreadLoad_0 : decode cX1_spreadLoad 0 = .ok (.iconst 0, 1) := by decide +kernel
theorem dX1_spreadLoad_1 : decode cX1_spreadLoad 1 = .ok (.istore_n 3, 1) := by decide +kernel
theorem dX1_spreadLoad_2 : decode cX1_spreadLoad 2 = .ok (.iload_n 3, 1) := by decide +kernel
theorem dX1_spreadLoad_3 : decode cX1_spreadLoad 3 = .ok (.aload_n 1, 1) := by decide +kernel
theorem dX1_spreadLoad_4 : decode cX1_spreadLoad 4 = .ok (.getfield 84, 3) := by decide +kernel
theorem dX1_spreadLoad_7 : decode cX1_spreadLoad 7 = .ok (.if_icmp .ge 51, 3) := by decide +kernel
theorem dX1_spreadLoad_10 : decode cX1_spreadLoad 10 = .ok (.aload_n 0, 1) := by decide +kernel
theorem dX1_spreadLoad_11 : decode cX1_spreadLoad 11 = .ok (.getfield 28, 3) := by decide +kernel
theorem dX1_spreadLoad_14 : decode cX1_spreadLoad 14 = .ok (.iload_n 3, 1) := by decide +kernel
theorem dX1_spreadLoad_15 : decode cX1_spreadLoad 15 = .ok (.aload_n 1, 1) := by decide +kernel
theorem dX1_spreadLoad_16 : decode cX1_spreadLoad 16 = .ok (.getfield 87, 3) := by decide +kernel
theorem dX1_spreadLoad_19 : decode cX1_spreadLoad 19 = .ok (.iload_n 3, 1) := by decide +kernel
theorem dX1_spreadLoad_20 : decode cX1_spreadLoad 20 = .ok (.iaload, 1) := by decide +kernel
theorem dX1_spreadLoad_21 : decode cX1_spreadLoad 21 = .ok (.iload_n 2, 1) := by decide +kernel
theorem dX1_spreadLoad_22 : decode cX1_spreadLoad 22 = .ok (.invokestatic 72, 3) := by decide +kernel
theorem dX1_spreadLoad_25 : decode cX1_spreadLoad 25 = .ok (.ifCond .eq 12, 3) := by decide +kernel
theorem dX1_spreadLoad_28 : decode cX1_spreadLoad 28 = .ok (.aload_n 0, 1) := by decide +kernel
theorem dX1_spreadLoad_29 : decode cX1_spreadLoad 29 = .ok (.getfield 25, 3) := by decide +kernel
theorem dX1_spreadLoad_32 : decode cX1_spreadLoad 32 = .ok (.iload_n 2, 1) := by decide +kernel
theorem dX1_spreadLoad_33 : decode cX1_spreadLoad 33 = .ok (.laload, 1) := by decide +kernel
theorem dX1_spreadLoad_34 : decode cX1_spreadLoad 34 = .ok (.goto 17, 3) := by decide +kernel
theorem dX1_spreadLoad_37 : decode cX1_spreadLoad 37 = .ok (.aload_n 0, 1) := by decide +kernel
theorem dX1_spreadLoad_38 : decode cX1_spreadLoad 38 = .ok (.getfield 28, 3) := by decide +kernel
theorem dX1_spreadLoad_41 : decode cX1_spreadLoad 41 = .ok (.iload_n 3, 1) := by decide +kernel
theorem dX1_spreadLoad_42 : decode cX1_spreadLoad 42 = .ok (.laload, 1) := by decide +kernel
theorem dX1_spreadLoad_43 : decode cX1_spreadLoad 43 = .ok (.aload_n 0, 1) := by decide +kernel
theorem dX1_spreadLoad_44 : decode cX1_spreadLoad 44 = .ok (.getfield 22, 3) := by decide +kernel
theorem dX1_spreadLoad_47 : decode cX1_spreadLoad 47 = .ok (.iload_n 2, 1) := by decide +kernel
theorem dX1_spreadLoad_48 : decode cX1_spreadLoad 48 = .ok (.iaload, 1) := by decide +kernel
theorem dX1_spreadLoad_49 : decode cX1_spreadLoad 49 = .ok (.i2l, 1) := by decide +kernel
theorem dX1_spreadLoad_50 : decode cX1_spreadLoad 50 = .ok (.lmul, 1) := by decide +kernel
theorem dX1_spreadLoad_51 : decode cX1_spreadLoad 51 = .ok (.lastore, 1) := by decide +kernel
theorem dX1_spreadLoad_52 : decode cX1_spreadLoad 52 = .ok (.iinc 3 1, 3) := by decide +kernel
theorem dX1_spreadLoad_55 : decode cX1_spreadLoad 55 = .ok (.goto (-53), 3) := by decide +kernel
theorem dX1_spreadLoad_58 : decode cX1_spreadLoad 58 = .ok (.aload_n 0, 1) := by decide +kernel
theorem dX1_spreadLoad_59 : decode cX1_spreadLoad 59 = .ok (.dup, 1) := by decide +kernel
theorem dX1_spreadLoad_60 : decode cX1_spreadLoad 60 = .ok (.getfield 55, 3) := by decide +kernel
theorem dX1_spreadLoad_63 : decode cX1_spreadLoad 63 = .ok (.aload_n 0, 1) := by decide +kernel
theorem dX1_spreadLoad_64 : decode cX1_spreadLoad 64 = .ok (.getfield 22, 3) := by decide +kernel
theorem dX1_spreadLoad_67 : decode cX1_spreadLoad 67 = .ok (.iload_n 2, 1) := by decide +kernel
theorem dX1_spreadLoad_68 : decode cX1_spreadLoad 68 = .ok (.iaload, 1) := by decide +kernel
theorem dX1_spreadLoad_69 : decode cX1_spreadLoad 69 = .ok (.i2l, 1) := by decide +kernel
theorem dX1_spreadLoad_70 : decode cX1_spreadLoad 70 = .ok (.lmul, 1) := by decide +kernel
theorem dX1_spreadLoad_71 : decode cX1_spreadLoad 71 = .ok (.putfield 55, 3) := by decide +kernel
theorem dX1_spreadLoad_74 : decode cX1_spreadLoad 74 = .ok (.return_, 1) := by decide +kernel
set_option maxRecDepth 20000 in
theorem ggX2_init_X0_init : GoodIn wsX2_init wsX0_init := goodIn_r _ [9, 10, 2, 3, 11, 12, 13, 14, 18, 19, 20, 21, 22, 23, 24] (by decide +kernel) (by decide +kernel)
set_option maxRecDepth 20000 in
theorem gX2_init_X0_init_n17 : GoodIn wsX2_init (wsX0_init) := ggX2_init_X0_init
theorem dX2_init_0 : decode cX2_init 0 = .ok (.aload_n 0, 1) := by decide +kernel
theorem dX2_init_1 : decode cX2_init 1 = .ok (.invokespecial 3, 3) := by decide +kernel
theorem dX2_init_4 : decode cX2_init 4 = .ok (.aload_n 0, 1) := by decide +kernel
theorem dX2_init_5 : decode cX2_init 5 = .ok (.bipush 6, 2) := by decide +kernel
theorem dX2_init_7 : decode cX2_init 7 = .ok (.anewarray 9, 3) := by decide +kernel
theorem dX2_init_10 : decode cX2_init 10 = .ok (.putfield 11, 3) := by decide +kernel
theorem dX2_init_13 : decode cX2_init 13 = .ok (.iconst 0, 1) := by decide +kernel
theorem dX2_init_14 : decode cX2_init 14 = .ok (.istore_n 1, 1) := by decide +kernel
theorem dX2_init_15 : decode cX2_init 15 = .ok (.iload_n 1, 1) := by decide +kernel
theorem dX2_init_16 : decode cX2_init 16 = .ok (.bipush 6, 2) := by decide +kernel
theorem dX2_init_18 : decode cX2_init 18 = .ok (.if_icmp .ge 22, 3) := by decide +kernel
theorem dX2_init_21 : decode cX2_init 21 = .ok (.aload_n 0, 1) := by decide +kernel
theorem dX2_init_22 : decode cX2_init 22 = .ok (.getfield 11, 3) := by decide +kernel
theorem dX2_init_25 : decode cX2_init 25 = .ok (.iload_n 1, 1) := by decide +kernel
theorem dX2_init_26 : decode cX2_init 26 = .ok (.new 9, 3) := by decide +kernel
theorem dX2_init_29 : decode cX2_init 29 = .ok (.dup, 1) := by decide +kernel
theorem dX2_init_30 : decode cX2_init 30 = .ok (.invokespecial 17, 3) := by decide +kernel
theorem dX2_init_33 : decode cX2_init 33 = .ok (.aastore, 1) := by decide +kernel
theorem dX2_init_34 : decode cX2_init 34 = .ok (.iinc 1 1, 3) := by decide +kernel
theorem dX2_init_37 : decode cX2_init 37 = .ok (.goto (-22), 3) := by decide +kernel
theorem dX2_init_40 : decode cX2_init 40 = .ok (.return_, 1) := by decide +kernel
theorem dX2_forget_0 : decode cX2_forget 0 = .ok (.aload_n 0, 1) := by decide +kernel
theorem dX2_forget_1 : decode cX2_forget 1 = .ok (.iconst 0, 1) := by decide +kernel
theorem dX2_forget_2 : decode cX2_forget 2 = .ok (.putfield 18, 3) := by decide +kernel
theorem dX2_forget_5 : decode cX2_forget 5 = .ok (.return_, 1) := by decide +kernel
set_option maxRecDepth 20000 in
theorem ggX2_keep_X0_copyFrom : GoodIn wsX2_keep wsX0_copyFrom := goodIn_r _ [11, 12, 13, 14, 15, 16, 17, 18, 19, 20, 21, 22, 26, 27, 28, 29, 30, 31, 32] (by decide +kernel) (by decide +kernel)
set_option maxRecDepth 20000 in
theorem gX2_keep_X0_copyFrom_n25 : GoodIn wsX2_keep (wsX0_copyFrom) := ggX2_keep_X0_copyFrom
theorem dX2_keep_0 : decode cX2_keep 0 = .ok (.aload_n 0, 1) := by decide +kernel
theorem dX2_keep_1 : decode cX2_keep 1 = .ok (.getfield 11, 3) := by decide +kernel
theorem dX2_keep_4 : decode cX2_keep 4 = .ok (.aload_n 0, 1) := by decide +kernel
theorem dX2_keep_5 : decode cX2_keep 5 = .ok (.getfield 22, 3) := by decide +kernel
theorem dX2_keep_8 : decode cX2_keep 8 = .ok (.aaload, 1) := by decide +kernel
theorem dX2_keep_9 : decode cX2_keep 9 = .ok (.aload_n 1, 1) := by decide +kernel
theorem dX2_keep_10 : decode cX2_keep 10 = .ok (.invokevirtual 25, 3) := by decide +kernel
theorem dX2_keep_13 : decode cX2_keep 13 = .ok (.aload_n 0, 1) := by decide +kernel
theorem dX2_keep_14 : decode cX2_keep 14 = .ok (.aload_n 0, 1) := by decide +kernel
theorem dX2_keep_15 : decode cX2_keep 15 = .ok (.getfield 22, 3) := by decide +kernel
theorem dX2_keep_18 : decode cX2_keep 18 = .ok (.iconst 1, 1) := by decide +kernel
theorem dX2_keep_19 : decode cX2_keep 19 = .ok (.iadd, 1) := by decide +kernel
theorem dX2_keep_20 : decode cX2_keep 20 = .ok (.bipush 6, 2) := by decide +kernel
theorem dX2_keep_22 : decode cX2_keep 22 = .ok (.irem, 1) := by decide +kernel
theorem dX2_keep_23 : decode cX2_keep 23 = .ok (.putfield 22, 3) := by decide +kernel
theorem dX2_keep_26 : decode cX2_keep 26 = .ok (.aload_n 0, 1) := by decide +kernel
theorem dX2_keep_27 : decode cX2_keep 27 = .ok (.aload_n 0, 1) := by decide +kernel
theorem dX2_keep_28 : decode cX2_keep 28 = .ok (.getfield 18, 3) := by decide +kernel
theorem dX2_keep_31 : decode cX2_keep 31 = .ok (.iconst 1, 1) := by decide +kernel
theorem dX2_keep_32 : decode cX2_keep 32 = .ok (.iadd, 1) := by decide +kernel
theorem dX2_keep_33 : decode cX2_keep 33 = .ok (.bipush 6, 2) := by decide +kernel
theorem dX2_keep_35 : decode cX2_keep 35 = .ok (.invokestatic 29, 3) := by decide +kernel
theorem dX2_keep_38 : decode cX2_keep 38 = .ok (.putfield 18, 3) := by decide +kernel
theorem dX2_keep_41 : decode cX2_keep 41 = .ok (.return_, 1) := by decide +kernel
set_option maxRecDepth 20000 in
theorem ggX2_bringBack_X0_copyFrom : GoodIn wsX2_bringBack wsX0_copyFrom := goodIn_r _ [7, 8, 9, 10, 11, 12, 13, 14, 15, 16, 17, 18, 22, 23, 24, 25, 26, 27, 28] (by decide +kernel) (by decide +kernel)
set_option maxRecDepth 20000 in
theorem gX2_bringBack_X0_copyFrom_n25 : GoodIn wsX2_bringBack (wsX0_copyFrom) := ggX2_bringBack_X0_copyFrom
theorem dX2_bringBack_0 : decode cX2_bringBack 0 = .ok (.aload_n 0, 1) := by decide +kernel
theorem dX2_bringBack_1 : decode cX2_bringBack 1 = .ok (.aload_n 0, 1) := by decide +kernel
theorem dX2_bringBack_2 : decode cX2_bringBack 2 = .ok (.getfield 22, 3) := by decide +kernel
theorem dX2_bringBack_5 : decode cX2_bringBack 5 = .ok (.bipush 6, 2) := by decide +kernel
theorem dX2_bringBack_7 : decode cX2_bringBack 7 = .ok (.iadd, 1) := by decide +kernel
theorem dX2_bringBack_8 : decode cX2_bringBack 8 = .ok (.iconst 1, 1) := by decide +kernel
theorem dX2_bringBack_9 : decode cX2_bringBack 9 = .ok (.isub, 1) := by decide +kernel
theorem dX2_bringBack_10 : decode cX2_bringBack 10 = .ok (.bipush 6, 2) := by decide +kernel
theorem dX2_bringBack_12 : decode cX2_bringBack 12 = .ok (.irem, 1) := by decide +kernel
theorem dX2_bringBack_13 : decode cX2_bringBack 13 = .ok (.putfield 22, 3) := by decide +kernel
theorem dX2_bringBack_16 : decode cX2_bringBack 16 = .ok (.aload_n 0, 1) := by decide +kernel
theorem dX2_bringBack_17 : decode cX2_bringBack 17 = .ok (.dup, 1) := by decide +kernel
theorem dX2_bringBack_18 : decode cX2_bringBack 18 = .ok (.getfield 18, 3) := by decide +kernel
theorem dX2_bringBack_21 : decode cX2_bringBack 21 = .ok (.iconst 1, 1) := by decide +kernel
theorem dX2_bringBack_22 : decode cX2_bringBack 22 = .ok (.isub, 1) := by decide +kernel
theorem dX2_bringBack_23 : decode cX2_bringBack 23 = .ok (.putfield 18, 3) := by decide +kernel
theorem dX2_bringBack_26 : decode cX2_bringBack 26 = .ok (.aload_n 1, 1) := by decide +kernel
theorem dX2_bringBack_27 : decode cX2_bringBack 27 = .ok (.aload_n 0, 1) := by decide +kernel
theorem dX2_bringBack_28 : decode cX2_bringBack 28 = .ok (.getfield 11, 3) := by decide +kernel
theorem dX2_bringBack_31 : decode cX2_bringBack 31 = .ok (.aload_n 0, 1) := by decide +kernel
theorem dX2_bringBack_32 : decode cX2_bringBack 32 = .ok (.getfield 22, 3) := by decide +kernel
theorem dX2_bringBack_35 : decode cX2_bringBack 35 = .ok (.aaload, 1) := by decide +kernel
theorem dX2_bringBack_36 : decode cX2_bringBack 36 = .ok (.invokevirtual 25, 3) := by decide +kernel
theorem dX2_bringBack_39 : decode cX2_bringBack 39 = .ok (.return_, 1) := by decide +kernel
theorem dX3_init_0 : decode cX3_init 0 = .ok (.aload_n 0, 1) := by decide +kernel
theorem dX3_init_1 : decode cX3_init 1 = .ok (.invokespecial 3, 3) := by decide +kernel
theorem dX3_init_4 : decode cX3_init 4 = .ok (.aload_n 0, 1) := by decide +kernel
theorem dX3_init_5 : decode cX3_init 5 = .ok (.sipush 200, 3) := by decide +kernel
theorem dX3_init_8 : decode cX3_init 8 = .ok (.newarray .int, 2) := by decide +kernel
theorem dX3_init_10 : decode cX3_init 10 = .ok (.putfield 9, 3) := by decide +kernel
theorem dX3_init_13 : decode cX3_init 13 = .ok (.return_, 1) := by decide +kernel
theorem dX3_add_0 : decode cX3_add 0 = .ok (.aload_n 0, 1) := by decide +kernel
theorem dX3_add_1 : decode cX3_add 1 = .ok (.getfield 15, 3) := by decide +kernel
theorem dX3_add_4 : decode cX3_add 4 = .ok (.sipush 200, 3) := by decide +kernel
theorem dX3_add_7 : decode cX3_add 7 = .ok (.if_icmp .lt 5, 3) := by decide +kernel
theorem dX3_add_10 : decode cX3_add 10 = .ok (.iconst 0, 1) := by decide +kernel
theorem dX3_add_11 : decode cX3_add 11 = .ok (.ireturn, 1) := by decide +kernel
theorem dX3_add_12 : decode cX3_add 12 = .ok (.aload_n 0, 1) := by decide +kernel
theorem dX3_add_13 : decode cX3_add 13 = .ok (.getfield 9, 3) := by decide +kernel
theorem dX3_add_16 : decode cX3_add 16 = .ok (.aload_n 0, 1) := by decide +kernel
theorem dX3_add_17 : decode cX3_add 17 = .ok (.getfield 15, 3) := by decide +kernel
theorem dX3_add_20 : decode cX3_add 20 = .ok (.iload_n 1, 1) := by decide +kernel
theorem dX3_add_21 : decode cX3_add 21 = .ok (.iastore, 1) := by decide +kernel
theorem dX3_add_22 : decode cX3_add 22 = .ok (.aload_n 0, 1) := by decide +kernel
theorem dX3_add_23 : decode cX3_add 23 = .ok (.dup, 1) := by decide +kernel
theorem dX3_add_24 : decode cX3_add 24 = .ok (.getfield 15, 3) := by decide +kernel
theorem dX3_add_27 : decode cX3_add 27 = .ok (.iconst 1, 1) := by decide +kernel
theorem dX3_add_28 : decode cX3_add 28 = .ok (.iadd, 1) := by decide +kernel
theorem dX3_add_29 : decode cX3_add 29 = .ok (.putfield 15, 3) := by decide +kernel
theorem dX3_add_32 : decode cX3_add 32 = .ok (.iconst 1, 1) := by decide +kernel
theorem dX3_add_33 : decode cX3_add 33 = .ok (.ireturn, 1) := by decide +kernel
theorem dX3_clear_0 : decode cX3_clear 0 = .ok (.aload_n 0, 1) := by decide +kernel
theorem dX3_clear_1 : decode cX3_clear 1 = .ok (.iconst 0, 1) := by decide +kernel
theorem dX3_clear_2 : decode cX3_clear 2 = .ok (.putfield 15, 3) := by decide +kernel
theorem dX3_clear_5 : decode cX3_clear 5 = .ok (.return_, 1) := by decide +kernel
set_option maxRecDepth 20000 in
theorem ggX3_readInto_X0_beginWith : GoodIn wsX3_readInto wsX0_beginWith := goodIn_r _ [6, 7, 8, 9, 10, 11, 64, 65, 66, 67, 68, 69, 70] (by decide +kernel) (by decide +kernel)
set_option maxRecDepth 20000 in
theorem gX3_readInto_X0_beginWith_n19 : GoodIn wsX3_readInto (wsX0_beginWith) := ggX3_readInto_X0_beginWith
set_option maxRecDepth 20000 in
theorem ggX3_readInto_X3_readItem : GoodIn wsX3_readInto wsX3_readItem := goodIn_r _ [16, 2, 17, 18, 19, 15, 20, 21, 22, 23, 24, 3, 4, 5, 6, 7, 8, 9, 10, 11, 25, 26, 27, 28, 29, 30, 31, 32, 33, 34, 35, 36, 37, 38, 39, 40, 41, 42, 43, 44, 45, 46, 47, 48, 49, 50, 51, 52, 53, 54, 55, 56, 57, 58, 59, 60, 61, 62, 63, 64, 65, 66, 67, 68, 69, 70] (by decide +kernel) (by decide +kernel)
set_option maxRecDepth 20000 in
theorem gX3_readInto_X3_readItem : GoodIn wsX3_readInto (wsV RX3 25 RX3 yX3_readItem wsX3_readItem) := goodIn_app (goodIn_of _ (by decide +kernel)) ggX3_readInto_X3_readItem
theorem dX3_readInto_0 : decode cX3_readInto 0 = .ok (.aload_n 1, 1) := by decide +kernel
theorem dX3_readInto_1 : decode cX3_readInto 1 = .ok (.iconst 0, 1) := by decide +kernel
theorem dX3_readInto_2 : decode cX3_readInto 2 = .ok (.invokevirtual 19, 3) := by decide +kernel
theorem dX3_readInto_5 : decode cX3_readInto 5 = .ok (.iconst 0, 1) := by decide +kernel
theorem dX3_readInto_6 : decode cX3_readInto 6 = .ok (.istore_n 2, 1) := by decide +kernel
theorem dX3_readInto_7 : decode cX3_readInto 7 = .ok (.iconst 0, 1) := by decide +kernel
theorem dX3_readInto_8 : decode cX3_readInto 8 = .ok (.istore_n 3, 1) := by decide +kernel
theorem dX3_readInto_9 : decode cX3_readInto 9 = .ok (.iload_n 3, 1) := by decide +kernel
theorem dX3_readInto_10 : decode cX3_readInto 10 = .ok (.aload_n 0, 1) := by decide +kernel
theorem dX3_readInto_11 : decode cX3_readInto 11 = .ok (.getfield 15, 3) := by decide +kernel
theorem dX3_readInto_14 : decode cX3_readInto 14 = .ok (.if_icmp .ge 36, 3) := by decide +kernel
theorem dX3_readInto_17 : decode cX3_readInto 17 = .ok (.aload_n 0, 1) := by decide +kernel
theorem dX3_readInto_18 : decode cX3_readInto 18 = .ok (.getfield 9, 3) := by decide +kernel
theorem dX3_readInto_21 : decode cX3_readInto 21 = .ok (.iload_n 3, 1) := by decide +kernel
theorem dX3_readInto_22 : decode cX3_readInto 22 = .ok (.iaload, 1) := by decide +kernel
theorem dX3_readInto_23 : decode cX3_readInto 23 = .ok (.bipush 59, 2) := by decide +kernel
theorem dX3_readInto_25 : decode cX3_readInto 25 = .ok (.if_icmp .ne 19, 3) := by decide +kernel
theorem dX3_readInto_28 : decode cX3_readInto 28 = .ok (.aload_n 0, 1) := by decide +kernel
theorem dX3_readInto_29 : decode cX3_readInto 29 = .ok (.aload_n 1, 1) := by decide +kernel
theorem dX3_readInto_30 : decode cX3_readInto 30 = .ok (.iload_n 2, 1) := by decide +kernel
theorem dX3_readInto_31 : decode cX3_readInto 31 = .ok (.iload_n 3, 1) := by decide +kernel
theorem dX3_readInto_32 : decode cX3_readInto 32 = .ok (.invokevirtual 25, 3) := by decide +kernel
theorem dX3_readInto_35 : decode cX3_readInto 35 = .ok (.ifCond .ne 5, 3) := by decide +kernel
theorem dX3_readInto_38 : decode cX3_readInto 38 = .ok (.iload_n 2, 1) := by decide +kernel
theorem dX3_readInto_39 : decode cX3_readInto 39 = .ok (.ireturn, 1) := by decide +kernel
theorem dX3_readInto_40 : decode cX3_readInto 40 = .ok (.iload_n 3, 1) := by decide +kernel
theorem dX3_readInto_41 : decode cX3_readInto 41 = .ok (.iconst 1, 1) := by decide +kernel
theorem dX3_readInto_42 : decode cX3_readInto 42 = .ok (.iadd, 1) := by decide +kernel
theorem dX3_readInto_43 : decode cX3_readInto 43 = .ok (.istore_n 2, 1) := by decide +kernel
theorem dX3_readInto_44 : decode cX3_readInto 44 = .ok (.iinc 3 1, 3) := by decide +kernel
theorem dX3_readInto_47 : decode cX3_readInto 47 = .ok (.goto (-38), 3) := by decide +kernel
theorem dX3_readInto_50 : decode cX3_readInto 50 = .ok (.iload_n 2, 1) := by decide +kernel
theorem dX3_readInto_51 : decode cX3_readInto 51 = .ok (.aload_n 0, 1) := by decide +kernel
theorem dX3_readInto_52 : decode cX3_readInto 52 = .ok (.getfield 15, 3) := by decide +kernel
theorem dX3_readInto_55 : decode cX3_readInto 55 = .ok (.if_icmp .ge 7, 3) := by decide +kernel
theorem dX3_readInto_58 : decode cX3_readInto 58 = .ok (.iload_n 2, 1) := by decide +kernel
theorem dX3_readInto_59 : decode cX3_readInto 59 = .ok (.goto 5, 3) := by decide +kernel
theorem dX3_readInto_62 : decode cX3_readInto 62 = .ok (.bipush (-4), 2) := by decide +kernel
theorem dX3_readInto_64 : decode cX3_readInto 64 = .ok (.ireturn, 1) := by decide +kernel
set_option maxRecDepth 20000 in
theorem ggX3_readItem_X3_readCandidates : GoodIn wsX3_readItem wsX3_readCandidates := goodIn_r _ [6, 7, 8, 9, 5, 10, 1, 11, 12, 13, 14, 15, 16, 17, 18, 19, 59, 60, 61, 62, 63, 64, 65, 57, 58] (by decide +kernel) (by decide +kernel)
set_option maxRecDepth 20000 in
theorem gX3_readItem_X3_readCandidates : GoodIn wsX3_readItem (wsV RX3 29 RX3 yX3_readCandidates wsX3_readCandidates) := goodIn_app (goodIn_of _ (by decide +kernel)) ggX3_readItem_X3_readCandidates
set_option maxRecDepth 20000 in
theorem ggX3_readItem_X3_readBallot : GoodIn wsX3_readItem wsX3_readBallot := goodIn_r _ [23, 1, 7, 8, 9, 5, 10, 24, 25, 26, 27, 28, 29, 30, 31, 12, 32, 33, 34, 35, 36, 37, 16, 38, 39, 40, 41, 42, 43, 44, 45, 46, 57, 58, 59, 60, 61, 62, 63, 64, 65] (by decide +kernel) (by decide +kernel)
set_option maxRecDepth 20000 in
theorem gX3_readItem_X3_readBallot : GoodIn wsX3_readItem (wsV RX3 35 RX3 yX3_readBallot wsX3_readBallot) := goodIn_app (goodIn_of _ (by decide +kernel)) ggX3_readItem_X3_readBallot
set_option maxRecDepth 20000 in
theorem ggX3_readItem_X3_readSeats : GoodIn wsX3_readItem wsX3_readSeats := goodIn_r _ [50, 7, 8, 9, 5, 10, 1, 59, 60, 61, 62, 63, 64, 65, 57, 58] (by decide +kernel) (by decide +kernel)
set_option maxRecDepth 20000 in
theorem gX3_readItem_X3_readSeats : GoodIn wsX3_readItem (wsV RX3 38 RX3 yX3_readSeats wsX3_readSeats) := goodIn_app (goodIn_of _ (by decide +kernel)) ggX3_readItem_X3_readSeats
set_option maxRecDepth 20000 in
theorem ggX3_readItem_X3_readRank : GoodIn wsX3_readItem wsX3_readRank := goodIn_r _ [54, 1, 55, 29, 56, 59, 60, 61, 62, 63, 64, 65, 57, 58] (by decide +kernel) (by decide +kernel)
set_option maxRecDepth 20000 in
theorem gX3_readItem_X3_readRank : GoodIn wsX3_readItem (wsV RX3 41 RX3 yX3_readRank wsX3_readRank) := goodIn_app (goodIn_of _ (by decide +kernel)) ggX3_readItem_X3_readRank
theorem dX3_readItem_0 : decode cX3_readItem 0 = .ok (.iload_n 2, 1) := by decide +kernel
theorem dX3_readItem_1 : decode cX3_readItem 1 = .ok (.iload_n 3, 1) := by decide +kernel
theorem dX3_readItem_2 : decode cX3_readItem 2 = .ok (.if_icmp .lt 5, 3) := by decide +kernel
theorem dX3_readItem_5 : decode cX3_readItem 5 = .ok (.iconst 0, 1) := by decide +kernel
theorem dX3_readItem_6 : decode cX3_readItem 6 = .ok (.ireturn, 1) := by decide +kernel
theorem dX3_readItem_7 : decode cX3_readItem 7 = .ok (.aload_n 0, 1) := by decide +kernel
theorem dX3_readItem_8 : decode cX3_readItem 8 = .ok (.getfield 9, 3) := by decide +kernel
theorem dX3_readItem_11 : decode cX3_readItem 11 = .ok (.iload_n 2, 1) := by decide +kernel
theorem dX3_readItem_12 : decode cX3_readItem 12 = .ok (.iaload, 1) := by decide +kernel
theorem dX3_readItem_13 : decode cX3_readItem 13 = .ok (.istore 4, 2) := by decide +kernel
theorem dX3_readItem_15 : decode cX3_readItem 15 = .ok (.iload 4, 2) := by decide +kernel
theorem dX3_readItem_17 : decode cX3_readItem 17 = .ok (.bipush 110, 2) := by decide +kernel
theorem dX3_readItem_19 : decode cX3_readItem 19 = .ok (.if_icmp .ne 13, 3) := by decide +kernel
theorem dX3_readItem_22 : decode cX3_readItem 22 = .ok (.aload_n 0, 1) := by decide +kernel
theorem dX3_readItem_23 : decode cX3_readItem 23 = .ok (.aload_n 1, 1) := by decide +kernel
theorem dX3_readItem_24 : decode cX3_readItem 24 = .ok (.iload_n 2, 1) := by decide +kernel
theorem dX3_readItem_25 : decode cX3_readItem 25 = .ok (.iconst 1, 1) := by decide +kernel
theorem dX3_readItem_26 : decode cX3_readItem 26 = .ok (.iadd, 1) := by decide +kernel
theorem dX3_readItem_27 : decode cX3_readItem 27 = .ok (.iload_n 3, 1) := by decide +kernel
theorem dX3_readItem_28 : decode cX3_readItem 28 = .ok (.invokevirtual 29, 3) := by decide +kernel
theorem dX3_readItem_31 : decode cX3_readItem 31 = .ok (.ireturn, 1) := by decide +kernel
theorem dX3_readItem_32 : decode cX3_readItem 32 = .ok (.aload_n 1, 1) := by decide +kernel
theorem dX3_readItem_33 : decode cX3_readItem 33 = .ok (.getfield 32, 3) := by decide +kernel
theorem dX3_readItem_36 : decode cX3_readItem 36 = .ok (.ifCond .ne 5, 3) := by decide +kernel
theorem dX3_readItem_39 : decode cX3_readItem 39 = .ok (.iconst 0, 1) := by decide +kernel
theorem dX3_readItem_40 : decode cX3_readItem 40 = .ok (.ireturn, 1) := by decide +kernel
theorem dX3_readItem_41 : decode cX3_readItem 41 = .ok (.iload 4, 2) := by decide +kernel
theorem dX3_readItem_43 : decode cX3_readItem 43 = .ok (.lookupswitch 63 #[(98, 33), (107, 43), (111, 53)], 33) := by decide +kernel
theorem dX3_readItem_76 : decode cX3_readItem 76 = .ok (.aload_n 0, 1) := by decide +kernel
theorem dX3_readItem_77 : decode cX3_readItem 77 = .ok (.aload_n 1, 1) := by decide +kernel
theorem dX3_readItem_78 : decode cX3_readItem 78 = .ok (.iload_n 2, 1) := by decide +kernel
theorem dX3_readItem_79 : decode cX3_readItem 79 = .ok (.iconst 1, 1) := by decide +kernel
theorem dX3_readItem_80 : decode cX3_readItem 80 = .ok (.iadd, 1) := by decide +kernel
theorem dX3_readItem_81 : decode cX3_readItem 81 = .ok (.iload_n 3, 1) := by decide +kernel
theorem dX3_readItem_82 : decode cX3_readItem 82 = .ok (.invokevirtual 35, 3) := by decide +kernel
theorem dX3_readItem_85 : decode cX3_readItem 85 = .ok (.ireturn, 1) := by decide +kernel
theorem dX3_readItem_86 : decode cX3_readItem 86 = .ok (.aload_n 0, 1) := by decide +kernel
theorem dX3_readItem_87 : decode cX3_readItem 87 = .ok (.aload_n 1, 1) := by decide +kernel
theorem dX3_readItem_88 : decode cX3_readItem 88 = .ok (.iload_n 2, 1) := by decide +kernel
theorem dX3_readItem_89 : decode cX3_readItem 89 = .ok (.iconst 1, 1) := by decide +kernel
theorem dX3_readItem_90 : decode cX3_readItem 90 = .ok (.iadd, 1) := by decide +kernel
theorem dX3_readItem_91 : decode cX3_readItem 91 = .ok (.iload_n 3, 1) := by decide +kernel
theorem dX3_readItem_92 : decode cX3_readItem 92 = .ok (.invokevirtual 38, 3) := by decide +kernel
theorem dX3_readItem_95 : decode cX3_readItem 95 = .ok (.ireturn, 1) := by decide +kernel
theorem dX3_readItem_96 : decode cX3_readItem 96 = .ok (.aload_n 0, 1) := by decide +kernel
theorem dX3_readItem_97 : decode cX3_readItem 97 = .ok (.aload_n 1, 1) := by decide +kernel
theorem dX3_readItem_98 : decode cX3_readItem 98 = .ok (.iload_n 2, 1) := by decide +kernel
theorem dX3_readItem_99 : decode cX3_readItem 99 = .ok (.iconst 1, 1) := by decide +kernel
theorem dX3_readItem_100 : decode cX3_readItem 100 = .ok (.iadd, 1) := by decide +kernel
theorem dX3_readItem_101 : decode cX3_readItem 101 = .ok (.iload_n 3, 1) := by decide +kernel
theorem dX3_readItem_102 : decode cX3_readItem 102 = .ok (.invokevirtual 41, 3) := by decide +kernel
theorem dX3_readItem_105 : decode cX3_readItem 105 = .ok (.ireturn, 1) := by decide +kernel
theorem dX3_readItem_106 : decode cX3_readItem 106 = .ok (.iconst 0, 1) := by decide +kernel
theorem dX3_readItem_107 : decode cX3_readItem 107 = .ok (.ireturn, 1) := by decide +kernel
set_option maxRecDepth 20000 in
theorem ggX3_readCandidates_X3_number : GoodIn wsX3_readCandidates wsX3_number := goodIn_r _ [5, 6, 23, 24] (by decide +kernel) (by decide +kernel)
set_option maxRecDepth 20000 in
theorem gX3_readCandidates_X3_number : GoodIn wsX3_readCandidates (wsV RX3 44 RX3 yX3_number wsX3_number) := goodIn_app (goodIn_of _ (by decide +kernel)) ggX3_readCandidates_X3_number
set_option maxRecDepth 20000 in
theorem ggX3_readCandidates_X0_beginWith : GoodIn wsX3_readCandidates wsX0_beginWith := goodIn_r _ [10, 11, 12, 13, 14, 15, 16, 17, 18, 19, 20, 21, 22] (by decide +kernel) (by decide +kernel)
set_option maxRecDepth 20000 in
theorem gX3_readCandidates_X0_beginWith_n19 : GoodIn wsX3_readCandidates (wsX0_beginWith) := ggX3_readCandidates_X0_beginWith
theorem dX3_readCandidates_0 : decode cX3_readCandidates 0 = .ok (.aload_n 0, 1) := by decide +kernel
theorem dX3_readCandidates_1 : decode cX3_readCandidates 1 = .ok (.iload_n 2, 1) := by decide +kernel
theorem dX3_readCandidates_2 : decode cX3_readCandidates 2 = .ok (.iload_n 3, 1) := by decide +kernel
theorem dX3_readCandidates_3 : decode cX3_readCandidates 3 = .ok (.invokevirtual 44, 3) := by decide +kernel
theorem dX3_readCandidates_6 : decode cX3_readCandidates 6 = .ok (.istore 4, 2) := by decide +kernel
theorem dX3_readCandidates_8 : decode cX3_readCandidates 8 = .ok (.aload_n 1, 1) := by decide +kernel
theorem dX3_readCandidates_9 : decode cX3_readCandidates 9 = .ok (.getfield 32, 3) := by decide +kernel
theorem dX3_readCandidates_12 : decode cX3_readCandidates 12 = .ok (.ifCond .ne 16, 3) := by decide +kernel
theorem dX3_readCandidates_15 : decode cX3_readCandidates 15 = .ok (.iload 4, 2) := by decide +kernel
theorem dX3_readCandidates_17 : decode cX3_readCandidates 17 = .ok (.iconst 1, 1) := by decide +kernel
theorem dX3_readCandidates_18 : decode cX3_readCandidates 18 = .ok (.if_icmp .lt 10, 3) := by decide +kernel
theorem dX3_readCandidates_21 : decode cX3_readCandidates 21 = .ok (.iload 4, 2) := by decide +kernel
theorem dX3_readCandidates_23 : decode cX3_readCandidates 23 = .ok (.bipush 8, 2) := by decide +kernel
theorem dX3_readCandidates_25 : decode cX3_readCandidates 25 = .ok (.if_icmp .le 5, 3) := by decide +kernel
theorem dX3_readCandidates_28 : decode cX3_readCandidates 28 = .ok (.iconst 0, 1) := by decide +kernel
theorem dX3_readCandidates_29 : decode cX3_readCandidates 29 = .ok (.ireturn, 1) := by decide +kernel
theorem dX3_readCandidates_30 : decode cX3_readCandidates 30 = .ok (.aload_n 1, 1) := by decide +kernel
theorem dX3_readCandidates_31 : decode cX3_readCandidates 31 = .ok (.iload 4, 2) := by decide +kernel
theorem dX3_readCandidates_33 : decode cX3_readCandidates 33 = .ok (.invokevirtual 19, 3) := by decide +kernel
theorem dX3_readCandidates_36 : decode cX3_readCandidates 36 = .ok (.iconst 1, 1) := by decide +kernel
theorem dX3_readCandidates_37 : decode cX3_readCandidates 37 = .ok (.ireturn, 1) := by decide +kernel
set_option maxRecDepth 20000 in
theorem ggX3_readBallot_X3_number : GoodIn wsX3_readBallot wsX3_number := goodIn_r _ [6, 1, 32, 33] (by decide +kernel) (by decide +kernel)
set_option maxRecDepth 20000 in
theorem gX3_readBallot_X3_number : GoodIn wsX3_readBallot (wsV RX3 44 RX3 yX3_number wsX3_number) := goodIn_app (goodIn_of _ (by decide +kernel)) ggX3_readBallot_X3_number
set_option maxRecDepth 20000 in
theorem ggX3_readBallot_X3_risingSet : GoodIn wsX3_readBallot wsX3_risingSet := goodIn_r _ [10, 1, 32, 33] (by decide +kernel) (by decide +kernel)
set_option maxRecDepth 20000 in
theorem gX3_readBallot_X3_risingSet : GoodIn wsX3_readBallot (wsV RX3 48 RX3 yX3_risingSet wsX3_risingSet) := goodIn_app (goodIn_of _ (by decide +kernel)) ggX3_readBallot_X3_risingSet
set_option maxRecDepth 20000 in
theorem ggX3_readBallot_X4_isVoters : GoodIn wsX3_readBallot wsX4_isVoters := goodIn_r _ [13] (by decide +kernel) (by decide +kernel)
set_option maxRecDepth 20000 in
theorem gX3_readBallot_X4_isVoters_n52 : GoodIn wsX3_readBallot (wsX4_isVoters) := ggX3_readBallot_X4_isVoters
set_option maxRecDepth 20000 in
theorem ggX3_readBallot_X0_allVoters : GoodIn wsX3_readBallot wsX0_allVoters := goodIn_r _ [17, 18, 19, 20, 15, 21, 22, 23, 24, 25, 26, 27, 28, 34, 35, 36, 37, 38, 39, 40] (by decide +kernel) (by decide +kernel)
set_option maxRecDepth 20000 in
theorem gX3_readBallot_X0_allVoters_n59 : GoodIn wsX3_readBallot (wsX0_allVoters) := ggX3_readBallot_X0_allVoters
set_option maxRecDepth 20000 in
theorem ggX3_readBallot_X0_addBallot : GoodIn wsX3_readBallot wsX0_addBallot := goodIn_r _ [31, 22, 23, 28, 34, 35, 36, 37, 38, 39, 40] (by decide +kernel) (by decide +kernel)
set_option maxRecDepth 20000 in
theorem gX3_readBallot_X0_addBallot_n63 : GoodIn wsX3_readBallot (wsX0_addBallot) := ggX3_readBallot_X0_addBallot
theorem dX3_readBallot_0 : decode cX3_readBallot 0 = .ok (.iload_n 2, 1) := by decide +kernel
theorem dX3_readBallot_1 : decode cX3_readBallot 1 = .ok (.istore 4, 2) := by decide +kernel
theorem dX3_readBallot_3 : decode cX3_readBallot 3 = .ok (.iload 4, 2) := by decide +kernel
theorem dX3_readBallot_5 : decode cX3_readBallot 5 = .ok (.iload_n 3, 1) := by decide +kernel
theorem dX3_readBallot_6 : decode cX3_readBallot 6 = .ok (.if_icmp .ge 21, 3) := by decide +kernel
theorem dX3_readBallot_9 : decode cX3_readBallot 9 = .ok (.aload_n 0, 1) := by decide +kernel
theorem dX3_readBallot_10 : decode cX3_readBallot 10 = .ok (.getfield 9, 3) := by decide +kernel
theorem dX3_readBallot_13 : decode cX3_readBallot 13 = .ok (.iload 4, 2) := by decide +kernel
theorem dX3_readBallot_15 : decode cX3_readBallot 15 = .ok (.iaload, 1) := by decide +kernel
theorem dX3_readBallot_16 : decode cX3_readBallot 16 = .ok (.bipush 44, 2) := by decide +kernel
theorem dX3_readBallot_18 : decode cX3_readBallot 18 = .ok (.if_icmp .eq 9, 3) := by decide +kernel
theorem dX3_readBallot_21 : decode cX3_readBallot 21 = .ok (.iinc 4 1, 3) := by decide +kernel
theorem dX3_readBallot_24 : decode cX3_readBallot 24 = .ok (.goto (-21), 3) := by decide +kernel
theorem dX3_readBallot_27 : decode cX3_readBallot 27 = .ok (.aload_n 0, 1) := by decide +kernel
theorem dX3_readBallot_28 : decode cX3_readBallot 28 = .ok (.iload_n 2, 1) := by decide +kernel
theorem dX3_readBallot_29 : decode cX3_readBallot 29 = .ok (.iload 4, 2) := by decide +kernel
theorem dX3_readBallot_31 : decode cX3_readBallot 31 = .ok (.invokevirtual 44, 3) := by decide +kernel
theorem dX3_readBallot_34 : decode cX3_readBallot 34 = .ok (.istore 5, 2) := by decide +kernel
theorem dX3_readBallot_36 : decode cX3_readBallot 36 = .ok (.aload_n 0, 1) := by decide +kernel
theorem dX3_readBallot_37 : decode cX3_readBallot 37 = .ok (.aload_n 1, 1) := by decide +kernel
theorem dX3_readBallot_38 : decode cX3_readBallot 38 = .ok (.getfield 32, 3) := by decide +kernel
theorem dX3_readBallot_41 : decode cX3_readBallot 41 = .ok (.iload 4, 2) := by decide +kernel
theorem dX3_readBallot_43 : decode cX3_readBallot 43 = .ok (.iconst 1, 1) := by decide +kernel
theorem dX3_readBallot_44 : decode cX3_readBallot 44 = .ok (.iadd, 1) := by decide +kernel
theorem dX3_readBallot_45 : decode cX3_readBallot 45 = .ok (.iload_n 3, 1) := by decide +kernel
theorem dX3_readBallot_46 : decode cX3_readBallot 46 = .ok (.invokevirtual 48, 3) := by decide +kernel
theorem dX3_readBallot_49 : decode cX3_readBallot 49 = .ok (.istore 6, 2) := by decide +kernel
theorem dX3_readBallot_51 : decode cX3_readBallot 51 = .ok (.iload 5, 2) := by decide +kernel
theorem dX3_readBallot_53 : decode cX3_readBallot 53 = .ok (.invokestatic 52, 3) := by decide +kernel
theorem dX3_readBallot_56 : decode cX3_readBallot 56 = .ok (.ifCond .eq 29, 3) := by decide +kernel
theorem dX3_readBallot_59 : decode cX3_readBallot 59 = .ok (.iload 6, 2) := by decide +kernel
theorem dX3_readBallot_61 : decode cX3_readBallot 61 = .ok (.ifCond .eq 24, 3) := by decide +kernel
theorem dX3_readBallot_64 : decode cX3_readBallot 64 = .ok (.aload_n 1, 1) := by decide +kernel
theorem dX3_readBallot_65 : decode cX3_readBallot 65 = .ok (.getfield 56, 3) := by decide +kernel
theorem dX3_readBallot_68 : decode cX3_readBallot 68 = .ok (.bipush 10, 2) := by decide +kernel
theorem dX3_readBallot_70 : decode cX3_readBallot 70 = .ok (.if_icmp .ge 15, 3) := by decide +kernel
theorem dX3_readBallot_73 : decode cX3_readBallot 73 = .ok (.aload_n 1, 1) := by decide +kernel
theorem dX3_readBallot_74 : decode cX3_readBallot 74 = .ok (.invokevirtual 59, 3) := by decide +kernel
theorem dX3_readBallot_77 : decode cX3_readBallot 77 = .ok (.iload 5, 2) := by decide +kernel
theorem dX3_readBallot_79 : decode cX3_readBallot 79 = .ok (.iadd, 1) := by decide +kernel
theorem dX3_readBallot_80 : decode cX3_readBallot 80 = .ok (.bipush 40, 2) := by decide +kernel
theorem dX3_readBallot_82 : decode cX3_readBallot 82 = .ok (.if_icmp .le 5, 3) := by decide +kernel
theorem dX3_readBallot_85 : decode cX3_readBallot 85 = .ok (.iconst 0, 1) := by decide +kernel
theorem dX3_readBallot_86 : decode cX3_readBallot 86 = .ok (.ireturn, 1) := by decide +kernel
theorem dX3_readBallot_87 : decode cX3_readBallot 87 = .ok (.aload_n 1, 1) := by decide +kernel
theorem dX3_readBallot_88 : decode cX3_readBallot 88 = .ok (.iload 5, 2) := by decide +kernel
theorem dX3_readBallot_90 : decode cX3_readBallot 90 = .ok (.iload 6, 2) := by decide +kernel
theorem dX3_readBallot_92 : decode cX3_readBallot 92 = .ok (.invokevirtual 63, 3) := by decide +kernel
theorem dX3_readBallot_95 : decode cX3_readBallot 95 = .ok (.iconst 1, 1) := by decide +kernel
theorem dX3_readBallot_96 : decode cX3_readBallot 96 = .ok (.ireturn, 1) := by decide +kernel
set_option maxRecDepth 20000 in
theorem ggX3_readSeats_X3_number : GoodIn wsX3_readSeats wsX3_number := goodIn_r _ [5, 6, 14, 15] (by decide +kernel) (by decide +kernel)
set_option maxRecDepth 20000 in
theorem gX3_readSeats_X3_number : GoodIn wsX3_readSeats (wsV RX3 44 RX3 yX3_number wsX3_number) := goodIn_app (goodIn_of _ (by decide +kernel)) ggX3_readSeats_X3_number
theorem dX3_readSeats_0 : decode cX3_readSeats 0 = .ok (.aload_n 0, 1) := by decide +kernel
theorem dX3_readSeats_1 : decode cX3_readSeats 1 = .ok (.iload_n 2, 1) := by decide +kernel
theorem dX3_readSeats_2 : decode cX3_readSeats 2 = .ok (.iload_n 3, 1) := by decide +kernel
theorem dX3_readSeats_3 : decode cX3_readSeats 3 = .ok (.invokevirtual 44, 3) := by decide +kernel
theorem dX3_readSeats_6 : decode cX3_readSeats 6 = .ok (.istore 4, 2) := by decide +kernel
theorem dX3_readSeats_8 : decode cX3_readSeats 8 = .ok (.iload 4, 2) := by decide +kernel
theorem dX3_readSeats_10 : decode cX3_readSeats 10 = .ok (.iconst 1, 1) := by decide +kernel
theorem dX3_readSeats_11 : decode cX3_readSeats 11 = .ok (.if_icmp .lt 10, 3) := by decide +kernel
theorem dX3_readSeats_14 : decode cX3_readSeats 14 = .ok (.iload 4, 2) := by decide +kernel
theorem dX3_readSeats_16 : decode cX3_readSeats 16 = .ok (.bipush 8, 2) := by decide +kernel
theorem dX3_readSeats_18 : decode cX3_readSeats 18 = .ok (.if_icmp .le 5, 3) := by decide +kernel
theorem dX3_readSeats_21 : decode cX3_readSeats 21 = .ok (.iconst 0, 1) := by decide +kernel
theorem dX3_readSeats_22 : decode cX3_readSeats 22 = .ok (.ireturn, 1) := by decide +kernel
theorem dX3_readSeats_23 : decode cX3_readSeats 23 = .ok (.aload_n 1, 1) := by decide +kernel
theorem dX3_readSeats_24 : decode cX3_readSeats 24 = .ok (.iload 4, 2) := by decide +kernel
theorem dX3_readSeats_26 : decode cX3_readSeats 26 = .ok (.putfield 67, 3) := by decide +kernel
theorem dX3_readSeats_29 : decode cX3_readSeats 29 = .ok (.iconst 1, 1) := by decide +kernel
theorem dX3_readSeats_30 : decode cX3_readSeats 30 = .ok (.ireturn, 1) := by decide +kernel
set_option maxRecDepth 20000 in
theorem ggX3_readRank_X4_hasBit : GoodIn wsX3_readRank wsX4_hasBit := goodIn_r _ [4] (by decide +kernel) (by decide +kernel)
set_option maxRecDepth 20000 in
theorem gX3_readRank_X4_hasBit_n70 : GoodIn wsX3_readRank (wsX4_hasBit) := ggX3_readRank_X4_hasBit
theorem dX3_readRank_0 : decode cX3_readRank 0 = .ok (.iload_n 3, 1) := by decide +kernel
theorem dX3_readRank_1 : decode cX3_readRank 1 = .ok (.iload_n 2, 1) := by decide +kernel
theorem dX3_readRank_2 : decode cX3_readRank 2 = .ok (.isub, 1) := by decide +kernel
theorem dX3_readRank_3 : decode cX3_readRank 3 = .ok (.aload_n 1, 1) := by decide +kernel
theorem dX3_readRank_4 : decode cX3_readRank 4 = .ok (.getfield 32, 3) := by decide +kernel
theorem dX3_readRank_7 : decode cX3_readRank 7 = .ok (.if_icmp .eq 5, 3) := by decide +kernel
theorem dX3_readRank_10 : decode cX3_readRank 10 = .ok (.iconst 0, 1) := by decide +kernel
theorem dX3_readRank_11 : decode cX3_readRank 11 = .ok (.ireturn, 1) := by decide +kernel
theorem dX3_readRank_12 : decode cX3_readRank 12 = .ok (.iconst 0, 1) := by decide +kernel
theorem dX3_readRank_13 : decode cX3_readRank 13 = .ok (.istore 4, 2) := by decide +kernel
theorem dX3_readRank_15 : decode cX3_readRank 15 = .ok (.iconst 0, 1) := by decide +kernel
theorem dX3_readRank_16 : decode cX3_readRank 16 = .ok (.istore 5, 2) := by decide +kernel
theorem dX3_readRank_18 : decode cX3_readRank 18 = .ok (.iload 5, 2) := by decide +kernel
theorem dX3_readRank_20 : decode cX3_readRank 20 = .ok (.aload_n 1, 1) := by decide +kernel
theorem dX3_readRank_21 : decode cX3_readRank 21 = .ok (.getfield 32, 3) := by decide +kernel
theorem dX3_readRank_24 : decode cX3_readRank 24 = .ok (.if_icmp .ge 67, 3) := by decide +kernel
theorem dX3_readRank_27 : decode cX3_readRank 27 = .ok (.aload_n 0, 1) := by decide +kernel
theorem dX3_readRank_28 : decode cX3_readRank 28 = .ok (.getfield 9, 3) := by decide +kernel
theorem dX3_readRank_31 : decode cX3_readRank 31 = .ok (.iload_n 2, 1) := by decide +kernel
theorem dX3_readRank_32 : decode cX3_readRank 32 = .ok (.iload 5, 2) := by decide +kernel
theorem dX3_readRank_34 : decode cX3_readRank 34 = .ok (.iadd, 1) := by decide +kernel
theorem dX3_readRank_35 : decode cX3_readRank 35 = .ok (.iaload, 1) := by decide +kernel
theorem dX3_readRank_36 : decode cX3_readRank 36 = .ok (.bipush 97, 2) := by decide +kernel
theorem dX3_readRank_38 : decode cX3_readRank 38 = .ok (.isub, 1) := by decide +kernel
theorem dX3_readRank_39 : decode cX3_readRank 39 = .ok (.istore 6, 2) := by decide +kernel
theorem dX3_readRank_41 : decode cX3_readRank 41 = .ok (.iload 6, 2) := by decide +kernel
theorem dX3_readRank_43 : decode cX3_readRank 43 = .ok (.ifCond .lt 22, 3) := by decide +kernel
theorem dX3_readRank_46 : decode cX3_readRank 46 = .ok (.iload 6, 2) := by decide +kernel
theorem dX3_readRank_48 : decode cX3_readRank 48 = .ok (.aload_n 1, 1) := by decide +kernel
theorem dX3_readRank_49 : decode cX3_readRank 49 = .ok (.getfield 32, 3) := by decide +kernel
theorem dX3_readRank_52 : decode cX3_readRank 52 = .ok (.if_icmp .ge 13, 3) := by decide +kernel
theorem dX3_readRank_55 : decode cX3_readRank 55 = .ok (.iload 4, 2) := by decide +kernel
theorem dX3_readRank_57 : decode cX3_readRank 57 = .ok (.iload 6, 2) := by decide +kernel
theorem dX3_readRank_59 : decode cX3_readRank 59 = .ok (.invokestatic 70, 3) := by decide +kernel
theorem dX3_readRank_62 : decode cX3_readRank 62 = .ok (.ifCond .eq 5, 3) := by decide +kernel
theorem dX3_readRank_65 : decode cX3_readRank 65 = .ok (.iconst 0, 1) := by decide +kernel
theorem dX3_readRank_66 : decode cX3_readRank 66 = .ok (.ireturn, 1) := by decide +kernel
theorem dX3_readRank_67 : decode cX3_readRank 67 = .ok (.iload 4, 2) := by decide +kernel
theorem dX3_readRank_69 : decode cX3_readRank 69 = .ok (.iconst 1, 1) := by decide +kernel
theorem dX3_readRank_70 : decode cX3_readRank 70 = .ok (.iload 6, 2) := by decide +kernel
theorem dX3_readRank_72 : decode cX3_readRank 72 = .ok (.ishl, 1) := by decide +kernel
theorem dX3_readRank_73 : decode cX3_readRank 73 = .ok (.ior, 1) := by decide +kernel
theorem dX3_readRank_74 : decode cX3_readRank 74 = .ok (.istore 4, 2) := by decide +kernel
theorem dX3_readRank_76 : decode cX3_readRank 76 = .ok (.aload_n 1, 1) := by decide +kernel
theorem dX3_readRank_77 : decode cX3_readRank 77 = .ok (.getfield 74, 3) := by decide +kernel
theorem dX3_readRank_80 : decode cX3_readRank 80 = .ok (.iload 5, 2) := by decide +kernel
theorem dX3_readRank_82 : decode cX3_readRank 82 = .ok (.iload 6, 2) := by decide +kernel
theorem dX3_readRank_84 : decode cX3_readRank 84 = .ok (.iastore, 1) := by decide +kernel
theorem dX3_readRank_85 : decode cX3_readRank 85 = .ok (.iinc 5 1, 3) := by decide +kernel
theorem dX3_readRank_88 : decode cX3_readRank 88 = .ok (.goto (-70), 3) := by decide +kernel
theorem dX3_readRank_91 : decode cX3_readRank 91 = .ok (.iconst 1, 1) := by decide +kernel
theorem dX3_readRank_92 : decode cX3_readRank 92 = .ok (.ireturn, 1) := by decide +kernel
theorem dX3_number_0 : decode cX3_number 0 = .ok (.iload_n 2, 1) := by decide +kernel
theorem dX3_number_1 : decode cX3_number 1 = .ok (.iload_n 1, 1) := by decide +kernel
theorem dX3_number_2 : decode cX3_number 2 = .ok (.isub, 1) := by decide +kernel
theorem dX3_number_3 : decode cX3_number 3 = .ok (.iconst 1, 1) := by decide +kernel
theorem dX3_number_4 : decode cX3_number 4 = .ok (.if_icmp .lt 10, 3) := by decide +kernel
theorem dX3_number_7 : decode cX3_number 7 = .ok (.iload_n 2, 1) := by decide +kernel
theorem dX3_number_8 : decode cX3_number 8 = .ok (.iload_n 1, 1) := by decide +kernel
theorem dX3_number_9 : decode cX3_number 9 = .ok (.isub, 1) := by decide +kernel
theorem dX3_number_10 : decode cX3_number 10 = .ok (.iconst 2, 1) := by decide +kernel
theorem dX3_number_11 : decode cX3_number 11 = .ok (.if_icmp .le 5, 3) := by decide +kernel
theorem dX3_number_14 : decode cX3_number 14 = .ok (.iconst (-1), 1) := by decide +kernel
theorem dX3_number_15 : decode cX3_number 15 = .ok (.ireturn, 1) := by decide +kernel
theorem dX3_number_16 : decode cX3_number 16 = .ok (.iconst 0, 1) := by decide +kernel
theorem dX3_number_17 : decode cX3_number 17 = .ok (.istore_n 3, 1) := by decide +kernel
theorem dX3_number_18 : decode cX3_number 18 = .ok (.iload_n 1, 1) := by decide +kernel
theorem dX3_number_19 : decode cX3_number 19 = .ok (.istore 4, 2) := by decide +kernel
theorem dX3_number_21 : decode cX3_number 21 = .ok (.iload 4, 2) := by decide +kernel
theorem dX3_number_23 : decode cX3_number 23 = .ok (.iload_n 2, 1) := by decide +kernel
theorem dX3_number_24 : decode cX3_number 24 = .ok (.if_icmp .ge 43, 3) := by decide +kernel
theorem dX3_number_27 : decode cX3_number 27 = .ok (.aload_n 0, 1) := by decide +kernel
theorem dX3_number_28 : decode cX3_number 28 = .ok (.getfield 9, 3) := by decide +kernel
theorem dX3_number_31 : decode cX3_number 31 = .ok (.iload 4, 2) := by decide +kernel
theorem dX3_number_33 : decode cX3_number 33 = .ok (.iaload, 1) := by decide +kernel
theorem dX3_number_34 : decode cX3_number 34 = .ok (.bipush 48, 2) := by decide +kernel
theorem dX3_number_36 : decode cX3_number 36 = .ok (.isub, 1) := by decide +kernel
theorem dX3_number_37 : decode cX3_number 37 = .ok (.istore 5, 2) := by decide +kernel
theorem dX3_number_39 : decode cX3_number 39 = .ok (.iload 5, 2) := by decide +kernel
theorem dX3_number_41 : decode cX3_number 41 = .ok (.ifCond .lt 10, 3) := by decide +kernel
theorem dX3_number_44 : decode cX3_number 44 = .ok (.iload 5, 2) := by decide +kernel
theorem dX3_number_46 : decode cX3_number 46 = .ok (.bipush 9, 2) := by decide +kernel
theorem dX3_number_48 : decode cX3_number 48 = .ok (.if_icmp .le 5, 3) := by decide +kernel
theorem dX3_number_51 : decode cX3_number 51 = .ok (.iconst (-1), 1) := by decide +kernel
theorem dX3_number_52 : decode cX3_number 52 = .ok (.ireturn, 1) := by decide +kernel
theorem dX3_number_53 : decode cX3_number 53 = .ok (.iload_n 3, 1) := by decide +kernel
theorem dX3_number_54 : decode cX3_number 54 = .ok (.bipush 10, 2) := by decide +kernel
theorem dX3_number_56 : decode cX3_number 56 = .ok (.imul, 1) := by decide +kernel
theorem dX3_number_57 : decode cX3_number 57 = .ok (.iload 5, 2) := by decide +kernel
theorem dX3_number_59 : decode cX3_number 59 = .ok (.iadd, 1) := by decide +kernel
theorem dX3_number_60 : decode cX3_number 60 = .ok (.istore_n 3, 1) := by decide +kernel
theorem dX3_number_61 : decode cX3_number 61 = .ok (.iinc 4 1, 3) := by decide +kernel
theorem dX3_number_64 : decode cX3_number 64 = .ok (.goto (-43), 3) := by decide +kernel
theorem dX3_number_67 : decode cX3_number 67 = .ok (.iload_n 3, 1) := by decide +kernel
theorem dX3_number_68 : decode cX3_number 68 = .ok (.ireturn, 1) := by decide +kernel
theorem dX3_risingSet_0 : decode cX3_risingSet 0 = .ok (.iconst 0, 1) := by decide +kernel
theorem dX3_risingSet_1 : decode cX3_risingSet 1 = .ok (.istore 4, 2) := by decide +kernel
theorem dX3_risingSet_3 : decode cX3_risingSet 3 = .ok (.iconst 0, 1) := by decide +kernel
theorem dX3_risingSet_4 : decode cX3_risingSet 4 = .ok (.istore 5, 2) := by decide +kernel
theorem dX3_risingSet_6 : decode cX3_risingSet 6 = .ok (.iload_n 2, 1) := by decide +kernel
theorem dX3_risingSet_7 : decode cX3_risingSet 7 = .ok (.istore 6, 2) := by decide +kernel
theorem dX3_risingSet_9 : decode cX3_risingSet 9 = .ok (.iload 6, 2) := by decide +kernel
theorem dX3_risingSet_11 : decode cX3_risingSet 11 = .ok (.iload_n 3, 1) := by decide +kernel
theorem dX3_risingSet_12 : decode cX3_risingSet 12 = .ok (.if_icmp .ge 51, 3) := by decide +kernel
theorem dX3_risingSet_15 : decode cX3_risingSet 15 = .ok (.aload_n 0, 1) := by decide +kernel
theorem dX3_risingSet_16 : decode cX3_risingSet 16 = .ok (.getfield 9, 3) := by decide +kernel
theorem dX3_risingSet_19 : decode cX3_risingSet 19 = .ok (.iload 6, 2) := by decide +kernel
theorem dX3_risingSet_21 : decode cX3_risingSet 21 = .ok (.iaload, 1) := by decide +kernel
theorem dX3_risingSet_22 : decode cX3_risingSet 22 = .ok (.bipush 97, 2) := by decide +kernel
theorem dX3_risingSet_24 : decode cX3_risingSet 24 = .ok (.isub, 1) := by decide +kernel
theorem dX3_risingSet_25 : decode cX3_risingSet 25 = .ok (.istore 7, 2) := by decide +kernel
theorem dX3_risingSet_27 : decode cX3_risingSet 27 = .ok (.iload 7, 2) := by decide +kernel
theorem dX3_risingSet_29 : decode cX3_risingSet 29 = .ok (.iload 5, 2) := by decide +kernel
theorem dX3_risingSet_31 : decode cX3_risingSet 31 = .ok (.if_icmp .lt 9, 3) := by decide +kernel
theorem dX3_risingSet_34 : decode cX3_risingSet 34 = .ok (.iload 7, 2) := by decide +kernel
theorem dX3_risingSet_36 : decode cX3_risingSet 36 = .ok (.iload_n 1, 1) := by decide +kernel
theorem dX3_risingSet_37 : decode cX3_risingSet 37 = .ok (.if_icmp .lt 5, 3) := by decide +kernel
theorem dX3_risingSet_40 : decode cX3_risingSet 40 = .ok (.iconst 0, 1) := by decide +kernel
theorem dX3_risingSet_41 : decode cX3_risingSet 41 = .ok (.ireturn, 1) := by decide +kernel
theorem dX3_risingSet_42 : decode cX3_risingSet 42 = .ok (.iload 4, 2) := by decide +kernel
theorem dX3_risingSet_44 : decode cX3_risingSet 44 = .ok (.iconst 1, 1) := by decide +kernel
theorem dX3_risingSet_45 : decode cX3_risingSet 45 = .ok (.iload 7, 2) := by decide +kernel
theorem dX3_risingSet_47 : decode cX3_risingSet 47 = .ok (.ishl, 1) := by decide +kernel
theorem dX3_risingSet_48 : decode cX3_risingSet 48 = .ok (.ior, 1) := by decide +kernel
theorem dX3_risingSet_49 : decode cX3_risingSet 49 = .ok (.istore 4, 2) := by decide +kernel
theorem dX3_risingSet_51 : decode cX3_risingSet 51 = .ok (.iload 7, 2) := by decide +kernel
theorem dX3_risingSet_53 : decode cX3_risingSet 53 = .ok (.iconst 1, 1) := by decide +kernel
theorem dX3_risingSet_54 : decode cX3_risingSet 54 = .ok (.iadd, 1) := by decide +kernel
theorem dX3_risingSet_55 : decode cX3_risingSet 55 = .ok (.istore 5, 2) := by decide +kernel
theorem dX3_risingSet_57 : decode cX3_risingSet 57 = .ok (.iinc 6 1, 3) := by decide +kernel
theorem dX3_risingSet_60 : decode cX3_risingSet 60 = .ok (.goto (-51), 3) := by decide +kernel
theorem dX3_risingSet_63 : decode cX3_risingSet 63 = .ok (.iload 4, 2) := by decide +kernel
theorem dX3_risingSet_65 : decode cX3_risingSet 65 = .ok (.ireturn, 1) := by decide +kernel
