theorem dX0_init_0 : decode cX0_init 0 = .ok (.aload_n 0, 1) := by decide +kernel
theorem dX0_init_1 : decode cX0_init 1 = .ok (.invokespecial 3, 3) := by decide +kernel
theorem dX0_init_4 : decode cX0_init 4 = .ok (.return_, 1) := by decide +kernel
set_option maxRecDepth 20000 in
theorem ggX0_becomeIdle_X0_forgetSets : GoodIn wsX0_becomeIdle wsX0_forgetSets := goodIn_r _ [7, 8, 9, 10, 11, 12, 13, 14, 15] (by decide +kernel) (by decide +kernel)
set_option maxRecDepth 20000 in
theorem gX0_becomeIdle_X0_forgetSets : GoodIn wsX0_becomeIdle (wsV RX0 18 RX0 yX0_forgetSets wsX0_forgetSets) := goodIn_app (goodIn_of _ (by decide +kernel)) ggX0_becomeIdle_X0_forgetSets
theorem dX0_becomeIdle_0 : decode cX0_becomeIdle 0 = .ok (.aload_n 0, 1) := by decide +kernel
theorem dX0_becomeIdle_1 : decode cX0_becomeIdle 1 = .ok (.iconst 0, 1) := by decide +kernel
theorem dX0_becomeIdle_2 : decode cX0_becomeIdle 2 = .ok (.putfield 9, 3) := by decide +kernel
theorem dX0_becomeIdle_5 : decode cX0_becomeIdle 5 = .ok (.aload_n 0, 1) := by decide +kernel
theorem dX0_becomeIdle_6 : decode cX0_becomeIdle 6 = .ok (.iconst 0, 1) := by decide +kernel
theorem dX0_becomeIdle_7 : decode cX0_becomeIdle 7 = .ok (.putfield 15, 3) := by decide +kernel
theorem dX0_becomeIdle_10 : decode cX0_becomeIdle 10 = .ok (.aload_n 0, 1) := by decide +kernel
theorem dX0_becomeIdle_11 : decode cX0_becomeIdle 11 = .ok (.invokevirtual 18, 3) := by decide +kernel
theorem dX0_becomeIdle_14 : decode cX0_becomeIdle 14 = .ok (.return_, 1) := by decide +kernel
set_option maxRecDepth 20000 in
theorem ggX0_becomeAsking_X0_forgetSets : GoodIn wsX0_becomeAsking wsX0_forgetSets := goodIn_r _ [7, 8, 9, 10, 11, 12, 13, 14, 15] (by decide +kernel) (by decide +kernel)
set_option maxRecDepth 20000 in
theorem gX0_becomeAsking_X0_forgetSets : GoodIn wsX0_becomeAsking (wsV RX0 18 RX0 yX0_forgetSets wsX0_forgetSets) := goodIn_app (goodIn_of _ (by decide +kernel)) ggX0_becomeAsking_X0_forgetSets
theorem dX0_becomeAsking_0 : decode cX0_becomeAsking 0 = .ok (.aload_n 0, 1) := by decide +kernel
theorem dX0_becomeAsking_1 : decode cX0_becomeAsking 1 = .ok (.iconst 1, 1) := by decide +kernel
theorem dX0_becomeAsking_2 : decode cX0_becomeAsking 2 = .ok (.putfield 9, 3) := by decide +kernel
theorem dX0_becomeAsking_5 : decode cX0_becomeAsking 5 = .ok (.aload_n 0, 1) := by decide +kernel
theorem dX0_becomeAsking_6 : decode cX0_becomeAsking 6 = .ok (.iload_n 1, 1) := by decide +kernel
theorem dX0_becomeAsking_7 : decode cX0_becomeAsking 7 = .ok (.putfield 15, 3) := by decide +kernel
theorem dX0_becomeAsking_10 : decode cX0_becomeAsking 10 = .ok (.aload_n 0, 1) := by decide +kernel
theorem dX0_becomeAsking_11 : decode cX0_becomeAsking 11 = .ok (.invokevirtual 18, 3) := by decide +kernel
theorem dX0_becomeAsking_14 : decode cX0_becomeAsking 14 = .ok (.return_, 1) := by decide +kernel
theorem dX0_isAsking_0 : decode cX0_isAsking 0 = .ok (.aload_n 0, 1) := by decide +kernel
theorem dX0_isAsking_1 : decode cX0_isAsking 1 = .ok (.getfield 9, 3) := by decide +kernel
theorem dX0_isAsking_4 : decode cX0_isAsking 4 = .ok (.iconst 1, 1) := by decide +kernel
theorem dX0_isAsking_5 : decode cX0_isAsking 5 = .ok (.if_icmp .ne 15, 3) := by decide +kernel
theorem dX0_isAsking_8 : decode cX0_isAsking 8 = .ok (.aload_n 0, 1) := by decide +kernel
theorem dX0_isAsking_9 : decode cX0_isAsking 9 = .ok (.getfield 15, 3) := by decide +kernel
theorem dX0_isAsking_12 : decode cX0_isAsking 12 = .ok (.iload_n 1, 1) := by decide +kernel
theorem dX0_isAsking_13 : decode cX0_isAsking 13 = .ok (.if_icmp .ne 7, 3) := by decide +kernel
theorem dX0_isAsking_16 : decode cX0_isAsking 16 = .ok (.iconst 1, 1) := by decide +kernel
theorem dX0_isAsking_17 : decode cX0_isAsking 17 = .ok (.goto 4, 3) := by decide +kernel
theorem dX0_isAsking_20 : decode cX0_isAsking 20 = .ok (.iconst 0, 1) := by decide +kernel
theorem dX0_isAsking_21 : decode cX0_isAsking 21 = .ok (.ireturn, 1) := by decide +kernel
theorem dX0_gainVote_0 : decode cX0_gainVote 0 = .ok (.aload_n 0, 1) := by decide +kernel
theorem dX0_gainVote_1 : decode cX0_gainVote 1 = .ok (.dup, 1) := by decide +kernel
theorem dX0_gainVote_2 : decode cX0_gainVote 2 = .ok (.getfield 21, 3) := by decide +kernel
theorem dX0_gainVote_5 : decode cX0_gainVote 5 = .ok (.iconst 1, 1) := by decide +kernel
theorem dX0_gainVote_6 : decode cX0_gainVote 6 = .ok (.iload_n 1, 1) := by decide +kernel
theorem dX0_gainVote_7 : decode cX0_gainVote 7 = .ok (.ishl, 1) := by decide +kernel
theorem dX0_gainVote_8 : decode cX0_gainVote 8 = .ok (.ior, 1) := by decide +kernel
theorem dX0_gainVote_9 : decode cX0_gainVote 9 = .ok (.putfield 21, 3) := by decide +kernel
theorem dX0_gainVote_12 : decode cX0_gainVote 12 = .ok (.aload_n 0, 1) := by decide +kernel
theorem dX0_gainVote_13 : decode cX0_gainVote 13 = .ok (.dup, 1) := by decide +kernel
theorem dX0_gainVote_14 : decode cX0_gainVote 14 = .ok (.getfield 24, 3) := by decide +kernel
theorem dX0_gainVote_17 : decode cX0_gainVote 17 = .ok (.iconst 1, 1) := by decide +kernel
theorem dX0_gainVote_18 : decode cX0_gainVote 18 = .ok (.iload_n 1, 1) := by decide +kernel
theorem dX0_gainVote_19 : decode cX0_gainVote 19 = .ok (.ishl, 1) := by decide +kernel
theorem dX0_gainVote_20 : decode cX0_gainVote 20 = .ok (.iconst (-1), 1) := by decide +kernel
theorem dX0_gainVote_21 : decode cX0_gainVote 21 = .ok (.ixor, 1) := by decide +kernel
theorem dX0_gainVote_22 : decode cX0_gainVote 22 = .ok (.iand, 1) := by decide +kernel
theorem dX0_gainVote_23 : decode cX0_gainVote 23 = .ok (.putfield 24, 3) := by decide +kernel
theorem dX0_gainVote_26 : decode cX0_gainVote 26 = .ok (.return_, 1) := by decide +kernel
theorem dX0_loseVote_0 : decode cX0_loseVote 0 = .ok (.aload_n 0, 1) := by decide +kernel
theorem dX0_loseVote_1 : decode cX0_loseVote 1 = .ok (.dup, 1) := by decide +kernel
theorem dX0_loseVote_2 : decode cX0_loseVote 2 = .ok (.getfield 21, 3) := by decide +kernel
theorem dX0_loseVote_5 : decode cX0_loseVote 5 = .ok (.iconst 1, 1) := by decide +kernel
theorem dX0_loseVote_6 : decode cX0_loseVote 6 = .ok (.iload_n 1, 1) := by decide +kernel
theorem dX0_loseVote_7 : decode cX0_loseVote 7 = .ok (.ishl, 1) := by decide +kernel
theorem dX0_loseVote_8 : decode cX0_loseVote 8 = .ok (.iconst (-1), 1) := by decide +kernel
theorem dX0_loseVote_9 : decode cX0_loseVote 9 = .ok (.ixor, 1) := by decide +kernel
theorem dX0_loseVote_10 : decode cX0_loseVote 10 = .ok (.iand, 1) := by decide +kernel
theorem dX0_loseVote_11 : decode cX0_loseVote 11 = .ok (.putfield 21, 3) := by decide +kernel
theorem dX0_loseVote_14 : decode cX0_loseVote 14 = .ok (.aload_n 0, 1) := by decide +kernel
theorem dX0_loseVote_15 : decode cX0_loseVote 15 = .ok (.dup, 1) := by decide +kernel
theorem dX0_loseVote_16 : decode cX0_loseVote 16 = .ok (.getfield 27, 3) := by decide +kernel
theorem dX0_loseVote_19 : decode cX0_loseVote 19 = .ok (.iconst 1, 1) := by decide +kernel
theorem dX0_loseVote_20 : decode cX0_loseVote 20 = .ok (.iload_n 1, 1) := by decide +kernel
theorem dX0_loseVote_21 : decode cX0_loseVote 21 = .ok (.ishl, 1) := by decide +kernel
theorem dX0_loseVote_22 : decode cX0_loseVote 22 = .ok (.iconst (-1), 1) := by decide +kernel
theorem dX0_loseVote_23 : decode cX0_loseVote 23 = .ok (.ixor, 1) := by decide +kernel
theorem dX0_loseVote_24 : decode cX0_loseVote 24 = .ok (.iand, 1) := by decide +kernel
theorem dX0_loseVote_25 : decode cX0_loseVote 25 = .ok (.putfield 27, 3) := by decide +kernel
theorem dX0_loseVote_28 : decode cX0_loseVote 28 = .ok (.aload_n 0, 1) := by decide +kernel
theorem dX0_loseVote_29 : decode cX0_loseVote 29 = .ok (.dup, 1) := by decide +kernel
theorem dX0_loseVote_30 : decode cX0_loseVote 30 = .ok (.getfield 24, 3) := by decide +kernel
theorem dX0_loseVote_33 : decode cX0_loseVote 33 = .ok (.iconst 1, 1) := by decide +kernel
theorem dX0_loseVote_34 : decode cX0_loseVote 34 = .ok (.iload_n 1, 1) := by decide +kernel
theorem dX0_loseVote_35 : decode cX0_loseVote 35 = .ok (.ishl, 1) := by decide +kernel
theorem dX0_loseVote_36 : decode cX0_loseVote 36 = .ok (.ior, 1) := by decide +kernel
theorem dX0_loseVote_37 : decode cX0_loseVote 37 = .ok (.putfield 24, 3) := by decide +kernel
theorem dX0_loseVote_40 : decode cX0_loseVote 40 = .ok (.return_, 1) := by decide +kernel
theorem dX0_forgetSets_0 : decode cX0_forgetSets 0 = .ok (.aload_n 0, 1) := by decide +kernel
theorem dX0_forgetSets_1 : decode cX0_forgetSets 1 = .ok (.iconst 0, 1) := by decide +kernel
theorem dX0_forgetSets_2 : decode cX0_forgetSets 2 = .ok (.putfield 21, 3) := by decide +kernel
theorem dX0_forgetSets_5 : decode cX0_forgetSets 5 = .ok (.aload_n 0, 1) := by decide +kernel
theorem dX0_forgetSets_6 : decode cX0_forgetSets 6 = .ok (.iconst 0, 1) := by decide +kernel
theorem dX0_forgetSets_7 : decode cX0_forgetSets 7 = .ok (.putfield 24, 3) := by decide +kernel
theorem dX0_forgetSets_10 : decode cX0_forgetSets 10 = .ok (.aload_n 0, 1) := by decide +kernel
theorem dX0_forgetSets_11 : decode cX0_forgetSets 11 = .ok (.iconst 0, 1) := by decide +kernel
theorem dX0_forgetSets_12 : decode cX0_forgetSets 12 = .ok (.putfield 27, 3) := by decide +kernel
theorem dX0_forgetSets_15 : decode cX0_forgetSets 15 = .ok (.return_, 1) := by decide +kernel
theorem dX1_init_0 : decode cX1_init 0 = .ok (.aload_n 0, 1) := by decide +kernel
theorem dX1_init_1 : decode cX1_init 1 = .ok (.invokespecial 3, 3) := by decide +kernel
theorem dX1_init_4 : decode cX1_init 4 = .ok (.aload_n 0, 1) := by decide +kernel
theorem dX1_init_5 : decode cX1_init 5 = .ok (.iload_n 1, 1) := by decide +kernel
theorem dX1_init_6 : decode cX1_init 6 = .ok (.newarray .int, 2) := by decide +kernel
theorem dX1_init_8 : decode cX1_init 8 = .ok (.putfield 9, 3) := by decide +kernel
theorem dX1_init_11 : decode cX1_init 11 = .ok (.aload_n 0, 1) := by decide +kernel
theorem dX1_init_12 : decode cX1_init 12 = .ok (.iload_n 1, 1) := by decide +kernel
theorem dX1_init_13 : decode cX1_init 13 = .ok (.newarray .int, 2) := by decide +kernel
theorem dX1_init_15 : decode cX1_init 15 = .ok (.putfield 15, 3) := by decide +kernel
theorem dX1_init_18 : decode cX1_init 18 = .ok (.return_, 1) := by decide +kernel
theorem dX1_nodeAt_0 : decode cX1_nodeAt 0 = .ok (.iload_n 1, 1) := by decide +kernel
theorem dX1_nodeAt_1 : decode cX1_nodeAt 1 = .ok (.ifCond .lt 20, 3) := by decide +kernel
theorem dX1_nodeAt_4 : decode cX1_nodeAt 4 = .ok (.iload_n 1, 1) := by decide +kernel
theorem dX1_nodeAt_5 : decode cX1_nodeAt 5 = .ok (.aload_n 0, 1) := by decide +kernel
theorem dX1_nodeAt_6 : decode cX1_nodeAt 6 = .ok (.getfield 18, 3) := by decide +kernel
theorem dX1_nodeAt_9 : decode cX1_nodeAt 9 = .ok (.if_icmp .ge 12, 3) := by decide +kernel
theorem dX1_nodeAt_12 : decode cX1_nodeAt 12 = .ok (.aload_n 0, 1) := by decide +kernel
theorem dX1_nodeAt_13 : decode cX1_nodeAt 13 = .ok (.getfield 9, 3) := by decide +kernel
theorem dX1_nodeAt_16 : decode cX1_nodeAt 16 = .ok (.iload_n 1, 1) := by decide +kernel
theorem dX1_nodeAt_17 : decode cX1_nodeAt 17 = .ok (.iaload, 1) := by decide +kernel
theorem dX1_nodeAt_18 : decode cX1_nodeAt 18 = .ok (.goto 4, 3) := by decide +kernel
theorem dX1_nodeAt_21 : decode cX1_nodeAt 21 = .ok (.iconst (-1), 1) := by decide +kernel
theorem dX1_nodeAt_22 : decode cX1_nodeAt 22 = .ok (.ireturn, 1) := by decide +kernel
theorem dX1_timeAt_0 : decode cX1_timeAt 0 = .ok (.iload_n 1, 1) := by decide +kernel
theorem dX1_timeAt_1 : decode cX1_timeAt 1 = .ok (.ifCond .lt 20, 3) := by decide +kernel
theorem dX1_timeAt_4 : decode cX1_timeAt 4 = .ok (.iload_n 1, 1) := by decide +kernel
theorem dX1_timeAt_5 : decode cX1_timeAt 5 = .ok (.aload_n 0, 1) := by decide +kernel
theorem dX1_timeAt_6 : decode cX1_timeAt 6 = .ok (.getfield 18, 3) := by decide +kernel
theorem dX1_timeAt_9 : decode cX1_timeAt 9 = .ok (.if_icmp .ge 12, 3) := by decide +kernel
theorem dX1_timeAt_12 : decode cX1_timeAt 12 = .ok (.aload_n 0, 1) := by decide +kernel
theorem dX1_timeAt_13 : decode cX1_timeAt 13 = .ok (.getfield 15, 3) := by decide +kernel
theorem dX1_timeAt_16 : decode cX1_timeAt 16 = .ok (.iload_n 1, 1) := by decide +kernel
theorem dX1_timeAt_17 : decode cX1_timeAt 17 = .ok (.iaload, 1) := by decide +kernel
theorem dX1_timeAt_18 : decode cX1_timeAt 18 = .ok (.goto 4, 3) := by decide +kernel
theorem dX1_timeAt_21 : decode cX1_timeAt 21 = .ok (.iconst (-1), 1) := by decide +kernel
theorem dX1_timeAt_22 : decode cX1_timeAt 22 = .ok (.ireturn, 1) := by decide +kernel
set_option maxRecDepth 20000 in
theorem ggX1_insert_X4_isBefore : GoodIn wsX1_insert wsX4_isBefore := goodIn_r _ [6] (by decide +kernel) (by decide +kernel)
set_option maxRecDepth 20000 in
theorem gX1_insert_X4_isBefore_n22 : GoodIn wsX1_insert (wsX4_isBefore) := ggX1_insert_X4_isBefore
theorem dX1_insert_0 : decode cX1_insert 0 = .ok (.aload_n 0, 1) := by decide +kernel
theorem dX1_insert_1 : decode cX1_insert 1 = .ok (.getfield 18, 3) := by decide +kernel
theorem dX1_insert_4 : decode cX1_insert 4 = .ok (.aload_n 0, 1) := by decide +kernel
theorem dX1_insert_5 : decode cX1_insert 5 = .ok (.getfield 9, 3) := by decide +kernel
theorem dX1_insert_8 : decode cX1_insert 8 = .ok (.arraylength, 1) := by decide +kernel
theorem dX1_insert_9 : decode cX1_insert 9 = .ok (.if_icmp .lt 5, 3) := by decide +kernel
theorem dX1_insert_12 : decode cX1_insert 12 = .ok (.iconst (-1), 1) := by decide +kernel
theorem dX1_insert_13 : decode cX1_insert 13 = .ok (.ireturn, 1) := by decide +kernel
theorem dX1_insert_14 : decode cX1_insert 14 = .ok (.aload_n 0, 1) := by decide +kernel
theorem dX1_insert_15 : decode cX1_insert 15 = .ok (.getfield 18, 3) := by decide +kernel
theorem dX1_insert_18 : decode cX1_insert 18 = .ok (.istore_n 3, 1) := by decide +kernel
theorem dX1_insert_19 : decode cX1_insert 19 = .ok (.iload_n 3, 1) := by decide +kernel
theorem dX1_insert_20 : decode cX1_insert 20 = .ok (.ifCond .le 61, 3) := by decide +kernel
theorem dX1_insert_23 : decode cX1_insert 23 = .ok (.iload_n 1, 1) := by decide +kernel
theorem dX1_insert_24 : decode cX1_insert 24 = .ok (.iload_n 2, 1) := by decide +kernel
theorem dX1_insert_25 : decode cX1_insert 25 = .ok (.aload_n 0, 1) := by decide +kernel
theorem dX1_insert_26 : decode cX1_insert 26 = .ok (.getfield 9, 3) := by decide +kernel
theorem dX1_insert_29 : decode cX1_insert 29 = .ok (.iload_n 3, 1) := by decide +kernel
theorem dX1_insert_30 : decode cX1_insert 30 = .ok (.iconst 1, 1) := by decide +kernel
theorem dX1_insert_31 : decode cX1_insert 31 = .ok (.isub, 1) := by decide +kernel
theorem dX1_insert_32 : decode cX1_insert 32 = .ok (.iaload, 1) := by decide +kernel
theorem dX1_insert_33 : decode cX1_insert 33 = .ok (.aload_n 0, 1) := by decide +kernel
theorem dX1_insert_34 : decode cX1_insert 34 = .ok (.getfield 15, 3) := by decide +kernel
theorem dX1_insert_37 : decode cX1_insert 37 = .ok (.iload_n 3, 1) := by decide +kernel
theorem dX1_insert_38 : decode cX1_insert 38 = .ok (.iconst 1, 1) := by decide +kernel
theorem dX1_insert_39 : decode cX1_insert 39 = .ok (.isub, 1) := by decide +kernel
theorem dX1_insert_40 : decode cX1_insert 40 = .ok (.iaload, 1) := by decide +kernel
theorem dX1_insert_41 : decode cX1_insert 41 = .ok (.invokestatic 22, 3) := by decide +kernel
theorem dX1_insert_44 : decode cX1_insert 44 = .ok (.ifCond .eq 37, 3) := by decide +kernel
theorem dX1_insert_47 : decode cX1_insert 47 = .ok (.aload_n 0, 1) := by decide +kernel
theorem dX1_insert_48 : decode cX1_insert 48 = .ok (.getfield 9, 3) := by decide +kernel
theorem dX1_insert_51 : decode cX1_insert 51 = .ok (.iload_n 3, 1) := by decide +kernel
theorem dX1_insert_52 : decode cX1_insert 52 = .ok (.aload_n 0, 1) := by decide +kernel
theorem dX1_insert_53 : decode cX1_insert 53 = .ok (.getfield 9, 3) := by decide +kernel
theorem dX1_insert_56 : decode cX1_insert 56 = .ok (.iload_n 3, 1) := by decide +kernel
theorem dX1_insert_57 : decode cX1_insert 57 = .ok (.iconst 1, 1) := by decide +kernel
theorem dX1_insert_58 : decode cX1_insert 58 = .ok (.isub, 1) := by decide +kernel
theorem dX1_insert_59 : decode cX1_insert 59 = .ok (.iaload, 1) := by decide +kernel
theorem dX1_insert_60 : decode cX1_insert 60 = .ok (.iastore, 1) := by decide +kernel
theorem dX1_insert_61 : decode cX1_insert 61 = .ok (.aload_n 0, 1) := by decide +kernel
theorem dX1_insert_62 : decode cX1_insert 62 = .ok (.getfield 15, 3) := by decide +kernel
theorem dX1_insert_65 : decode cX1_insert 65 = .ok (.iload_n 3, 1) := by decide +kernel
theorem dX1_insert_66 : decode cX1_insert 66 = .ok (.aload_n 0, 1) := by decide +kernel
theorem dX1_insert_67 : decode cX1_insert 67 = .ok (.getfield 15, 3) := by decide +kernel
theorem dX1_insert_70 : decode cX1_insert 70 = .ok (.iload_n 3, 1) := by decide +kernel
theorem dX1_insert_71 : decode cX1_insert 71 = .ok (.iconst 1, 1) := by decide +kernel
theorem dX1_insert_72 : decode cX1_insert 72 = .ok (.isub, 1) := by decide +kernel
theorem dX1_insert_73 : decode cX1_insert 73 = .ok (.iaload, 1) := by decide +kernel
theorem dX1_insert_74 : decode cX1_insert 74 = .ok (.iastore, 1) := by decide +kernel
theorem dX1_insert_75 : decode cX1_insert 75 = .ok (.iinc 3 (-1), 3) := by decide +kernel
theorem dX1_insert_78 : decode cX1_insert 78 = .ok (.goto (-59), 3) := by decide +kernel
theorem dX1_insert_81 : decode cX1_insert 81 = .ok (.aload_n 0, 1) := by decide +kernel
theorem dX1_insert_82 : decode cX1_insert 82 = .ok (.getfield 9, 3) := by decide +kernel
theorem dX1_insert_85 : decode cX1_insert 85 = .ok (.iload_n 3, 1) := by decide +kernel
theorem dX1_insert_86 : decode cX1_insert 86 = .ok (.iload_n 1, 1) := by decide +kernel
theorem dX1_insert_87 : decode cX1_insert 87 = .ok (.iastore, 1) := by decide +kernel
theorem dX1_insert_88 : decode cX1_insert 88 = .ok (.aload_n 0, 1) := by decide +kernel
theorem dX1_insert_89 : decode cX1_insert 89 = .ok (.getfield 15, 3) := by decide +kernel
theorem dX1_insert_92 : decode cX1_insert 92 = .ok (.iload_n 3, 1) := by decide +kernel
theorem dX1_insert_93 : decode cX1_insert 93 = .ok (.iload_n 2, 1) := by decide +kernel
theorem dX1_insert_94 : decode cX1_insert 94 = .ok (.iastore, 1) := by decide +kernel
theorem dX1_insert_95 : decode cX1_insert 95 = .ok (.aload_n 0, 1) := by decide +kernel
theorem dX1_insert_96 : decode cX1_insert 96 = .ok (.dup, 1) := by decide +kernel
theorem dX1_insert_97 : decode cX1_insert 97 = .ok (.getfield 18, 3) := by decide +kernel
theorem dX1_insert_100 : decode cX1_insert 100 = .ok (.iconst 1, 1) := by decide +kernel
theorem dX1_insert_101 : decode cX1_insert 101 = .ok (.iadd, 1) := by decide +kernel
theorem dX1_insert_102 : decode cX1_insert 102 = .ok (.putfield 18, 3) := by decide +kernel
theorem dX1_insert_105 : decode cX1_insert 105 = .ok (.iload_n 3, 1) := by decide +kernel
theorem dX1_insert_106 : decode cX1_insert 106 = .ok (.ireturn, 1) := by decide +kernel
theorem dX1_removeFirst_0 : decode cX1_removeFirst 0 = .ok (.iconst 1, 1) := by decide +kernel
theorem dX1_removeFirst_1 : decode cX1_removeFirst 1 = .ok (.istore_n 1, 1) := by decide +kernel
theorem dX1_removeFirst_2 : decode cX1_removeFirst 2 = .ok (.iload_n 1, 1) := by decide +kernel
theorem dX1_removeFirst_3 : decode cX1_removeFirst 3 = .ok (.aload_n 0, 1) := by decide +kernel
theorem dX1_removeFirst_4 : decode cX1_removeFirst 4 = .ok (.getfield 18, 3) := by decide +kernel
theorem dX1_removeFirst_7 : decode cX1_removeFirst 7 = .ok (.if_icmp .ge 37, 3) := by decide +kernel
theorem dX1_removeFirst_10 : decode cX1_removeFirst 10 = .ok (.aload_n 0, 1) := by decide +kernel
theorem dX1_removeFirst_11 : decode cX1_removeFirst 11 = .ok (.getfield 9, 3) := by decide +kernel
theorem dX1_removeFirst_14 : decode cX1_removeFirst 14 = .ok (.iload_n 1, 1) := by decide +kernel
theorem dX1_removeFirst_15 : decode cX1_removeFirst 15 = .ok (.iconst 1, 1) := by decide +kernel
theorem dX1_removeFirst_16 : decode cX1_removeFirst 16 = .ok (.isub, 1) := by decide +kernel
theorem dX1_removeFirst_17 : decode cX1_removeFirst 17 = .ok (.aload_n 0, 1) := by decide +kernel
theorem dX1_removeFirst_18 : decode cX1_removeFirst 18 = .ok (.getfield 9, 3) := by decide +kernel
theorem dX1_removeFirst_21 : decode cX1_removeFirst 21 = .ok (.iload_n 1, 1) := by decide +kernel
theorem dX1_removeFirst_22 : decode cX1_removeFirst 22 = .ok (.iaload, 1) := by decide +kernel
theorem dX1_removeFirst_23 : decode cX1_removeFirst 23 = .ok (.iastore, 1) := by decide +kernel
theorem dX1_removeFirst_24 : decode cX1_removeFirst 24 = .ok (.aload_n 0, 1) := by decide +kernel
theorem dX1_removeFirst_25 : decode cX1_removeFirst 25 = .ok (.getfield 15, 3) := by decide +kernel
theorem dX1_removeFirst_28 : decode cX1_removeFirst 28 = .ok (.iload_n 1, 1) := by decide +kernel
theorem dX1_removeFirst_29 : decode cX1_removeFirst 29 = .ok (.iconst 1, 1) := by decide +kernel
theorem dX1_removeFirst_30 : decode cX1_removeFirst 30 = .ok (.isub, 1) := by decide +kernel
theorem dX1_removeFirst_31 : decode cX1_removeFirst 31 = .ok (.aload_n 0, 1) := by decide +kernel
theorem dX1_removeFirst_32 : decode cX1_removeFirst 32 = .ok (.getfield 15, 3) := by decide +kernel
theorem dX1_removeFirst_35 : decode cX1_removeFirst 35 = .ok (.iload_n 1, 1) := by decide +kernel
theorem dX1_removeFirst_36 : decode cX1_removeFirst 36 = .ok (.iaload, 1) := by decide +kernel
theorem dX1_removeFirst_37 : decode cX1_removeFirst 37 = .ok (.iastore, 1) := by decide +kernel
theorem dX1_removeFirst_38 : decode cX1_removeFirst 38 = .ok (.iinc 1 1, 3) := by decide +kernel
theorem dX1_removeFirst_41 : decode cX1_removeFirst 41 = .ok (.goto (-39), 3) := by decide +kernel
theorem dX1_removeFirst_44 : decode cX1_removeFirst 44 = .ok (.aload_n 0, 1) := by decide +kernel
theorem dX1_removeFirst_45 : decode cX1_removeFirst 45 = .ok (.aload_n 0, 1) := by decide +kernel
theorem dX1_removeFirst_46 : decode cX1_removeFirst 46 = .ok (.getfield 18, 3) := by decide +kernel
theorem dX1_removeFirst_49 : decode cX1_removeFirst 49 = .ok (.iconst 1, 1) := by decide +kernel
theorem dX1_removeFirst_50 : decode cX1_removeFirst 50 = .ok (.isub, 1) := by decide +kernel
theorem dX1_removeFirst_51 : decode cX1_removeFirst 51 = .ok (.iconst 0, 1) := by decide +kernel
theorem dX1_removeFirst_52 : decode cX1_removeFirst 52 = .ok (.invokestatic 26, 3) := by decide +kernel
theorem dX1_removeFirst_55 : decode cX1_removeFirst 55 = .ok (.putfield 18, 3) := by decide +kernel
theorem dX1_removeFirst_58 : decode cX1_removeFirst 58 = .ok (.return_, 1) := by decide +kernel
set_option maxRecDepth 20000 in
theorem ggX2_init_X1_init : GoodIn wsX2_init wsX1_init := goodIn_r _ [10, 11, 2, 3, 12, 13, 14, 15, 16, 17] (by decide +kernel) (by decide +kernel)
set_option maxRecDepth 20000 in
theorem gX2_init_X1_init : GoodIn wsX2_init (wsX1_init) := ggX2_init_X1_init
theorem dX2_init_0 : decode cX2_init 0 = .ok (.aload_n 0, 1) := by decide +kernel
theorem dX2_init_1 : decode cX2_init 1 = .ok (.invokespecial 3, 3) := by decide +kernel
theorem dX2_init_4 : decode cX2_init 4 = .ok (.aload_n 0, 1) := by decide +kernel
theorem dX2_init_5 : decode cX2_init 5 = .ok (.new 9, 3) := by decide +kernel
theorem dX2_init_8 : decode cX2_init 8 = .ok (.dup, 1) := by decide +kernel
theorem dX2_init_9 : decode cX2_init 9 = .ok (.iload_n 1, 1) := by decide +kernel
theorem dX2_init_10 : decode cX2_init 10 = .ok (.invokespecial 11, 3) := by decide +kernel
theorem dX2_init_13 : decode cX2_init 13 = .ok (.putfield 14, 3) := by decide +kernel
theorem dX2_init_16 : decode cX2_init 16 = .ok (.return_, 1) := by decide +kernel
set_option maxRecDepth 20000 in
theorem ggX2_forgetAll_X2_takeHome : GoodIn wsX2_forgetAll wsX2_takeHome := goodIn_r _ [7, 8, 9, 10, 11, 12, 13, 14] (by decide +kernel) (by decide +kernel)
set_option maxRecDepth 20000 in
theorem gX2_forgetAll_X2_takeHome : GoodIn wsX2_forgetAll (wsV RX2 20 RX2 yX2_takeHome wsX2_takeHome) := goodIn_app (goodIn_of _ (by decide +kernel)) ggX2_forgetAll_X2_takeHome
theorem dX2_forgetAll_0 : decode cX2_forgetAll 0 = .ok (.aload_n 0, 1) := by decide +kernel
theorem dX2_forgetAll_1 : decode cX2_forgetAll 1 = .ok (.invokevirtual 20, 3) := by decide +kernel
theorem dX2_forgetAll_4 : decode cX2_forgetAll 4 = .ok (.aload_n 0, 1) := by decide +kernel
theorem dX2_forgetAll_5 : decode cX2_forgetAll 5 = .ok (.getfield 14, 3) := by decide +kernel
theorem dX2_forgetAll_8 : decode cX2_forgetAll 8 = .ok (.iconst 0, 1) := by decide +kernel
theorem dX2_forgetAll_9 : decode cX2_forgetAll 9 = .ok (.putfield 23, 3) := by decide +kernel
theorem dX2_forgetAll_12 : decode cX2_forgetAll 12 = .ok (.return_, 1) := by decide +kernel
theorem dX2_takeHome_0 : decode cX2_takeHome 0 = .ok (.aload_n 0, 1) := by decide +kernel
theorem dX2_takeHome_1 : decode cX2_takeHome 1 = .ok (.iconst (-1), 1) := by decide +kernel
theorem dX2_takeHome_2 : decode cX2_takeHome 2 = .ok (.putfield 27, 3) := by decide +kernel
theorem dX2_takeHome_5 : decode cX2_takeHome 5 = .ok (.aload_n 0, 1) := by decide +kernel
theorem dX2_takeHome_6 : decode cX2_takeHome 6 = .ok (.iconst 0, 1) := by decide +kernel
theorem dX2_takeHome_7 : decode cX2_takeHome 7 = .ok (.putfield 30, 3) := by decide +kernel
theorem dX2_takeHome_10 : decode cX2_takeHome 10 = .ok (.aload_n 0, 1) := by decide +kernel
theorem dX2_takeHome_11 : decode cX2_takeHome 11 = .ok (.iconst 0, 1) := by decide +kernel
theorem dX2_takeHome_12 : decode cX2_takeHome 12 = .ok (.putfield 33, 3) := by decide +kernel
theorem dX2_takeHome_15 : decode cX2_takeHome 15 = .ok (.return_, 1) := by decide +kernel
theorem dX2_lendTo_0 : decode cX2_lendTo 0 = .ok (.aload_n 0, 1) := by decide +kernel
theorem dX2_lendTo_1 : decode cX2_lendTo 1 = .ok (.iload_n 1, 1) := by decide +kernel
theorem dX2_lendTo_2 : decode cX2_lendTo 2 = .ok (.putfield 27, 3) := by decide +kernel
theorem dX2_lendTo_5 : decode cX2_lendTo 5 = .ok (.aload_n 0, 1) := by decide +kernel
theorem dX2_lendTo_6 : decode cX2_lendTo 6 = .ok (.iload_n 2, 1) := by decide +kernel
theorem dX2_lendTo_7 : decode cX2_lendTo 7 = .ok (.putfield 30, 3) := by decide +kernel
theorem dX2_lendTo_10 : decode cX2_lendTo 10 = .ok (.aload_n 0, 1) := by decide +kernel
theorem dX2_lendTo_11 : decode cX2_lendTo 11 = .ok (.iconst 0, 1) := by decide +kernel
theorem dX2_lendTo_12 : decode cX2_lendTo 12 = .ok (.putfield 33, 3) := by decide +kernel
theorem dX2_lendTo_15 : decode cX2_lendTo 15 = .ok (.return_, 1) := by decide +kernel
set_option maxRecDepth 20000 in
theorem ggX2_isPressed_X1_nodeAt : GoodIn wsX2_isPressed wsX1_nodeAt := goodIn_r _ [9, 10, 11, 24, 25, 26] (by decide +kernel) (by decide +kernel)
set_option maxRecDepth 20000 in
theorem gX2_isPressed_X1_nodeAt : GoodIn wsX2_isPressed (wsV RX2 37 RX1 yX1_nodeAt wsX1_nodeAt) := goodIn_app (goodIn_of _ (by decide +kernel)) ggX2_isPressed_X1_nodeAt
set_option maxRecDepth 20000 in
theorem ggX2_isPressed_X1_timeAt : GoodIn wsX2_isPressed wsX1_timeAt := goodIn_r _ [15, 10, 16, 24, 25, 26] (by decide +kernel) (by decide +kernel)
set_option maxRecDepth 20000 in
theorem gX2_isPressed_X1_timeAt : GoodIn wsX2_isPressed (wsV RX2 41 RX1 yX1_timeAt wsX1_timeAt) := goodIn_app (goodIn_of _ (by decide +kernel)) ggX2_isPressed_X1_timeAt
set_option maxRecDepth 20000 in
theorem ggX2_isPressed_X4_isBefore : GoodIn wsX2_isPressed wsX4_isBefore := goodIn_r _ [19] (by decide +kernel) (by decide +kernel)
set_option maxRecDepth 20000 in
theorem gX2_isPressed_X4_isBefore_n44 : GoodIn wsX2_isPressed (wsX4_isBefore) := ggX2_isPressed_X4_isBefore
theorem dX2_isPressed_0 : decode cX2_isPressed 0 = .ok (.aload_n 0, 1) := by decide +kernel
theorem dX2_isPressed_1 : decode cX2_isPressed 1 = .ok (.getfield 14, 3) := by decide +kernel
theorem dX2_isPressed_4 : decode cX2_isPressed 4 = .ok (.getfield 23, 3) := by decide +kernel
theorem dX2_isPressed_7 : decode cX2_isPressed 7 = .ok (.ifCond .le 37, 3) := by decide +kernel
theorem dX2_isPressed_10 : decode cX2_isPressed 10 = .ok (.aload_n 0, 1) := by decide +kernel
theorem dX2_isPressed_11 : decode cX2_isPressed 11 = .ok (.getfield 14, 3) := by decide +kernel
theorem dX2_isPressed_14 : decode cX2_isPressed 14 = .ok (.iconst 0, 1) := by decide +kernel
theorem dX2_isPressed_15 : decode cX2_isPressed 15 = .ok (.invokevirtual 37, 3) := by decide +kernel
theorem dX2_isPressed_18 : decode cX2_isPressed 18 = .ok (.aload_n 0, 1) := by decide +kernel
theorem dX2_isPressed_19 : decode cX2_isPressed 19 = .ok (.getfield 14, 3) := by decide +kernel
theorem dX2_isPressed_22 : decode cX2_isPressed 22 = .ok (.iconst 0, 1) := by decide +kernel
theorem dX2_isPressed_23 : decode cX2_isPressed 23 = .ok (.invokevirtual 41, 3) := by decide +kernel
theorem dX2_isPressed_26 : decode cX2_isPressed 26 = .ok (.aload_n 0, 1) := by decide +kernel
theorem dX2_isPressed_27 : decode cX2_isPressed 27 = .ok (.getfield 27, 3) := by decide +kernel
theorem dX2_isPressed_30 : decode cX2_isPressed 30 = .ok (.aload_n 0, 1) := by decide +kernel
theorem dX2_isPressed_31 : decode cX2_isPressed 31 = .ok (.getfield 30, 3) := by decide +kernel
theorem dX2_isPressed_34 : decode cX2_isPressed 34 = .ok (.invokestatic 44, 3) := by decide +kernel
theorem dX2_isPressed_37 : decode cX2_isPressed 37 = .ok (.ifCond .eq 7, 3) := by decide +kernel
theorem dX2_isPressed_40 : decode cX2_isPressed 40 = .ok (.iconst 1, 1) := by decide +kernel
theorem dX2_isPressed_41 : decode cX2_isPressed 41 = .ok (.goto 4, 3) := by decide +kernel
theorem dX2_isPressed_44 : decode cX2_isPressed 44 = .ok (.iconst 0, 1) := by decide +kernel
theorem dX2_isPressed_45 : decode cX2_isPressed 45 = .ok (.ireturn, 1) := by decide +kernel
theorem dX3_init_0 : decode cX3_init 0 = .ok (.aload_n 0, 1) := by decide +kernel
theorem dX3_init_1 : decode cX3_init 1 = .ok (.invokespecial 3, 3) := by decide +kernel
theorem dX3_init_4 : decode cX3_init 4 = .ok (.aload_n 0, 1) := by decide +kernel
theorem dX3_init_5 : decode cX3_init 5 = .ok (.iload_n 1, 1) := by decide +kernel
theorem dX3_init_6 : decode cX3_init 6 = .ok (.putfield 9, 3) := by decide +kernel
theorem dX3_init_9 : decode cX3_init 9 = .ok (.aload_n 0, 1) := by decide +kernel
theorem dX3_init_10 : decode cX3_init 10 = .ok (.iload_n 1, 1) := by decide +kernel
theorem dX3_init_11 : decode cX3_init 11 = .ok (.iload_n 1, 1) := by decide +kernel
theorem dX3_init_12 : decode cX3_init 12 = .ok (.imul, 1) := by decide +kernel
theorem dX3_init_13 : decode cX3_init 13 = .ok (.bipush 8, 2) := by decide +kernel
theorem dX3_init_15 : decode cX3_init 15 = .ok (.imul, 1) := by decide +kernel
theorem dX3_init_16 : decode cX3_init 16 = .ok (.iconst 3, 1) := by decide +kernel
theorem dX3_init_17 : decode cX3_init 17 = .ok (.imul, 1) := by decide +kernel
theorem dX3_init_18 : decode cX3_init 18 = .ok (.newarray .int, 2) := by decide +kernel
theorem dX3_init_20 : decode cX3_init 20 = .ok (.putfield 15, 3) := by decide +kernel
theorem dX3_init_23 : decode cX3_init 23 = .ok (.aload_n 0, 1) := by decide +kernel
theorem dX3_init_24 : decode cX3_init 24 = .ok (.iload_n 1, 1) := by decide +kernel
theorem dX3_init_25 : decode cX3_init 25 = .ok (.iload_n 1, 1) := by decide +kernel
theorem dX3_init_26 : decode cX3_init 26 = .ok (.imul, 1) := by decide +kernel
theorem dX3_init_27 : decode cX3_init 27 = .ok (.newarray .int, 2) := by decide +kernel
theorem dX3_init_29 : decode cX3_init 29 = .ok (.putfield 19, 3) := by decide +kernel
theorem dX3_init_32 : decode cX3_init 32 = .ok (.aload_n 0, 1) := by decide +kernel
theorem dX3_init_33 : decode cX3_init 33 = .ok (.iload_n 1, 1) := by decide +kernel
theorem dX3_init_34 : decode cX3_init 34 = .ok (.iload_n 1, 1) := by decide +kernel
theorem dX3_init_35 : decode cX3_init 35 = .ok (.imul, 1) := by decide +kernel
theorem dX3_init_36 : decode cX3_init 36 = .ok (.newarray .int, 2) := by decide +kernel
theorem dX3_init_38 : decode cX3_init 38 = .ok (.putfield 22, 3) := by decide +kernel
theorem dX3_init_41 : decode cX3_init 41 = .ok (.aload_n 0, 1) := by decide +kernel
theorem dX3_init_42 : decode cX3_init 42 = .ok (.iload_n 1, 1) := by decide +kernel
theorem dX3_init_43 : decode cX3_init 43 = .ok (.newarray .int, 2) := by decide +kernel
theorem dX3_init_45 : decode cX3_init 45 = .ok (.putfield 25, 3) := by decide +kernel
theorem dX3_init_48 : decode cX3_init 48 = .ok (.return_, 1) := by decide +kernel
theorem dX3_emptyAll_0 : decode cX3_emptyAll 0 = .ok (.iconst 0, 1) := by decide +kernel
theorem dX3_emptyAll_1 : decode cX3_emptyAll 1 = .ok (.istore_n 1, 1) := by decide +kernel
theorem dX3_emptyAll_2 : decode cX3_emptyAll 2 = .ok (.iload_n 1, 1) := by decide +kernel
theorem dX3_emptyAll_3 : decode cX3_emptyAll 3 = .ok (.aload_n 0, 1) := by decide +kernel
theorem dX3_emptyAll_4 : decode cX3_emptyAll 4 = .ok (.getfield 22, 3) := by decide +kernel
theorem dX3_emptyAll_7 : decode cX3_emptyAll 7 = .ok (.arraylength, 1) := by decide +kernel
theorem dX3_emptyAll_8 : decode cX3_emptyAll 8 = .ok (.if_icmp .ge 23, 3) := by decide +kernel
theorem dX3_emptyAll_11 : decode cX3_emptyAll 11 = .ok (.aload_n 0, 1) := by decide +kernel
theorem dX3_emptyAll_12 : decode cX3_emptyAll 12 = .ok (.getfield 19, 3) := by decide +kernel
theorem dX3_emptyAll_15 : decode cX3_emptyAll 15 = .ok (.iload_n 1, 1) := by decide +kernel
theorem dX3_emptyAll_16 : decode cX3_emptyAll 16 = .ok (.iconst 0, 1) := by decide +kernel
theorem dX3_emptyAll_17 : decode cX3_emptyAll 17 = .ok (.iastore, 1) := by decide +kernel
theorem dX3_emptyAll_18 : decode cX3_emptyAll 18 = .ok (.aload_n 0, 1) := by decide +kernel
theorem dX3_emptyAll_19 : decode cX3_emptyAll 19 = .ok (.getfield 22, 3) := by decide +kernel
theorem dX3_emptyAll_22 : decode cX3_emptyAll 22 = .ok (.iload_n 1, 1) := by decide +kernel
theorem dX3_emptyAll_23 : decode cX3_emptyAll 23 = .ok (.iconst 0, 1) := by decide +kernel
theorem dX3_emptyAll_24 : decode cX3_emptyAll 24 = .ok (.iastore, 1) := by decide +kernel
theorem dX3_emptyAll_25 : decode cX3_emptyAll 25 = .ok (.iinc 1 1, 3) := by decide +kernel
theorem dX3_emptyAll_28 : decode cX3_emptyAll 28 = .ok (.goto (-26), 3) := by decide +kernel
theorem dX3_emptyAll_31 : decode cX3_emptyAll 31 = .ok (.iconst 0, 1) := by decide +kernel
theorem dX3_emptyAll_32 : decode cX3_emptyAll 32 = .ok (.istore_n 1, 1) := by decide +kernel
theorem dX3_emptyAll_33 : decode cX3_emptyAll 33 = .ok (.iload_n 1, 1) := by decide +kernel
theorem dX3_emptyAll_34 : decode cX3_emptyAll 34 = .ok (.aload_n 0, 1) := by decide +kernel
theorem dX3_emptyAll_35 : decode cX3_emptyAll 35 = .ok (.getfield 9, 3) := by decide +kernel
theorem dX3_emptyAll_38 : decode cX3_emptyAll 38 = .ok (.if_icmp .ge 16, 3) := by decide +kernel
theorem dX3_emptyAll_41 : decode cX3_emptyAll 41 = .ok (.aload_n 0, 1) := by decide +kernel
theorem dX3_emptyAll_42 : decode cX3_emptyAll 42 = .ok (.getfield 25, 3) := by decide +kernel
theorem dX3_emptyAll_45 : decode cX3_emptyAll 45 = .ok (.iload_n 1, 1) := by decide +kernel
theorem dX3_emptyAll_46 : decode cX3_emptyAll 46 = .ok (.iconst 0, 1) := by decide +kernel
theorem dX3_emptyAll_47 : decode cX3_emptyAll 47 = .ok (.iastore, 1) := by decide +kernel
theorem dX3_emptyAll_48 : decode cX3_emptyAll 48 = .ok (.iinc 1 1, 3) := by decide +kernel
theorem dX3_emptyAll_51 : decode cX3_emptyAll 51 = .ok (.goto (-18), 3) := by decide +kernel
theorem dX3_emptyAll_54 : decode cX3_emptyAll 54 = .ok (.return_, 1) := by decide +kernel
set_option maxRecDepth 20000 in
theorem ggX3_count_X3_wireOf : GoodIn wsX3_count wsX3_wireOf := goodIn_r _ [6, 7, 8, 9, 10, 11, 12] (by decide +kernel) (by decide +kernel)
set_option maxRecDepth 20000 in
theorem gX3_count_X3_wireOf : GoodIn wsX3_count (wsV RX3 28 RX3 yX3_wireOf wsX3_wireOf) := goodIn_app (goodIn_of _ (by decide +kernel)) ggX3_count_X3_wireOf
theorem dX3_count_0 : decode cX3_count 0 = .ok (.aload_n 0, 1) := by decide +kernel
theorem dX3_count_1 : decode cX3_count 1 = .ok (.getfield 22, 3) := by decide +kernel
theorem dX3_count_4 : decode cX3_count 4 = .ok (.aload_n 0, 1) := by decide +kernel
theorem dX3_count_5 : decode cX3_count 5 = .ok (.iload_n 1, 1) := by decide +kernel
theorem dX3_count_6 : decode cX3_count 6 = .ok (.iload_n 2, 1) := by decide +kernel
theorem dX3_count_7 : decode cX3_count 7 = .ok (.invokevirtual 28, 3) := by decide +kernel
theorem dX3_count_10 : decode cX3_count 10 = .ok (.iaload, 1) := by decide +kernel
theorem dX3_count_11 : decode cX3_count 11 = .ok (.ireturn, 1) := by decide +kernel
set_option maxRecDepth 20000 in
theorem ggX3_part_X3_wireOf : GoodIn wsX3_part wsX3_wireOf := goodIn_r _ [7, 8, 14, 15, 16, 17, 18] (by decide +kernel) (by decide +kernel)
set_option maxRecDepth 20000 in
theorem gX3_part_X3_wireOf : GoodIn wsX3_part (wsV RX3 28 RX3 yX3_wireOf wsX3_wireOf) := goodIn_app (goodIn_of _ (by decide +kernel)) ggX3_part_X3_wireOf
set_option maxRecDepth 20000 in
theorem ggX3_part_X3_slotOf : GoodIn wsX3_part wsX3_slotOf := goodIn_r _ [12, 13, 14, 15, 16, 17, 18] (by decide +kernel) (by decide +kernel)
set_option maxRecDepth 20000 in
theorem gX3_part_X3_slotOf : GoodIn wsX3_part (wsV RX3 32 RX3 yX3_slotOf wsX3_slotOf) := goodIn_app (goodIn_of _ (by decide +kernel)) ggX3_part_X3_slotOf
theorem dX3_part_0 : decode cX3_part 0 = .ok (.aload_n 0, 1) := by decide +kernel
theorem dX3_part_1 : decode cX3_part 1 = .ok (.iload_n 1, 1) := by decide +kernel
theorem dX3_part_2 : decode cX3_part 2 = .ok (.iload_n 2, 1) := by decide +kernel
theorem dX3_part_3 : decode cX3_part 3 = .ok (.invokevirtual 28, 3) := by decide +kernel
theorem dX3_part_6 : decode cX3_part 6 = .ok (.istore 5, 2) := by decide +kernel
theorem dX3_part_8 : decode cX3_part 8 = .ok (.iload_n 3, 1) := by decide +kernel
theorem dX3_part_9 : decode cX3_part 9 = .ok (.ifCond .lt 25, 3) := by decide +kernel
theorem dX3_part_12 : decode cX3_part 12 = .ok (.iload_n 3, 1) := by decide +kernel
theorem dX3_part_13 : decode cX3_part 13 = .ok (.aload_n 0, 1) := by decide +kernel
theorem dX3_part_14 : decode cX3_part 14 = .ok (.getfield 22, 3) := by decide +kernel
theorem dX3_part_17 : decode cX3_part 17 = .ok (.iload 5, 2) := by decide +kernel
theorem dX3_part_19 : decode cX3_part 19 = .ok (.iaload, 1) := by decide +kernel
theorem dX3_part_20 : decode cX3_part 20 = .ok (.if_icmp .ge 14, 3) := by decide +kernel
theorem dX3_part_23 : decode cX3_part 23 = .ok (.iload 4, 2) := by decide +kernel
theorem dX3_part_25 : decode cX3_part 25 = .ok (.ifCond .lt 9, 3) := by decide +kernel
theorem dX3_part_28 : decode cX3_part 28 = .ok (.iload 4, 2) := by decide +kernel
theorem dX3_part_30 : decode cX3_part 30 = .ok (.iconst 3, 1) := by decide +kernel
theorem dX3_part_31 : decode cX3_part 31 = .ok (.if_icmp .lt 5, 3) := by decide +kernel
theorem dX3_part_34 : decode cX3_part 34 = .ok (.iconst (-1), 1) := by decide +kernel
theorem dX3_part_35 : decode cX3_part 35 = .ok (.ireturn, 1) := by decide +kernel
theorem dX3_part_36 : decode cX3_part 36 = .ok (.aload_n 0, 1) := by decide +kernel
theorem dX3_part_37 : decode cX3_part 37 = .ok (.getfield 15, 3) := by decide +kernel
theorem dX3_part_40 : decode cX3_part 40 = .ok (.aload_n 0, 1) := by decide +kernel
theorem dX3_part_41 : decode cX3_part 41 = .ok (.iload 5, 2) := by decide +kernel
theorem dX3_part_43 : decode cX3_part 43 = .ok (.iload_n 3, 1) := by decide +kernel
theorem dX3_part_44 : decode cX3_part 44 = .ok (.invokevirtual 32, 3) := by decide +kernel
theorem dX3_part_47 : decode cX3_part 47 = .ok (.iload 4, 2) := by decide +kernel
theorem dX3_part_49 : decode cX3_part 49 = .ok (.iadd, 1) := by decide +kernel
theorem dX3_part_50 : decode cX3_part 50 = .ok (.iaload, 1) := by decide +kernel
theorem dX3_part_51 : decode cX3_part 51 = .ok (.ireturn, 1) := by decide +kernel
set_option maxRecDepth 20000 in
theorem ggX3_add_X3_wireOf : GoodIn wsX3_add wsX3_wireOf := goodIn_r _ [8, 9, 15, 16, 17, 18, 19] (by decide +kernel) (by decide +kernel)
set_option maxRecDepth 20000 in
theorem gX3_add_X3_wireOf : GoodIn wsX3_add (wsV RX3 28 RX3 yX3_wireOf wsX3_wireOf) := goodIn_app (goodIn_of _ (by decide +kernel)) ggX3_add_X3_wireOf
set_option maxRecDepth 20000 in
theorem ggX3_add_X3_slotOf : GoodIn wsX3_add wsX3_slotOf := goodIn_r _ [13, 14, 15, 16, 17, 18, 19] (by decide +kernel) (by decide +kernel)
set_option maxRecDepth 20000 in
theorem gX3_add_X3_slotOf : GoodIn wsX3_add (wsV RX3 32 RX3 yX3_slotOf wsX3_slotOf) := goodIn_app (goodIn_of _ (by decide +kernel)) ggX3_add_X3_slotOf
theorem dX3_add_0 : decode cX3_add 0 = .ok (.aload_n 0, 1) := by decide +kernel
theorem dX3_add_1 : decode cX3_add 1 = .ok (.iload_n 1, 1) := by decide +kernel
theorem dX3_add_2 : decode cX3_add 2 = .ok (.iload_n 2, 1) := by decide +kernel
theorem dX3_add_3 : decode cX3_add 3 = .ok (.invokevirtual 28, 3) := by decide +kernel
theorem dX3_add_6 : decode cX3_add 6 = .ok (.istore 6, 2) := by decide +kernel
theorem dX3_add_8 : decode cX3_add 8 = .ok (.aload_n 0, 1) := by decide +kernel
theorem dX3_add_9 : decode cX3_add 9 = .ok (.getfield 22, 3) := by decide +kernel
theorem dX3_add_12 : decode cX3_add 12 = .ok (.iload 6, 2) := by decide +kernel
theorem dX3_add_14 : decode cX3_add 14 = .ok (.iaload, 1) := by decide +kernel
theorem dX3_add_15 : decode cX3_add 15 = .ok (.bipush 8, 2) := by decide +kernel
theorem dX3_add_17 : decode cX3_add 17 = .ok (.if_icmp .lt 4, 3) := by decide +kernel
theorem dX3_add_20 : decode cX3_add 20 = .ok (.return_, 1) := by decide +kernel
theorem dX3_add_21 : decode cX3_add 21 = .ok (.aload_n 0, 1) := by decide +kernel
theorem dX3_add_22 : decode cX3_add 22 = .ok (.iload 6, 2) := by decide +kernel
theorem dX3_add_24 : decode cX3_add 24 = .ok (.aload_n 0, 1) := by decide +kernel
theorem dX3_add_25 : decode cX3_add 25 = .ok (.getfield 22, 3) := by decide +kernel
theorem dX3_add_28 : decode cX3_add 28 = .ok (.iload 6, 2) := by decide +kernel
theorem dX3_add_30 : decode cX3_add 30 = .ok (.iaload, 1) := by decide +kernel
theorem dX3_add_31 : decode cX3_add 31 = .ok (.invokevirtual 32, 3) := by decide +kernel
theorem dX3_add_34 : decode cX3_add 34 = .ok (.istore 7, 2) := by decide +kernel
theorem dX3_add_36 : decode cX3_add 36 = .ok (.aload_n 0, 1) := by decide +kernel
theorem dX3_add_37 : decode cX3_add 37 = .ok (.getfield 15, 3) := by decide +kernel
theorem dX3_add_40 : decode cX3_add 40 = .ok (.iload 7, 2) := by decide +kernel
theorem dX3_add_42 : decode cX3_add 42 = .ok (.iconst 0, 1) := by decide +kernel
theorem dX3_add_43 : decode cX3_add 43 = .ok (.iadd, 1) := by decide +kernel
theorem dX3_add_44 : decode cX3_add 44 = .ok (.iload_n 3, 1) := by decide +kernel
theorem dX3_add_45 : decode cX3_add 45 = .ok (.iastore, 1) := by decide +kernel
theorem dX3_add_46 : decode cX3_add 46 = .ok (.aload_n 0, 1) := by decide +kernel
theorem dX3_add_47 : decode cX3_add 47 = .ok (.getfield 15, 3) := by decide +kernel
theorem dX3_add_50 : decode cX3_add 50 = .ok (.iload 7, 2) := by decide +kernel
theorem dX3_add_52 : decode cX3_add 52 = .ok (.iconst 1, 1) := by decide +kernel
theorem dX3_add_53 : decode cX3_add 53 = .ok (.iadd, 1) := by decide +kernel
theorem dX3_add_54 : decode cX3_add 54 = .ok (.iload 4, 2) := by decide +kernel
theorem dX3_add_56 : decode cX3_add 56 = .ok (.iastore, 1) := by decide +kernel
theorem dX3_add_57 : decode cX3_add 57 = .ok (.aload_n 0, 1) := by decide +kernel
theorem dX3_add_58 : decode cX3_add 58 = .ok (.getfield 15, 3) := by decide +kernel
theorem dX3_add_61 : decode cX3_add 61 = .ok (.iload 7, 2) := by decide +kernel
theorem dX3_add_63 : decode cX3_add 63 = .ok (.iconst 2, 1) := by decide +kernel
theorem dX3_add_64 : decode cX3_add 64 = .ok (.iadd, 1) := by decide +kernel
theorem dX3_add_65 : decode cX3_add 65 = .ok (.iload 5, 2) := by decide +kernel
theorem dX3_add_67 : decode cX3_add 67 = .ok (.iastore, 1) := by decide +kernel
theorem dX3_add_68 : decode cX3_add 68 = .ok (.aload_n 0, 1) := by decide +kernel
theorem dX3_add_69 : decode cX3_add 69 = .ok (.getfield 22, 3) := by decide +kernel
theorem dX3_add_72 : decode cX3_add 72 = .ok (.iload 6, 2) := by decide +kernel
theorem dX3_add_74 : decode cX3_add 74 = .ok (.dup2, 1) := by decide +kernel
theorem dX3_add_75 : decode cX3_add 75 = .ok (.iaload, 1) := by decide +kernel
theorem dX3_add_76 : decode cX3_add 76 = .ok (.iconst 1, 1) := by decide +kernel
theorem dX3_add_77 : decode cX3_add 77 = .ok (.iadd, 1) := by decide +kernel
theorem dX3_add_78 : decode cX3_add 78 = .ok (.iastore, 1) := by decide +kernel
theorem dX3_add_79 : decode cX3_add 79 = .ok (.aload_n 0, 1) := by decide +kernel
theorem dX3_add_80 : decode cX3_add 80 = .ok (.getfield 25, 3) := by decide +kernel
theorem dX3_add_83 : decode cX3_add 83 = .ok (.iload_n 1, 1) := by decide +kernel
theorem dX3_add_84 : decode cX3_add 84 = .ok (.dup2, 1) := by decide +kernel
theorem dX3_add_85 : decode cX3_add 85 = .ok (.iaload, 1) := by decide +kernel
theorem dX3_add_86 : decode cX3_add 86 = .ok (.iconst 1, 1) := by decide +kernel
theorem dX3_add_87 : decode cX3_add 87 = .ok (.iadd, 1) := by decide +kernel
theorem dX3_add_88 : decode cX3_add 88 = .ok (.iastore, 1) := by decide +kernel
theorem dX3_add_89 : decode cX3_add 89 = .ok (.return_, 1) := by decide +kernel
set_option maxRecDepth 20000 in
theorem ggX3_dropOldest_X3_wireOf : GoodIn wsX3_dropOldest wsX3_wireOf := goodIn_r _ [8, 9, 10, 11, 12, 13, 14] (by decide +kernel) (by decide +kernel)
set_option maxRecDepth 20000 in
theorem gX3_dropOldest_X3_wireOf : GoodIn wsX3_dropOldest (wsV RX3 28 RX3 yX3_wireOf wsX3_wireOf) := goodIn_app (goodIn_of _ (by decide +kernel)) ggX3_dropOldest_X3_wireOf
theorem dX3_dropOldest_0 : decode cX3_dropOldest 0 = .ok (.aload_n 0, 1) := by decide +kernel
theorem dX3_dropOldest_1 : decode cX3_dropOldest 1 = .ok (.iload_n 1, 1) := by decide +kernel
theorem dX3_dropOldest_2 : decode cX3_dropOldest 2 = .ok (.iload_n 2, 1) := by decide +kernel
theorem dX3_dropOldest_3 : decode cX3_dropOldest 3 = .ok (.invokevirtual 28, 3) := by decide +kernel
theorem dX3_dropOldest_6 : decode cX3_dropOldest 6 = .ok (.istore_n 3, 1) := by decide +kernel
theorem dX3_dropOldest_7 : decode cX3_dropOldest 7 = .ok (.aload_n 0, 1) := by decide +kernel
theorem dX3_dropOldest_8 : decode cX3_dropOldest 8 = .ok (.getfield 22, 3) := by decide +kernel
theorem dX3_dropOldest_11 : decode cX3_dropOldest 11 = .ok (.iload_n 3, 1) := by decide +kernel
theorem dX3_dropOldest_12 : decode cX3_dropOldest 12 = .ok (.iaload, 1) := by decide +kernel
theorem dX3_dropOldest_13 : decode cX3_dropOldest 13 = .ok (.ifCond .le 40, 3) := by decide +kernel
theorem dX3_dropOldest_16 : decode cX3_dropOldest 16 = .ok (.aload_n 0, 1) := by decide +kernel
theorem dX3_dropOldest_17 : decode cX3_dropOldest 17 = .ok (.getfield 19, 3) := by decide +kernel
theorem dX3_dropOldest_20 : decode cX3_dropOldest 20 = .ok (.iload_n 3, 1) := by decide +kernel
theorem dX3_dropOldest_21 : decode cX3_dropOldest 21 = .ok (.aload_n 0, 1) := by decide +kernel
theorem dX3_dropOldest_22 : decode cX3_dropOldest 22 = .ok (.getfield 19, 3) := by decide +kernel
theorem dX3_dropOldest_25 : decode cX3_dropOldest 25 = .ok (.iload_n 3, 1) := by decide +kernel
theorem dX3_dropOldest_26 : decode cX3_dropOldest 26 = .ok (.iaload, 1) := by decide +kernel
theorem dX3_dropOldest_27 : decode cX3_dropOldest 27 = .ok (.iconst 1, 1) := by decide +kernel
theorem dX3_dropOldest_28 : decode cX3_dropOldest 28 = .ok (.iadd, 1) := by decide +kernel
theorem dX3_dropOldest_29 : decode cX3_dropOldest 29 = .ok (.bipush 8, 2) := by decide +kernel
theorem dX3_dropOldest_31 : decode cX3_dropOldest 31 = .ok (.irem, 1) := by decide +kernel
theorem dX3_dropOldest_32 : decode cX3_dropOldest 32 = .ok (.iastore, 1) := by decide +kernel
theorem dX3_dropOldest_33 : decode cX3_dropOldest 33 = .ok (.aload_n 0, 1) := by decide +kernel
theorem dX3_dropOldest_34 : decode cX3_dropOldest 34 = .ok (.getfield 22, 3) := by decide +kernel
theorem dX3_dropOldest_37 : decode cX3_dropOldest 37 = .ok (.iload_n 3, 1) := by decide +kernel
theorem dX3_dropOldest_38 : decode cX3_dropOldest 38 = .ok (.dup2, 1) := by decide +kernel
theorem dX3_dropOldest_39 : decode cX3_dropOldest 39 = .ok (.iaload, 1) := by decide +kernel
theorem dX3_dropOldest_40 : decode cX3_dropOldest 40 = .ok (.iconst 1, 1) := by decide +kernel
theorem dX3_dropOldest_41 : decode cX3_dropOldest 41 = .ok (.isub, 1) := by decide +kernel
theorem dX3_dropOldest_42 : decode cX3_dropOldest 42 = .ok (.iastore, 1) := by decide +kernel
theorem dX3_dropOldest_43 : decode cX3_dropOldest 43 = .ok (.aload_n 0, 1) := by decide +kernel
theorem dX3_dropOldest_44 : decode cX3_dropOldest 44 = .ok (.getfield 25, 3) := by decide +kernel
theorem dX3_dropOldest_47 : decode cX3_dropOldest 47 = .ok (.iload_n 1, 1) := by decide +kernel
theorem dX3_dropOldest_48 : decode cX3_dropOldest 48 = .ok (.dup2, 1) := by decide +kernel
theorem dX3_dropOldest_49 : decode cX3_dropOldest 49 = .ok (.iaload, 1) := by decide +kernel
theorem dX3_dropOldest_50 : decode cX3_dropOldest 50 = .ok (.iconst 1, 1) := by decide +kernel
theorem dX3_dropOldest_51 : decode cX3_dropOldest 51 = .ok (.isub, 1) := by decide +kernel
theorem dX3_dropOldest_52 : decode cX3_dropOldest 52 = .ok (.iastore, 1) := by decide +kernel
theorem dX3_dropOldest_53 : decode cX3_dropOldest 53 = .ok (.return_, 1) := by decide +kernel
theorem dX3_leastFrom_0 : decode cX3_leastFrom 0 = .ok (.iconst 0, 1) := by decide +kernel
theorem dX3_leastFrom_1 : decode cX3_leastFrom 1 = .ok (.istore_n 1, 1) := by decide +kernel
theorem dX3_leastFrom_2 : decode cX3_leastFrom 2 = .ok (.iload_n 1, 1) := by decide +kernel
theorem dX3_leastFrom_3 : decode cX3_leastFrom 3 = .ok (.aload_n 0, 1) := by decide +kernel
theorem dX3_leastFrom_4 : decode cX3_leastFrom 4 = .ok (.getfield 9, 3) := by decide +kernel
theorem dX3_leastFrom_7 : decode cX3_leastFrom 7 = .ok (.if_icmp .ge 20, 3) := by decide +kernel
theorem dX3_leastFrom_10 : decode cX3_leastFrom 10 = .ok (.aload_n 0, 1) := by decide +kernel
theorem dX3_leastFrom_11 : decode cX3_leastFrom 11 = .ok (.getfield 25, 3) := by decide +kernel
theorem dX3_leastFrom_14 : decode cX3_leastFrom 14 = .ok (.iload_n 1, 1) := by decide +kernel
theorem dX3_leastFrom_15 : decode cX3_leastFrom 15 = .ok (.iaload, 1) := by decide +kernel
theorem dX3_leastFrom_16 : decode cX3_leastFrom 16 = .ok (.ifCond .le 5, 3) := by decide +kernel
theorem dX3_leastFrom_19 : decode cX3_leastFrom 19 = .ok (.iload_n 1, 1) := by decide +kernel
theorem dX3_leastFrom_20 : decode cX3_leastFrom 20 = .ok (.ireturn, 1) := by decide +kernel
theorem dX3_leastFrom_21 : decode cX3_leastFrom 21 = .ok (.iinc 1 1, 3) := by decide +kernel
theorem dX3_leastFrom_24 : decode cX3_leastFrom 24 = .ok (.goto (-22), 3) := by decide +kernel
theorem dX3_leastFrom_27 : decode cX3_leastFrom 27 = .ok (.iconst (-1), 1) := by decide +kernel
theorem dX3_leastFrom_28 : decode cX3_leastFrom 28 = .ok (.ireturn, 1) := by decide +kernel
set_option maxRecDepth 20000 in
theorem ggX3_leastTo_X3_count : GoodIn wsX3_leastTo wsX3_count := goodIn_r _ [6, 7, 8, 9, 10, 5, 11, 1, 12, 13, 14, 15, 16] (by decide +kernel) (by decide +kernel)
set_option maxRecDepth 20000 in
theorem gX3_leastTo_X3_count : GoodIn wsX3_leastTo (wsV RX3 35 RX3 yX3_count wsX3_count) := goodIn_app (goodIn_of _ (by decide +kernel)) ggX3_leastTo_X3_count
theorem dX3_leastTo_0 : decode cX3_leastTo 0 = .ok (.iload_n 1, 1) := by decide +kernel
theorem dX3_leastTo_1 : decode cX3_leastTo 1 = .ok (.ifCond .lt 11, 3) := by decide +kernel
theorem dX3_leastTo_4 : decode cX3_leastTo 4 = .ok (.iload_n 1, 1) := by decide +kernel
theorem dX3_leastTo_5 : decode cX3_leastTo 5 = .ok (.aload_n 0, 1) := by decide +kernel
theorem dX3_leastTo_6 : decode cX3_leastTo 6 = .ok (.getfield 9, 3) := by decide +kernel
theorem dX3_leastTo_9 : decode cX3_leastTo 9 = .ok (.if_icmp .lt 5, 3) := by decide +kernel
theorem dX3_leastTo_12 : decode cX3_leastTo 12 = .ok (.iconst (-1), 1) := by decide +kernel
theorem dX3_leastTo_13 : decode cX3_leastTo 13 = .ok (.ireturn, 1) := by decide +kernel
theorem dX3_leastTo_14 : decode cX3_leastTo 14 = .ok (.iconst 0, 1) := by decide +kernel
theorem dX3_leastTo_15 : decode cX3_leastTo 15 = .ok (.istore_n 2, 1) := by decide +kernel
theorem dX3_leastTo_16 : decode cX3_leastTo 16 = .ok (.iload_n 2, 1) := by decide +kernel
theorem dX3_leastTo_17 : decode cX3_leastTo 17 = .ok (.aload_n 0, 1) := by decide +kernel
theorem dX3_leastTo_18 : decode cX3_leastTo 18 = .ok (.getfield 9, 3) := by decide +kernel
theorem dX3_leastTo_21 : decode cX3_leastTo 21 = .ok (.if_icmp .ge 20, 3) := by decide +kernel
theorem dX3_leastTo_24 : decode cX3_leastTo 24 = .ok (.aload_n 0, 1) := by decide +kernel
theorem dX3_leastTo_25 : decode cX3_leastTo 25 = .ok (.iload_n 1, 1) := by decide +kernel
theorem dX3_leastTo_26 : decode cX3_leastTo 26 = .ok (.iload_n 2, 1) := by decide +kernel
theorem dX3_leastTo_27 : decode cX3_leastTo 27 = .ok (.invokevirtual 35, 3) := by decide +kernel
theorem dX3_leastTo_30 : decode cX3_leastTo 30 = .ok (.ifCond .le 5, 3) := by decide +kernel
theorem dX3_leastTo_33 : decode cX3_leastTo 33 = .ok (.iload_n 2, 1) := by decide +kernel
theorem dX3_leastTo_34 : decode cX3_leastTo 34 = .ok (.ireturn, 1) := by decide +kernel
theorem dX3_leastTo_35 : decode cX3_leastTo 35 = .ok (.iinc 2 1, 3) := by decide +kernel
theorem dX3_leastTo_38 : decode cX3_leastTo 38 = .ok (.goto (-22), 3) := by decide +kernel
theorem dX3_leastTo_41 : decode cX3_leastTo 41 = .ok (.iconst (-1), 1) := by decide +kernel
theorem dX3_leastTo_42 : decode cX3_leastTo 42 = .ok (.ireturn, 1) := by decide +kernel
theorem dX3_wireOf_0 : decode cX3_wireOf 0 = .ok (.iload_n 1, 1) := by decide +kernel
theorem dX3_wireOf_1 : decode cX3_wireOf 1 = .ok (.aload_n 0, 1) := by decide +kernel
theorem dX3_wireOf_2 : decode cX3_wireOf 2 = .ok (.getfield 9, 3) := by decide +kernel
theorem dX3_wireOf_5 : decode cX3_wireOf 5 = .ok (.imul, 1) := by decide +kernel
theorem dX3_wireOf_6 : decode cX3_wireOf 6 = .ok (.iload_n 2, 1) := by decide +kernel
theorem dX3_wireOf_7 : decode cX3_wireOf 7 = .ok (.iadd, 1) := by decide +kernel
theorem dX3_wireOf_8 : decode cX3_wireOf 8 = .ok (.ireturn, 1) := by decide +kernel
theorem dX3_slotOf_0 : decode cX3_slotOf 0 = .ok (.iload_n 1, 1) := by decide +kernel
theorem dX3_slotOf_1 : decode cX3_slotOf 1 = .ok (.bipush 8, 2) := by decide +kernel
theorem dX3_slotOf_3 : decode cX3_slotOf 3 = .ok (.imul, 1) := by decide +kernel
theorem dX3_slotOf_4 : decode cX3_slotOf 4 = .ok (.aload_n 0, 1) := by decide +kernel
theorem dX3_slotOf_5 : decode cX3_slotOf 5 = .ok (.getfield 19, 3) := by decide +kernel
theorem dX3_slotOf_8 : decode cX3_slotOf 8 = .ok (.iload_n 1, 1) := by decide +kernel
theorem dX3_slotOf_9 : decode cX3_slotOf 9 = .ok (.iaload, 1) := by decide +kernel
theorem dX3_slotOf_10 : decode cX3_slotOf 10 = .ok (.iload_n 2, 1) := by decide +kernel
theorem dX3_slotOf_11 : decode cX3_slotOf 11 = .ok (.iadd, 1) := by decide +kernel
theorem dX3_slotOf_12 : decode cX3_slotOf 12 = .ok (.bipush 8, 2) := by decide +kernel
theorem dX3_slotOf_14 : decode cX3_slotOf 14 = .ok (.irem, 1) := by decide +kernel
theorem dX3_slotOf_15 : decode cX3_slotOf 15 = .ok (.iadd, 1) := by decide +kernel
theorem dX3_slotOf_16 : decode cX3_slotOf 16 = .ok (.iconst 3, 1) := by decide +kernel
theorem dX3_slotOf_17 : decode cX3_slotOf 17 = .ok (.imul, 1) := by decide +kernel
theorem dX3_slotOf_18 : decode cX3_slotOf 18 = .ok (.ireturn, 1) := by decide +kernel
