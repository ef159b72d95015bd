set_option maxRecDepth 20000 in
theorem ggX4_init_X3_init : GoodIn wsX4_init wsX3_init := goodIn_r _ [29, 30, 2, 3, 31, 12, 32, 33, 34, 35, 98, 99, 100, 101, 102] (by decide +kernel) (by decide +kernel)
set_option maxRecDepth 20000 in
theorem gX4_init_X3_init : GoodIn wsX4_init (wsX3_init) := ggX4_init_X3_init
set_option maxRecDepth 20000 in
theorem ggX4_init_X4_quorumOf : GoodIn wsX4_init wsX4_quorumOf := goodIn_r _ [39] (by decide +kernel) (by decide +kernel)
set_option maxRecDepth 20000 in
theorem gX4_init_X4_quorumOf : GoodIn wsX4_init (va_wsS RX4 50 yX4_quorumOf wsX4_quorumOf) := goodIn_app (goodIn_of _ (by decide +kernel)) ggX4_init_X4_quorumOf
set_option maxRecDepth 20000 in
theorem ggX4_init_X0_init : GoodIn wsX4_init wsX0_init := goodIn_r _ [41, 42, 2, 3] (by decide +kernel) (by decide +kernel)
set_option maxRecDepth 20000 in
theorem gX4_init_X0_init_n53 : GoodIn wsX4_init (wsX0_init) := ggX4_init_X0_init
set_option maxRecDepth 20000 in
theorem ggX4_init_X2_init : GoodIn wsX4_init wsX2_init := goodIn_r _ [45, 46, 2, 3, 47, 48, 49, 50, 51, 52, 53, 54, 12, 55, 56, 112, 113, 114, 108, 109, 110, 111] (by decide +kernel) (by decide +kernel)
set_option maxRecDepth 20000 in
theorem gX4_init_X2_init : GoodIn wsX4_init (wsX2_init) := ggX4_init_X2_init
set_option maxRecDepth 20000 in
theorem ggX4_init_X4_init_ : GoodIn wsX4_init wsX4_init_ := goodIn_r _ [60, 11, 14, 16, 18, 22, 61, 62, 63, 64, 24, 65, 66, 67, 68, 69, 70, 71, 72, 73, 74, 75, 76, 77, 26, 78, 50, 79, 80, 81, 82, 83, 84, 85, 86, 87, 88, 89, 21, 90, 34, 33, 31, 35, 91, 92, 93, 94, 95, 96, 97, 103, 104, 105, 106, 107, 108, 109, 110, 111, 112, 113, 114, 98, 99, 100, 101, 102] (by decide +kernel) (by decide +kernel)
set_option maxRecDepth 20000 in
theorem gX4_init_X4_init_ : GoodIn wsX4_init (wsV RX4 55 RX4 yX4_init_ wsX4_init_) := goodIn_app (goodIn_of _ (by decide +kernel)) ggX4_init_X4_init_
theorem dX4_init_0 : decode cX4_init 0 = .ok (.aload_n 0, 1) := by decide +kernel
theorem dX4_init_1 : decode cX4_init 1 = .ok (.invokespecial 1, 3) := by decide +kernel
theorem dX4_init_4 : decode cX4_init 4 = .ok (.iload_n 1, 1) := by decide +kernel
theorem dX4_init_5 : decode cX4_init 5 = .ok (.iconst 1, 1) := by decide +kernel
theorem dX4_init_6 : decode cX4_init 6 = .ok (.invokestatic 7, 3) := by decide +kernel
theorem dX4_init_9 : decode cX4_init 9 = .ok (.iconst 4, 1) := by decide +kernel
theorem dX4_init_10 : decode cX4_init 10 = .ok (.invokestatic 15, 3) := by decide +kernel
theorem dX4_init_13 : decode cX4_init 13 = .ok (.istore_n 2, 1) := by decide +kernel
theorem dX4_init_14 : decode cX4_init 14 = .ok (.aload_n 0, 1) := by decide +kernel
theorem dX4_init_15 : decode cX4_init 15 = .ok (.iload_n 2, 1) := by decide +kernel
theorem dX4_init_16 : decode cX4_init 16 = .ok (.iload_n 2, 1) := by decide +kernel
theorem dX4_init_17 : decode cX4_init 17 = .ok (.imul, 1) := by decide +kernel
theorem dX4_init_18 : decode cX4_init 18 = .ok (.putfield 18, 3) := by decide +kernel
theorem dX4_init_21 : decode cX4_init 21 = .ok (.aload_n 0, 1) := by decide +kernel
theorem dX4_init_22 : decode cX4_init 22 = .ok (.aload_n 0, 1) := by decide +kernel
theorem dX4_init_23 : decode cX4_init 23 = .ok (.getfield 18, 3) := by decide +kernel
theorem dX4_init_26 : decode cX4_init 26 = .ok (.newarray .int, 2) := by decide +kernel
theorem dX4_init_28 : decode cX4_init 28 = .ok (.putfield 22, 3) := by decide +kernel
theorem dX4_init_31 : decode cX4_init 31 = .ok (.aload_n 0, 1) := by decide +kernel
theorem dX4_init_32 : decode cX4_init 32 = .ok (.aload_n 0, 1) := by decide +kernel
theorem dX4_init_33 : decode cX4_init 33 = .ok (.getfield 18, 3) := by decide +kernel
theorem dX4_init_36 : decode cX4_init 36 = .ok (.newarray .int, 2) := by decide +kernel
theorem dX4_init_38 : decode cX4_init 38 = .ok (.putfield 26, 3) := by decide +kernel
theorem dX4_init_41 : decode cX4_init 41 = .ok (.aload_n 0, 1) := by decide +kernel
theorem dX4_init_42 : decode cX4_init 42 = .ok (.aload_n 0, 1) := by decide +kernel
theorem dX4_init_43 : decode cX4_init 43 = .ok (.getfield 18, 3) := by decide +kernel
theorem dX4_init_46 : decode cX4_init 46 = .ok (.anewarray 29, 3) := by decide +kernel
theorem dX4_init_49 : decode cX4_init 49 = .ok (.putfield 31, 3) := by decide +kernel
theorem dX4_init_52 : decode cX4_init 52 = .ok (.aload_n 0, 1) := by decide +kernel
theorem dX4_init_53 : decode cX4_init 53 = .ok (.aload_n 0, 1) := by decide +kernel
theorem dX4_init_54 : decode cX4_init 54 = .ok (.getfield 18, 3) := by decide +kernel
theorem dX4_init_57 : decode cX4_init 57 = .ok (.anewarray 35, 3) := by decide +kernel
theorem dX4_init_60 : decode cX4_init 60 = .ok (.putfield 37, 3) := by decide +kernel
theorem dX4_init_63 : decode cX4_init 63 = .ok (.aload_n 0, 1) := by decide +kernel
theorem dX4_init_64 : decode cX4_init 64 = .ok (.new 41, 3) := by decide +kernel
theorem dX4_init_67 : decode cX4_init 67 = .ok (.dup, 1) := by decide +kernel
theorem dX4_init_68 : decode cX4_init 68 = .ok (.aload_n 0, 1) := by decide +kernel
theorem dX4_init_69 : decode cX4_init 69 = .ok (.getfield 18, 3) := by decide +kernel
theorem dX4_init_72 : decode cX4_init 72 = .ok (.invokespecial 43, 3) := by decide +kernel
theorem dX4_init_75 : decode cX4_init 75 = .ok (.putfield 46, 3) := by decide +kernel
theorem dX4_init_78 : decode cX4_init 78 = .ok (.iconst 0, 1) := by decide +kernel
theorem dX4_init_79 : decode cX4_init 79 = .ok (.istore_n 3, 1) := by decide +kernel
theorem dX4_init_80 : decode cX4_init 80 = .ok (.iload_n 3, 1) := by decide +kernel
theorem dX4_init_81 : decode cX4_init 81 = .ok (.aload_n 0, 1) := by decide +kernel
theorem dX4_init_82 : decode cX4_init 82 = .ok (.getfield 18, 3) := by decide +kernel
theorem dX4_init_85 : decode cX4_init 85 = .ok (.if_icmp .ge 51, 3) := by decide +kernel
theorem dX4_init_88 : decode cX4_init 88 = .ok (.aload_n 0, 1) := by decide +kernel
theorem dX4_init_89 : decode cX4_init 89 = .ok (.getfield 22, 3) := by decide +kernel
theorem dX4_init_92 : decode cX4_init 92 = .ok (.iload_n 3, 1) := by decide +kernel
theorem dX4_init_93 : decode cX4_init 93 = .ok (.iload_n 3, 1) := by decide +kernel
theorem dX4_init_94 : decode cX4_init 94 = .ok (.iload_n 2, 1) := by decide +kernel
theorem dX4_init_95 : decode cX4_init 95 = .ok (.invokestatic 50, 3) := by decide +kernel
theorem dX4_init_98 : decode cX4_init 98 = .ok (.iastore, 1) := by decide +kernel
theorem dX4_init_99 : decode cX4_init 99 = .ok (.aload_n 0, 1) := by decide +kernel
theorem dX4_init_100 : decode cX4_init 100 = .ok (.getfield 31, 3) := by decide +kernel
theorem dX4_init_103 : decode cX4_init 103 = .ok (.iload_n 3, 1) := by decide +kernel
theorem dX4_init_104 : decode cX4_init 104 = .ok (.new 29, 3) := by decide +kernel
theorem dX4_init_107 : decode cX4_init 107 = .ok (.dup, 1) := by decide +kernel
theorem dX4_init_108 : decode cX4_init 108 = .ok (.invokespecial 53, 3) := by decide +kernel
theorem dX4_init_111 : decode cX4_init 111 = .ok (.aastore, 1) := by decide +kernel
theorem dX4_init_112 : decode cX4_init 112 = .ok (.aload_n 0, 1) := by decide +kernel
theorem dX4_init_113 : decode cX4_init 113 = .ok (.getfield 37, 3) := by decide +kernel
theorem dX4_init_116 : decode cX4_init 116 = .ok (.iload_n 3, 1) := by decide +kernel
theorem dX4_init_117 : decode cX4_init 117 = .ok (.new 35, 3) := by decide +kernel
theorem dX4_init_120 : decode cX4_init 120 = .ok (.dup, 1) := by decide +kernel
theorem dX4_init_121 : decode cX4_init 121 = .ok (.iconst 2, 1) := by decide +kernel
theorem dX4_init_122 : decode cX4_init 122 = .ok (.iload_n 2, 1) := by decide +kernel
theorem dX4_init_123 : decode cX4_init 123 = .ok (.imul, 1) := by decide +kernel
theorem dX4_init_124 : decode cX4_init 124 = .ok (.iconst 1, 1) := by decide +kernel
theorem dX4_init_125 : decode cX4_init 125 = .ok (.isub, 1) := by decide +kernel
theorem dX4_init_126 : decode cX4_init 126 = .ok (.invokespecial 54, 3) := by decide +kernel
theorem dX4_init_129 : decode cX4_init 129 = .ok (.aastore, 1) := by decide +kernel
theorem dX4_init_130 : decode cX4_init 130 = .ok (.iinc 3 1, 3) := by decide +kernel
theorem dX4_init_133 : decode cX4_init 133 = .ok (.goto (-53), 3) := by decide +kernel
theorem dX4_init_136 : decode cX4_init 136 = .ok (.aload_n 0, 1) := by decide +kernel
theorem dX4_init_137 : decode cX4_init 137 = .ok (.invokevirtual 55, 3) := by decide +kernel
theorem dX4_init_140 : decode cX4_init 140 = .ok (.return_, 1) := by decide +kernel
set_option maxRecDepth 20000 in
theorem ggX4_init__X0_becomeIdle : GoodIn wsX4_init_ wsX0_becomeIdle := goodIn_r _ [11, 12, 13, 14, 15, 16, 10, 17, 18, 19, 20, 51, 52, 53, 54, 55] (by decide +kernel) (by decide +kernel)
set_option maxRecDepth 20000 in
theorem gX4_init__X0_becomeIdle : GoodIn wsX4_init_ (wsV RX4 58 RX0 yX0_becomeIdle wsX0_becomeIdle) := goodIn_app (goodIn_of _ (by decide +kernel)) ggX4_init__X0_becomeIdle
set_option maxRecDepth 20000 in
theorem ggX4_init__X2_forgetAll : GoodIn wsX4_init_ wsX2_forgetAll := goodIn_r _ [25, 26, 27, 28, 29, 30, 24, 31, 32, 33, 34, 56, 57, 58, 59, 60, 61, 62] (by decide +kernel) (by decide +kernel)
set_option maxRecDepth 20000 in
theorem gX4_init__X2_forgetAll : GoodIn wsX4_init_ (wsV RX4 61 RX2 yX2_forgetAll wsX2_forgetAll) := goodIn_app (goodIn_of _ (by decide +kernel)) ggX4_init__X2_forgetAll
set_option maxRecDepth 20000 in
theorem ggX4_init__X3_emptyAll : GoodIn wsX4_init_ wsX3_emptyAll := goodIn_r _ [39, 40, 41, 42, 43, 63, 64, 65, 66, 67] (by decide +kernel) (by decide +kernel)
set_option maxRecDepth 20000 in
theorem gX4_init__X3_emptyAll : GoodIn wsX4_init_ (wsV RX4 64 RX3 yX3_emptyAll wsX3_emptyAll) := goodIn_app (goodIn_of _ (by decide +kernel)) ggX4_init__X3_emptyAll
theorem dX4_init__0 : decode cX4_init_ 0 = .ok (.iconst 0, 1) := by decide +kernel
theorem dX4_init__1 : decode cX4_init_ 1 = .ok (.istore_n 1, 1) := by decide +kernel
theorem dX4_init__2 : decode cX4_init_ 2 = .ok (.iload_n 1, 1) := by decide +kernel
theorem dX4_init__3 : decode cX4_init_ 3 = .ok (.aload_n 0, 1) := by decide +kernel
theorem dX4_init__4 : decode cX4_init_ 4 = .ok (.getfield 18, 3) := by decide +kernel
theorem dX4_init__7 : decode cX4_init_ 7 = .ok (.if_icmp .ge 34, 3) := by decide +kernel
theorem dX4_init__10 : decode cX4_init_ 10 = .ok (.aload_n 0, 1) := by decide +kernel
theorem dX4_init__11 : decode cX4_init_ 11 = .ok (.getfield 26, 3) := by decide +kernel
theorem dX4_init__14 : decode cX4_init_ 14 = .ok (.iload_n 1, 1) := by decide +kernel
theorem dX4_init__15 : decode cX4_init_ 15 = .ok (.iconst 0, 1) := by decide +kernel
theorem dX4_init__16 : decode cX4_init_ 16 = .ok (.iastore, 1) := by decide +kernel
theorem dX4_init__17 : decode cX4_init_ 17 = .ok (.aload_n 0, 1) := by decide +kernel
theorem dX4_init__18 : decode cX4_init_ 18 = .ok (.getfield 31, 3) := by decide +kernel
theorem dX4_init__21 : decode cX4_init_ 21 = .ok (.iload_n 1, 1) := by decide +kernel
theorem dX4_init__22 : decode cX4_init_ 22 = .ok (.aaload, 1) := by decide +kernel
theorem dX4_init__23 : decode cX4_init_ 23 = .ok (.invokevirtual 58, 3) := by decide +kernel
theorem dX4_init__26 : decode cX4_init_ 26 = .ok (.aload_n 0, 1) := by decide +kernel
theorem dX4_init__27 : decode cX4_init_ 27 = .ok (.getfield 37, 3) := by decide +kernel
theorem dX4_init__30 : decode cX4_init_ 30 = .ok (.iload_n 1, 1) := by decide +kernel
theorem dX4_init__31 : decode cX4_init_ 31 = .ok (.aaload, 1) := by decide +kernel
theorem dX4_init__32 : decode cX4_init_ 32 = .ok (.invokevirtual 61, 3) := by decide +kernel
theorem dX4_init__35 : decode cX4_init_ 35 = .ok (.iinc 1 1, 3) := by decide +kernel
theorem dX4_init__38 : decode cX4_init_ 38 = .ok (.goto (-36), 3) := by decide +kernel
theorem dX4_init__41 : decode cX4_init_ 41 = .ok (.aload_n 0, 1) := by decide +kernel
theorem dX4_init__42 : decode cX4_init_ 42 = .ok (.getfield 46, 3) := by decide +kernel
theorem dX4_init__45 : decode cX4_init_ 45 = .ok (.invokevirtual 64, 3) := by decide +kernel
theorem dX4_init__48 : decode cX4_init_ 48 = .ok (.aload_n 0, 1) := by decide +kernel
theorem dX4_init__49 : decode cX4_init_ 49 = .ok (.iconst 0, 1) := by decide +kernel
theorem dX4_init__50 : decode cX4_init_ 50 = .ok (.putfield 67, 3) := by decide +kernel
theorem dX4_init__53 : decode cX4_init_ 53 = .ok (.return_, 1) := by decide +kernel
set_option maxRecDepth 20000 in
theorem ggX4_request_X4_isNode : GoodIn wsX4_request wsX4_isNode := goodIn_r _ [9, 10, 56, 57, 58, 59, 60, 61, 62] (by decide +kernel) (by decide +kernel)
set_option maxRecDepth 20000 in
theorem gX4_request_X4_isNode : GoodIn wsX4_request (wsV RX4 70 RX4 yX4_isNode wsX4_isNode) := goodIn_app (goodIn_of _ (by decide +kernel)) ggX4_request_X4_isNode
set_option maxRecDepth 20000 in
theorem ggX4_request_X0_becomeAsking : GoodIn wsX4_request wsX0_becomeAsking := goodIn_r _ [15, 16, 17, 18, 19, 20, 14, 21, 22, 23, 24, 63, 64, 65, 66, 67] (by decide +kernel) (by decide +kernel)
set_option maxRecDepth 20000 in
theorem gX4_request_X0_becomeAsking : GoodIn wsX4_request (wsV RX4 77 RX0 yX0_becomeAsking wsX0_becomeAsking) := goodIn_app (goodIn_of _ (by decide +kernel)) ggX4_request_X0_becomeAsking
set_option maxRecDepth 20000 in
theorem ggX4_request_X4_sendToQuorum : GoodIn wsX4_request wsX4_sendToQuorum := goodIn_r _ [28, 10, 29, 30, 31, 8, 32, 33, 34, 35, 36, 37, 3, 38, 39, 40, 41, 42, 43, 44, 45, 46, 47, 48, 49, 50, 51, 52, 53, 54, 55, 56, 57, 58, 59, 60, 61, 62, 68, 69, 70, 71, 72] (by decide +kernel) (by decide +kernel)
set_option maxRecDepth 20000 in
theorem gX4_request_X4_sendToQuorum : GoodIn wsX4_request (wsV RX4 83 RX4 yX4_sendToQuorum wsX4_sendToQuorum) := goodIn_app (goodIn_of _ (by decide +kernel)) ggX4_request_X4_sendToQuorum
theorem dX4_request_0 : decode cX4_request 0 = .ok (.aload_n 0, 1) := by decide +kernel
theorem dX4_request_1 : decode cX4_request 1 = .ok (.iload_n 1, 1) := by decide +kernel
theorem dX4_request_2 : decode cX4_request 2 = .ok (.invokevirtual 70, 3) := by decide +kernel
theorem dX4_request_5 : decode cX4_request 5 = .ok (.ifCond .ne 5, 3) := by decide +kernel
theorem dX4_request_8 : decode cX4_request 8 = .ok (.iconst (-1), 1) := by decide +kernel
theorem dX4_request_9 : decode cX4_request 9 = .ok (.ireturn, 1) := by decide +kernel
theorem dX4_request_10 : decode cX4_request 10 = .ok (.aload_n 0, 1) := by decide +kernel
theorem dX4_request_11 : decode cX4_request 11 = .ok (.getfield 31, 3) := by decide +kernel
theorem dX4_request_14 : decode cX4_request 14 = .ok (.iload_n 1, 1) := by decide +kernel
theorem dX4_request_15 : decode cX4_request 15 = .ok (.aaload, 1) := by decide +kernel
theorem dX4_request_16 : decode cX4_request 16 = .ok (.astore_n 2, 1) := by decide +kernel
theorem dX4_request_17 : decode cX4_request 17 = .ok (.aload_n 2, 1) := by decide +kernel
theorem dX4_request_18 : decode cX4_request 18 = .ok (.getfield 74, 3) := by decide +kernel
theorem dX4_request_21 : decode cX4_request 21 = .ok (.ifCond .eq 5, 3) := by decide +kernel
theorem dX4_request_24 : decode cX4_request 24 = .ok (.iconst 1, 1) := by decide +kernel
theorem dX4_request_25 : decode cX4_request 25 = .ok (.ireturn, 1) := by decide +kernel
theorem dX4_request_26 : decode cX4_request 26 = .ok (.aload_n 0, 1) := by decide +kernel
theorem dX4_request_27 : decode cX4_request 27 = .ok (.getfield 26, 3) := by decide +kernel
theorem dX4_request_30 : decode cX4_request 30 = .ok (.iload_n 1, 1) := by decide +kernel
theorem dX4_request_31 : decode cX4_request 31 = .ok (.dup2, 1) := by decide +kernel
theorem dX4_request_32 : decode cX4_request 32 = .ok (.iaload, 1) := by decide +kernel
theorem dX4_request_33 : decode cX4_request 33 = .ok (.iconst 1, 1) := by decide +kernel
theorem dX4_request_34 : decode cX4_request 34 = .ok (.iadd, 1) := by decide +kernel
theorem dX4_request_35 : decode cX4_request 35 = .ok (.iastore, 1) := by decide +kernel
theorem dX4_request_36 : decode cX4_request 36 = .ok (.aload_n 2, 1) := by decide +kernel
theorem dX4_request_37 : decode cX4_request 37 = .ok (.aload_n 0, 1) := by decide +kernel
theorem dX4_request_38 : decode cX4_request 38 = .ok (.getfield 26, 3) := by decide +kernel
theorem dX4_request_41 : decode cX4_request 41 = .ok (.iload_n 1, 1) := by decide +kernel
theorem dX4_request_42 : decode cX4_request 42 = .ok (.iaload, 1) := by decide +kernel
theorem dX4_request_43 : decode cX4_request 43 = .ok (.invokevirtual 77, 3) := by decide +kernel
theorem dX4_request_46 : decode cX4_request 46 = .ok (.aload_n 0, 1) := by decide +kernel
theorem dX4_request_47 : decode cX4_request 47 = .ok (.iload_n 1, 1) := by decide +kernel
theorem dX4_request_48 : decode cX4_request 48 = .ok (.iconst 1, 1) := by decide +kernel
theorem dX4_request_49 : decode cX4_request 49 = .ok (.aload_n 2, 1) := by decide +kernel
theorem dX4_request_50 : decode cX4_request 50 = .ok (.getfield 80, 3) := by decide +kernel
theorem dX4_request_53 : decode cX4_request 53 = .ok (.invokevirtual 83, 3) := by decide +kernel
theorem dX4_request_56 : decode cX4_request 56 = .ok (.iconst 0, 1) := by decide +kernel
theorem dX4_request_57 : decode cX4_request 57 = .ok (.ireturn, 1) := by decide +kernel
set_option maxRecDepth 20000 in
theorem ggX4_deliver_X4_isWire : GoodIn wsX4_deliver wsX4_isWire := goodIn_r _ [5, 6, 7, 8, 4, 9, 10, 163, 164, 165, 166, 167, 168, 169] (by decide +kernel) (by decide +kernel)
set_option maxRecDepth 20000 in
theorem gX4_deliver_X4_isWire : GoodIn wsX4_deliver (wsV RX4 87 RX4 yX4_isWire wsX4_isWire) := goodIn_app (goodIn_of _ (by decide +kernel)) ggX4_deliver_X4_isWire
set_option maxRecDepth 20000 in
theorem ggX4_deliver_X4_deliverOldest : GoodIn wsX4_deliver wsX4_deliverOldest := goodIn_r _ [14, 15, 16, 17, 18, 19, 20, 21, 22, 23, 24, 25, 26, 27, 28, 29, 30, 31, 32, 33, 34, 35, 36, 37, 38, 39, 40, 41, 42, 43, 44, 45, 46, 47, 48, 49, 4, 50, 51, 52, 53, 54, 55, 56, 57, 58, 59, 60, 61, 62, 63, 64, 65, 66, 67, 68, 69, 70, 71, 72, 73, 74, 75, 76, 77, 78, 79, 80, 81, 82, 83, 84, 85, 86, 87, 88, 89, 90, 91, 92, 93, 94, 95, 96, 97, 98, 99, 100, 101, 102, 103, 104, 105, 106, 107, 108, 109, 110, 111, 112, 113, 114, 115, 116, 117, 118, 119, 120, 121, 122, 123, 124, 125, 126, 127, 128, 129, 130, 131, 132, 133, 134, 135, 136, 137, 138, 139, 140, 141, 142, 143, 144, 145, 146, 147, 148, 149, 150, 151, 152, 153, 154, 155, 156, 157, 158, 159, 160, 161, 162, 10, 163, 164, 165, 166, 167, 168, 169, 170, 171, 172, 173, 174, 175, 176, 177, 178, 179, 180, 181, 182, 183, 184, 185, 186] (by decide +kernel) (by decide +kernel)
set_option maxRecDepth 20000 in
theorem gX4_deliver_X4_deliverOldest : GoodIn wsX4_deliver (wsV RX4 91 RX4 yX4_deliverOldest wsX4_deliverOldest) := goodIn_app (goodIn_of _ (by decide +kernel)) ggX4_deliver_X4_deliverOldest
theorem dX4_deliver_0 : decode cX4_deliver 0 = .ok (.aload_n 0, 1) := by decide +kernel
theorem dX4_deliver_1 : decode cX4_deliver 1 = .ok (.iload_n 1, 1) := by decide +kernel
theorem dX4_deliver_2 : decode cX4_deliver 2 = .ok (.iload_n 2, 1) := by decide +kernel
theorem dX4_deliver_3 : decode cX4_deliver 3 = .ok (.invokevirtual 87, 3) := by decide +kernel
theorem dX4_deliver_6 : decode cX4_deliver 6 = .ok (.ifCond .ne 5, 3) := by decide +kernel
theorem dX4_deliver_9 : decode cX4_deliver 9 = .ok (.iconst (-1), 1) := by decide +kernel
theorem dX4_deliver_10 : decode cX4_deliver 10 = .ok (.ireturn, 1) := by decide +kernel
theorem dX4_deliver_11 : decode cX4_deliver 11 = .ok (.aload_n 0, 1) := by decide +kernel
theorem dX4_deliver_12 : decode cX4_deliver 12 = .ok (.iload_n 1, 1) := by decide +kernel
theorem dX4_deliver_13 : decode cX4_deliver 13 = .ok (.iload_n 2, 1) := by decide +kernel
theorem dX4_deliver_14 : decode cX4_deliver 14 = .ok (.invokevirtual 91, 3) := by decide +kernel
theorem dX4_deliver_17 : decode cX4_deliver 17 = .ok (.ireturn, 1) := by decide +kernel
set_option maxRecDepth 20000 in
theorem ggX4_enter_X4_isNode : GoodIn wsX4_enter wsX4_isNode := goodIn_r _ [10, 11, 12, 13, 14, 15, 16, 17, 18] (by decide +kernel) (by decide +kernel)
set_option maxRecDepth 20000 in
theorem gX4_enter_X4_isNode : GoodIn wsX4_enter (wsV RX4 70 RX4 yX4_isNode wsX4_isNode) := goodIn_app (goodIn_of _ (by decide +kernel)) ggX4_enter_X4_isNode
theorem dX4_enter_0 : decode cX4_enter 0 = .ok (.aload_n 0, 1) := by decide +kernel
theorem dX4_enter_1 : decode cX4_enter 1 = .ok (.iload_n 1, 1) := by decide +kernel
theorem dX4_enter_2 : decode cX4_enter 2 = .ok (.invokevirtual 70, 3) := by decide +kernel
theorem dX4_enter_5 : decode cX4_enter 5 = .ok (.ifCond .ne 5, 3) := by decide +kernel
theorem dX4_enter_8 : decode cX4_enter 8 = .ok (.iconst 0, 1) := by decide +kernel
theorem dX4_enter_9 : decode cX4_enter 9 = .ok (.ireturn, 1) := by decide +kernel
theorem dX4_enter_10 : decode cX4_enter 10 = .ok (.aload_n 0, 1) := by decide +kernel
theorem dX4_enter_11 : decode cX4_enter 11 = .ok (.getfield 31, 3) := by decide +kernel
theorem dX4_enter_14 : decode cX4_enter 14 = .ok (.iload_n 1, 1) := by decide +kernel
theorem dX4_enter_15 : decode cX4_enter 15 = .ok (.aaload, 1) := by decide +kernel
theorem dX4_enter_16 : decode cX4_enter 16 = .ok (.astore_n 2, 1) := by decide +kernel
theorem dX4_enter_17 : decode cX4_enter 17 = .ok (.aload_n 2, 1) := by decide +kernel
theorem dX4_enter_18 : decode cX4_enter 18 = .ok (.getfield 74, 3) := by decide +kernel
theorem dX4_enter_21 : decode cX4_enter 21 = .ok (.iconst 1, 1) := by decide +kernel
theorem dX4_enter_22 : decode cX4_enter 22 = .ok (.if_icmp .ne 23, 3) := by decide +kernel
theorem dX4_enter_25 : decode cX4_enter 25 = .ok (.aload_n 2, 1) := by decide +kernel
theorem dX4_enter_26 : decode cX4_enter 26 = .ok (.getfield 94, 3) := by decide +kernel
theorem dX4_enter_29 : decode cX4_enter 29 = .ok (.aload_n 0, 1) := by decide +kernel
theorem dX4_enter_30 : decode cX4_enter 30 = .ok (.getfield 22, 3) := by decide +kernel
theorem dX4_enter_33 : decode cX4_enter 33 = .ok (.iload_n 1, 1) := by decide +kernel
theorem dX4_enter_34 : decode cX4_enter 34 = .ok (.iaload, 1) := by decide +kernel
theorem dX4_enter_35 : decode cX4_enter 35 = .ok (.iand, 1) := by decide +kernel
theorem dX4_enter_36 : decode cX4_enter 36 = .ok (.aload_n 0, 1) := by decide +kernel
theorem dX4_enter_37 : decode cX4_enter 37 = .ok (.getfield 22, 3) := by decide +kernel
theorem dX4_enter_40 : decode cX4_enter 40 = .ok (.iload_n 1, 1) := by decide +kernel
theorem dX4_enter_41 : decode cX4_enter 41 = .ok (.iaload, 1) := by decide +kernel
theorem dX4_enter_42 : decode cX4_enter 42 = .ok (.if_icmp .eq 5, 3) := by decide +kernel
theorem dX4_enter_45 : decode cX4_enter 45 = .ok (.iconst 0, 1) := by decide +kernel
theorem dX4_enter_46 : decode cX4_enter 46 = .ok (.ireturn, 1) := by decide +kernel
theorem dX4_enter_47 : decode cX4_enter 47 = .ok (.aload_n 2, 1) := by decide +kernel
theorem dX4_enter_48 : decode cX4_enter 48 = .ok (.iconst 2, 1) := by decide +kernel
theorem dX4_enter_49 : decode cX4_enter 49 = .ok (.putfield 74, 3) := by decide +kernel
theorem dX4_enter_52 : decode cX4_enter 52 = .ok (.aload_n 0, 1) := by decide +kernel
theorem dX4_enter_53 : decode cX4_enter 53 = .ok (.dup, 1) := by decide +kernel
theorem dX4_enter_54 : decode cX4_enter 54 = .ok (.getfield 67, 3) := by decide +kernel
theorem dX4_enter_57 : decode cX4_enter 57 = .ok (.iconst 1, 1) := by decide +kernel
theorem dX4_enter_58 : decode cX4_enter 58 = .ok (.iadd, 1) := by decide +kernel
theorem dX4_enter_59 : decode cX4_enter 59 = .ok (.putfield 67, 3) := by decide +kernel
theorem dX4_enter_62 : decode cX4_enter 62 = .ok (.iconst 1, 1) := by decide +kernel
theorem dX4_enter_63 : decode cX4_enter 63 = .ok (.ireturn, 1) := by decide +kernel
set_option maxRecDepth 20000 in
theorem ggX4_release_X4_isNode : GoodIn wsX4_release wsX4_isNode := goodIn_r _ [8, 9, 56, 57, 58, 59, 60, 61, 62] (by decide +kernel) (by decide +kernel)
set_option maxRecDepth 20000 in
theorem gX4_release_X4_isNode : GoodIn wsX4_release (wsV RX4 70 RX4 yX4_isNode wsX4_isNode) := goodIn_app (goodIn_of _ (by decide +kernel)) ggX4_release_X4_isNode
set_option maxRecDepth 20000 in
theorem ggX4_release_X0_becomeIdle : GoodIn wsX4_release wsX0_becomeIdle := goodIn_r _ [14, 15, 16, 17, 18, 19, 13, 20, 21, 22, 23, 63, 64, 65, 66, 67] (by decide +kernel) (by decide +kernel)
set_option maxRecDepth 20000 in
theorem gX4_release_X0_becomeIdle : GoodIn wsX4_release (wsV RX4 58 RX0 yX0_becomeIdle wsX0_becomeIdle) := goodIn_app (goodIn_of _ (by decide +kernel)) ggX4_release_X0_becomeIdle
set_option maxRecDepth 20000 in
theorem ggX4_release_X4_sendToQuorum : GoodIn wsX4_release wsX4_sendToQuorum := goodIn_r _ [27, 9, 28, 29, 30, 7, 31, 32, 33, 34, 35, 36, 37, 38, 39, 40, 41, 42, 43, 44, 45, 46, 47, 48, 49, 50, 51, 52, 53, 54, 55, 56, 57, 58, 59, 60, 61, 62, 68, 69, 70, 71, 72] (by decide +kernel) (by decide +kernel)
set_option maxRecDepth 20000 in
theorem gX4_release_X4_sendToQuorum : GoodIn wsX4_release (wsV RX4 83 RX4 yX4_sendToQuorum wsX4_sendToQuorum) := goodIn_app (goodIn_of _ (by decide +kernel)) ggX4_release_X4_sendToQuorum
theorem dX4_release_0 : decode cX4_release 0 = .ok (.aload_n 0, 1) := by decide +kernel
theorem dX4_release_1 : decode cX4_release 1 = .ok (.iload_n 1, 1) := by decide +kernel
theorem dX4_release_2 : decode cX4_release 2 = .ok (.invokevirtual 70, 3) := by decide +kernel
theorem dX4_release_5 : decode cX4_release 5 = .ok (.ifCond .ne 5, 3) := by decide +kernel
theorem dX4_release_8 : decode cX4_release 8 = .ok (.iconst (-1), 1) := by decide +kernel
theorem dX4_release_9 : decode cX4_release 9 = .ok (.ireturn, 1) := by decide +kernel
theorem dX4_release_10 : decode cX4_release 10 = .ok (.aload_n 0, 1) := by decide +kernel
theorem dX4_release_11 : decode cX4_release 11 = .ok (.getfield 31, 3) := by decide +kernel
theorem dX4_release_14 : decode cX4_release 14 = .ok (.iload_n 1, 1) := by decide +kernel
theorem dX4_release_15 : decode cX4_release 15 = .ok (.aaload, 1) := by decide +kernel
theorem dX4_release_16 : decode cX4_release 16 = .ok (.astore_n 2, 1) := by decide +kernel
theorem dX4_release_17 : decode cX4_release 17 = .ok (.aload_n 2, 1) := by decide +kernel
theorem dX4_release_18 : decode cX4_release 18 = .ok (.getfield 74, 3) := by decide +kernel
theorem dX4_release_21 : decode cX4_release 21 = .ok (.iconst 2, 1) := by decide +kernel
theorem dX4_release_22 : decode cX4_release 22 = .ok (.if_icmp .eq 5, 3) := by decide +kernel
theorem dX4_release_25 : decode cX4_release 25 = .ok (.iconst 1, 1) := by decide +kernel
theorem dX4_release_26 : decode cX4_release 26 = .ok (.ireturn, 1) := by decide +kernel
theorem dX4_release_27 : decode cX4_release 27 = .ok (.aload_n 2, 1) := by decide +kernel
theorem dX4_release_28 : decode cX4_release 28 = .ok (.getfield 80, 3) := by decide +kernel
theorem dX4_release_31 : decode cX4_release 31 = .ok (.istore_n 3, 1) := by decide +kernel
theorem dX4_release_32 : decode cX4_release 32 = .ok (.aload_n 2, 1) := by decide +kernel
theorem dX4_release_33 : decode cX4_release 33 = .ok (.invokevirtual 58, 3) := by decide +kernel
theorem dX4_release_36 : decode cX4_release 36 = .ok (.aload_n 0, 1) := by decide +kernel
theorem dX4_release_37 : decode cX4_release 37 = .ok (.iload_n 1, 1) := by decide +kernel
theorem dX4_release_38 : decode cX4_release 38 = .ok (.iconst 3, 1) := by decide +kernel
theorem dX4_release_39 : decode cX4_release 39 = .ok (.iload_n 3, 1) := by decide +kernel
theorem dX4_release_40 : decode cX4_release 40 = .ok (.invokevirtual 83, 3) := by decide +kernel
theorem dX4_release_43 : decode cX4_release 43 = .ok (.iconst 0, 1) := by decide +kernel
theorem dX4_release_44 : decode cX4_release 44 = .ok (.ireturn, 1) := by decide +kernel
theorem dX4_holder_0 : decode cX4_holder 0 = .ok (.iconst 0, 1) := by decide +kernel
theorem dX4_holder_1 : decode cX4_holder 1 = .ok (.istore_n 1, 1) := by decide +kernel
theorem dX4_holder_2 : decode cX4_holder 2 = .ok (.iload_n 1, 1) := by decide +kernel
theorem dX4_holder_3 : decode cX4_holder 3 = .ok (.aload_n 0, 1) := by decide +kernel
theorem dX4_holder_4 : decode cX4_holder 4 = .ok (.getfield 18, 3) := by decide +kernel
theorem dX4_holder_7 : decode cX4_holder 7 = .ok (.if_icmp .ge 24, 3) := by decide +kernel
theorem dX4_holder_10 : decode cX4_holder 10 = .ok (.aload_n 0, 1) := by decide +kernel
theorem dX4_holder_11 : decode cX4_holder 11 = .ok (.getfield 31, 3) := by decide +kernel
theorem dX4_holder_14 : decode cX4_holder 14 = .ok (.iload_n 1, 1) := by decide +kernel
theorem dX4_holder_15 : decode cX4_holder 15 = .ok (.aaload, 1) := by decide +kernel
theorem dX4_holder_16 : decode cX4_holder 16 = .ok (.getfield 74, 3) := by decide +kernel
theorem dX4_holder_19 : decode cX4_holder 19 = .ok (.iconst 2, 1) := by decide +kernel
theorem dX4_holder_20 : decode cX4_holder 20 = .ok (.if_icmp .ne 5, 3) := by decide +kernel
theorem dX4_holder_23 : decode cX4_holder 23 = .ok (.iload_n 1, 1) := by decide +kernel
theorem dX4_holder_24 : decode cX4_holder 24 = .ok (.ireturn, 1) := by decide +kernel
theorem dX4_holder_25 : decode cX4_holder 25 = .ok (.iinc 1 1, 3) := by decide +kernel
theorem dX4_holder_28 : decode cX4_holder 28 = .ok (.goto (-26), 3) := by decide +kernel
theorem dX4_holder_31 : decode cX4_holder 31 = .ok (.iconst (-1), 1) := by decide +kernel
theorem dX4_holder_32 : decode cX4_holder 32 = .ok (.ireturn, 1) := by decide +kernel
set_option maxRecDepth 20000 in
theorem ggX4_votesOf_X4_isNode : GoodIn wsX4_votesOf wsX4_isNode := goodIn_r _ [7, 8, 16, 17, 18, 19, 20, 21, 22] (by decide +kernel) (by decide +kernel)
set_option maxRecDepth 20000 in
theorem gX4_votesOf_X4_isNode : GoodIn wsX4_votesOf (wsV RX4 70 RX4 yX4_isNode wsX4_isNode) := goodIn_app (goodIn_of _ (by decide +kernel)) ggX4_votesOf_X4_isNode
set_option maxRecDepth 20000 in
theorem ggX4_votesOf_J6_bitCount_0f7a4 : GoodIn wsX4_votesOf wsJ6_bitCount_0f7a4 := goodIn_r _ [12, 13, 14, 15] (by decide +kernel) (by decide +kernel)
set_option maxRecDepth 20000 in
theorem gX4_votesOf_J6_bitCount_0f7a4 : GoodIn wsX4_votesOf (va_wsS RX4 97 yJ6_bitCount_0f7a4 wsJ6_bitCount_0f7a4) := goodIn_app (goodIn_of _ (by decide +kernel)) ggX4_votesOf_J6_bitCount_0f7a4
theorem dX4_votesOf_0 : decode cX4_votesOf 0 = .ok (.aload_n 0, 1) := by decide +kernel
theorem dX4_votesOf_1 : decode cX4_votesOf 1 = .ok (.iload_n 1, 1) := by decide +kernel
theorem dX4_votesOf_2 : decode cX4_votesOf 2 = .ok (.invokevirtual 70, 3) := by decide +kernel
theorem dX4_votesOf_5 : decode cX4_votesOf 5 = .ok (.ifCond .eq 18, 3) := by decide +kernel
theorem dX4_votesOf_8 : decode cX4_votesOf 8 = .ok (.aload_n 0, 1) := by decide +kernel
theorem dX4_votesOf_9 : decode cX4_votesOf 9 = .ok (.getfield 31, 3) := by decide +kernel
theorem dX4_votesOf_12 : decode cX4_votesOf 12 = .ok (.iload_n 1, 1) := by decide +kernel
theorem dX4_votesOf_13 : decode cX4_votesOf 13 = .ok (.aaload, 1) := by decide +kernel
theorem dX4_votesOf_14 : decode cX4_votesOf 14 = .ok (.getfield 94, 3) := by decide +kernel
theorem dX4_votesOf_17 : decode cX4_votesOf 17 = .ok (.invokestatic 97, 3) := by decide +kernel
theorem dX4_votesOf_20 : decode cX4_votesOf 20 = .ok (.goto 4, 3) := by decide +kernel
theorem dX4_votesOf_23 : decode cX4_votesOf 23 = .ok (.iconst (-1), 1) := by decide +kernel
theorem dX4_votesOf_24 : decode cX4_votesOf 24 = .ok (.ireturn, 1) := by decide +kernel
set_option maxRecDepth 20000 in
theorem ggX4_lockedFor_X4_isNode : GoodIn wsX4_lockedFor wsX4_isNode := goodIn_r _ [7, 8, 9, 10, 11, 12, 13, 14, 15] (by decide +kernel) (by decide +kernel)
set_option maxRecDepth 20000 in
theorem gX4_lockedFor_X4_isNode : GoodIn wsX4_lockedFor (wsV RX4 70 RX4 yX4_isNode wsX4_isNode) := goodIn_app (goodIn_of _ (by decide +kernel)) ggX4_lockedFor_X4_isNode
theorem dX4_lockedFor_0 : decode cX4_lockedFor 0 = .ok (.aload_n 0, 1) := by decide +kernel
theorem dX4_lockedFor_1 : decode cX4_lockedFor 1 = .ok (.iload_n 1, 1) := by decide +kernel
theorem dX4_lockedFor_2 : decode cX4_lockedFor 2 = .ok (.invokevirtual 70, 3) := by decide +kernel
theorem dX4_lockedFor_5 : decode cX4_lockedFor 5 = .ok (.ifCond .eq 15, 3) := by decide +kernel
theorem dX4_lockedFor_8 : decode cX4_lockedFor 8 = .ok (.aload_n 0, 1) := by decide +kernel
theorem dX4_lockedFor_9 : decode cX4_lockedFor 9 = .ok (.getfield 37, 3) := by decide +kernel
theorem dX4_lockedFor_12 : decode cX4_lockedFor 12 = .ok (.iload_n 1, 1) := by decide +kernel
theorem dX4_lockedFor_13 : decode cX4_lockedFor 13 = .ok (.aaload, 1) := by decide +kernel
theorem dX4_lockedFor_14 : decode cX4_lockedFor 14 = .ok (.getfield 103, 3) := by decide +kernel
theorem dX4_lockedFor_17 : decode cX4_lockedFor 17 = .ok (.goto 4, 3) := by decide +kernel
theorem dX4_lockedFor_20 : decode cX4_lockedFor 20 = .ok (.iconst (-1), 1) := by decide +kernel
theorem dX4_lockedFor_21 : decode cX4_lockedFor 21 = .ok (.ireturn, 1) := by decide +kernel
set_option maxRecDepth 20000 in
theorem ggX4_settle_X3_leastFrom : GoodIn wsX4_settle wsX3_leastFrom := goodIn_r _ [6, 7, 8, 171, 172, 173, 174, 175] (by decide +kernel) (by decide +kernel)
set_option maxRecDepth 20000 in
theorem gX4_settle_X3_leastFrom : GoodIn wsX4_settle (wsV RX4 106 RX3 yX3_leastFrom wsX3_leastFrom) := goodIn_app (goodIn_of _ (by decide +kernel)) ggX4_settle_X3_leastFrom
set_option maxRecDepth 20000 in
theorem ggX4_settle_X3_leastTo : GoodIn wsX4_settle wsX3_leastTo := goodIn_r _ [12, 7, 13, 14, 15, 5, 16, 17, 18, 19, 20, 21, 171, 172, 173, 174, 175] (by decide +kernel) (by decide +kernel)
set_option maxRecDepth 20000 in
theorem gX4_settle_X3_leastTo : GoodIn wsX4_settle (wsV RX4 110 RX3 yX3_leastTo wsX3_leastTo) := goodIn_app (goodIn_of _ (by decide +kernel)) ggX4_settle_X3_leastTo
set_option maxRecDepth 20000 in
theorem ggX4_settle_X4_deliverOldest : GoodIn wsX4_settle wsX4_deliverOldest := goodIn_r _ [26, 1, 27, 28, 29, 30, 31, 32, 14, 15, 5, 16, 17, 18, 19, 20, 21, 7, 33, 34, 35, 36, 37, 38, 39, 40, 41, 42, 43, 44, 45, 46, 8, 47, 48, 49, 25, 50, 51, 52, 53, 54, 55, 56, 57, 58, 59, 60, 61, 62, 63, 64, 65, 66, 67, 68, 69, 70, 71, 72, 73, 74, 75, 76, 77, 78, 79, 80, 81, 82, 83, 84, 85, 86, 87, 88, 89, 90, 91, 92, 93, 94, 95, 96, 97, 98, 99, 100, 101, 102, 103, 104, 105, 106, 107, 108, 109, 110, 111, 112, 113, 114, 115, 116, 117, 118, 119, 120, 121, 122, 123, 124, 125, 126, 127, 128, 129, 130, 131, 132, 133, 134, 135, 136, 137, 138, 139, 140, 141, 142, 143, 144, 145, 146, 147, 148, 149, 150, 151, 152, 153, 154, 155, 156, 157, 158, 159, 160, 161, 162, 163, 164, 165, 166, 167, 168, 169, 170, 171, 172, 173, 174, 175, 176, 177, 178, 179, 180, 181, 182, 183, 184, 185, 186, 187] (by decide +kernel) (by decide +kernel)
set_option maxRecDepth 20000 in
theorem gX4_settle_X4_deliverOldest : GoodIn wsX4_settle (wsV RX4 91 RX4 yX4_deliverOldest wsX4_deliverOldest) := goodIn_app (goodIn_of _ (by decide +kernel)) ggX4_settle_X4_deliverOldest
theorem dX4_settle_0 : decode cX4_settle 0 = .ok (.iload_n 1, 1) := by decide +kernel
theorem dX4_settle_1 : decode cX4_settle 1 = .ok (.iconst 1, 1) := by decide +kernel
theorem dX4_settle_2 : decode cX4_settle 2 = .ok (.if_icmp .lt 10, 3) := by decide +kernel
theorem dX4_settle_5 : decode cX4_settle 5 = .ok (.iload_n 1, 1) := by decide +kernel
theorem dX4_settle_6 : decode cX4_settle 6 = .ok (.sipush 500, 3) := by decide +kernel
theorem dX4_settle_9 : decode cX4_settle 9 = .ok (.if_icmp .le 5, 3) := by decide +kernel
theorem dX4_settle_12 : decode cX4_settle 12 = .ok (.iconst (-1), 1) := by decide +kernel
theorem dX4_settle_13 : decode cX4_settle 13 = .ok (.ireturn, 1) := by decide +kernel
theorem dX4_settle_14 : decode cX4_settle 14 = .ok (.iconst 0, 1) := by decide +kernel
theorem dX4_settle_15 : decode cX4_settle 15 = .ok (.istore_n 2, 1) := by decide +kernel
theorem dX4_settle_16 : decode cX4_settle 16 = .ok (.iload_n 2, 1) := by decide +kernel
theorem dX4_settle_17 : decode cX4_settle 17 = .ok (.iload_n 1, 1) := by decide +kernel
theorem dX4_settle_18 : decode cX4_settle 18 = .ok (.if_icmp .ge 43, 3) := by decide +kernel
theorem dX4_settle_21 : decode cX4_settle 21 = .ok (.aload_n 0, 1) := by decide +kernel
theorem dX4_settle_22 : decode cX4_settle 22 = .ok (.getfield 46, 3) := by decide +kernel
theorem dX4_settle_25 : decode cX4_settle 25 = .ok (.invokevirtual 106, 3) := by decide +kernel
theorem dX4_settle_28 : decode cX4_settle 28 = .ok (.istore_n 3, 1) := by decide +kernel
theorem dX4_settle_29 : decode cX4_settle 29 = .ok (.aload_n 0, 1) := by decide +kernel
theorem dX4_settle_30 : decode cX4_settle 30 = .ok (.getfield 46, 3) := by decide +kernel
theorem dX4_settle_33 : decode cX4_settle 33 = .ok (.iload_n 3, 1) := by decide +kernel
theorem dX4_settle_34 : decode cX4_settle 34 = .ok (.invokevirtual 110, 3) := by decide +kernel
theorem dX4_settle_37 : decode cX4_settle 37 = .ok (.istore 4, 2) := by decide +kernel
theorem dX4_settle_39 : decode cX4_settle 39 = .ok (.iload 4, 2) := by decide +kernel
theorem dX4_settle_41 : decode cX4_settle 41 = .ok (.iconst (-1), 1) := by decide +kernel
theorem dX4_settle_42 : decode cX4_settle 42 = .ok (.if_icmp .ne 5, 3) := by decide +kernel
theorem dX4_settle_45 : decode cX4_settle 45 = .ok (.iload_n 2, 1) := by decide +kernel
theorem dX4_settle_46 : decode cX4_settle 46 = .ok (.ireturn, 1) := by decide +kernel
theorem dX4_settle_47 : decode cX4_settle 47 = .ok (.aload_n 0, 1) := by decide +kernel
theorem dX4_settle_48 : decode cX4_settle 48 = .ok (.iload_n 3, 1) := by decide +kernel
theorem dX4_settle_49 : decode cX4_settle 49 = .ok (.iload 4, 2) := by decide +kernel
theorem dX4_settle_51 : decode cX4_settle 51 = .ok (.invokevirtual 91, 3) := by decide +kernel
theorem dX4_settle_54 : decode cX4_settle 54 = .ok (.pop, 1) := by decide +kernel
theorem dX4_settle_55 : decode cX4_settle 55 = .ok (.iinc 2 1, 3) := by decide +kernel
theorem dX4_settle_58 : decode cX4_settle 58 = .ok (.goto (-42), 3) := by decide +kernel
theorem dX4_settle_61 : decode cX4_settle 61 = .ok (.iload_n 1, 1) := by decide +kernel
theorem dX4_settle_62 : decode cX4_settle 62 = .ok (.ireturn, 1) := by decide +kernel
set_option maxRecDepth 20000 in
theorem ggX4_waiting_X4_isWire : GoodIn wsX4_waiting wsX4_isWire := goodIn_r _ [6, 7, 8, 9, 5, 10, 11, 23, 24, 25, 26, 27, 28, 29] (by decide +kernel) (by decide +kernel)
set_option maxRecDepth 20000 in
theorem gX4_waiting_X4_isWire : GoodIn wsX4_waiting (wsV RX4 87 RX4 yX4_isWire wsX4_isWire) := goodIn_app (goodIn_of _ (by decide +kernel)) ggX4_waiting_X4_isWire
set_option maxRecDepth 20000 in
theorem ggX4_waiting_X3_count : GoodIn wsX4_waiting wsX3_count := goodIn_r _ [16, 17, 18, 19, 20, 15, 21, 22, 30, 31, 32, 33, 34] (by decide +kernel) (by decide +kernel)
set_option maxRecDepth 20000 in
theorem gX4_waiting_X3_count : GoodIn wsX4_waiting (wsV RX4 113 RX3 yX3_count wsX3_count) := goodIn_app (goodIn_of _ (by decide +kernel)) ggX4_waiting_X3_count
theorem dX4_waiting_0 : decode cX4_waiting 0 = .ok (.aload_n 0, 1) := by decide +kernel
theorem dX4_waiting_1 : decode cX4_waiting 1 = .ok (.iload_n 1, 1) := by decide +kernel
theorem dX4_waiting_2 : decode cX4_waiting 2 = .ok (.iload_n 2, 1) := by decide +kernel
theorem dX4_waiting_3 : decode cX4_waiting 3 = .ok (.invokevirtual 87, 3) := by decide +kernel
theorem dX4_waiting_6 : decode cX4_waiting 6 = .ok (.ifCond .eq 15, 3) := by decide +kernel
theorem dX4_waiting_9 : decode cX4_waiting 9 = .ok (.aload_n 0, 1) := by decide +kernel
theorem dX4_waiting_10 : decode cX4_waiting 10 = .ok (.getfield 46, 3) := by decide +kernel
theorem dX4_waiting_13 : decode cX4_waiting 13 = .ok (.iload_n 1, 1) := by decide +kernel
theorem dX4_waiting_14 : decode cX4_waiting 14 = .ok (.iload_n 2, 1) := by decide +kernel
theorem dX4_waiting_15 : decode cX4_waiting 15 = .ok (.invokevirtual 113, 3) := by decide +kernel
theorem dX4_waiting_18 : decode cX4_waiting 18 = .ok (.goto 4, 3) := by decide +kernel
theorem dX4_waiting_21 : decode cX4_waiting 21 = .ok (.iconst (-1), 1) := by decide +kernel
theorem dX4_waiting_22 : decode cX4_waiting 22 = .ok (.ireturn, 1) := by decide +kernel
set_option maxRecDepth 20000 in
theorem ggX4_look_X4_isWire : GoodIn wsX4_look wsX4_isWire := goodIn_r _ [6, 7, 8, 9, 5, 10, 11, 29, 30, 31, 32, 33, 34, 35] (by decide +kernel) (by decide +kernel)
set_option maxRecDepth 20000 in
theorem gX4_look_X4_isWire : GoodIn wsX4_look (wsV RX4 87 RX4 yX4_isWire wsX4_isWire) := goodIn_app (goodIn_of _ (by decide +kernel)) ggX4_look_X4_isWire
set_option maxRecDepth 20000 in
theorem ggX4_look_X3_part : GoodIn wsX4_look wsX3_part := goodIn_r _ [16, 17, 18, 19, 20, 21, 15, 22, 23, 24, 25, 26, 27, 28, 36, 37, 38, 39, 40] (by decide +kernel) (by decide +kernel)
set_option maxRecDepth 20000 in
theorem gX4_look_X3_part : GoodIn wsX4_look (wsV RX4 116 RX3 yX3_part wsX3_part) := goodIn_app (goodIn_of _ (by decide +kernel)) ggX4_look_X3_part
theorem dX4_look_0 : decode cX4_look 0 = .ok (.aload_n 0, 1) := by decide +kernel
theorem dX4_look_1 : decode cX4_look 1 = .ok (.iload_n 1, 1) := by decide +kernel
theorem dX4_look_2 : decode cX4_look 2 = .ok (.iload_n 2, 1) := by decide +kernel
theorem dX4_look_3 : decode cX4_look 3 = .ok (.invokevirtual 87, 3) := by decide +kernel
theorem dX4_look_6 : decode cX4_look 6 = .ok (.ifCond .eq 18, 3) := by decide +kernel
theorem dX4_look_9 : decode cX4_look 9 = .ok (.aload_n 0, 1) := by decide +kernel
theorem dX4_look_10 : decode cX4_look 10 = .ok (.getfield 46, 3) := by decide +kernel
theorem dX4_look_13 : decode cX4_look 13 = .ok (.iload_n 1, 1) := by decide +kernel
theorem dX4_look_14 : decode cX4_look 14 = .ok (.iload_n 2, 1) := by decide +kernel
theorem dX4_look_15 : decode cX4_look 15 = .ok (.iload_n 3, 1) := by decide +kernel
theorem dX4_look_16 : decode cX4_look 16 = .ok (.iload 4, 2) := by decide +kernel
theorem dX4_look_18 : decode cX4_look 18 = .ok (.invokevirtual 116, 3) := by decide +kernel
theorem dX4_look_21 : decode cX4_look 21 = .ok (.goto 4, 3) := by decide +kernel
theorem dX4_look_24 : decode cX4_look 24 = .ok (.iconst (-1), 1) := by decide +kernel
theorem dX4_look_25 : decode cX4_look 25 = .ok (.ireturn, 1) := by decide +kernel
set_option maxRecDepth 20000 in
theorem ggX4_told_X4_isNode : GoodIn wsX4_told wsX4_isNode := goodIn_r _ [16, 17, 18, 19, 20, 21, 22, 23, 24] (by decide +kernel) (by decide +kernel)
set_option maxRecDepth 20000 in
theorem gX4_told_X4_isNode : GoodIn wsX4_told (wsV RX4 70 RX4 yX4_isNode wsX4_isNode) := goodIn_app (goodIn_of _ (by decide +kernel)) ggX4_told_X4_isNode
theorem dX4_told_0 : decode cX4_told 0 = .ok (.aload_n 0, 1) := by decide +kernel
theorem dX4_told_1 : decode cX4_told 1 = .ok (.iload_n 1, 1) := by decide +kernel
theorem dX4_told_2 : decode cX4_told 2 = .ok (.invokevirtual 70, 3) := by decide +kernel
theorem dX4_told_5 : decode cX4_told 5 = .ok (.ifCond .ne 5, 3) := by decide +kernel
theorem dX4_told_8 : decode cX4_told 8 = .ok (.iconst (-1), 1) := by decide +kernel
theorem dX4_told_9 : decode cX4_told 9 = .ok (.ireturn, 1) := by decide +kernel
theorem dX4_told_10 : decode cX4_told 10 = .ok (.aload_n 0, 1) := by decide +kernel
theorem dX4_told_11 : decode cX4_told 11 = .ok (.getfield 31, 3) := by decide +kernel
theorem dX4_told_14 : decode cX4_told 14 = .ok (.iload_n 1, 1) := by decide +kernel
theorem dX4_told_15 : decode cX4_told 15 = .ok (.aaload, 1) := by decide +kernel
theorem dX4_told_16 : decode cX4_told 16 = .ok (.astore_n 3, 1) := by decide +kernel
theorem dX4_told_17 : decode cX4_told 17 = .ok (.aload_n 0, 1) := by decide +kernel
theorem dX4_told_18 : decode cX4_told 18 = .ok (.getfield 37, 3) := by decide +kernel
theorem dX4_told_21 : decode cX4_told 21 = .ok (.iload_n 1, 1) := by decide +kernel
theorem dX4_told_22 : decode cX4_told 22 = .ok (.aaload, 1) := by decide +kernel
theorem dX4_told_23 : decode cX4_told 23 = .ok (.astore 4, 2) := by decide +kernel
theorem dX4_told_25 : decode cX4_told 25 = .ok (.iload_n 2, 1) := by decide +kernel
theorem dX4_told_26 : decode cX4_told 26 = .ok (.tableswitch 101 0 7 #[46, 51, 58, 63, 68, 73, 78, 92], 46) := by decide +kernel
theorem dX4_told_72 : decode cX4_told 72 = .ok (.aload_n 3, 1) := by decide +kernel
theorem dX4_told_73 : decode cX4_told 73 = .ok (.getfield 74, 3) := by decide +kernel
theorem dX4_told_76 : decode cX4_told 76 = .ok (.ireturn, 1) := by decide +kernel
theorem dX4_told_77 : decode cX4_told 77 = .ok (.aload_n 0, 1) := by decide +kernel
theorem dX4_told_78 : decode cX4_told 78 = .ok (.getfield 26, 3) := by decide +kernel
theorem dX4_told_81 : decode cX4_told 81 = .ok (.iload_n 1, 1) := by decide +kernel
theorem dX4_told_82 : decode cX4_told 82 = .ok (.iaload, 1) := by decide +kernel
theorem dX4_told_83 : decode cX4_told 83 = .ok (.ireturn, 1) := by decide +kernel
theorem dX4_told_84 : decode cX4_told 84 = .ok (.aload_n 3, 1) := by decide +kernel
theorem dX4_told_85 : decode cX4_told 85 = .ok (.getfield 80, 3) := by decide +kernel
theorem dX4_told_88 : decode cX4_told 88 = .ok (.ireturn, 1) := by decide +kernel
theorem dX4_told_89 : decode cX4_told 89 = .ok (.aload_n 3, 1) := by decide +kernel
theorem dX4_told_90 : decode cX4_told 90 = .ok (.getfield 120, 3) := by decide +kernel
theorem dX4_told_93 : decode cX4_told 93 = .ok (.ireturn, 1) := by decide +kernel
theorem dX4_told_94 : decode cX4_told 94 = .ok (.aload_n 3, 1) := by decide +kernel
theorem dX4_told_95 : decode cX4_told 95 = .ok (.getfield 123, 3) := by decide +kernel
theorem dX4_told_98 : decode cX4_told 98 = .ok (.ireturn, 1) := by decide +kernel
theorem dX4_told_99 : decode cX4_told 99 = .ok (.aload_n 3, 1) := by decide +kernel
theorem dX4_told_100 : decode cX4_told 100 = .ok (.getfield 94, 3) := by decide +kernel
theorem dX4_told_103 : decode cX4_told 103 = .ok (.ireturn, 1) := by decide +kernel
theorem dX4_told_104 : decode cX4_told 104 = .ok (.aload 4, 2) := by decide +kernel
theorem dX4_told_106 : decode cX4_told 106 = .ok (.getfield 126, 3) := by decide +kernel
theorem dX4_told_109 : decode cX4_told 109 = .ok (.ifCond .eq 7, 3) := by decide +kernel
theorem dX4_told_112 : decode cX4_told 112 = .ok (.iconst 1, 1) := by decide +kernel
theorem dX4_told_113 : decode cX4_told 113 = .ok (.goto 4, 3) := by decide +kernel
theorem dX4_told_116 : decode cX4_told 116 = .ok (.iconst 0, 1) := by decide +kernel
theorem dX4_told_117 : decode cX4_told 117 = .ok (.ireturn, 1) := by decide +kernel
theorem dX4_told_118 : decode cX4_told 118 = .ok (.aload 4, 2) := by decide +kernel
theorem dX4_told_120 : decode cX4_told 120 = .ok (.getfield 130, 3) := by decide +kernel
theorem dX4_told_123 : decode cX4_told 123 = .ok (.getfield 134, 3) := by decide +kernel
theorem dX4_told_126 : decode cX4_told 126 = .ok (.ireturn, 1) := by decide +kernel
theorem dX4_told_127 : decode cX4_told 127 = .ok (.iconst (-1), 1) := by decide +kernel
theorem dX4_told_128 : decode cX4_told 128 = .ok (.ireturn, 1) := by decide +kernel
set_option maxRecDepth 20000 in
theorem ggX4_waits_X4_isNode : GoodIn wsX4_waits wsX4_isNode := goodIn_r _ [7, 8, 16, 17, 18, 19, 20, 21, 22] (by decide +kernel) (by decide +kernel)
set_option maxRecDepth 20000 in
theorem gX4_waits_X4_isNode : GoodIn wsX4_waits (wsV RX4 70 RX4 yX4_isNode wsX4_isNode) := goodIn_app (goodIn_of _ (by decide +kernel)) ggX4_waits_X4_isNode
set_option maxRecDepth 20000 in
theorem ggX4_waits_X1_nodeAt : GoodIn wsX4_waits wsX1_nodeAt := goodIn_r _ [13, 14, 15, 27, 28, 29] (by decide +kernel) (by decide +kernel)
set_option maxRecDepth 20000 in
theorem gX4_waits_X1_nodeAt : GoodIn wsX4_waits (wsV RX4 139 RX1 yX1_nodeAt wsX1_nodeAt) := goodIn_app (goodIn_of _ (by decide +kernel)) ggX4_waits_X1_nodeAt
theorem dX4_waits_0 : decode cX4_waits 0 = .ok (.aload_n 0, 1) := by decide +kernel
theorem dX4_waits_1 : decode cX4_waits 1 = .ok (.iload_n 1, 1) := by decide +kernel
theorem dX4_waits_2 : decode cX4_waits 2 = .ok (.invokevirtual 70, 3) := by decide +kernel
theorem dX4_waits_5 : decode cX4_waits 5 = .ok (.ifCond .eq 19, 3) := by decide +kernel
theorem dX4_waits_8 : decode cX4_waits 8 = .ok (.aload_n 0, 1) := by decide +kernel
theorem dX4_waits_9 : decode cX4_waits 9 = .ok (.getfield 37, 3) := by decide +kernel
theorem dX4_waits_12 : decode cX4_waits 12 = .ok (.iload_n 1, 1) := by decide +kernel
theorem dX4_waits_13 : decode cX4_waits 13 = .ok (.aaload, 1) := by decide +kernel
theorem dX4_waits_14 : decode cX4_waits 14 = .ok (.getfield 130, 3) := by decide +kernel
theorem dX4_waits_17 : decode cX4_waits 17 = .ok (.iload_n 2, 1) := by decide +kernel
theorem dX4_waits_18 : decode cX4_waits 18 = .ok (.invokevirtual 139, 3) := by decide +kernel
theorem dX4_waits_21 : decode cX4_waits 21 = .ok (.goto 4, 3) := by decide +kernel
theorem dX4_waits_24 : decode cX4_waits 24 = .ok (.iconst (-1), 1) := by decide +kernel
theorem dX4_waits_25 : decode cX4_waits 25 = .ok (.ireturn, 1) := by decide +kernel
theorem dX4_entered_0 : decode cX4_entered 0 = .ok (.aload_n 0, 1) := by decide +kernel
theorem dX4_entered_1 : decode cX4_entered 1 = .ok (.getfield 67, 3) := by decide +kernel
theorem dX4_entered_4 : decode cX4_entered 4 = .ok (.ireturn, 1) := by decide +kernel
theorem dX4_quorumOf_0 : decode cX4_quorumOf 0 = .ok (.iconst 0, 1) := by decide +kernel
theorem dX4_quorumOf_1 : decode cX4_quorumOf 1 = .ok (.istore_n 2, 1) := by decide +kernel
theorem dX4_quorumOf_2 : decode cX4_quorumOf 2 = .ok (.iconst 0, 1) := by decide +kernel
theorem dX4_quorumOf_3 : decode cX4_quorumOf 3 = .ok (.istore_n 3, 1) := by decide +kernel
theorem dX4_quorumOf_4 : decode cX4_quorumOf 4 = .ok (.iload_n 3, 1) := by decide +kernel
theorem dX4_quorumOf_5 : decode cX4_quorumOf 5 = .ok (.iload_n 1, 1) := by decide +kernel
theorem dX4_quorumOf_6 : decode cX4_quorumOf 6 = .ok (.iload_n 1, 1) := by decide +kernel
theorem dX4_quorumOf_7 : decode cX4_quorumOf 7 = .ok (.imul, 1) := by decide +kernel
theorem dX4_quorumOf_8 : decode cX4_quorumOf 8 = .ok (.if_icmp .ge 33, 3) := by decide +kernel
theorem dX4_quorumOf_11 : decode cX4_quorumOf 11 = .ok (.iload_n 3, 1) := by decide +kernel
theorem dX4_quorumOf_12 : decode cX4_quorumOf 12 = .ok (.iload_n 1, 1) := by decide +kernel
theorem dX4_quorumOf_13 : decode cX4_quorumOf 13 = .ok (.idiv, 1) := by decide +kernel
theorem dX4_quorumOf_14 : decode cX4_quorumOf 14 = .ok (.iload_n 0, 1) := by decide +kernel
theorem dX4_quorumOf_15 : decode cX4_quorumOf 15 = .ok (.iload_n 1, 1) := by decide +kernel
theorem dX4_quorumOf_16 : decode cX4_quorumOf 16 = .ok (.idiv, 1) := by decide +kernel
theorem dX4_quorumOf_17 : decode cX4_quorumOf 17 = .ok (.if_icmp .eq 12, 3) := by decide +kernel
theorem dX4_quorumOf_20 : decode cX4_quorumOf 20 = .ok (.iload_n 3, 1) := by decide +kernel
theorem dX4_quorumOf_21 : decode cX4_quorumOf 21 = .ok (.iload_n 1, 1) := by decide +kernel
theorem dX4_quorumOf_22 : decode cX4_quorumOf 22 = .ok (.irem, 1) := by decide +kernel
theorem dX4_quorumOf_23 : decode cX4_quorumOf 23 = .ok (.iload_n 0, 1) := by decide +kernel
theorem dX4_quorumOf_24 : decode cX4_quorumOf 24 = .ok (.iload_n 1, 1) := by decide +kernel
theorem dX4_quorumOf_25 : decode cX4_quorumOf 25 = .ok (.irem, 1) := by decide +kernel
theorem dX4_quorumOf_26 : decode cX4_quorumOf 26 = .ok (.if_icmp .ne 9, 3) := by decide +kernel
theorem dX4_quorumOf_29 : decode cX4_quorumOf 29 = .ok (.iload_n 2, 1) := by decide +kernel
theorem dX4_quorumOf_30 : decode cX4_quorumOf 30 = .ok (.iconst 1, 1) := by decide +kernel
theorem dX4_quorumOf_31 : decode cX4_quorumOf 31 = .ok (.iload_n 3, 1) := by decide +kernel
theorem dX4_quorumOf_32 : decode cX4_quorumOf 32 = .ok (.ishl, 1) := by decide +kernel
theorem dX4_quorumOf_33 : decode cX4_quorumOf 33 = .ok (.ior, 1) := by decide +kernel
theorem dX4_quorumOf_34 : decode cX4_quorumOf 34 = .ok (.istore_n 2, 1) := by decide +kernel
theorem dX4_quorumOf_35 : decode cX4_quorumOf 35 = .ok (.iinc 3 1, 3) := by decide +kernel
theorem dX4_quorumOf_38 : decode cX4_quorumOf 38 = .ok (.goto (-34), 3) := by decide +kernel
theorem dX4_quorumOf_41 : decode cX4_quorumOf 41 = .ok (.iload_n 2, 1) := by decide +kernel
theorem dX4_quorumOf_42 : decode cX4_quorumOf 42 = .ok (.ireturn, 1) := by decide +kernel
theorem dX4_isBefore_0 : decode cX4_isBefore 0 = .ok (.iload_n 1, 1) := by decide +kernel
theorem dX4_isBefore_1 : decode cX4_isBefore 1 = .ok (.iload_n 3, 1) := by decide +kernel
theorem dX4_isBefore_2 : decode cX4_isBefore 2 = .ok (.if_icmp .lt 13, 3) := by decide +kernel
theorem dX4_isBefore_5 : decode cX4_isBefore 5 = .ok (.iload_n 1, 1) := by decide +kernel
theorem dX4_isBefore_6 : decode cX4_isBefore 6 = .ok (.iload_n 3, 1) := by decide +kernel
theorem dX4_isBefore_7 : decode cX4_isBefore 7 = .ok (.if_icmp .ne 12, 3) := by decide +kernel
theorem dX4_isBefore_10 : decode cX4_isBefore 10 = .ok (.iload_n 0, 1) := by decide +kernel
theorem dX4_isBefore_11 : decode cX4_isBefore 11 = .ok (.iload_n 2, 1) := by decide +kernel
theorem dX4_isBefore_12 : decode cX4_isBefore 12 = .ok (.if_icmp .ge 7, 3) := by decide +kernel
theorem dX4_isBefore_15 : decode cX4_isBefore 15 = .ok (.iconst 1, 1) := by decide +kernel
theorem dX4_isBefore_16 : decode cX4_isBefore 16 = .ok (.goto 4, 3) := by decide +kernel
theorem dX4_isBefore_19 : decode cX4_isBefore 19 = .ok (.iconst 0, 1) := by decide +kernel
theorem dX4_isBefore_20 : decode cX4_isBefore 20 = .ok (.ireturn, 1) := by decide +kernel
theorem dX4_has_0 : decode cX4_has 0 = .ok (.iload_n 0, 1) := by decide +kernel
theorem dX4_has_1 : decode cX4_has 1 = .ok (.iload_n 1, 1) := by decide +kernel
theorem dX4_has_2 : decode cX4_has 2 = .ok (.ishr, 1) := by decide +kernel
theorem dX4_has_3 : decode cX4_has 3 = .ok (.iconst 1, 1) := by decide +kernel
theorem dX4_has_4 : decode cX4_has 4 = .ok (.iand, 1) := by decide +kernel
theorem dX4_has_5 : decode cX4_has 5 = .ok (.iconst 1, 1) := by decide +kernel
theorem dX4_has_6 : decode cX4_has 6 = .ok (.if_icmp .ne 7, 3) := by decide +kernel
theorem dX4_has_9 : decode cX4_has 9 = .ok (.iconst 1, 1) := by decide +kernel
theorem dX4_has_10 : decode cX4_has 10 = .ok (.goto 4, 3) := by decide +kernel
theorem dX4_has_13 : decode cX4_has 13 = .ok (.iconst 0, 1) := by decide +kernel
theorem dX4_has_14 : decode cX4_has 14 = .ok (.ireturn, 1) := by decide +kernel
theorem dX4_isNode_0 : decode cX4_isNode 0 = .ok (.iload_n 1, 1) := by decide +kernel
theorem dX4_isNode_1 : decode cX4_isNode 1 = .ok (.ifCond .lt 15, 3) := by decide +kernel
theorem dX4_isNode_4 : decode cX4_isNode 4 = .ok (.iload_n 1, 1) := by decide +kernel
theorem dX4_isNode_5 : decode cX4_isNode 5 = .ok (.aload_n 0, 1) := by decide +kernel
theorem dX4_isNode_6 : decode cX4_isNode 6 = .ok (.getfield 18, 3) := by decide +kernel
theorem dX4_isNode_9 : decode cX4_isNode 9 = .ok (.if_icmp .ge 7, 3) := by decide +kernel
theorem dX4_isNode_12 : decode cX4_isNode 12 = .ok (.iconst 1, 1) := by decide +kernel
theorem dX4_isNode_13 : decode cX4_isNode 13 = .ok (.goto 4, 3) := by decide +kernel
theorem dX4_isNode_16 : decode cX4_isNode 16 = .ok (.iconst 0, 1) := by decide +kernel
theorem dX4_isNode_17 : decode cX4_isNode 17 = .ok (.ireturn, 1) := by decide +kernel
set_option maxRecDepth 20000 in
theorem ggX4_isWire_X4_isNode : GoodIn wsX4_isWire wsX4_isNode := goodIn_r _ [5, 6, 7, 8, 9, 10, 11, 12, 13] (by decide +kernel) (by decide +kernel)
set_option maxRecDepth 20000 in
theorem gX4_isWire_X4_isNode : GoodIn wsX4_isWire (wsV RX4 70 RX4 yX4_isNode wsX4_isNode) := goodIn_app (goodIn_of _ (by decide +kernel)) ggX4_isWire_X4_isNode
theorem dX4_isWire_0 : decode cX4_isWire 0 = .ok (.aload_n 0, 1) := by decide +kernel
theorem dX4_isWire_1 : decode cX4_isWire 1 = .ok (.iload_n 1, 1) := by decide +kernel
theorem dX4_isWire_2 : decode cX4_isWire 2 = .ok (.invokevirtual 70, 3) := by decide +kernel
theorem dX4_isWire_5 : decode cX4_isWire 5 = .ok (.ifCond .eq 15, 3) := by decide +kernel
theorem dX4_isWire_8 : decode cX4_isWire 8 = .ok (.aload_n 0, 1) := by decide +kernel
theorem dX4_isWire_9 : decode cX4_isWire 9 = .ok (.iload_n 2, 1) := by decide +kernel
theorem dX4_isWire_10 : decode cX4_isWire 10 = .ok (.invokevirtual 70, 3) := by decide +kernel
theorem dX4_isWire_13 : decode cX4_isWire 13 = .ok (.ifCond .eq 7, 3) := by decide +kernel
theorem dX4_isWire_16 : decode cX4_isWire 16 = .ok (.iconst 1, 1) := by decide +kernel
theorem dX4_isWire_17 : decode cX4_isWire 17 = .ok (.goto 4, 3) := by decide +kernel
theorem dX4_isWire_20 : decode cX4_isWire 20 = .ok (.iconst 0, 1) := by decide +kernel
theorem dX4_isWire_21 : decode cX4_isWire 21 = .ok (.ireturn, 1) := by decide +kernel
set_option maxRecDepth 20000 in
theorem ggX4_send_X3_add : GoodIn wsX4_send wsX3_add := goodIn_r _ [7, 8, 9, 10, 11, 12, 13, 6, 14, 15, 16, 17, 18, 19, 20, 28, 29, 30, 31, 32] (by decide +kernel) (by decide +kernel)
set_option maxRecDepth 20000 in
theorem gX4_send_X3_add : GoodIn wsX4_send (wsV RX4 142 RX3 yX3_add wsX3_add) := goodIn_app (goodIn_of _ (by decide +kernel)) ggX4_send_X3_add
theorem dX4_send_0 : decode cX4_send 0 = .ok (.aload_n 0, 1) := by decide +kernel
theorem dX4_send_1 : decode cX4_send 1 = .ok (.getfield 46, 3) := by decide +kernel
theorem dX4_send_4 : decode cX4_send 4 = .ok (.iload_n 1, 1) := by decide +kernel
theorem dX4_send_5 : decode cX4_send 5 = .ok (.iload_n 2, 1) := by decide +kernel
theorem dX4_send_6 : decode cX4_send 6 = .ok (.iload_n 3, 1) := by decide +kernel
theorem dX4_send_7 : decode cX4_send 7 = .ok (.iload 4, 2) := by decide +kernel
theorem dX4_send_9 : decode cX4_send 9 = .ok (.aload_n 0, 1) := by decide +kernel
theorem dX4_send_10 : decode cX4_send 10 = .ok (.getfield 26, 3) := by decide +kernel
theorem dX4_send_13 : decode cX4_send 13 = .ok (.iload_n 1, 1) := by decide +kernel
theorem dX4_send_14 : decode cX4_send 14 = .ok (.iaload, 1) := by decide +kernel
theorem dX4_send_15 : decode cX4_send 15 = .ok (.invokevirtual 142, 3) := by decide +kernel
theorem dX4_send_18 : decode cX4_send 18 = .ok (.return_, 1) := by decide +kernel
set_option maxRecDepth 20000 in
theorem ggX4_sendToQuorum_X4_has : GoodIn wsX4_sendToQuorum wsX4_has := goodIn_r _ [6] (by decide +kernel) (by decide +kernel)
set_option maxRecDepth 20000 in
theorem gX4_sendToQuorum_X4_has : GoodIn wsX4_sendToQuorum (va_wsS RX4 146 yX4_has wsX4_has) := goodIn_app (goodIn_of _ (by decide +kernel)) ggX4_sendToQuorum_X4_has
set_option maxRecDepth 20000 in
theorem ggX4_sendToQuorum_X4_send : GoodIn wsX4_sendToQuorum wsX4_send := goodIn_r _ [10, 11, 12, 13, 14, 15, 16, 17, 18, 19, 20, 21, 22, 23, 24, 25, 26, 27, 28, 29, 30, 31, 32, 33, 34, 35, 36, 37, 38, 39, 40, 41, 42] (by decide +kernel) (by decide +kernel)
set_option maxRecDepth 20000 in
theorem gX4_sendToQuorum_X4_send : GoodIn wsX4_sendToQuorum (wsV RX4 149 RX4 yX4_send wsX4_send) := goodIn_app (goodIn_of _ (by decide +kernel)) ggX4_sendToQuorum_X4_send
theorem dX4_sendToQuorum_0 : decode cX4_sendToQuorum 0 = .ok (.iconst 0, 1) := by decide +kernel
theorem dX4_sendToQuorum_1 : decode cX4_sendToQuorum 1 = .ok (.istore 4, 2) := by decide +kernel
theorem dX4_sendToQuorum_3 : decode cX4_sendToQuorum 3 = .ok (.iload 4, 2) := by decide +kernel
theorem dX4_sendToQuorum_5 : decode cX4_sendToQuorum 5 = .ok (.aload_n 0, 1) := by decide +kernel
theorem dX4_sendToQuorum_6 : decode cX4_sendToQuorum 6 = .ok (.getfield 18, 3) := by decide +kernel
theorem dX4_sendToQuorum_9 : decode cX4_sendToQuorum 9 = .ok (.if_icmp .ge 32, 3) := by decide +kernel
theorem dX4_sendToQuorum_12 : decode cX4_sendToQuorum 12 = .ok (.aload_n 0, 1) := by decide +kernel
theorem dX4_sendToQuorum_13 : decode cX4_sendToQuorum 13 = .ok (.getfield 22, 3) := by decide +kernel
theorem dX4_sendToQuorum_16 : decode cX4_sendToQuorum 16 = .ok (.iload_n 1, 1) := by decide +kernel
theorem dX4_sendToQuorum_17 : decode cX4_sendToQuorum 17 = .ok (.iaload, 1) := by decide +kernel
theorem dX4_sendToQuorum_18 : decode cX4_sendToQuorum 18 = .ok (.iload 4, 2) := by decide +kernel
theorem dX4_sendToQuorum_20 : decode cX4_sendToQuorum 20 = .ok (.invokestatic 146, 3) := by decide +kernel
theorem dX4_sendToQuorum_23 : decode cX4_sendToQuorum 23 = .ok (.ifCond .eq 12, 3) := by decide +kernel
theorem dX4_sendToQuorum_26 : decode cX4_sendToQuorum 26 = .ok (.aload_n 0, 1) := by decide +kernel
theorem dX4_sendToQuorum_27 : decode cX4_sendToQuorum 27 = .ok (.iload_n 1, 1) := by decide +kernel
theorem dX4_sendToQuorum_28 : decode cX4_sendToQuorum 28 = .ok (.iload 4, 2) := by decide +kernel
theorem dX4_sendToQuorum_30 : decode cX4_sendToQuorum 30 = .ok (.iload_n 2, 1) := by decide +kernel
theorem dX4_sendToQuorum_31 : decode cX4_sendToQuorum 31 = .ok (.iload_n 3, 1) := by decide +kernel
theorem dX4_sendToQuorum_32 : decode cX4_sendToQuorum 32 = .ok (.invokevirtual 149, 3) := by decide +kernel
theorem dX4_sendToQuorum_35 : decode cX4_sendToQuorum 35 = .ok (.iinc 4 1, 3) := by decide +kernel
theorem dX4_sendToQuorum_38 : decode cX4_sendToQuorum 38 = .ok (.goto (-35), 3) := by decide +kernel
theorem dX4_sendToQuorum_41 : decode cX4_sendToQuorum 41 = .ok (.return_, 1) := by decide +kernel
set_option maxRecDepth 20000 in
theorem ggX4_deliverOldest_X3_count : GoodIn wsX4_deliverOldest wsX3_count := goodIn_r _ [11, 12, 13, 14, 15, 10, 16, 17, 158, 159, 160, 161, 162] (by decide +kernel) (by decide +kernel)
set_option maxRecDepth 20000 in
theorem gX4_deliverOldest_X3_count : GoodIn wsX4_deliverOldest (wsV RX4 113 RX3 yX3_count wsX3_count) := goodIn_app (goodIn_of _ (by decide +kernel)) ggX4_deliverOldest_X3_count
set_option maxRecDepth 20000 in
theorem ggX4_deliverOldest_X3_part : GoodIn wsX4_deliverOldest wsX3_part := goodIn_r _ [21, 12, 22, 13, 14, 15, 10, 16, 17, 23, 24, 25, 26, 27, 158, 159, 160, 161, 162] (by decide +kernel) (by decide +kernel)
set_option maxRecDepth 20000 in
theorem gX4_deliverOldest_X3_part : GoodIn wsX4_deliverOldest (wsV RX4 116 RX3 yX3_part wsX3_part) := goodIn_app (goodIn_of _ (by decide +kernel)) ggX4_deliverOldest_X3_part
set_option maxRecDepth 20000 in
theorem ggX4_deliverOldest_X3_dropOldest : GoodIn wsX4_deliverOldest wsX3_dropOldest := goodIn_r _ [31, 12, 27, 32, 13, 14, 15, 10, 16, 17, 158, 159, 160, 161, 162] (by decide +kernel) (by decide +kernel)
set_option maxRecDepth 20000 in
theorem gX4_deliverOldest_X3_dropOldest : GoodIn wsX4_deliverOldest (wsV RX4 153 RX3 yX3_dropOldest wsX3_dropOldest) := goodIn_app (goodIn_of _ (by decide +kernel)) ggX4_deliverOldest_X3_dropOldest
set_option maxRecDepth 20000 in
theorem ggX4_deliverOldest_X4_weighRequest : GoodIn wsX4_deliverOldest wsX4_weighRequest := goodIn_r _ [37, 38, 39, 40, 41, 42, 43, 36, 44, 45, 46, 47, 48, 49, 50, 51, 52, 53, 54, 55, 56, 1, 2, 57, 58, 59, 10, 60, 12, 22, 32, 13, 14, 15, 16, 17, 23, 24, 25, 26, 27, 61, 62, 63, 64, 65, 66, 67, 68, 69, 70, 71, 72, 73, 74, 75, 76, 77, 78, 79, 80, 81, 82, 83, 84, 85, 86, 87, 88, 89, 90, 91, 92, 151, 152, 153, 154, 155, 156, 157, 163, 164, 165, 166, 158, 159, 160, 161, 162, 167, 168, 169] (by decide +kernel) (by decide +kernel)
set_option maxRecDepth 20000 in
theorem gX4_deliverOldest_X4_weighRequest : GoodIn wsX4_deliverOldest (wsV RX4 157 RX4 yX4_weighRequest wsX4_weighRequest) := goodIn_app (goodIn_of _ (by decide +kernel)) ggX4_deliverOldest_X4_weighRequest
set_option maxRecDepth 20000 in
theorem ggX4_deliverOldest_X4_hearLocked : GoodIn wsX4_deliverOldest wsX4_hearLocked := goodIn_r _ [96, 97, 98, 99, 100, 101, 102, 103, 104, 105, 106, 151, 152, 153, 154, 155, 156, 157, 170, 171, 172, 173, 174] (by decide +kernel) (by decide +kernel)
set_option maxRecDepth 20000 in
theorem gX4_deliverOldest_X4_hearLocked : GoodIn wsX4_deliverOldest (wsV RX4 160 RX4 yX4_hearLocked wsX4_hearLocked) := goodIn_app (goodIn_of _ (by decide +kernel)) ggX4_deliverOldest_X4_hearLocked
set_option maxRecDepth 20000 in
theorem ggX4_deliverOldest_X4_takeVoteBack : GoodIn wsX4_deliverOldest wsX4_takeVoteBack := goodIn_r _ [110, 38, 39, 92, 40, 111, 81, 82, 83, 70, 84, 72, 73, 78, 79, 36, 80, 112, 113, 114, 48, 115, 50, 51, 52, 85, 68, 69, 71, 86, 75, 76, 77, 116, 117, 118, 119, 120, 4, 5, 6, 41, 42, 43, 44, 45, 46, 47, 49, 53, 54, 55, 56, 1, 2, 57, 58, 59, 10, 60, 12, 22, 32, 13, 14, 15, 16, 17, 23, 24, 25, 26, 27, 151, 152, 153, 154, 155, 156, 157, 163, 164, 165, 166, 167, 168, 169, 158, 159, 160, 161, 162] (by decide +kernel) (by decide +kernel)
set_option maxRecDepth 20000 in
theorem gX4_deliverOldest_X4_takeVoteBack : GoodIn wsX4_deliverOldest (wsV RX4 163 RX4 yX4_takeVoteBack wsX4_takeVoteBack) := goodIn_app (goodIn_of _ (by decide +kernel)) ggX4_deliverOldest_X4_takeVoteBack
set_option maxRecDepth 20000 in
theorem ggX4_deliverOldest_X4_hearInquire : GoodIn wsX4_deliverOldest wsX4_hearInquire := goodIn_r _ [124, 97, 125, 126, 127, 128, 129, 130, 103, 131, 132, 133, 134, 135, 36, 136, 137, 138, 139, 140, 99, 53, 54, 55, 56, 1, 2, 57, 58, 59, 10, 60, 12, 22, 32, 13, 14, 15, 16, 17, 23, 24, 25, 26, 27, 141, 142, 143, 144, 105, 145, 106, 151, 152, 153, 154, 155, 156, 157, 170, 171, 172, 173, 174, 158, 159, 160, 161, 162] (by decide +kernel) (by decide +kernel)
set_option maxRecDepth 20000 in
theorem gX4_deliverOldest_X4_hearInquire : GoodIn wsX4_deliverOldest (wsV RX4 167 RX4 yX4_hearInquire wsX4_hearInquire) := goodIn_app (goodIn_of _ (by decide +kernel)) ggX4_deliverOldest_X4_hearInquire
set_option maxRecDepth 20000 in
theorem ggX4_deliverOldest_X4_hearFailed : GoodIn wsX4_deliverOldest wsX4_hearFailed := goodIn_r _ [149, 97, 126, 150, 125, 127, 128, 129, 130, 103, 131, 132, 133, 134, 135, 36, 136, 137, 138, 139, 140, 99, 53, 54, 55, 56, 1, 2, 57, 58, 59, 10, 60, 12, 22, 32, 13, 14, 15, 16, 17, 23, 24, 25, 26, 27, 141, 142, 143, 144, 105, 145, 106, 151, 152, 153, 154, 155, 156, 157, 170, 171, 172, 173, 174, 158, 159, 160, 161, 162] (by decide +kernel) (by decide +kernel)
set_option maxRecDepth 20000 in
theorem gX4_deliverOldest_X4_hearFailed : GoodIn wsX4_deliverOldest (wsV RX4 170 RX4 yX4_hearFailed wsX4_hearFailed) := goodIn_app (goodIn_of _ (by decide +kernel)) ggX4_deliverOldest_X4_hearFailed
theorem dX4_deliverOldest_0 : decode cX4_deliverOldest 0 = .ok (.aload_n 0, 1) := by decide +kernel
theorem dX4_deliverOldest_1 : decode cX4_deliverOldest 1 = .ok (.getfield 46, 3) := by decide +kernel
theorem dX4_deliverOldest_4 : decode cX4_deliverOldest 4 = .ok (.iload_n 1, 1) := by decide +kernel
theorem dX4_deliverOldest_5 : decode cX4_deliverOldest 5 = .ok (.iload_n 2, 1) := by decide +kernel
theorem dX4_deliverOldest_6 : decode cX4_deliverOldest 6 = .ok (.invokevirtual 113, 3) := by decide +kernel
theorem dX4_deliverOldest_9 : decode cX4_deliverOldest 9 = .ok (.ifCond .ne 5, 3) := by decide +kernel
theorem dX4_deliverOldest_12 : decode cX4_deliverOldest 12 = .ok (.iconst 0, 1) := by decide +kernel
theorem dX4_deliverOldest_13 : decode cX4_deliverOldest 13 = .ok (.ireturn, 1) := by decide +kernel
theorem dX4_deliverOldest_14 : decode cX4_deliverOldest 14 = .ok (.aload_n 0, 1) := by decide +kernel
theorem dX4_deliverOldest_15 : decode cX4_deliverOldest 15 = .ok (.getfield 46, 3) := by decide +kernel
theorem dX4_deliverOldest_18 : decode cX4_deliverOldest 18 = .ok (.iload_n 1, 1) := by decide +kernel
theorem dX4_deliverOldest_19 : decode cX4_deliverOldest 19 = .ok (.iload_n 2, 1) := by decide +kernel
theorem dX4_deliverOldest_20 : decode cX4_deliverOldest 20 = .ok (.iconst 0, 1) := by decide +kernel
theorem dX4_deliverOldest_21 : decode cX4_deliverOldest 21 = .ok (.iconst 0, 1) := by decide +kernel
theorem dX4_deliverOldest_22 : decode cX4_deliverOldest 22 = .ok (.invokevirtual 116, 3) := by decide +kernel
theorem dX4_deliverOldest_25 : decode cX4_deliverOldest 25 = .ok (.istore_n 3, 1) := by decide +kernel
theorem dX4_deliverOldest_26 : decode cX4_deliverOldest 26 = .ok (.aload_n 0, 1) := by decide +kernel
theorem dX4_deliverOldest_27 : decode cX4_deliverOldest 27 = .ok (.getfield 46, 3) := by decide +kernel
theorem dX4_deliverOldest_30 : decode cX4_deliverOldest 30 = .ok (.iload_n 1, 1) := by decide +kernel
theorem dX4_deliverOldest_31 : decode cX4_deliverOldest 31 = .ok (.iload_n 2, 1) := by decide +kernel
theorem dX4_deliverOldest_32 : decode cX4_deliverOldest 32 = .ok (.iconst 0, 1) := by decide +kernel
theorem dX4_deliverOldest_33 : decode cX4_deliverOldest 33 = .ok (.iconst 1, 1) := by decide +kernel
theorem dX4_deliverOldest_34 : decode cX4_deliverOldest 34 = .ok (.invokevirtual 116, 3) := by decide +kernel
theorem dX4_deliverOldest_37 : decode cX4_deliverOldest 37 = .ok (.istore 4, 2) := by decide +kernel
theorem dX4_deliverOldest_39 : decode cX4_deliverOldest 39 = .ok (.aload_n 0, 1) := by decide +kernel
theorem dX4_deliverOldest_40 : decode cX4_deliverOldest 40 = .ok (.getfield 26, 3) := by decide +kernel
theorem dX4_deliverOldest_43 : decode cX4_deliverOldest 43 = .ok (.iload_n 2, 1) := by decide +kernel
theorem dX4_deliverOldest_44 : decode cX4_deliverOldest 44 = .ok (.aload_n 0, 1) := by decide +kernel
theorem dX4_deliverOldest_45 : decode cX4_deliverOldest 45 = .ok (.getfield 26, 3) := by decide +kernel
theorem dX4_deliverOldest_48 : decode cX4_deliverOldest 48 = .ok (.iload_n 2, 1) := by decide +kernel
theorem dX4_deliverOldest_49 : decode cX4_deliverOldest 49 = .ok (.iaload, 1) := by decide +kernel
theorem dX4_deliverOldest_50 : decode cX4_deliverOldest 50 = .ok (.aload_n 0, 1) := by decide +kernel
theorem dX4_deliverOldest_51 : decode cX4_deliverOldest 51 = .ok (.getfield 46, 3) := by decide +kernel
theorem dX4_deliverOldest_54 : decode cX4_deliverOldest 54 = .ok (.iload_n 1, 1) := by decide +kernel
theorem dX4_deliverOldest_55 : decode cX4_deliverOldest 55 = .ok (.iload_n 2, 1) := by decide +kernel
theorem dX4_deliverOldest_56 : decode cX4_deliverOldest 56 = .ok (.iconst 0, 1) := by decide +kernel
theorem dX4_deliverOldest_57 : decode cX4_deliverOldest 57 = .ok (.iconst 2, 1) := by decide +kernel
theorem dX4_deliverOldest_58 : decode cX4_deliverOldest 58 = .ok (.invokevirtual 116, 3) := by decide +kernel
theorem dX4_deliverOldest_61 : decode cX4_deliverOldest 61 = .ok (.invokestatic 7, 3) := by decide +kernel
theorem dX4_deliverOldest_64 : decode cX4_deliverOldest 64 = .ok (.iconst 1, 1) := by decide +kernel
theorem dX4_deliverOldest_65 : decode cX4_deliverOldest 65 = .ok (.iadd, 1) := by decide +kernel
theorem dX4_deliverOldest_66 : decode cX4_deliverOldest 66 = .ok (.iastore, 1) := by decide +kernel
theorem dX4_deliverOldest_67 : decode cX4_deliverOldest 67 = .ok (.aload_n 0, 1) := by decide +kernel
theorem dX4_deliverOldest_68 : decode cX4_deliverOldest 68 = .ok (.getfield 46, 3) := by decide +kernel
theorem dX4_deliverOldest_71 : decode cX4_deliverOldest 71 = .ok (.iload_n 1, 1) := by decide +kernel
theorem dX4_deliverOldest_72 : decode cX4_deliverOldest 72 = .ok (.iload_n 2, 1) := by decide +kernel
theorem dX4_deliverOldest_73 : decode cX4_deliverOldest 73 = .ok (.invokevirtual 153, 3) := by decide +kernel
theorem dX4_deliverOldest_76 : decode cX4_deliverOldest 76 = .ok (.iload_n 3, 1) := by decide +kernel
theorem dX4_deliverOldest_77 : decode cX4_deliverOldest 77 = .ok (.tableswitch 92 1 5 #[35, 46, 57, 69, 80], 35) := by decide +kernel
theorem dX4_deliverOldest_112 : decode cX4_deliverOldest 112 = .ok (.aload_n 0, 1) := by decide +kernel
theorem dX4_deliverOldest_113 : decode cX4_deliverOldest 113 = .ok (.iload_n 2, 1) := by decide +kernel
theorem dX4_deliverOldest_114 : decode cX4_deliverOldest 114 = .ok (.iload_n 1, 1) := by decide +kernel
theorem dX4_deliverOldest_115 : decode cX4_deliverOldest 115 = .ok (.iload 4, 2) := by decide +kernel
theorem dX4_deliverOldest_117 : decode cX4_deliverOldest 117 = .ok (.invokevirtual 157, 3) := by decide +kernel
theorem dX4_deliverOldest_120 : decode cX4_deliverOldest 120 = .ok (.goto 57, 3) := by decide +kernel
theorem dX4_deliverOldest_123 : decode cX4_deliverOldest 123 = .ok (.aload_n 0, 1) := by decide +kernel
theorem dX4_deliverOldest_124 : decode cX4_deliverOldest 124 = .ok (.iload_n 2, 1) := by decide +kernel
theorem dX4_deliverOldest_125 : decode cX4_deliverOldest 125 = .ok (.iload_n 1, 1) := by decide +kernel
theorem dX4_deliverOldest_126 : decode cX4_deliverOldest 126 = .ok (.iload 4, 2) := by decide +kernel
theorem dX4_deliverOldest_128 : decode cX4_deliverOldest 128 = .ok (.invokevirtual 160, 3) := by decide +kernel
theorem dX4_deliverOldest_131 : decode cX4_deliverOldest 131 = .ok (.goto 46, 3) := by decide +kernel
theorem dX4_deliverOldest_134 : decode cX4_deliverOldest 134 = .ok (.aload_n 0, 1) := by decide +kernel
theorem dX4_deliverOldest_135 : decode cX4_deliverOldest 135 = .ok (.iload_n 2, 1) := by decide +kernel
theorem dX4_deliverOldest_136 : decode cX4_deliverOldest 136 = .ok (.iload_n 1, 1) := by decide +kernel
theorem dX4_deliverOldest_137 : decode cX4_deliverOldest 137 = .ok (.iload 4, 2) := by decide +kernel
theorem dX4_deliverOldest_139 : decode cX4_deliverOldest 139 = .ok (.iconst 0, 1) := by decide +kernel
theorem dX4_deliverOldest_140 : decode cX4_deliverOldest 140 = .ok (.invokevirtual 163, 3) := by decide +kernel
theorem dX4_deliverOldest_143 : decode cX4_deliverOldest 143 = .ok (.goto 34, 3) := by decide +kernel
theorem dX4_deliverOldest_146 : decode cX4_deliverOldest 146 = .ok (.aload_n 0, 1) := by decide +kernel
theorem dX4_deliverOldest_147 : decode cX4_deliverOldest 147 = .ok (.iload_n 2, 1) := by decide +kernel
theorem dX4_deliverOldest_148 : decode cX4_deliverOldest 148 = .ok (.iload_n 1, 1) := by decide +kernel
theorem dX4_deliverOldest_149 : decode cX4_deliverOldest 149 = .ok (.iload 4, 2) := by decide +kernel
theorem dX4_deliverOldest_151 : decode cX4_deliverOldest 151 = .ok (.invokevirtual 167, 3) := by decide +kernel
theorem dX4_deliverOldest_154 : decode cX4_deliverOldest 154 = .ok (.goto 23, 3) := by decide +kernel
theorem dX4_deliverOldest_157 : decode cX4_deliverOldest 157 = .ok (.aload_n 0, 1) := by decide +kernel
theorem dX4_deliverOldest_158 : decode cX4_deliverOldest 158 = .ok (.iload_n 2, 1) := by decide +kernel
theorem dX4_deliverOldest_159 : decode cX4_deliverOldest 159 = .ok (.iload_n 1, 1) := by decide +kernel
theorem dX4_deliverOldest_160 : decode cX4_deliverOldest 160 = .ok (.iload 4, 2) := by decide +kernel
theorem dX4_deliverOldest_162 : decode cX4_deliverOldest 162 = .ok (.iconst 1, 1) := by decide +kernel
theorem dX4_deliverOldest_163 : decode cX4_deliverOldest 163 = .ok (.invokevirtual 163, 3) := by decide +kernel
theorem dX4_deliverOldest_166 : decode cX4_deliverOldest 166 = .ok (.goto 11, 3) := by decide +kernel
theorem dX4_deliverOldest_169 : decode cX4_deliverOldest 169 = .ok (.aload_n 0, 1) := by decide +kernel
theorem dX4_deliverOldest_170 : decode cX4_deliverOldest 170 = .ok (.iload_n 2, 1) := by decide +kernel
theorem dX4_deliverOldest_171 : decode cX4_deliverOldest 171 = .ok (.iload_n 1, 1) := by decide +kernel
theorem dX4_deliverOldest_172 : decode cX4_deliverOldest 172 = .ok (.iload 4, 2) := by decide +kernel
theorem dX4_deliverOldest_174 : decode cX4_deliverOldest 174 = .ok (.invokevirtual 170, 3) := by decide +kernel
theorem dX4_deliverOldest_177 : decode cX4_deliverOldest 177 = .ok (.iload_n 3, 1) := by decide +kernel
theorem dX4_deliverOldest_178 : decode cX4_deliverOldest 178 = .ok (.ireturn, 1) := by decide +kernel
set_option maxRecDepth 20000 in
theorem ggX4_hearLocked_X0_gainVote : GoodIn wsX4_hearLocked wsX0_gainVote := goodIn_r _ [8, 9, 10, 18, 19, 20, 21, 22] (by decide +kernel) (by decide +kernel)
set_option maxRecDepth 20000 in
theorem gX4_hearLocked_X0_gainVote : GoodIn wsX4_hearLocked (wsV RX4 173 RX0 yX0_gainVote wsX0_gainVote) := goodIn_app (goodIn_of _ (by decide +kernel)) ggX4_hearLocked_X0_gainVote
theorem dX4_hearLocked_0 : decode cX4_hearLocked 0 = .ok (.aload_n 0, 1) := by decide +kernel
theorem dX4_hearLocked_1 : decode cX4_hearLocked 1 = .ok (.getfield 31, 3) := by decide +kernel
theorem dX4_hearLocked_4 : decode cX4_hearLocked 4 = .ok (.iload_n 1, 1) := by decide +kernel
theorem dX4_hearLocked_5 : decode cX4_hearLocked 5 = .ok (.aaload, 1) := by decide +kernel
theorem dX4_hearLocked_6 : decode cX4_hearLocked 6 = .ok (.astore 4, 2) := by decide +kernel
theorem dX4_hearLocked_8 : decode cX4_hearLocked 8 = .ok (.aload 4, 2) := by decide +kernel
theorem dX4_hearLocked_10 : decode cX4_hearLocked 10 = .ok (.getfield 74, 3) := by decide +kernel
theorem dX4_hearLocked_13 : decode cX4_hearLocked 13 = .ok (.ifCond .eq 18, 3) := by decide +kernel
theorem dX4_hearLocked_16 : decode cX4_hearLocked 16 = .ok (.aload 4, 2) := by decide +kernel
theorem dX4_hearLocked_18 : decode cX4_hearLocked 18 = .ok (.getfield 80, 3) := by decide +kernel
theorem dX4_hearLocked_21 : decode cX4_hearLocked 21 = .ok (.iload_n 3, 1) := by decide +kernel
theorem dX4_hearLocked_22 : decode cX4_hearLocked 22 = .ok (.if_icmp .ne 9, 3) := by decide +kernel
theorem dX4_hearLocked_25 : decode cX4_hearLocked 25 = .ok (.aload 4, 2) := by decide +kernel
theorem dX4_hearLocked_27 : decode cX4_hearLocked 27 = .ok (.iload_n 2, 1) := by decide +kernel
theorem dX4_hearLocked_28 : decode cX4_hearLocked 28 = .ok (.invokevirtual 173, 3) := by decide +kernel
theorem dX4_hearLocked_31 : decode cX4_hearLocked 31 = .ok (.return_, 1) := by decide +kernel
set_option maxRecDepth 20000 in
theorem ggX4_hearFailed_X0_isAsking : GoodIn wsX4_hearFailed wsX0_isAsking := goodIn_r _ [10, 11, 12, 60, 61, 62, 63, 64] (by decide +kernel) (by decide +kernel)
set_option maxRecDepth 20000 in
theorem gX4_hearFailed_X0_isAsking : GoodIn wsX4_hearFailed (wsV RX4 176 RX0 yX0_isAsking wsX0_isAsking) := goodIn_app (goodIn_of _ (by decide +kernel)) ggX4_hearFailed_X0_isAsking
set_option maxRecDepth 20000 in
theorem ggX4_hearFailed_X4_has : GoodIn wsX4_hearFailed wsX4_has := goodIn_r _ [16] (by decide +kernel) (by decide +kernel)
set_option maxRecDepth 20000 in
theorem gX4_hearFailed_X4_has : GoodIn wsX4_hearFailed (va_wsS RX4 146 yX4_has wsX4_has) := goodIn_app (goodIn_of _ (by decide +kernel)) ggX4_hearFailed_X4_has
set_option maxRecDepth 20000 in
theorem ggX4_hearFailed_X4_giveUp : GoodIn wsX4_hearFailed wsX4_giveUp := goodIn_r _ [20, 1, 21, 22, 23, 24, 15, 25, 26, 27, 28, 29, 30, 31, 32, 33, 34, 35, 36, 37, 38, 39, 40, 41, 42, 43, 44, 45, 46, 47, 48, 9, 49, 50, 51, 52, 53, 54, 55, 56, 57, 58, 59, 60, 61, 62, 63, 64, 65, 66, 67, 68, 69] (by decide +kernel) (by decide +kernel)
set_option maxRecDepth 20000 in
theorem gX4_hearFailed_X4_giveUp : GoodIn wsX4_hearFailed (wsV RX4 179 RX4 yX4_giveUp wsX4_giveUp) := goodIn_app (goodIn_of _ (by decide +kernel)) ggX4_hearFailed_X4_giveUp
theorem dX4_hearFailed_0 : decode cX4_hearFailed 0 = .ok (.aload_n 0, 1) := by decide +kernel
theorem dX4_hearFailed_1 : decode cX4_hearFailed 1 = .ok (.getfield 31, 3) := by decide +kernel
theorem dX4_hearFailed_4 : decode cX4_hearFailed 4 = .ok (.iload_n 1, 1) := by decide +kernel
theorem dX4_hearFailed_5 : decode cX4_hearFailed 5 = .ok (.aaload, 1) := by decide +kernel
theorem dX4_hearFailed_6 : decode cX4_hearFailed 6 = .ok (.astore 4, 2) := by decide +kernel
theorem dX4_hearFailed_8 : decode cX4_hearFailed 8 = .ok (.aload 4, 2) := by decide +kernel
theorem dX4_hearFailed_10 : decode cX4_hearFailed 10 = .ok (.iload_n 3, 1) := by decide +kernel
theorem dX4_hearFailed_11 : decode cX4_hearFailed 11 = .ok (.invokevirtual 176, 3) := by decide +kernel
theorem dX4_hearFailed_14 : decode cX4_hearFailed 14 = .ok (.ifCond .ne 4, 3) := by decide +kernel
theorem dX4_hearFailed_17 : decode cX4_hearFailed 17 = .ok (.return_, 1) := by decide +kernel
theorem dX4_hearFailed_18 : decode cX4_hearFailed 18 = .ok (.aload 4, 2) := by decide +kernel
theorem dX4_hearFailed_20 : decode cX4_hearFailed 20 = .ok (.dup, 1) := by decide +kernel
theorem dX4_hearFailed_21 : decode cX4_hearFailed 21 = .ok (.getfield 120, 3) := by decide +kernel
theorem dX4_hearFailed_24 : decode cX4_hearFailed 24 = .ok (.iconst 1, 1) := by decide +kernel
theorem dX4_hearFailed_25 : decode cX4_hearFailed 25 = .ok (.iload_n 2, 1) := by decide +kernel
theorem dX4_hearFailed_26 : decode cX4_hearFailed 26 = .ok (.ishl, 1) := by decide +kernel
theorem dX4_hearFailed_27 : decode cX4_hearFailed 27 = .ok (.ior, 1) := by decide +kernel
theorem dX4_hearFailed_28 : decode cX4_hearFailed 28 = .ok (.putfield 120, 3) := by decide +kernel
theorem dX4_hearFailed_31 : decode cX4_hearFailed 31 = .ok (.iconst 0, 1) := by decide +kernel
theorem dX4_hearFailed_32 : decode cX4_hearFailed 32 = .ok (.istore 5, 2) := by decide +kernel
theorem dX4_hearFailed_34 : decode cX4_hearFailed 34 = .ok (.iload 5, 2) := by decide +kernel
theorem dX4_hearFailed_36 : decode cX4_hearFailed 36 = .ok (.aload_n 0, 1) := by decide +kernel
theorem dX4_hearFailed_37 : decode cX4_hearFailed 37 = .ok (.getfield 18, 3) := by decide +kernel
theorem dX4_hearFailed_40 : decode cX4_hearFailed 40 = .ok (.if_icmp .ge 35, 3) := by decide +kernel
theorem dX4_hearFailed_43 : decode cX4_hearFailed 43 = .ok (.aload 4, 2) := by decide +kernel
theorem dX4_hearFailed_45 : decode cX4_hearFailed 45 = .ok (.getfield 94, 3) := by decide +kernel
theorem dX4_hearFailed_48 : decode cX4_hearFailed 48 = .ok (.aload 4, 2) := by decide +kernel
theorem dX4_hearFailed_50 : decode cX4_hearFailed 50 = .ok (.getfield 123, 3) := by decide +kernel
theorem dX4_hearFailed_53 : decode cX4_hearFailed 53 = .ok (.iand, 1) := by decide +kernel
theorem dX4_hearFailed_54 : decode cX4_hearFailed 54 = .ok (.iload 5, 2) := by decide +kernel
theorem dX4_hearFailed_56 : decode cX4_hearFailed 56 = .ok (.invokestatic 146, 3) := by decide +kernel
theorem dX4_hearFailed_59 : decode cX4_hearFailed 59 = .ok (.ifCond .eq 10, 3) := by decide +kernel
theorem dX4_hearFailed_62 : decode cX4_hearFailed 62 = .ok (.aload_n 0, 1) := by decide +kernel
theorem dX4_hearFailed_63 : decode cX4_hearFailed 63 = .ok (.iload_n 1, 1) := by decide +kernel
theorem dX4_hearFailed_64 : decode cX4_hearFailed 64 = .ok (.iload 5, 2) := by decide +kernel
theorem dX4_hearFailed_66 : decode cX4_hearFailed 66 = .ok (.invokevirtual 179, 3) := by decide +kernel
theorem dX4_hearFailed_69 : decode cX4_hearFailed 69 = .ok (.iinc 5 1, 3) := by decide +kernel
theorem dX4_hearFailed_72 : decode cX4_hearFailed 72 = .ok (.goto (-38), 3) := by decide +kernel
theorem dX4_hearFailed_75 : decode cX4_hearFailed 75 = .ok (.return_, 1) := by decide +kernel
set_option maxRecDepth 20000 in
theorem ggX4_hearInquire_X0_isAsking : GoodIn wsX4_hearInquire wsX0_isAsking := goodIn_r _ [9, 10, 11, 59, 60, 61, 62, 63] (by decide +kernel) (by decide +kernel)
set_option maxRecDepth 20000 in
theorem gX4_hearInquire_X0_isAsking : GoodIn wsX4_hearInquire (wsV RX4 176 RX0 yX0_isAsking wsX0_isAsking) := goodIn_app (goodIn_of _ (by decide +kernel)) ggX4_hearInquire_X0_isAsking
set_option maxRecDepth 20000 in
theorem ggX4_hearInquire_X4_has : GoodIn wsX4_hearInquire wsX4_has := goodIn_r _ [15] (by decide +kernel) (by decide +kernel)
set_option maxRecDepth 20000 in
theorem gX4_hearInquire_X4_has : GoodIn wsX4_hearInquire (va_wsS RX4 146 yX4_has wsX4_has) := goodIn_app (goodIn_of _ (by decide +kernel)) ggX4_hearInquire_X4_has
set_option maxRecDepth 20000 in
theorem ggX4_hearInquire_X4_giveUp : GoodIn wsX4_hearInquire wsX4_giveUp := goodIn_r _ [19, 1, 20, 21, 22, 23, 14, 24, 25, 26, 27, 28, 29, 30, 31, 32, 33, 34, 35, 36, 37, 38, 39, 40, 41, 42, 43, 44, 45, 46, 47, 8, 48, 49, 50, 51, 52, 53, 54, 55, 56, 57, 58, 59, 60, 61, 62, 63, 64, 65, 66, 67, 68] (by decide +kernel) (by decide +kernel)
set_option maxRecDepth 20000 in
theorem gX4_hearInquire_X4_giveUp : GoodIn wsX4_hearInquire (wsV RX4 179 RX4 yX4_giveUp wsX4_giveUp) := goodIn_app (goodIn_of _ (by decide +kernel)) ggX4_hearInquire_X4_giveUp
theorem dX4_hearInquire_0 : decode cX4_hearInquire 0 = .ok (.aload_n 0, 1) := by decide +kernel
theorem dX4_hearInquire_1 : decode cX4_hearInquire 1 = .ok (.getfield 31, 3) := by decide +kernel
theorem dX4_hearInquire_4 : decode cX4_hearInquire 4 = .ok (.iload_n 1, 1) := by decide +kernel
theorem dX4_hearInquire_5 : decode cX4_hearInquire 5 = .ok (.aaload, 1) := by decide +kernel
theorem dX4_hearInquire_6 : decode cX4_hearInquire 6 = .ok (.astore 4, 2) := by decide +kernel
theorem dX4_hearInquire_8 : decode cX4_hearInquire 8 = .ok (.aload 4, 2) := by decide +kernel
theorem dX4_hearInquire_10 : decode cX4_hearInquire 10 = .ok (.iload_n 3, 1) := by decide +kernel
theorem dX4_hearInquire_11 : decode cX4_hearInquire 11 = .ok (.invokevirtual 176, 3) := by decide +kernel
theorem dX4_hearInquire_14 : decode cX4_hearInquire 14 = .ok (.ifCond .eq 15, 3) := by decide +kernel
theorem dX4_hearInquire_17 : decode cX4_hearInquire 17 = .ok (.aload 4, 2) := by decide +kernel
theorem dX4_hearInquire_19 : decode cX4_hearInquire 19 = .ok (.getfield 94, 3) := by decide +kernel
theorem dX4_hearInquire_22 : decode cX4_hearInquire 22 = .ok (.iload_n 2, 1) := by decide +kernel
theorem dX4_hearInquire_23 : decode cX4_hearInquire 23 = .ok (.invokestatic 146, 3) := by decide +kernel
theorem dX4_hearInquire_26 : decode cX4_hearInquire 26 = .ok (.ifCond .ne 4, 3) := by decide +kernel
theorem dX4_hearInquire_29 : decode cX4_hearInquire 29 = .ok (.return_, 1) := by decide +kernel
theorem dX4_hearInquire_30 : decode cX4_hearInquire 30 = .ok (.aload 4, 2) := by decide +kernel
theorem dX4_hearInquire_32 : decode cX4_hearInquire 32 = .ok (.getfield 120, 3) := by decide +kernel
theorem dX4_hearInquire_35 : decode cX4_hearInquire 35 = .ok (.ifCond .eq 12, 3) := by decide +kernel
theorem dX4_hearInquire_38 : decode cX4_hearInquire 38 = .ok (.aload_n 0, 1) := by decide +kernel
theorem dX4_hearInquire_39 : decode cX4_hearInquire 39 = .ok (.iload_n 1, 1) := by decide +kernel
theorem dX4_hearInquire_40 : decode cX4_hearInquire 40 = .ok (.iload_n 2, 1) := by decide +kernel
theorem dX4_hearInquire_41 : decode cX4_hearInquire 41 = .ok (.invokevirtual 179, 3) := by decide +kernel
theorem dX4_hearInquire_44 : decode cX4_hearInquire 44 = .ok (.goto 16, 3) := by decide +kernel
theorem dX4_hearInquire_47 : decode cX4_hearInquire 47 = .ok (.aload 4, 2) := by decide +kernel
theorem dX4_hearInquire_49 : decode cX4_hearInquire 49 = .ok (.dup, 1) := by decide +kernel
theorem dX4_hearInquire_50 : decode cX4_hearInquire 50 = .ok (.getfield 123, 3) := by decide +kernel
theorem dX4_hearInquire_53 : decode cX4_hearInquire 53 = .ok (.iconst 1, 1) := by decide +kernel
theorem dX4_hearInquire_54 : decode cX4_hearInquire 54 = .ok (.iload_n 2, 1) := by decide +kernel
theorem dX4_hearInquire_55 : decode cX4_hearInquire 55 = .ok (.ishl, 1) := by decide +kernel
theorem dX4_hearInquire_56 : decode cX4_hearInquire 56 = .ok (.ior, 1) := by decide +kernel
theorem dX4_hearInquire_57 : decode cX4_hearInquire 57 = .ok (.putfield 123, 3) := by decide +kernel
theorem dX4_hearInquire_60 : decode cX4_hearInquire 60 = .ok (.return_, 1) := by decide +kernel
set_option maxRecDepth 20000 in
theorem ggX4_giveUp_X4_send : GoodIn wsX4_giveUp wsX4_send := goodIn_r _ [7, 8, 9, 10, 11, 12, 13, 14, 15, 16, 17, 18, 19, 20, 21, 22, 23, 24, 25, 26, 27, 36, 37, 38, 39, 40, 41, 42, 48, 49, 50, 51, 52] (by decide +kernel) (by decide +kernel)
set_option maxRecDepth 20000 in
theorem gX4_giveUp_X4_send : GoodIn wsX4_giveUp (wsV RX4 149 RX4 yX4_send wsX4_send) := goodIn_app (goodIn_of _ (by decide +kernel)) ggX4_giveUp_X4_send
set_option maxRecDepth 20000 in
theorem ggX4_giveUp_X0_loseVote : GoodIn wsX4_giveUp wsX0_loseVote := goodIn_r _ [32, 33, 34, 35, 43, 44, 45, 46, 47] (by decide +kernel) (by decide +kernel)
set_option maxRecDepth 20000 in
theorem gX4_giveUp_X0_loseVote : GoodIn wsX4_giveUp (wsV RX4 182 RX0 yX0_loseVote wsX0_loseVote) := goodIn_app (goodIn_of _ (by decide +kernel)) ggX4_giveUp_X0_loseVote
theorem dX4_giveUp_0 : decode cX4_giveUp 0 = .ok (.aload_n 0, 1) := by decide +kernel
theorem dX4_giveUp_1 : decode cX4_giveUp 1 = .ok (.getfield 31, 3) := by decide +kernel
theorem dX4_giveUp_4 : decode cX4_giveUp 4 = .ok (.iload_n 1, 1) := by decide +kernel
theorem dX4_giveUp_5 : decode cX4_giveUp 5 = .ok (.aaload, 1) := by decide +kernel
theorem dX4_giveUp_6 : decode cX4_giveUp 6 = .ok (.astore_n 3, 1) := by decide +kernel
theorem dX4_giveUp_7 : decode cX4_giveUp 7 = .ok (.aload_n 0, 1) := by decide +kernel
theorem dX4_giveUp_8 : decode cX4_giveUp 8 = .ok (.iload_n 1, 1) := by decide +kernel
theorem dX4_giveUp_9 : decode cX4_giveUp 9 = .ok (.iload_n 2, 1) := by decide +kernel
theorem dX4_giveUp_10 : decode cX4_giveUp 10 = .ok (.iconst 5, 1) := by decide +kernel
theorem dX4_giveUp_11 : decode cX4_giveUp 11 = .ok (.aload_n 3, 1) := by decide +kernel
theorem dX4_giveUp_12 : decode cX4_giveUp 12 = .ok (.getfield 80, 3) := by decide +kernel
theorem dX4_giveUp_15 : decode cX4_giveUp 15 = .ok (.invokevirtual 149, 3) := by decide +kernel
theorem dX4_giveUp_18 : decode cX4_giveUp 18 = .ok (.aload_n 3, 1) := by decide +kernel
theorem dX4_giveUp_19 : decode cX4_giveUp 19 = .ok (.iload_n 2, 1) := by decide +kernel
theorem dX4_giveUp_20 : decode cX4_giveUp 20 = .ok (.invokevirtual 182, 3) := by decide +kernel
theorem dX4_giveUp_23 : decode cX4_giveUp 23 = .ok (.return_, 1) := by decide +kernel
set_option maxRecDepth 20000 in
theorem ggX4_weighRequest_X4_lend : GoodIn wsX4_weighRequest wsX4_lend := goodIn_r _ [8, 1, 9, 10, 11, 12, 13, 14, 15, 16, 17, 18, 19, 7, 20, 21, 22, 23, 24, 25, 26, 27, 28, 29, 30, 31, 32, 33, 34, 35, 36, 37, 38, 39, 40, 73, 74, 75, 76, 77, 78, 79, 80, 81, 82, 83, 84, 85, 86, 87, 88] (by decide +kernel) (by decide +kernel)
set_option maxRecDepth 20000 in
theorem gX4_weighRequest_X4_lend : GoodIn wsX4_weighRequest (wsV RX4 185 RX4 yX4_lend wsX4_lend) := goodIn_app (goodIn_of _ (by decide +kernel)) ggX4_weighRequest_X4_lend
set_option maxRecDepth 20000 in
theorem ggX4_weighRequest_X2_isPressed : GoodIn wsX4_weighRequest wsX2_isPressed := goodIn_r _ [44, 45, 46, 14, 15, 47, 48, 49, 50, 51, 52, 53, 54, 55, 56, 57, 58, 59, 7, 60, 80, 81, 82, 83, 89, 90, 91] (by decide +kernel) (by decide +kernel)
set_option maxRecDepth 20000 in
theorem gX4_weighRequest_X2_isPressed : GoodIn wsX4_weighRequest (wsV RX4 188 RX2 yX2_isPressed wsX2_isPressed) := goodIn_app (goodIn_of _ (by decide +kernel)) ggX4_weighRequest_X2_isPressed
set_option maxRecDepth 20000 in
theorem ggX4_weighRequest_X1_insert : GoodIn wsX4_weighRequest wsX1_insert := goodIn_r _ [64, 52, 53, 58, 59, 7, 60, 89, 90, 91] (by decide +kernel) (by decide +kernel)
set_option maxRecDepth 20000 in
theorem gX4_weighRequest_X1_insert : GoodIn wsX4_weighRequest (wsV RX4 192 RX1 yX1_insert wsX1_insert) := goodIn_app (goodIn_of _ (by decide +kernel)) ggX4_weighRequest_X1_insert
set_option maxRecDepth 20000 in
theorem ggX4_weighRequest_X1_nodeAt : GoodIn wsX4_weighRequest wsX1_nodeAt := goodIn_r _ [51, 52, 53, 89, 90, 91] (by decide +kernel) (by decide +kernel)
set_option maxRecDepth 20000 in
theorem gX4_weighRequest_X1_nodeAt : GoodIn wsX4_weighRequest (wsV RX4 139 RX1 yX1_nodeAt wsX1_nodeAt) := goodIn_app (goodIn_of _ (by decide +kernel)) ggX4_weighRequest_X1_nodeAt
set_option maxRecDepth 20000 in
theorem ggX4_weighRequest_X1_timeAt : GoodIn wsX4_weighRequest wsX1_timeAt := goodIn_r _ [57, 52, 58, 89, 90, 91] (by decide +kernel) (by decide +kernel)
set_option maxRecDepth 20000 in
theorem gX4_weighRequest_X1_timeAt : GoodIn wsX4_weighRequest (wsV RX4 195 RX1 yX1_timeAt wsX1_timeAt) := goodIn_app (goodIn_of _ (by decide +kernel)) ggX4_weighRequest_X1_timeAt
set_option maxRecDepth 20000 in
theorem ggX4_weighRequest_X4_send : GoodIn wsX4_weighRequest wsX4_send := goodIn_r _ [20, 21, 22, 23, 24, 25, 26, 27, 28, 29, 30, 31, 32, 33, 34, 35, 36, 37, 38, 39, 40, 73, 74, 75, 76, 77, 78, 79, 84, 85, 86, 87, 88] (by decide +kernel) (by decide +kernel)
set_option maxRecDepth 20000 in
theorem gX4_weighRequest_X4_send : GoodIn wsX4_weighRequest (wsV RX4 149 RX4 yX4_send wsX4_send) := goodIn_app (goodIn_of _ (by decide +kernel)) ggX4_weighRequest_X4_send
set_option maxRecDepth 20000 in
theorem ggX4_weighRequest_X4_inquireOnce : GoodIn wsX4_weighRequest wsX4_inquireOnce := goodIn_r _ [70, 1, 71, 2, 72, 17, 18, 19, 7, 20, 21, 22, 23, 24, 25, 26, 27, 28, 29, 30, 31, 32, 33, 34, 35, 36, 37, 38, 39, 40, 73, 74, 75, 76, 77, 78, 79, 80, 81, 82, 83, 84, 85, 86, 87, 88] (by decide +kernel) (by decide +kernel)
set_option maxRecDepth 20000 in
theorem gX4_weighRequest_X4_inquireOnce : GoodIn wsX4_weighRequest (wsV RX4 198 RX4 yX4_inquireOnce wsX4_inquireOnce) := goodIn_app (goodIn_of _ (by decide +kernel)) ggX4_weighRequest_X4_inquireOnce
theorem dX4_weighRequest_0 : decode cX4_weighRequest 0 = .ok (.aload_n 0, 1) := by decide +kernel
theorem dX4_weighRequest_1 : decode cX4_weighRequest 1 = .ok (.getfield 37, 3) := by decide +kernel
theorem dX4_weighRequest_4 : decode cX4_weighRequest 4 = .ok (.iload_n 1, 1) := by decide +kernel
theorem dX4_weighRequest_5 : decode cX4_weighRequest 5 = .ok (.aaload, 1) := by decide +kernel
theorem dX4_weighRequest_6 : decode cX4_weighRequest 6 = .ok (.astore 4, 2) := by decide +kernel
theorem dX4_weighRequest_8 : decode cX4_weighRequest 8 = .ok (.aload 4, 2) := by decide +kernel
theorem dX4_weighRequest_10 : decode cX4_weighRequest 10 = .ok (.getfield 103, 3) := by decide +kernel
theorem dX4_weighRequest_13 : decode cX4_weighRequest 13 = .ok (.iconst (-1), 1) := by decide +kernel
theorem dX4_weighRequest_14 : decode cX4_weighRequest 14 = .ok (.if_icmp .ne 11, 3) := by decide +kernel
theorem dX4_weighRequest_17 : decode cX4_weighRequest 17 = .ok (.aload_n 0, 1) := by decide +kernel
theorem dX4_weighRequest_18 : decode cX4_weighRequest 18 = .ok (.iload_n 1, 1) := by decide +kernel
theorem dX4_weighRequest_19 : decode cX4_weighRequest 19 = .ok (.iload_n 2, 1) := by decide +kernel
theorem dX4_weighRequest_20 : decode cX4_weighRequest 20 = .ok (.iload_n 3, 1) := by decide +kernel
theorem dX4_weighRequest_21 : decode cX4_weighRequest 21 = .ok (.invokevirtual 185, 3) := by decide +kernel
theorem dX4_weighRequest_24 : decode cX4_weighRequest 24 = .ok (.return_, 1) := by decide +kernel
theorem dX4_weighRequest_25 : decode cX4_weighRequest 25 = .ok (.aload 4, 2) := by decide +kernel
theorem dX4_weighRequest_27 : decode cX4_weighRequest 27 = .ok (.invokevirtual 188, 3) := by decide +kernel
theorem dX4_weighRequest_30 : decode cX4_weighRequest 30 = .ok (.istore 5, 2) := by decide +kernel
theorem dX4_weighRequest_32 : decode cX4_weighRequest 32 = .ok (.aload 4, 2) := by decide +kernel
theorem dX4_weighRequest_34 : decode cX4_weighRequest 34 = .ok (.getfield 130, 3) := by decide +kernel
theorem dX4_weighRequest_37 : decode cX4_weighRequest 37 = .ok (.iload_n 2, 1) := by decide +kernel
theorem dX4_weighRequest_38 : decode cX4_weighRequest 38 = .ok (.iload_n 3, 1) := by decide +kernel
theorem dX4_weighRequest_39 : decode cX4_weighRequest 39 = .ok (.invokevirtual 192, 3) := by decide +kernel
theorem dX4_weighRequest_42 : decode cX4_weighRequest 42 = .ok (.ifCond .ne 7, 3) := by decide +kernel
theorem dX4_weighRequest_45 : decode cX4_weighRequest 45 = .ok (.iconst 1, 1) := by decide +kernel
theorem dX4_weighRequest_46 : decode cX4_weighRequest 46 = .ok (.goto 4, 3) := by decide +kernel
theorem dX4_weighRequest_49 : decode cX4_weighRequest 49 = .ok (.iconst 0, 1) := by decide +kernel
theorem dX4_weighRequest_50 : decode cX4_weighRequest 50 = .ok (.istore 6, 2) := by decide +kernel
theorem dX4_weighRequest_52 : decode cX4_weighRequest 52 = .ok (.iload 6, 2) := by decide +kernel
theorem dX4_weighRequest_54 : decode cX4_weighRequest 54 = .ok (.ifCond .eq 49, 3) := by decide +kernel
theorem dX4_weighRequest_57 : decode cX4_weighRequest 57 = .ok (.aload 4, 2) := by decide +kernel
theorem dX4_weighRequest_59 : decode cX4_weighRequest 59 = .ok (.invokevirtual 188, 3) := by decide +kernel
theorem dX4_weighRequest_62 : decode cX4_weighRequest 62 = .ok (.ifCond .eq 41, 3) := by decide +kernel
theorem dX4_weighRequest_65 : decode cX4_weighRequest 65 = .ok (.iload 5, 2) := by decide +kernel
theorem dX4_weighRequest_67 : decode cX4_weighRequest 67 = .ok (.ifCond .eq 28, 3) := by decide +kernel
theorem dX4_weighRequest_70 : decode cX4_weighRequest 70 = .ok (.aload_n 0, 1) := by decide +kernel
theorem dX4_weighRequest_71 : decode cX4_weighRequest 71 = .ok (.iload_n 1, 1) := by decide +kernel
theorem dX4_weighRequest_72 : decode cX4_weighRequest 72 = .ok (.aload 4, 2) := by decide +kernel
theorem dX4_weighRequest_74 : decode cX4_weighRequest 74 = .ok (.getfield 130, 3) := by decide +kernel
theorem dX4_weighRequest_77 : decode cX4_weighRequest 77 = .ok (.iconst 1, 1) := by decide +kernel
theorem dX4_weighRequest_78 : decode cX4_weighRequest 78 = .ok (.invokevirtual 139, 3) := by decide +kernel
theorem dX4_weighRequest_81 : decode cX4_weighRequest 81 = .ok (.bipush 6, 2) := by decide +kernel
theorem dX4_weighRequest_83 : decode cX4_weighRequest 83 = .ok (.aload 4, 2) := by decide +kernel
theorem dX4_weighRequest_85 : decode cX4_weighRequest 85 = .ok (.getfield 130, 3) := by decide +kernel
theorem dX4_weighRequest_88 : decode cX4_weighRequest 88 = .ok (.iconst 1, 1) := by decide +kernel
theorem dX4_weighRequest_89 : decode cX4_weighRequest 89 = .ok (.invokevirtual 195, 3) := by decide +kernel
theorem dX4_weighRequest_92 : decode cX4_weighRequest 92 = .ok (.invokevirtual 149, 3) := by decide +kernel
theorem dX4_weighRequest_95 : decode cX4_weighRequest 95 = .ok (.aload_n 0, 1) := by decide +kernel
theorem dX4_weighRequest_96 : decode cX4_weighRequest 96 = .ok (.iload_n 1, 1) := by decide +kernel
theorem dX4_weighRequest_97 : decode cX4_weighRequest 97 = .ok (.invokevirtual 198, 3) := by decide +kernel
theorem dX4_weighRequest_100 : decode cX4_weighRequest 100 = .ok (.goto 12, 3) := by decide +kernel
theorem dX4_weighRequest_103 : decode cX4_weighRequest 103 = .ok (.aload_n 0, 1) := by decide +kernel
theorem dX4_weighRequest_104 : decode cX4_weighRequest 104 = .ok (.iload_n 1, 1) := by decide +kernel
theorem dX4_weighRequest_105 : decode cX4_weighRequest 105 = .ok (.iload_n 2, 1) := by decide +kernel
theorem dX4_weighRequest_106 : decode cX4_weighRequest 106 = .ok (.bipush 6, 2) := by decide +kernel
theorem dX4_weighRequest_108 : decode cX4_weighRequest 108 = .ok (.iload_n 3, 1) := by decide +kernel
theorem dX4_weighRequest_109 : decode cX4_weighRequest 109 = .ok (.invokevirtual 149, 3) := by decide +kernel
theorem dX4_weighRequest_112 : decode cX4_weighRequest 112 = .ok (.return_, 1) := by decide +kernel
set_option maxRecDepth 20000 in
theorem ggX4_inquireOnce_X4_send : GoodIn wsX4_inquireOnce wsX4_send := goodIn_r _ [9, 10, 11, 12, 13, 14, 15, 16, 17, 18, 19, 20, 21, 22, 23, 24, 25, 26, 27, 28, 29, 30, 31, 32, 33, 34, 35, 36, 41, 42, 43, 44, 45] (by decide +kernel) (by decide +kernel)
set_option maxRecDepth 20000 in
theorem gX4_inquireOnce_X4_send : GoodIn wsX4_inquireOnce (wsV RX4 149 RX4 yX4_send wsX4_send) := goodIn_app (goodIn_of _ (by decide +kernel)) ggX4_inquireOnce_X4_send
theorem dX4_inquireOnce_0 : decode cX4_inquireOnce 0 = .ok (.aload_n 0, 1) := by decide +kernel
theorem dX4_inquireOnce_1 : decode cX4_inquireOnce 1 = .ok (.getfield 37, 3) := by decide +kernel
theorem dX4_inquireOnce_4 : decode cX4_inquireOnce 4 = .ok (.iload_n 1, 1) := by decide +kernel
theorem dX4_inquireOnce_5 : decode cX4_inquireOnce 5 = .ok (.aaload, 1) := by decide +kernel
theorem dX4_inquireOnce_6 : decode cX4_inquireOnce 6 = .ok (.astore_n 2, 1) := by decide +kernel
theorem dX4_inquireOnce_7 : decode cX4_inquireOnce 7 = .ok (.aload_n 2, 1) := by decide +kernel
theorem dX4_inquireOnce_8 : decode cX4_inquireOnce 8 = .ok (.getfield 126, 3) := by decide +kernel
theorem dX4_inquireOnce_11 : decode cX4_inquireOnce 11 = .ok (.ifCond .ne 22, 3) := by decide +kernel
theorem dX4_inquireOnce_14 : decode cX4_inquireOnce 14 = .ok (.aload_n 0, 1) := by decide +kernel
theorem dX4_inquireOnce_15 : decode cX4_inquireOnce 15 = .ok (.iload_n 1, 1) := by decide +kernel
theorem dX4_inquireOnce_16 : decode cX4_inquireOnce 16 = .ok (.aload_n 2, 1) := by decide +kernel
theorem dX4_inquireOnce_17 : decode cX4_inquireOnce 17 = .ok (.getfield 103, 3) := by decide +kernel
theorem dX4_inquireOnce_20 : decode cX4_inquireOnce 20 = .ok (.iconst 4, 1) := by decide +kernel
theorem dX4_inquireOnce_21 : decode cX4_inquireOnce 21 = .ok (.aload_n 2, 1) := by decide +kernel
theorem dX4_inquireOnce_22 : decode cX4_inquireOnce 22 = .ok (.getfield 201, 3) := by decide +kernel
theorem dX4_inquireOnce_25 : decode cX4_inquireOnce 25 = .ok (.invokevirtual 149, 3) := by decide +kernel
theorem dX4_inquireOnce_28 : decode cX4_inquireOnce 28 = .ok (.aload_n 2, 1) := by decide +kernel
theorem dX4_inquireOnce_29 : decode cX4_inquireOnce 29 = .ok (.iconst 1, 1) := by decide +kernel
theorem dX4_inquireOnce_30 : decode cX4_inquireOnce 30 = .ok (.putfield 126, 3) := by decide +kernel
theorem dX4_inquireOnce_33 : decode cX4_inquireOnce 33 = .ok (.return_, 1) := by decide +kernel
set_option maxRecDepth 20000 in
theorem ggX4_takeVoteBack_X1_insert : GoodIn wsX4_takeVoteBack wsX1_insert := goodIn_r _ [10, 11, 12, 13, 14, 15, 16, 84, 85, 86] (by decide +kernel) (by decide +kernel)
set_option maxRecDepth 20000 in
theorem gX4_takeVoteBack_X1_insert : GoodIn wsX4_takeVoteBack (wsV RX4 192 RX1 yX1_insert wsX1_insert) := goodIn_app (goodIn_of _ (by decide +kernel)) ggX4_takeVoteBack_X1_insert
set_option maxRecDepth 20000 in
theorem ggX4_takeVoteBack_X2_takeHome : GoodIn wsX4_takeVoteBack wsX2_takeHome := goodIn_r _ [21, 22, 23, 24, 80, 81, 82, 83] (by decide +kernel) (by decide +kernel)
set_option maxRecDepth 20000 in
theorem gX4_takeVoteBack_X2_takeHome : GoodIn wsX4_takeVoteBack (wsV RX4 204 RX2 yX2_takeHome wsX2_takeHome) := goodIn_app (goodIn_of _ (by decide +kernel)) ggX4_takeVoteBack_X2_takeHome
set_option maxRecDepth 20000 in
theorem ggX4_takeVoteBack_X1_nodeAt : GoodIn wsX4_takeVoteBack wsX1_nodeAt := goodIn_r _ [28, 11, 12, 84, 85, 86] (by decide +kernel) (by decide +kernel)
set_option maxRecDepth 20000 in
theorem gX4_takeVoteBack_X1_nodeAt : GoodIn wsX4_takeVoteBack (wsV RX4 139 RX1 yX1_nodeAt wsX1_nodeAt) := goodIn_app (goodIn_of _ (by decide +kernel)) ggX4_takeVoteBack_X1_nodeAt
set_option maxRecDepth 20000 in
theorem ggX4_takeVoteBack_X1_timeAt : GoodIn wsX4_takeVoteBack wsX1_timeAt := goodIn_r _ [32, 11, 13, 84, 85, 86] (by decide +kernel) (by decide +kernel)
set_option maxRecDepth 20000 in
theorem gX4_takeVoteBack_X1_timeAt : GoodIn wsX4_takeVoteBack (wsV RX4 195 RX1 yX1_timeAt wsX1_timeAt) := goodIn_app (goodIn_of _ (by decide +kernel)) ggX4_takeVoteBack_X1_timeAt
set_option maxRecDepth 20000 in
theorem ggX4_takeVoteBack_X1_removeFirst : GoodIn wsX4_takeVoteBack wsX1_removeFirst := goodIn_r _ [36, 11, 12, 13, 37, 38, 39, 40, 84, 85, 86] (by decide +kernel) (by decide +kernel)
set_option maxRecDepth 20000 in
theorem gX4_takeVoteBack_X1_removeFirst : GoodIn wsX4_takeVoteBack (wsV RX4 207 RX1 yX1_removeFirst wsX1_removeFirst) := goodIn_app (goodIn_of _ (by decide +kernel)) ggX4_takeVoteBack_X1_removeFirst
set_option maxRecDepth 20000 in
theorem ggX4_takeVoteBack_X4_lend : GoodIn wsX4_takeVoteBack wsX4_lend := goodIn_r _ [44, 1, 45, 46, 47, 20, 48, 22, 23, 24, 49, 50, 51, 15, 52, 53, 54, 55, 56, 57, 58, 59, 60, 61, 62, 63, 64, 65, 66, 67, 68, 69, 70, 71, 72, 73, 74, 75, 76, 77, 78, 79, 80, 81, 82, 83, 87, 88, 89, 90, 91] (by decide +kernel) (by decide +kernel)
set_option maxRecDepth 20000 in
theorem gX4_takeVoteBack_X4_lend : GoodIn wsX4_takeVoteBack (wsV RX4 185 RX4 yX4_lend wsX4_lend) := goodIn_app (goodIn_of _ (by decide +kernel)) ggX4_takeVoteBack_X4_lend
theorem dX4_takeVoteBack_0 : decode cX4_takeVoteBack 0 = .ok (.aload_n 0, 1) := by decide +kernel
theorem dX4_takeVoteBack_1 : decode cX4_takeVoteBack 1 = .ok (.getfield 37, 3) := by decide +kernel
theorem dX4_takeVoteBack_4 : decode cX4_takeVoteBack 4 = .ok (.iload_n 1, 1) := by decide +kernel
theorem dX4_takeVoteBack_5 : decode cX4_takeVoteBack 5 = .ok (.aaload, 1) := by decide +kernel
theorem dX4_takeVoteBack_6 : decode cX4_takeVoteBack 6 = .ok (.astore 5, 2) := by decide +kernel
theorem dX4_takeVoteBack_8 : decode cX4_takeVoteBack 8 = .ok (.aload 5, 2) := by decide +kernel
theorem dX4_takeVoteBack_10 : decode cX4_takeVoteBack 10 = .ok (.getfield 103, 3) := by decide +kernel
theorem dX4_takeVoteBack_13 : decode cX4_takeVoteBack 13 = .ok (.iload_n 2, 1) := by decide +kernel
theorem dX4_takeVoteBack_14 : decode cX4_takeVoteBack 14 = .ok (.if_icmp .ne 12, 3) := by decide +kernel
theorem dX4_takeVoteBack_17 : decode cX4_takeVoteBack 17 = .ok (.aload 5, 2) := by decide +kernel
theorem dX4_takeVoteBack_19 : decode cX4_takeVoteBack 19 = .ok (.getfield 201, 3) := by decide +kernel
theorem dX4_takeVoteBack_22 : decode cX4_takeVoteBack 22 = .ok (.iload_n 3, 1) := by decide +kernel
theorem dX4_takeVoteBack_23 : decode cX4_takeVoteBack 23 = .ok (.if_icmp .eq 4, 3) := by decide +kernel
theorem dX4_takeVoteBack_26 : decode cX4_takeVoteBack 26 = .ok (.return_, 1) := by decide +kernel
theorem dX4_takeVoteBack_27 : decode cX4_takeVoteBack 27 = .ok (.iload 4, 2) := by decide +kernel
theorem dX4_takeVoteBack_29 : decode cX4_takeVoteBack 29 = .ok (.ifCond .eq 14, 3) := by decide +kernel
theorem dX4_takeVoteBack_32 : decode cX4_takeVoteBack 32 = .ok (.aload 5, 2) := by decide +kernel
theorem dX4_takeVoteBack_34 : decode cX4_takeVoteBack 34 = .ok (.getfield 130, 3) := by decide +kernel
theorem dX4_takeVoteBack_37 : decode cX4_takeVoteBack 37 = .ok (.iload_n 2, 1) := by decide +kernel
theorem dX4_takeVoteBack_38 : decode cX4_takeVoteBack 38 = .ok (.iload_n 3, 1) := by decide +kernel
theorem dX4_takeVoteBack_39 : decode cX4_takeVoteBack 39 = .ok (.invokevirtual 192, 3) := by decide +kernel
theorem dX4_takeVoteBack_42 : decode cX4_takeVoteBack 42 = .ok (.pop, 1) := by decide +kernel
theorem dX4_takeVoteBack_43 : decode cX4_takeVoteBack 43 = .ok (.aload 5, 2) := by decide +kernel
theorem dX4_takeVoteBack_45 : decode cX4_takeVoteBack 45 = .ok (.invokevirtual 204, 3) := by decide +kernel
theorem dX4_takeVoteBack_48 : decode cX4_takeVoteBack 48 = .ok (.aload 5, 2) := by decide +kernel
theorem dX4_takeVoteBack_50 : decode cX4_takeVoteBack 50 = .ok (.getfield 130, 3) := by decide +kernel
theorem dX4_takeVoteBack_53 : decode cX4_takeVoteBack 53 = .ok (.getfield 134, 3) := by decide +kernel
theorem dX4_takeVoteBack_56 : decode cX4_takeVoteBack 56 = .ok (.ifCond .le 42, 3) := by decide +kernel
theorem dX4_takeVoteBack_59 : decode cX4_takeVoteBack 59 = .ok (.aload 5, 2) := by decide +kernel
theorem dX4_takeVoteBack_61 : decode cX4_takeVoteBack 61 = .ok (.getfield 130, 3) := by decide +kernel
theorem dX4_takeVoteBack_64 : decode cX4_takeVoteBack 64 = .ok (.iconst 0, 1) := by decide +kernel
theorem dX4_takeVoteBack_65 : decode cX4_takeVoteBack 65 = .ok (.invokevirtual 139, 3) := by decide +kernel
theorem dX4_takeVoteBack_68 : decode cX4_takeVoteBack 68 = .ok (.istore 6, 2) := by decide +kernel
theorem dX4_takeVoteBack_70 : decode cX4_takeVoteBack 70 = .ok (.aload 5, 2) := by decide +kernel
theorem dX4_takeVoteBack_72 : decode cX4_takeVoteBack 72 = .ok (.getfield 130, 3) := by decide +kernel
theorem dX4_takeVoteBack_75 : decode cX4_takeVoteBack 75 = .ok (.iconst 0, 1) := by decide +kernel
theorem dX4_takeVoteBack_76 : decode cX4_takeVoteBack 76 = .ok (.invokevirtual 195, 3) := by decide +kernel
theorem dX4_takeVoteBack_79 : decode cX4_takeVoteBack 79 = .ok (.istore 7, 2) := by decide +kernel
theorem dX4_takeVoteBack_81 : decode cX4_takeVoteBack 81 = .ok (.aload 5, 2) := by decide +kernel
theorem dX4_takeVoteBack_83 : decode cX4_takeVoteBack 83 = .ok (.getfield 130, 3) := by decide +kernel
theorem dX4_takeVoteBack_86 : decode cX4_takeVoteBack 86 = .ok (.invokevirtual 207, 3) := by decide +kernel
theorem dX4_takeVoteBack_89 : decode cX4_takeVoteBack 89 = .ok (.aload_n 0, 1) := by decide +kernel
theorem dX4_takeVoteBack_90 : decode cX4_takeVoteBack 90 = .ok (.iload_n 1, 1) := by decide +kernel
theorem dX4_takeVoteBack_91 : decode cX4_takeVoteBack 91 = .ok (.iload 6, 2) := by decide +kernel
theorem dX4_takeVoteBack_93 : decode cX4_takeVoteBack 93 = .ok (.iload 7, 2) := by decide +kernel
theorem dX4_takeVoteBack_95 : decode cX4_takeVoteBack 95 = .ok (.invokevirtual 185, 3) := by decide +kernel
theorem dX4_takeVoteBack_98 : decode cX4_takeVoteBack 98 = .ok (.return_, 1) := by decide +kernel
set_option maxRecDepth 20000 in
theorem ggX4_lend_X2_lendTo : GoodIn wsX4_lend wsX2_lendTo := goodIn_r _ [6, 7, 8, 9, 42, 43, 44, 45] (by decide +kernel) (by decide +kernel)
set_option maxRecDepth 20000 in
theorem gX4_lend_X2_lendTo : GoodIn wsX4_lend (wsV RX4 210 RX2 yX2_lendTo wsX2_lendTo) := goodIn_app (goodIn_of _ (by decide +kernel)) ggX4_lend_X2_lendTo
set_option maxRecDepth 20000 in
theorem ggX4_lend_X4_send : GoodIn wsX4_lend wsX4_send := goodIn_r _ [14, 15, 16, 17, 18, 19, 20, 21, 22, 23, 24, 25, 26, 27, 28, 29, 30, 31, 32, 33, 34, 35, 36, 37, 38, 39, 40, 41, 46, 47, 48, 49, 50] (by decide +kernel) (by decide +kernel)
set_option maxRecDepth 20000 in
theorem gX4_lend_X4_send : GoodIn wsX4_lend (wsV RX4 149 RX4 yX4_send wsX4_send) := goodIn_app (goodIn_of _ (by decide +kernel)) ggX4_lend_X4_send
theorem dX4_lend_0 : decode cX4_lend 0 = .ok (.aload_n 0, 1) := by decide +kernel
theorem dX4_lend_1 : decode cX4_lend 1 = .ok (.getfield 37, 3) := by decide +kernel
theorem dX4_lend_4 : decode cX4_lend 4 = .ok (.iload_n 1, 1) := by decide +kernel
theorem dX4_lend_5 : decode cX4_lend 5 = .ok (.aaload, 1) := by decide +kernel
theorem dX4_lend_6 : decode cX4_lend 6 = .ok (.iload_n 2, 1) := by decide +kernel
theorem dX4_lend_7 : decode cX4_lend 7 = .ok (.iload_n 3, 1) := by decide +kernel
theorem dX4_lend_8 : decode cX4_lend 8 = .ok (.invokevirtual 210, 3) := by decide +kernel
theorem dX4_lend_11 : decode cX4_lend 11 = .ok (.aload_n 0, 1) := by decide +kernel
theorem dX4_lend_12 : decode cX4_lend 12 = .ok (.iload_n 1, 1) := by decide +kernel
theorem dX4_lend_13 : decode cX4_lend 13 = .ok (.iload_n 2, 1) := by decide +kernel
theorem dX4_lend_14 : decode cX4_lend 14 = .ok (.iconst 2, 1) := by decide +kernel
theorem dX4_lend_15 : decode cX4_lend 15 = .ok (.iload_n 3, 1) := by decide +kernel
theorem dX4_lend_16 : decode cX4_lend 16 = .ok (.invokevirtual 149, 3) := by decide +kernel
theorem dX4_lend_19 : decode cX4_lend 19 = .ok (.return_, 1) := by decide +kernel
