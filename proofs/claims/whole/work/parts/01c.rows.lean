set_option maxRecDepth 20000 in
theorem ggX5_init_X5_init_ : GoodIn wsX5_init wsX5_init_ := goodIn_r _ [28, 5, 6, 7, 8, 9, 10, 11, 12, 14, 15, 18, 29, 30, 31, 32, 33, 34, 35, 36, 37, 38, 39, 40, 41, 42, 43, 44, 45, 46, 47, 48] (by decide +kernel) (by decide +kernel)
set_option maxRecDepth 20000 in
theorem gX5_init_X5_init_ : GoodIn wsX5_init (wsV RX5 66 RX5 yX5_init_ wsX5_init_) := goodIn_app (goodIn_of _ (by decide +kernel)) ggX5_init_X5_init_
theorem dX5_init_0 : decode cX5_init 0 = .ok (.aload_n 0, 1) := by decide +kernel
theorem dX5_init_1 : decode cX5_init 1 = .ok (.invokespecial 1, 3) := by decide +kernel
theorem dX5_init_4 : decode cX5_init 4 = .ok (.aload_n 0, 1) := by decide +kernel
theorem dX5_init_5 : decode cX5_init 5 = .ok (.bipush 16, 2) := by decide +kernel
theorem dX5_init_7 : decode cX5_init 7 = .ok (.newarray .int, 2) := by decide +kernel
theorem dX5_init_9 : decode cX5_init 9 = .ok (.putfield 7, 3) := by decide +kernel
theorem dX5_init_12 : decode cX5_init 12 = .ok (.aload_n 0, 1) := by decide +kernel
theorem dX5_init_13 : decode cX5_init 13 = .ok (.bipush 16, 2) := by decide +kernel
theorem dX5_init_15 : decode cX5_init 15 = .ok (.newarray .int, 2) := by decide +kernel
theorem dX5_init_17 : decode cX5_init 17 = .ok (.putfield 13, 3) := by decide +kernel
theorem dX5_init_20 : decode cX5_init 20 = .ok (.aload_n 0, 1) := by decide +kernel
theorem dX5_init_21 : decode cX5_init 21 = .ok (.bipush 16, 2) := by decide +kernel
theorem dX5_init_23 : decode cX5_init 23 = .ok (.newarray .int, 2) := by decide +kernel
theorem dX5_init_25 : decode cX5_init 25 = .ok (.putfield 16, 3) := by decide +kernel
theorem dX5_init_28 : decode cX5_init 28 = .ok (.aload_n 0, 1) := by decide +kernel
theorem dX5_init_29 : decode cX5_init 29 = .ok (.bipush 16, 2) := by decide +kernel
theorem dX5_init_31 : decode cX5_init 31 = .ok (.newarray .int, 2) := by decide +kernel
theorem dX5_init_33 : decode cX5_init 33 = .ok (.putfield 19, 3) := by decide +kernel
theorem dX5_init_36 : decode cX5_init 36 = .ok (.aload_n 0, 1) := by decide +kernel
theorem dX5_init_37 : decode cX5_init 37 = .ok (.bipush 16, 2) := by decide +kernel
theorem dX5_init_39 : decode cX5_init 39 = .ok (.newarray .int, 2) := by decide +kernel
theorem dX5_init_41 : decode cX5_init 41 = .ok (.putfield 22, 3) := by decide +kernel
theorem dX5_init_44 : decode cX5_init 44 = .ok (.aload_n 0, 1) := by decide +kernel
theorem dX5_init_45 : decode cX5_init 45 = .ok (.bipush 16, 2) := by decide +kernel
theorem dX5_init_47 : decode cX5_init 47 = .ok (.newarray .int, 2) := by decide +kernel
theorem dX5_init_49 : decode cX5_init 49 = .ok (.putfield 25, 3) := by decide +kernel
theorem dX5_init_52 : decode cX5_init 52 = .ok (.aload_n 0, 1) := by decide +kernel
theorem dX5_init_53 : decode cX5_init 53 = .ok (.bipush 16, 2) := by decide +kernel
theorem dX5_init_55 : decode cX5_init 55 = .ok (.newarray .int, 2) := by decide +kernel
theorem dX5_init_57 : decode cX5_init 57 = .ok (.putfield 28, 3) := by decide +kernel
theorem dX5_init_60 : decode cX5_init 60 = .ok (.aload_n 0, 1) := by decide +kernel
theorem dX5_init_61 : decode cX5_init 61 = .ok (.bipush 16, 2) := by decide +kernel
theorem dX5_init_63 : decode cX5_init 63 = .ok (.newarray .int, 2) := by decide +kernel
theorem dX5_init_65 : decode cX5_init 65 = .ok (.putfield 31, 3) := by decide +kernel
theorem dX5_init_68 : decode cX5_init 68 = .ok (.aload_n 0, 1) := by decide +kernel
theorem dX5_init_69 : decode cX5_init 69 = .ok (.bipush 16, 2) := by decide +kernel
theorem dX5_init_71 : decode cX5_init 71 = .ok (.newarray .boolean, 2) := by decide +kernel
theorem dX5_init_73 : decode cX5_init 73 = .ok (.putfield 34, 3) := by decide +kernel
theorem dX5_init_76 : decode cX5_init 76 = .ok (.aload_n 0, 1) := by decide +kernel
theorem dX5_init_77 : decode cX5_init 77 = .ok (.bipush 16, 2) := by decide +kernel
theorem dX5_init_79 : decode cX5_init 79 = .ok (.newarray .int, 2) := by decide +kernel
theorem dX5_init_81 : decode cX5_init 81 = .ok (.putfield 38, 3) := by decide +kernel
theorem dX5_init_84 : decode cX5_init 84 = .ok (.aload_n 0, 1) := by decide +kernel
theorem dX5_init_85 : decode cX5_init 85 = .ok (.sipush 1024, 3) := by decide +kernel
theorem dX5_init_88 : decode cX5_init 88 = .ok (.newarray .int, 2) := by decide +kernel
theorem dX5_init_90 : decode cX5_init 90 = .ok (.putfield 41, 3) := by decide +kernel
theorem dX5_init_93 : decode cX5_init 93 = .ok (.aload_n 0, 1) := by decide +kernel
theorem dX5_init_94 : decode cX5_init 94 = .ok (.sipush 1024, 3) := by decide +kernel
theorem dX5_init_97 : decode cX5_init 97 = .ok (.newarray .int, 2) := by decide +kernel
theorem dX5_init_99 : decode cX5_init 99 = .ok (.putfield 44, 3) := by decide +kernel
theorem dX5_init_102 : decode cX5_init 102 = .ok (.aload_n 0, 1) := by decide +kernel
theorem dX5_init_103 : decode cX5_init 103 = .ok (.sipush 256, 3) := by decide +kernel
theorem dX5_init_106 : decode cX5_init 106 = .ok (.newarray .int, 2) := by decide +kernel
theorem dX5_init_108 : decode cX5_init 108 = .ok (.putfield 47, 3) := by decide +kernel
theorem dX5_init_111 : decode cX5_init 111 = .ok (.aload_n 0, 1) := by decide +kernel
theorem dX5_init_112 : decode cX5_init 112 = .ok (.sipush 16384, 3) := by decide +kernel
theorem dX5_init_115 : decode cX5_init 115 = .ok (.newarray .int, 2) := by decide +kernel
theorem dX5_init_117 : decode cX5_init 117 = .ok (.putfield 50, 3) := by decide +kernel
theorem dX5_init_120 : decode cX5_init 120 = .ok (.aload_n 0, 1) := by decide +kernel
theorem dX5_init_121 : decode cX5_init 121 = .ok (.sipush 16384, 3) := by decide +kernel
theorem dX5_init_124 : decode cX5_init 124 = .ok (.newarray .int, 2) := by decide +kernel
theorem dX5_init_126 : decode cX5_init 126 = .ok (.putfield 53, 3) := by decide +kernel
theorem dX5_init_129 : decode cX5_init 129 = .ok (.aload_n 0, 1) := by decide +kernel
theorem dX5_init_130 : decode cX5_init 130 = .ok (.sipush 16384, 3) := by decide +kernel
theorem dX5_init_133 : decode cX5_init 133 = .ok (.newarray .int, 2) := by decide +kernel
theorem dX5_init_135 : decode cX5_init 135 = .ok (.putfield 56, 3) := by decide +kernel
theorem dX5_init_138 : decode cX5_init 138 = .ok (.aload_n 0, 1) := by decide +kernel
theorem dX5_init_139 : decode cX5_init 139 = .ok (.iload_n 1, 1) := by decide +kernel
theorem dX5_init_140 : decode cX5_init 140 = .ok (.iconst 1, 1) := by decide +kernel
theorem dX5_init_141 : decode cX5_init 141 = .ok (.if_icmp .ge 7, 3) := by decide +kernel
theorem dX5_init_144 : decode cX5_init 144 = .ok (.iconst 1, 1) := by decide +kernel
theorem dX5_init_145 : decode cX5_init 145 = .ok (.goto 13, 3) := by decide +kernel
theorem dX5_init_148 : decode cX5_init 148 = .ok (.iload_n 1, 1) := by decide +kernel
theorem dX5_init_149 : decode cX5_init 149 = .ok (.iconst 4, 1) := by decide +kernel
theorem dX5_init_150 : decode cX5_init 150 = .ok (.if_icmp .le 7, 3) := by decide +kernel
theorem dX5_init_153 : decode cX5_init 153 = .ok (.iconst 4, 1) := by decide +kernel
theorem dX5_init_154 : decode cX5_init 154 = .ok (.goto 4, 3) := by decide +kernel
theorem dX5_init_157 : decode cX5_init 157 = .ok (.iload_n 1, 1) := by decide +kernel
theorem dX5_init_158 : decode cX5_init 158 = .ok (.putfield 59, 3) := by decide +kernel
theorem dX5_init_161 : decode cX5_init 161 = .ok (.aload_n 0, 1) := by decide +kernel
theorem dX5_init_162 : decode cX5_init 162 = .ok (.aload_n 0, 1) := by decide +kernel
theorem dX5_init_163 : decode cX5_init 163 = .ok (.getfield 59, 3) := by decide +kernel
theorem dX5_init_166 : decode cX5_init 166 = .ok (.aload_n 0, 1) := by decide +kernel
theorem dX5_init_167 : decode cX5_init 167 = .ok (.getfield 59, 3) := by decide +kernel
theorem dX5_init_170 : decode cX5_init 170 = .ok (.imul, 1) := by decide +kernel
theorem dX5_init_171 : decode cX5_init 171 = .ok (.putfield 63, 3) := by decide +kernel
theorem dX5_init_174 : decode cX5_init 174 = .ok (.aload_n 0, 1) := by decide +kernel
theorem dX5_init_175 : decode cX5_init 175 = .ok (.invokevirtual 66, 3) := by decide +kernel
theorem dX5_init_178 : decode cX5_init 178 = .ok (.return_, 1) := by decide +kernel
theorem dX5_init__0 : decode cX5_init_ 0 = .ok (.iconst 0, 1) := by decide +kernel
theorem dX5_init__1 : decode cX5_init_ 1 = .ok (.istore_n 1, 1) := by decide +kernel
theorem dX5_init__2 : decode cX5_init_ 2 = .ok (.iload_n 1, 1) := by decide +kernel
theorem dX5_init__3 : decode cX5_init_ 3 = .ok (.bipush 16, 2) := by decide +kernel
theorem dX5_init__5 : decode cX5_init_ 5 = .ok (.if_icmp .ge 79, 3) := by decide +kernel
theorem dX5_init__8 : decode cX5_init_ 8 = .ok (.aload_n 0, 1) := by decide +kernel
theorem dX5_init__9 : decode cX5_init_ 9 = .ok (.getfield 7, 3) := by decide +kernel
theorem dX5_init__12 : decode cX5_init_ 12 = .ok (.iload_n 1, 1) := by decide +kernel
theorem dX5_init__13 : decode cX5_init_ 13 = .ok (.iconst 0, 1) := by decide +kernel
theorem dX5_init__14 : decode cX5_init_ 14 = .ok (.iastore, 1) := by decide +kernel
theorem dX5_init__15 : decode cX5_init_ 15 = .ok (.aload_n 0, 1) := by decide +kernel
theorem dX5_init__16 : decode cX5_init_ 16 = .ok (.getfield 13, 3) := by decide +kernel
theorem dX5_init__19 : decode cX5_init_ 19 = .ok (.iload_n 1, 1) := by decide +kernel
theorem dX5_init__20 : decode cX5_init_ 20 = .ok (.iconst 0, 1) := by decide +kernel
theorem dX5_init__21 : decode cX5_init_ 21 = .ok (.iastore, 1) := by decide +kernel
theorem dX5_init__22 : decode cX5_init_ 22 = .ok (.aload_n 0, 1) := by decide +kernel
theorem dX5_init__23 : decode cX5_init_ 23 = .ok (.getfield 16, 3) := by decide +kernel
theorem dX5_init__26 : decode cX5_init_ 26 = .ok (.iload_n 1, 1) := by decide +kernel
theorem dX5_init__27 : decode cX5_init_ 27 = .ok (.iconst 0, 1) := by decide +kernel
theorem dX5_init__28 : decode cX5_init_ 28 = .ok (.iastore, 1) := by decide +kernel
theorem dX5_init__29 : decode cX5_init_ 29 = .ok (.aload_n 0, 1) := by decide +kernel
theorem dX5_init__30 : decode cX5_init_ 30 = .ok (.getfield 19, 3) := by decide +kernel
theorem dX5_init__33 : decode cX5_init_ 33 = .ok (.iload_n 1, 1) := by decide +kernel
theorem dX5_init__34 : decode cX5_init_ 34 = .ok (.iconst 0, 1) := by decide +kernel
theorem dX5_init__35 : decode cX5_init_ 35 = .ok (.iastore, 1) := by decide +kernel
theorem dX5_init__36 : decode cX5_init_ 36 = .ok (.aload_n 0, 1) := by decide +kernel
theorem dX5_init__37 : decode cX5_init_ 37 = .ok (.getfield 22, 3) := by decide +kernel
theorem dX5_init__40 : decode cX5_init_ 40 = .ok (.iload_n 1, 1) := by decide +kernel
theorem dX5_init__41 : decode cX5_init_ 41 = .ok (.iconst 0, 1) := by decide +kernel
theorem dX5_init__42 : decode cX5_init_ 42 = .ok (.iastore, 1) := by decide +kernel
theorem dX5_init__43 : decode cX5_init_ 43 = .ok (.aload_n 0, 1) := by decide +kernel
theorem dX5_init__44 : decode cX5_init_ 44 = .ok (.getfield 25, 3) := by decide +kernel
theorem dX5_init__47 : decode cX5_init_ 47 = .ok (.iload_n 1, 1) := by decide +kernel
theorem dX5_init__48 : decode cX5_init_ 48 = .ok (.iconst 0, 1) := by decide +kernel
theorem dX5_init__49 : decode cX5_init_ 49 = .ok (.iastore, 1) := by decide +kernel
theorem dX5_init__50 : decode cX5_init_ 50 = .ok (.aload_n 0, 1) := by decide +kernel
theorem dX5_init__51 : decode cX5_init_ 51 = .ok (.getfield 28, 3) := by decide +kernel
theorem dX5_init__54 : decode cX5_init_ 54 = .ok (.iload_n 1, 1) := by decide +kernel
theorem dX5_init__55 : decode cX5_init_ 55 = .ok (.iconst (-1), 1) := by decide +kernel
theorem dX5_init__56 : decode cX5_init_ 56 = .ok (.iastore, 1) := by decide +kernel
theorem dX5_init__57 : decode cX5_init_ 57 = .ok (.aload_n 0, 1) := by decide +kernel
theorem dX5_init__58 : decode cX5_init_ 58 = .ok (.getfield 31, 3) := by decide +kernel
theorem dX5_init__61 : decode cX5_init_ 61 = .ok (.iload_n 1, 1) := by decide +kernel
theorem dX5_init__62 : decode cX5_init_ 62 = .ok (.iconst 0, 1) := by decide +kernel
theorem dX5_init__63 : decode cX5_init_ 63 = .ok (.iastore, 1) := by decide +kernel
theorem dX5_init__64 : decode cX5_init_ 64 = .ok (.aload_n 0, 1) := by decide +kernel
theorem dX5_init__65 : decode cX5_init_ 65 = .ok (.getfield 34, 3) := by decide +kernel
theorem dX5_init__68 : decode cX5_init_ 68 = .ok (.iload_n 1, 1) := by decide +kernel
theorem dX5_init__69 : decode cX5_init_ 69 = .ok (.iconst 0, 1) := by decide +kernel
theorem dX5_init__70 : decode cX5_init_ 70 = .ok (.bastore, 1) := by decide +kernel
theorem dX5_init__71 : decode cX5_init_ 71 = .ok (.aload_n 0, 1) := by decide +kernel
theorem dX5_init__72 : decode cX5_init_ 72 = .ok (.getfield 38, 3) := by decide +kernel
theorem dX5_init__75 : decode cX5_init_ 75 = .ok (.iload_n 1, 1) := by decide +kernel
theorem dX5_init__76 : decode cX5_init_ 76 = .ok (.iconst 0, 1) := by decide +kernel
theorem dX5_init__77 : decode cX5_init_ 77 = .ok (.iastore, 1) := by decide +kernel
theorem dX5_init__78 : decode cX5_init_ 78 = .ok (.iinc 1 1, 3) := by decide +kernel
theorem dX5_init__81 : decode cX5_init_ 81 = .ok (.goto (-79), 3) := by decide +kernel
theorem dX5_init__84 : decode cX5_init_ 84 = .ok (.iconst 0, 1) := by decide +kernel
theorem dX5_init__85 : decode cX5_init_ 85 = .ok (.istore_n 1, 1) := by decide +kernel
theorem dX5_init__86 : decode cX5_init_ 86 = .ok (.iload_n 1, 1) := by decide +kernel
theorem dX5_init__87 : decode cX5_init_ 87 = .ok (.sipush 256, 3) := by decide +kernel
theorem dX5_init__90 : decode cX5_init_ 90 = .ok (.if_icmp .ge 16, 3) := by decide +kernel
theorem dX5_init__93 : decode cX5_init_ 93 = .ok (.aload_n 0, 1) := by decide +kernel
theorem dX5_init__94 : decode cX5_init_ 94 = .ok (.getfield 47, 3) := by decide +kernel
theorem dX5_init__97 : decode cX5_init_ 97 = .ok (.iload_n 1, 1) := by decide +kernel
theorem dX5_init__98 : decode cX5_init_ 98 = .ok (.iconst 0, 1) := by decide +kernel
theorem dX5_init__99 : decode cX5_init_ 99 = .ok (.iastore, 1) := by decide +kernel
theorem dX5_init__100 : decode cX5_init_ 100 = .ok (.iinc 1 1, 3) := by decide +kernel
theorem dX5_init__103 : decode cX5_init_ 103 = .ok (.goto (-17), 3) := by decide +kernel
theorem dX5_init__106 : decode cX5_init_ 106 = .ok (.aload_n 0, 1) := by decide +kernel
theorem dX5_init__107 : decode cX5_init_ 107 = .ok (.iconst 0, 1) := by decide +kernel
theorem dX5_init__108 : decode cX5_init_ 108 = .ok (.putfield 69, 3) := by decide +kernel
theorem dX5_init__111 : decode cX5_init_ 111 = .ok (.return_, 1) := by decide +kernel
theorem dX5_isNode_0 : decode cX5_isNode 0 = .ok (.iload_n 1, 1) := by decide +kernel
theorem dX5_isNode_1 : decode cX5_isNode 1 = .ok (.ifCond .lt 15, 3) := by decide +kernel
theorem dX5_isNode_4 : decode cX5_isNode 4 = .ok (.iload_n 1, 1) := by decide +kernel
theorem dX5_isNode_5 : decode cX5_isNode 5 = .ok (.aload_n 0, 1) := by decide +kernel
theorem dX5_isNode_6 : decode cX5_isNode 6 = .ok (.getfield 63, 3) := by decide +kernel
theorem dX5_isNode_9 : decode cX5_isNode 9 = .ok (.if_icmp .ge 7, 3) := by decide +kernel
theorem dX5_isNode_12 : decode cX5_isNode 12 = .ok (.iconst 1, 1) := by decide +kernel
theorem dX5_isNode_13 : decode cX5_isNode 13 = .ok (.goto 4, 3) := by decide +kernel
theorem dX5_isNode_16 : decode cX5_isNode 16 = .ok (.iconst 0, 1) := by decide +kernel
theorem dX5_isNode_17 : decode cX5_isNode 17 = .ok (.ireturn, 1) := by decide +kernel
theorem dX5_quorum_0 : decode cX5_quorum 0 = .ok (.iconst 0, 1) := by decide +kernel
theorem dX5_quorum_1 : decode cX5_quorum 1 = .ok (.istore_n 2, 1) := by decide +kernel
theorem dX5_quorum_2 : decode cX5_quorum 2 = .ok (.iconst 0, 1) := by decide +kernel
theorem dX5_quorum_3 : decode cX5_quorum 3 = .ok (.istore_n 3, 1) := by decide +kernel
theorem dX5_quorum_4 : decode cX5_quorum 4 = .ok (.iload_n 3, 1) := by decide +kernel
theorem dX5_quorum_5 : decode cX5_quorum 5 = .ok (.aload_n 0, 1) := by decide +kernel
theorem dX5_quorum_6 : decode cX5_quorum 6 = .ok (.getfield 63, 3) := by decide +kernel
theorem dX5_quorum_9 : decode cX5_quorum 9 = .ok (.if_icmp .ge 49, 3) := by decide +kernel
theorem dX5_quorum_12 : decode cX5_quorum 12 = .ok (.iload_n 2, 1) := by decide +kernel
theorem dX5_quorum_13 : decode cX5_quorum 13 = .ok (.iload_n 3, 1) := by decide +kernel
theorem dX5_quorum_14 : decode cX5_quorum 14 = .ok (.aload_n 0, 1) := by decide +kernel
theorem dX5_quorum_15 : decode cX5_quorum 15 = .ok (.getfield 59, 3) := by decide +kernel
theorem dX5_quorum_18 : decode cX5_quorum 18 = .ok (.idiv, 1) := by decide +kernel
theorem dX5_quorum_19 : decode cX5_quorum 19 = .ok (.iload_n 1, 1) := by decide +kernel
theorem dX5_quorum_20 : decode cX5_quorum 20 = .ok (.aload_n 0, 1) := by decide +kernel
theorem dX5_quorum_21 : decode cX5_quorum 21 = .ok (.getfield 59, 3) := by decide +kernel
theorem dX5_quorum_24 : decode cX5_quorum 24 = .ok (.idiv, 1) := by decide +kernel
theorem dX5_quorum_25 : decode cX5_quorum 25 = .ok (.if_icmp .eq 18, 3) := by decide +kernel
theorem dX5_quorum_28 : decode cX5_quorum 28 = .ok (.iload_n 3, 1) := by decide +kernel
theorem dX5_quorum_29 : decode cX5_quorum 29 = .ok (.aload_n 0, 1) := by decide +kernel
theorem dX5_quorum_30 : decode cX5_quorum 30 = .ok (.getfield 59, 3) := by decide +kernel
theorem dX5_quorum_33 : decode cX5_quorum 33 = .ok (.irem, 1) := by decide +kernel
theorem dX5_quorum_34 : decode cX5_quorum 34 = .ok (.iload_n 1, 1) := by decide +kernel
theorem dX5_quorum_35 : decode cX5_quorum 35 = .ok (.aload_n 0, 1) := by decide +kernel
theorem dX5_quorum_36 : decode cX5_quorum 36 = .ok (.getfield 59, 3) := by decide +kernel
theorem dX5_quorum_39 : decode cX5_quorum 39 = .ok (.irem, 1) := by decide +kernel
theorem dX5_quorum_40 : decode cX5_quorum 40 = .ok (.if_icmp .ne 9, 3) := by decide +kernel
theorem dX5_quorum_43 : decode cX5_quorum 43 = .ok (.iconst 1, 1) := by decide +kernel
theorem dX5_quorum_44 : decode cX5_quorum 44 = .ok (.iload_n 3, 1) := by decide +kernel
theorem dX5_quorum_45 : decode cX5_quorum 45 = .ok (.ishl, 1) := by decide +kernel
theorem dX5_quorum_46 : decode cX5_quorum 46 = .ok (.goto 4, 3) := by decide +kernel
theorem dX5_quorum_49 : decode cX5_quorum 49 = .ok (.iconst 0, 1) := by decide +kernel
theorem dX5_quorum_50 : decode cX5_quorum 50 = .ok (.ior, 1) := by decide +kernel
theorem dX5_quorum_51 : decode cX5_quorum 51 = .ok (.istore_n 2, 1) := by decide +kernel
theorem dX5_quorum_52 : decode cX5_quorum 52 = .ok (.iinc 3 1, 3) := by decide +kernel
theorem dX5_quorum_55 : decode cX5_quorum 55 = .ok (.goto (-51), 3) := by decide +kernel
theorem dX5_quorum_58 : decode cX5_quorum 58 = .ok (.iload_n 2, 1) := by decide +kernel
theorem dX5_quorum_59 : decode cX5_quorum 59 = .ok (.ireturn, 1) := by decide +kernel
theorem dX5_send_0 : decode cX5_send 0 = .ok (.bipush 16, 2) := by decide +kernel
theorem dX5_send_2 : decode cX5_send 2 = .ok (.iload_n 1, 1) := by decide +kernel
theorem dX5_send_3 : decode cX5_send 3 = .ok (.imul, 1) := by decide +kernel
theorem dX5_send_4 : decode cX5_send 4 = .ok (.iload_n 2, 1) := by decide +kernel
theorem dX5_send_5 : decode cX5_send 5 = .ok (.iadd, 1) := by decide +kernel
theorem dX5_send_6 : decode cX5_send 6 = .ok (.istore 5, 2) := by decide +kernel
theorem dX5_send_8 : decode cX5_send 8 = .ok (.bipush 64, 2) := by decide +kernel
theorem dX5_send_10 : decode cX5_send 10 = .ok (.iload 5, 2) := by decide +kernel
theorem dX5_send_12 : decode cX5_send 12 = .ok (.imul, 1) := by decide +kernel
theorem dX5_send_13 : decode cX5_send 13 = .ok (.aload_n 0, 1) := by decide +kernel
theorem dX5_send_14 : decode cX5_send 14 = .ok (.getfield 47, 3) := by decide +kernel
theorem dX5_send_17 : decode cX5_send 17 = .ok (.iload 5, 2) := by decide +kernel
theorem dX5_send_19 : decode cX5_send 19 = .ok (.iaload, 1) := by decide +kernel
theorem dX5_send_20 : decode cX5_send 20 = .ok (.iadd, 1) := by decide +kernel
theorem dX5_send_21 : decode cX5_send 21 = .ok (.istore 6, 2) := by decide +kernel
theorem dX5_send_23 : decode cX5_send 23 = .ok (.aload_n 0, 1) := by decide +kernel
theorem dX5_send_24 : decode cX5_send 24 = .ok (.getfield 50, 3) := by decide +kernel
theorem dX5_send_27 : decode cX5_send 27 = .ok (.iload 6, 2) := by decide +kernel
theorem dX5_send_29 : decode cX5_send 29 = .ok (.iload_n 3, 1) := by decide +kernel
theorem dX5_send_30 : decode cX5_send 30 = .ok (.iastore, 1) := by decide +kernel
theorem dX5_send_31 : decode cX5_send 31 = .ok (.aload_n 0, 1) := by decide +kernel
theorem dX5_send_32 : decode cX5_send 32 = .ok (.getfield 53, 3) := by decide +kernel
theorem dX5_send_35 : decode cX5_send 35 = .ok (.iload 6, 2) := by decide +kernel
theorem dX5_send_37 : decode cX5_send 37 = .ok (.iload 4, 2) := by decide +kernel
theorem dX5_send_39 : decode cX5_send 39 = .ok (.iastore, 1) := by decide +kernel
theorem dX5_send_40 : decode cX5_send 40 = .ok (.aload_n 0, 1) := by decide +kernel
theorem dX5_send_41 : decode cX5_send 41 = .ok (.getfield 56, 3) := by decide +kernel
theorem dX5_send_44 : decode cX5_send 44 = .ok (.iload 6, 2) := by decide +kernel
theorem dX5_send_46 : decode cX5_send 46 = .ok (.aload_n 0, 1) := by decide +kernel
theorem dX5_send_47 : decode cX5_send 47 = .ok (.getfield 7, 3) := by decide +kernel
theorem dX5_send_50 : decode cX5_send 50 = .ok (.iload_n 1, 1) := by decide +kernel
theorem dX5_send_51 : decode cX5_send 51 = .ok (.iaload, 1) := by decide +kernel
theorem dX5_send_52 : decode cX5_send 52 = .ok (.iastore, 1) := by decide +kernel
theorem dX5_send_53 : decode cX5_send 53 = .ok (.aload_n 0, 1) := by decide +kernel
theorem dX5_send_54 : decode cX5_send 54 = .ok (.getfield 47, 3) := by decide +kernel
theorem dX5_send_57 : decode cX5_send 57 = .ok (.iload 5, 2) := by decide +kernel
theorem dX5_send_59 : decode cX5_send 59 = .ok (.dup2, 1) := by decide +kernel
theorem dX5_send_60 : decode cX5_send 60 = .ok (.iaload, 1) := by decide +kernel
theorem dX5_send_61 : decode cX5_send 61 = .ok (.iconst 1, 1) := by decide +kernel
theorem dX5_send_62 : decode cX5_send 62 = .ok (.iadd, 1) := by decide +kernel
theorem dX5_send_63 : decode cX5_send 63 = .ok (.iastore, 1) := by decide +kernel
theorem dX5_send_64 : decode cX5_send 64 = .ok (.return_, 1) := by decide +kernel
set_option maxRecDepth 20000 in
theorem ggX5_sendAll_X5_quorum : GoodIn wsX5_sendAll wsX5_quorum := goodIn_r _ [6, 1, 7, 17, 18, 19, 20, 21, 22, 23, 24, 25, 26, 27, 28, 29, 30, 31, 32, 33, 34, 35] (by decide +kernel) (by decide +kernel)
set_option maxRecDepth 20000 in
theorem gX5_sendAll_X5_quorum : GoodIn wsX5_sendAll (wsV RX5 72 RX5 yX5_quorum wsX5_quorum) := goodIn_app (goodIn_of _ (by decide +kernel)) ggX5_sendAll_X5_quorum
set_option maxRecDepth 20000 in
theorem ggX5_sendAll_X5_send : GoodIn wsX5_sendAll wsX5_send := goodIn_r _ [11, 12, 13, 14, 15, 16, 17, 18, 19, 20, 21, 22, 23, 24, 25, 26, 27, 28, 29, 30, 31, 32, 33, 34, 35] (by decide +kernel) (by decide +kernel)
set_option maxRecDepth 20000 in
theorem gX5_sendAll_X5_send : GoodIn wsX5_sendAll (wsV RX5 76 RX5 yX5_send wsX5_send) := goodIn_app (goodIn_of _ (by decide +kernel)) ggX5_sendAll_X5_send
theorem dX5_sendAll_0 : decode cX5_sendAll 0 = .ok (.iconst 0, 1) := by decide +kernel
theorem dX5_sendAll_1 : decode cX5_sendAll 1 = .ok (.istore 4, 2) := by decide +kernel
theorem dX5_sendAll_3 : decode cX5_sendAll 3 = .ok (.iload 4, 2) := by decide +kernel
theorem dX5_sendAll_5 : decode cX5_sendAll 5 = .ok (.aload_n 0, 1) := by decide +kernel
theorem dX5_sendAll_6 : decode cX5_sendAll 6 = .ok (.getfield 63, 3) := by decide +kernel
theorem dX5_sendAll_9 : decode cX5_sendAll 9 = .ok (.if_icmp .ge 32, 3) := by decide +kernel
theorem dX5_sendAll_12 : decode cX5_sendAll 12 = .ok (.aload_n 0, 1) := by decide +kernel
theorem dX5_sendAll_13 : decode cX5_sendAll 13 = .ok (.iload_n 1, 1) := by decide +kernel
theorem dX5_sendAll_14 : decode cX5_sendAll 14 = .ok (.invokevirtual 72, 3) := by decide +kernel
theorem dX5_sendAll_17 : decode cX5_sendAll 17 = .ok (.iload 4, 2) := by decide +kernel
theorem dX5_sendAll_19 : decode cX5_sendAll 19 = .ok (.ishr, 1) := by decide +kernel
theorem dX5_sendAll_20 : decode cX5_sendAll 20 = .ok (.iconst 1, 1) := by decide +kernel
theorem dX5_sendAll_21 : decode cX5_sendAll 21 = .ok (.iand, 1) := by decide +kernel
theorem dX5_sendAll_22 : decode cX5_sendAll 22 = .ok (.iconst 1, 1) := by decide +kernel
theorem dX5_sendAll_23 : decode cX5_sendAll 23 = .ok (.if_icmp .ne 12, 3) := by decide +kernel
theorem dX5_sendAll_26 : decode cX5_sendAll 26 = .ok (.aload_n 0, 1) := by decide +kernel
theorem dX5_sendAll_27 : decode cX5_sendAll 27 = .ok (.iload_n 1, 1) := by decide +kernel
theorem dX5_sendAll_28 : decode cX5_sendAll 28 = .ok (.iload 4, 2) := by decide +kernel
theorem dX5_sendAll_30 : decode cX5_sendAll 30 = .ok (.iload_n 2, 1) := by decide +kernel
theorem dX5_sendAll_31 : decode cX5_sendAll 31 = .ok (.iload_n 3, 1) := by decide +kernel
theorem dX5_sendAll_32 : decode cX5_sendAll 32 = .ok (.invokevirtual 76, 3) := by decide +kernel
theorem dX5_sendAll_35 : decode cX5_sendAll 35 = .ok (.iinc 4 1, 3) := by decide +kernel
theorem dX5_sendAll_38 : decode cX5_sendAll 38 = .ok (.goto (-35), 3) := by decide +kernel
theorem dX5_sendAll_41 : decode cX5_sendAll 41 = .ok (.return_, 1) := by decide +kernel
theorem dX5_empty_0 : decode cX5_empty 0 = .ok (.aload_n 0, 1) := by decide +kernel
theorem dX5_empty_1 : decode cX5_empty 1 = .ok (.getfield 19, 3) := by decide +kernel
theorem dX5_empty_4 : decode cX5_empty 4 = .ok (.iload_n 1, 1) := by decide +kernel
theorem dX5_empty_5 : decode cX5_empty 5 = .ok (.iconst 0, 1) := by decide +kernel
theorem dX5_empty_6 : decode cX5_empty 6 = .ok (.iastore, 1) := by decide +kernel
theorem dX5_empty_7 : decode cX5_empty 7 = .ok (.aload_n 0, 1) := by decide +kernel
theorem dX5_empty_8 : decode cX5_empty 8 = .ok (.getfield 22, 3) := by decide +kernel
theorem dX5_empty_11 : decode cX5_empty 11 = .ok (.iload_n 1, 1) := by decide +kernel
theorem dX5_empty_12 : decode cX5_empty 12 = .ok (.iconst 0, 1) := by decide +kernel
theorem dX5_empty_13 : decode cX5_empty 13 = .ok (.iastore, 1) := by decide +kernel
theorem dX5_empty_14 : decode cX5_empty 14 = .ok (.aload_n 0, 1) := by decide +kernel
theorem dX5_empty_15 : decode cX5_empty 15 = .ok (.getfield 25, 3) := by decide +kernel
theorem dX5_empty_18 : decode cX5_empty 18 = .ok (.iload_n 1, 1) := by decide +kernel
theorem dX5_empty_19 : decode cX5_empty 19 = .ok (.iconst 0, 1) := by decide +kernel
theorem dX5_empty_20 : decode cX5_empty 20 = .ok (.iastore, 1) := by decide +kernel
theorem dX5_empty_21 : decode cX5_empty 21 = .ok (.return_, 1) := by decide +kernel
set_option maxRecDepth 20000 in
theorem ggX5_request_X5_isNode : GoodIn wsX5_request wsX5_isNode := goodIn_r _ [8, 9, 34, 35, 36, 37, 38, 39, 40, 41, 42, 43, 44, 45, 46, 47, 48, 49, 50, 51, 52] (by decide +kernel) (by decide +kernel)
set_option maxRecDepth 20000 in
theorem gX5_request_X5_isNode : GoodIn wsX5_request (wsV RX5 80 RX5 yX5_isNode wsX5_isNode) := goodIn_app (goodIn_of _ (by decide +kernel)) ggX5_request_X5_isNode
set_option maxRecDepth 20000 in
theorem ggX5_request_X5_empty : GoodIn wsX5_request wsX5_empty := goodIn_r _ [13, 14, 15, 16, 34, 35, 36, 37, 38, 39, 40, 41, 42, 43, 44, 45, 46, 47, 48, 49, 50, 51, 52] (by decide +kernel) (by decide +kernel)
set_option maxRecDepth 20000 in
theorem gX5_request_X5_empty : GoodIn wsX5_request (wsV RX5 84 RX5 yX5_empty wsX5_empty) := goodIn_app (goodIn_of _ (by decide +kernel)) ggX5_request_X5_empty
set_option maxRecDepth 20000 in
theorem ggX5_request_X5_sendAll : GoodIn wsX5_request wsX5_sendAll := goodIn_r _ [20, 9, 21, 22, 23, 7, 24, 25, 26, 27, 28, 29, 30, 31, 32, 33, 2, 34, 35, 36, 37, 38, 39, 40, 41, 42, 43, 44, 45, 46, 47, 48, 49, 50, 51, 52] (by decide +kernel) (by decide +kernel)
set_option maxRecDepth 20000 in
theorem gX5_request_X5_sendAll : GoodIn wsX5_request (wsV RX5 88 RX5 yX5_sendAll wsX5_sendAll) := goodIn_app (goodIn_of _ (by decide +kernel)) ggX5_request_X5_sendAll
theorem dX5_request_0 : decode cX5_request 0 = .ok (.aload_n 0, 1) := by decide +kernel
theorem dX5_request_1 : decode cX5_request 1 = .ok (.iload_n 1, 1) := by decide +kernel
theorem dX5_request_2 : decode cX5_request 2 = .ok (.invokevirtual 80, 3) := by decide +kernel
theorem dX5_request_5 : decode cX5_request 5 = .ok (.ifCond .ne 5, 3) := by decide +kernel
theorem dX5_request_8 : decode cX5_request 8 = .ok (.iconst (-1), 1) := by decide +kernel
theorem dX5_request_9 : decode cX5_request 9 = .ok (.ireturn, 1) := by decide +kernel
theorem dX5_request_10 : decode cX5_request 10 = .ok (.aload_n 0, 1) := by decide +kernel
theorem dX5_request_11 : decode cX5_request 11 = .ok (.getfield 13, 3) := by decide +kernel
theorem dX5_request_14 : decode cX5_request 14 = .ok (.iload_n 1, 1) := by decide +kernel
theorem dX5_request_15 : decode cX5_request 15 = .ok (.iaload, 1) := by decide +kernel
theorem dX5_request_16 : decode cX5_request 16 = .ok (.ifCond .eq 5, 3) := by decide +kernel
theorem dX5_request_19 : decode cX5_request 19 = .ok (.iconst 1, 1) := by decide +kernel
theorem dX5_request_20 : decode cX5_request 20 = .ok (.ireturn, 1) := by decide +kernel
theorem dX5_request_21 : decode cX5_request 21 = .ok (.aload_n 0, 1) := by decide +kernel
theorem dX5_request_22 : decode cX5_request 22 = .ok (.getfield 7, 3) := by decide +kernel
theorem dX5_request_25 : decode cX5_request 25 = .ok (.iload_n 1, 1) := by decide +kernel
theorem dX5_request_26 : decode cX5_request 26 = .ok (.dup2, 1) := by decide +kernel
theorem dX5_request_27 : decode cX5_request 27 = .ok (.iaload, 1) := by decide +kernel
theorem dX5_request_28 : decode cX5_request 28 = .ok (.iconst 1, 1) := by decide +kernel
theorem dX5_request_29 : decode cX5_request 29 = .ok (.iadd, 1) := by decide +kernel
theorem dX5_request_30 : decode cX5_request 30 = .ok (.iastore, 1) := by decide +kernel
theorem dX5_request_31 : decode cX5_request 31 = .ok (.aload_n 0, 1) := by decide +kernel
theorem dX5_request_32 : decode cX5_request 32 = .ok (.getfield 16, 3) := by decide +kernel
theorem dX5_request_35 : decode cX5_request 35 = .ok (.iload_n 1, 1) := by decide +kernel
theorem dX5_request_36 : decode cX5_request 36 = .ok (.aload_n 0, 1) := by decide +kernel
theorem dX5_request_37 : decode cX5_request 37 = .ok (.getfield 7, 3) := by decide +kernel
theorem dX5_request_40 : decode cX5_request 40 = .ok (.iload_n 1, 1) := by decide +kernel
theorem dX5_request_41 : decode cX5_request 41 = .ok (.iaload, 1) := by decide +kernel
theorem dX5_request_42 : decode cX5_request 42 = .ok (.iastore, 1) := by decide +kernel
theorem dX5_request_43 : decode cX5_request 43 = .ok (.aload_n 0, 1) := by decide +kernel
theorem dX5_request_44 : decode cX5_request 44 = .ok (.getfield 13, 3) := by decide +kernel
theorem dX5_request_47 : decode cX5_request 47 = .ok (.iload_n 1, 1) := by decide +kernel
theorem dX5_request_48 : decode cX5_request 48 = .ok (.iconst 1, 1) := by decide +kernel
theorem dX5_request_49 : decode cX5_request 49 = .ok (.iastore, 1) := by decide +kernel
theorem dX5_request_50 : decode cX5_request 50 = .ok (.aload_n 0, 1) := by decide +kernel
theorem dX5_request_51 : decode cX5_request 51 = .ok (.iload_n 1, 1) := by decide +kernel
theorem dX5_request_52 : decode cX5_request 52 = .ok (.invokevirtual 84, 3) := by decide +kernel
theorem dX5_request_55 : decode cX5_request 55 = .ok (.aload_n 0, 1) := by decide +kernel
theorem dX5_request_56 : decode cX5_request 56 = .ok (.iload_n 1, 1) := by decide +kernel
theorem dX5_request_57 : decode cX5_request 57 = .ok (.iconst 1, 1) := by decide +kernel
theorem dX5_request_58 : decode cX5_request 58 = .ok (.aload_n 0, 1) := by decide +kernel
theorem dX5_request_59 : decode cX5_request 59 = .ok (.getfield 16, 3) := by decide +kernel
theorem dX5_request_62 : decode cX5_request 62 = .ok (.iload_n 1, 1) := by decide +kernel
theorem dX5_request_63 : decode cX5_request 63 = .ok (.iaload, 1) := by decide +kernel
theorem dX5_request_64 : decode cX5_request 64 = .ok (.invokevirtual 88, 3) := by decide +kernel
theorem dX5_request_67 : decode cX5_request 67 = .ok (.iconst 0, 1) := by decide +kernel
theorem dX5_request_68 : decode cX5_request 68 = .ok (.ireturn, 1) := by decide +kernel
set_option maxRecDepth 20000 in
theorem ggX5_enter_X5_isNode : GoodIn wsX5_enter wsX5_isNode := goodIn_r _ [8, 9, 15, 16, 17, 18, 19, 20, 21, 22, 23, 24, 25, 26, 27, 28, 29, 30, 31, 32, 33] (by decide +kernel) (by decide +kernel)
set_option maxRecDepth 20000 in
theorem gX5_enter_X5_isNode : GoodIn wsX5_enter (wsV RX5 80 RX5 yX5_isNode wsX5_isNode) := goodIn_app (goodIn_of _ (by decide +kernel)) ggX5_enter_X5_isNode
set_option maxRecDepth 20000 in
theorem ggX5_enter_X5_quorum : GoodIn wsX5_enter wsX5_quorum := goodIn_r _ [13, 9, 14, 15, 16, 17, 18, 19, 20, 21, 22, 23, 24, 25, 26, 27, 28, 29, 30, 31, 32, 33] (by decide +kernel) (by decide +kernel)
set_option maxRecDepth 20000 in
theorem gX5_enter_X5_quorum : GoodIn wsX5_enter (wsV RX5 72 RX5 yX5_quorum wsX5_quorum) := goodIn_app (goodIn_of _ (by decide +kernel)) ggX5_enter_X5_quorum
theorem dX5_enter_0 : decode cX5_enter 0 = .ok (.aload_n 0, 1) := by decide +kernel
theorem dX5_enter_1 : decode cX5_enter 1 = .ok (.iload_n 1, 1) := by decide +kernel
theorem dX5_enter_2 : decode cX5_enter 2 = .ok (.invokevirtual 80, 3) := by decide +kernel
theorem dX5_enter_5 : decode cX5_enter 5 = .ok (.ifCond .eq 27, 3) := by decide +kernel
theorem dX5_enter_8 : decode cX5_enter 8 = .ok (.aload_n 0, 1) := by decide +kernel
theorem dX5_enter_9 : decode cX5_enter 9 = .ok (.getfield 13, 3) := by decide +kernel
theorem dX5_enter_12 : decode cX5_enter 12 = .ok (.iload_n 1, 1) := by decide +kernel
theorem dX5_enter_13 : decode cX5_enter 13 = .ok (.iaload, 1) := by decide +kernel
theorem dX5_enter_14 : decode cX5_enter 14 = .ok (.iconst 1, 1) := by decide +kernel
theorem dX5_enter_15 : decode cX5_enter 15 = .ok (.if_icmp .ne 17, 3) := by decide +kernel
theorem dX5_enter_18 : decode cX5_enter 18 = .ok (.aload_n 0, 1) := by decide +kernel
theorem dX5_enter_19 : decode cX5_enter 19 = .ok (.getfield 19, 3) := by decide +kernel
theorem dX5_enter_22 : decode cX5_enter 22 = .ok (.iload_n 1, 1) := by decide +kernel
theorem dX5_enter_23 : decode cX5_enter 23 = .ok (.iaload, 1) := by decide +kernel
theorem dX5_enter_24 : decode cX5_enter 24 = .ok (.aload_n 0, 1) := by decide +kernel
theorem dX5_enter_25 : decode cX5_enter 25 = .ok (.iload_n 1, 1) := by decide +kernel
theorem dX5_enter_26 : decode cX5_enter 26 = .ok (.invokevirtual 72, 3) := by decide +kernel
theorem dX5_enter_29 : decode cX5_enter 29 = .ok (.if_icmp .eq 5, 3) := by decide +kernel
theorem dX5_enter_32 : decode cX5_enter 32 = .ok (.iconst 0, 1) := by decide +kernel
theorem dX5_enter_33 : decode cX5_enter 33 = .ok (.ireturn, 1) := by decide +kernel
theorem dX5_enter_34 : decode cX5_enter 34 = .ok (.aload_n 0, 1) := by decide +kernel
theorem dX5_enter_35 : decode cX5_enter 35 = .ok (.getfield 13, 3) := by decide +kernel
theorem dX5_enter_38 : decode cX5_enter 38 = .ok (.iload_n 1, 1) := by decide +kernel
theorem dX5_enter_39 : decode cX5_enter 39 = .ok (.iconst 2, 1) := by decide +kernel
theorem dX5_enter_40 : decode cX5_enter 40 = .ok (.iastore, 1) := by decide +kernel
theorem dX5_enter_41 : decode cX5_enter 41 = .ok (.aload_n 0, 1) := by decide +kernel
theorem dX5_enter_42 : decode cX5_enter 42 = .ok (.dup, 1) := by decide +kernel
theorem dX5_enter_43 : decode cX5_enter 43 = .ok (.getfield 69, 3) := by decide +kernel
theorem dX5_enter_46 : decode cX5_enter 46 = .ok (.iconst 1, 1) := by decide +kernel
theorem dX5_enter_47 : decode cX5_enter 47 = .ok (.iadd, 1) := by decide +kernel
theorem dX5_enter_48 : decode cX5_enter 48 = .ok (.putfield 69, 3) := by decide +kernel
theorem dX5_enter_51 : decode cX5_enter 51 = .ok (.iconst 1, 1) := by decide +kernel
theorem dX5_enter_52 : decode cX5_enter 52 = .ok (.ireturn, 1) := by decide +kernel
set_option maxRecDepth 20000 in
theorem ggX5_release_X5_isNode : GoodIn wsX5_release wsX5_isNode := goodIn_r _ [7, 8, 34, 35, 36, 37, 38, 39, 40, 41, 42, 43, 44, 45, 46, 47, 48, 49, 50, 51, 52] (by decide +kernel) (by decide +kernel)
set_option maxRecDepth 20000 in
theorem gX5_release_X5_isNode : GoodIn wsX5_release (wsV RX5 80 RX5 yX5_isNode wsX5_isNode) := goodIn_app (goodIn_of _ (by decide +kernel)) ggX5_release_X5_isNode
set_option maxRecDepth 20000 in
theorem ggX5_release_X5_empty : GoodIn wsX5_release wsX5_empty := goodIn_r _ [12, 13, 14, 15, 34, 35, 36, 37, 38, 39, 40, 41, 42, 43, 44, 45, 46, 47, 48, 49, 50, 51, 52] (by decide +kernel) (by decide +kernel)
set_option maxRecDepth 20000 in
theorem gX5_release_X5_empty : GoodIn wsX5_release (wsV RX5 84 RX5 yX5_empty wsX5_empty) := goodIn_app (goodIn_of _ (by decide +kernel)) ggX5_release_X5_empty
set_option maxRecDepth 20000 in
theorem ggX5_release_X5_sendAll : GoodIn wsX5_release wsX5_sendAll := goodIn_r _ [19, 8, 20, 21, 22, 6, 23, 24, 25, 26, 27, 28, 29, 30, 31, 32, 33, 34, 35, 36, 37, 38, 39, 40, 41, 42, 43, 44, 45, 46, 47, 48, 49, 50, 51, 52] (by decide +kernel) (by decide +kernel)
set_option maxRecDepth 20000 in
theorem gX5_release_X5_sendAll : GoodIn wsX5_release (wsV RX5 88 RX5 yX5_sendAll wsX5_sendAll) := goodIn_app (goodIn_of _ (by decide +kernel)) ggX5_release_X5_sendAll
theorem dX5_release_0 : decode cX5_release 0 = .ok (.aload_n 0, 1) := by decide +kernel
theorem dX5_release_1 : decode cX5_release 1 = .ok (.iload_n 1, 1) := by decide +kernel
theorem dX5_release_2 : decode cX5_release 2 = .ok (.invokevirtual 80, 3) := by decide +kernel
theorem dX5_release_5 : decode cX5_release 5 = .ok (.ifCond .ne 5, 3) := by decide +kernel
theorem dX5_release_8 : decode cX5_release 8 = .ok (.iconst (-1), 1) := by decide +kernel
theorem dX5_release_9 : decode cX5_release 9 = .ok (.ireturn, 1) := by decide +kernel
theorem dX5_release_10 : decode cX5_release 10 = .ok (.aload_n 0, 1) := by decide +kernel
theorem dX5_release_11 : decode cX5_release 11 = .ok (.getfield 13, 3) := by decide +kernel
theorem dX5_release_14 : decode cX5_release 14 = .ok (.iload_n 1, 1) := by decide +kernel
theorem dX5_release_15 : decode cX5_release 15 = .ok (.iaload, 1) := by decide +kernel
theorem dX5_release_16 : decode cX5_release 16 = .ok (.iconst 2, 1) := by decide +kernel
theorem dX5_release_17 : decode cX5_release 17 = .ok (.if_icmp .eq 5, 3) := by decide +kernel
theorem dX5_release_20 : decode cX5_release 20 = .ok (.iconst 1, 1) := by decide +kernel
theorem dX5_release_21 : decode cX5_release 21 = .ok (.ireturn, 1) := by decide +kernel
theorem dX5_release_22 : decode cX5_release 22 = .ok (.aload_n 0, 1) := by decide +kernel
theorem dX5_release_23 : decode cX5_release 23 = .ok (.getfield 16, 3) := by decide +kernel
theorem dX5_release_26 : decode cX5_release 26 = .ok (.iload_n 1, 1) := by decide +kernel
theorem dX5_release_27 : decode cX5_release 27 = .ok (.iaload, 1) := by decide +kernel
theorem dX5_release_28 : decode cX5_release 28 = .ok (.istore_n 2, 1) := by decide +kernel
theorem dX5_release_29 : decode cX5_release 29 = .ok (.aload_n 0, 1) := by decide +kernel
theorem dX5_release_30 : decode cX5_release 30 = .ok (.getfield 13, 3) := by decide +kernel
theorem dX5_release_33 : decode cX5_release 33 = .ok (.iload_n 1, 1) := by decide +kernel
theorem dX5_release_34 : decode cX5_release 34 = .ok (.iconst 0, 1) := by decide +kernel
theorem dX5_release_35 : decode cX5_release 35 = .ok (.iastore, 1) := by decide +kernel
theorem dX5_release_36 : decode cX5_release 36 = .ok (.aload_n 0, 1) := by decide +kernel
theorem dX5_release_37 : decode cX5_release 37 = .ok (.getfield 16, 3) := by decide +kernel
theorem dX5_release_40 : decode cX5_release 40 = .ok (.iload_n 1, 1) := by decide +kernel
theorem dX5_release_41 : decode cX5_release 41 = .ok (.iconst 0, 1) := by decide +kernel
theorem dX5_release_42 : decode cX5_release 42 = .ok (.iastore, 1) := by decide +kernel
theorem dX5_release_43 : decode cX5_release 43 = .ok (.aload_n 0, 1) := by decide +kernel
theorem dX5_release_44 : decode cX5_release 44 = .ok (.iload_n 1, 1) := by decide +kernel
theorem dX5_release_45 : decode cX5_release 45 = .ok (.invokevirtual 84, 3) := by decide +kernel
theorem dX5_release_48 : decode cX5_release 48 = .ok (.aload_n 0, 1) := by decide +kernel
theorem dX5_release_49 : decode cX5_release 49 = .ok (.iload_n 1, 1) := by decide +kernel
theorem dX5_release_50 : decode cX5_release 50 = .ok (.iconst 3, 1) := by decide +kernel
theorem dX5_release_51 : decode cX5_release 51 = .ok (.iload_n 2, 1) := by decide +kernel
theorem dX5_release_52 : decode cX5_release 52 = .ok (.invokevirtual 88, 3) := by decide +kernel
theorem dX5_release_55 : decode cX5_release 55 = .ok (.iconst 0, 1) := by decide +kernel
theorem dX5_release_56 : decode cX5_release 56 = .ok (.ireturn, 1) := by decide +kernel
set_option maxRecDepth 20000 in
theorem ggX5_giveUp_X5_send : GoodIn wsX5_giveUp wsX5_send := goodIn_r _ [9, 10, 11, 12, 13, 14, 15, 16, 17, 18, 19, 20, 21, 22, 23, 24, 25, 26, 27, 28, 29, 30, 31, 32, 33] (by decide +kernel) (by decide +kernel)
set_option maxRecDepth 20000 in
theorem gX5_giveUp_X5_send : GoodIn wsX5_giveUp (wsV RX5 76 RX5 yX5_send wsX5_send) := goodIn_app (goodIn_of _ (by decide +kernel)) ggX5_giveUp_X5_send
theorem dX5_giveUp_0 : decode cX5_giveUp 0 = .ok (.aload_n 0, 1) := by decide +kernel
theorem dX5_giveUp_1 : decode cX5_giveUp 1 = .ok (.iload_n 1, 1) := by decide +kernel
theorem dX5_giveUp_2 : decode cX5_giveUp 2 = .ok (.iload_n 2, 1) := by decide +kernel
theorem dX5_giveUp_3 : decode cX5_giveUp 3 = .ok (.iconst 5, 1) := by decide +kernel
theorem dX5_giveUp_4 : decode cX5_giveUp 4 = .ok (.aload_n 0, 1) := by decide +kernel
theorem dX5_giveUp_5 : decode cX5_giveUp 5 = .ok (.getfield 16, 3) := by decide +kernel
theorem dX5_giveUp_8 : decode cX5_giveUp 8 = .ok (.iload_n 1, 1) := by decide +kernel
theorem dX5_giveUp_9 : decode cX5_giveUp 9 = .ok (.iaload, 1) := by decide +kernel
theorem dX5_giveUp_10 : decode cX5_giveUp 10 = .ok (.invokevirtual 76, 3) := by decide +kernel
theorem dX5_giveUp_13 : decode cX5_giveUp 13 = .ok (.aload_n 0, 1) := by decide +kernel
theorem dX5_giveUp_14 : decode cX5_giveUp 14 = .ok (.getfield 19, 3) := by decide +kernel
theorem dX5_giveUp_17 : decode cX5_giveUp 17 = .ok (.iload_n 1, 1) := by decide +kernel
theorem dX5_giveUp_18 : decode cX5_giveUp 18 = .ok (.dup2, 1) := by decide +kernel
theorem dX5_giveUp_19 : decode cX5_giveUp 19 = .ok (.iaload, 1) := by decide +kernel
theorem dX5_giveUp_20 : decode cX5_giveUp 20 = .ok (.iconst 1, 1) := by decide +kernel
theorem dX5_giveUp_21 : decode cX5_giveUp 21 = .ok (.iload_n 2, 1) := by decide +kernel
theorem dX5_giveUp_22 : decode cX5_giveUp 22 = .ok (.ishl, 1) := by decide +kernel
theorem dX5_giveUp_23 : decode cX5_giveUp 23 = .ok (.iconst (-1), 1) := by decide +kernel
theorem dX5_giveUp_24 : decode cX5_giveUp 24 = .ok (.ixor, 1) := by decide +kernel
theorem dX5_giveUp_25 : decode cX5_giveUp 25 = .ok (.iand, 1) := by decide +kernel
theorem dX5_giveUp_26 : decode cX5_giveUp 26 = .ok (.iastore, 1) := by decide +kernel
theorem dX5_giveUp_27 : decode cX5_giveUp 27 = .ok (.aload_n 0, 1) := by decide +kernel
theorem dX5_giveUp_28 : decode cX5_giveUp 28 = .ok (.getfield 25, 3) := by decide +kernel
theorem dX5_giveUp_31 : decode cX5_giveUp 31 = .ok (.iload_n 1, 1) := by decide +kernel
theorem dX5_giveUp_32 : decode cX5_giveUp 32 = .ok (.dup2, 1) := by decide +kernel
theorem dX5_giveUp_33 : decode cX5_giveUp 33 = .ok (.iaload, 1) := by decide +kernel
theorem dX5_giveUp_34 : decode cX5_giveUp 34 = .ok (.iconst 1, 1) := by decide +kernel
theorem dX5_giveUp_35 : decode cX5_giveUp 35 = .ok (.iload_n 2, 1) := by decide +kernel
theorem dX5_giveUp_36 : decode cX5_giveUp 36 = .ok (.ishl, 1) := by decide +kernel
theorem dX5_giveUp_37 : decode cX5_giveUp 37 = .ok (.iconst (-1), 1) := by decide +kernel
theorem dX5_giveUp_38 : decode cX5_giveUp 38 = .ok (.ixor, 1) := by decide +kernel
theorem dX5_giveUp_39 : decode cX5_giveUp 39 = .ok (.iand, 1) := by decide +kernel
theorem dX5_giveUp_40 : decode cX5_giveUp 40 = .ok (.iastore, 1) := by decide +kernel
theorem dX5_giveUp_41 : decode cX5_giveUp 41 = .ok (.aload_n 0, 1) := by decide +kernel
theorem dX5_giveUp_42 : decode cX5_giveUp 42 = .ok (.getfield 22, 3) := by decide +kernel
theorem dX5_giveUp_45 : decode cX5_giveUp 45 = .ok (.iload_n 1, 1) := by decide +kernel
theorem dX5_giveUp_46 : decode cX5_giveUp 46 = .ok (.dup2, 1) := by decide +kernel
theorem dX5_giveUp_47 : decode cX5_giveUp 47 = .ok (.iaload, 1) := by decide +kernel
theorem dX5_giveUp_48 : decode cX5_giveUp 48 = .ok (.iconst 1, 1) := by decide +kernel
theorem dX5_giveUp_49 : decode cX5_giveUp 49 = .ok (.iload_n 2, 1) := by decide +kernel
theorem dX5_giveUp_50 : decode cX5_giveUp 50 = .ok (.ishl, 1) := by decide +kernel
theorem dX5_giveUp_51 : decode cX5_giveUp 51 = .ok (.ior, 1) := by decide +kernel
theorem dX5_giveUp_52 : decode cX5_giveUp 52 = .ok (.iastore, 1) := by decide +kernel
theorem dX5_giveUp_53 : decode cX5_giveUp 53 = .ok (.return_, 1) := by decide +kernel
set_option maxRecDepth 20000 in
theorem ggX5_answer_X5_giveUp : GoodIn wsX5_answer wsX5_giveUp := goodIn_r _ [11, 2, 3, 6, 4, 12, 13, 14, 10, 15, 16, 17, 18, 19, 20, 21, 22, 23, 24, 25, 26, 27, 28, 29, 30, 31, 32, 33, 34, 35, 36, 37, 38, 39] (by decide +kernel) (by decide +kernel)
set_option maxRecDepth 20000 in
theorem gX5_answer_X5_giveUp : GoodIn wsX5_answer (wsV RX5 92 RX5 yX5_giveUp wsX5_giveUp) := goodIn_app (goodIn_of _ (by decide +kernel)) ggX5_answer_X5_giveUp
theorem dX5_answer_0 : decode cX5_answer 0 = .ok (.aload_n 0, 1) := by decide +kernel
theorem dX5_answer_1 : decode cX5_answer 1 = .ok (.getfield 13, 3) := by decide +kernel
theorem dX5_answer_4 : decode cX5_answer 4 = .ok (.iload_n 1, 1) := by decide +kernel
theorem dX5_answer_5 : decode cX5_answer 5 = .ok (.iaload, 1) := by decide +kernel
theorem dX5_answer_6 : decode cX5_answer 6 = .ok (.ifCond .eq 14, 3) := by decide +kernel
theorem dX5_answer_9 : decode cX5_answer 9 = .ok (.aload_n 0, 1) := by decide +kernel
theorem dX5_answer_10 : decode cX5_answer 10 = .ok (.getfield 16, 3) := by decide +kernel
theorem dX5_answer_13 : decode cX5_answer 13 = .ok (.iload_n 1, 1) := by decide +kernel
theorem dX5_answer_14 : decode cX5_answer 14 = .ok (.iaload, 1) := by decide +kernel
theorem dX5_answer_15 : decode cX5_answer 15 = .ok (.iload 4, 2) := by decide +kernel
theorem dX5_answer_17 : decode cX5_answer 17 = .ok (.if_icmp .eq 4, 3) := by decide +kernel
theorem dX5_answer_20 : decode cX5_answer 20 = .ok (.return_, 1) := by decide +kernel
theorem dX5_answer_21 : decode cX5_answer 21 = .ok (.iload_n 3, 1) := by decide +kernel
theorem dX5_answer_22 : decode cX5_answer 22 = .ok (.iconst 2, 1) := by decide +kernel
theorem dX5_answer_23 : decode cX5_answer 23 = .ok (.if_icmp .ne 32, 3) := by decide +kernel
theorem dX5_answer_26 : decode cX5_answer 26 = .ok (.aload_n 0, 1) := by decide +kernel
theorem dX5_answer_27 : decode cX5_answer 27 = .ok (.getfield 19, 3) := by decide +kernel
theorem dX5_answer_30 : decode cX5_answer 30 = .ok (.iload_n 1, 1) := by decide +kernel
theorem dX5_answer_31 : decode cX5_answer 31 = .ok (.dup2, 1) := by decide +kernel
theorem dX5_answer_32 : decode cX5_answer 32 = .ok (.iaload, 1) := by decide +kernel
theorem dX5_answer_33 : decode cX5_answer 33 = .ok (.iconst 1, 1) := by decide +kernel
theorem dX5_answer_34 : decode cX5_answer 34 = .ok (.iload_n 2, 1) := by decide +kernel
theorem dX5_answer_35 : decode cX5_answer 35 = .ok (.ishl, 1) := by decide +kernel
theorem dX5_answer_36 : decode cX5_answer 36 = .ok (.ior, 1) := by decide +kernel
theorem dX5_answer_37 : decode cX5_answer 37 = .ok (.iastore, 1) := by decide +kernel
theorem dX5_answer_38 : decode cX5_answer 38 = .ok (.aload_n 0, 1) := by decide +kernel
theorem dX5_answer_39 : decode cX5_answer 39 = .ok (.getfield 22, 3) := by decide +kernel
theorem dX5_answer_42 : decode cX5_answer 42 = .ok (.iload_n 1, 1) := by decide +kernel
theorem dX5_answer_43 : decode cX5_answer 43 = .ok (.dup2, 1) := by decide +kernel
theorem dX5_answer_44 : decode cX5_answer 44 = .ok (.iaload, 1) := by decide +kernel
theorem dX5_answer_45 : decode cX5_answer 45 = .ok (.iconst 1, 1) := by decide +kernel
theorem dX5_answer_46 : decode cX5_answer 46 = .ok (.iload_n 2, 1) := by decide +kernel
theorem dX5_answer_47 : decode cX5_answer 47 = .ok (.ishl, 1) := by decide +kernel
theorem dX5_answer_48 : decode cX5_answer 48 = .ok (.iconst (-1), 1) := by decide +kernel
theorem dX5_answer_49 : decode cX5_answer 49 = .ok (.ixor, 1) := by decide +kernel
theorem dX5_answer_50 : decode cX5_answer 50 = .ok (.iand, 1) := by decide +kernel
theorem dX5_answer_51 : decode cX5_answer 51 = .ok (.iastore, 1) := by decide +kernel
theorem dX5_answer_52 : decode cX5_answer 52 = .ok (.goto 140, 3) := by decide +kernel
theorem dX5_answer_55 : decode cX5_answer 55 = .ok (.iload_n 3, 1) := by decide +kernel
theorem dX5_answer_56 : decode cX5_answer 56 = .ok (.bipush 6, 2) := by decide +kernel
theorem dX5_answer_58 : decode cX5_answer 58 = .ok (.if_icmp .ne 75, 3) := by decide +kernel
theorem dX5_answer_61 : decode cX5_answer 61 = .ok (.aload_n 0, 1) := by decide +kernel
theorem dX5_answer_62 : decode cX5_answer 62 = .ok (.getfield 13, 3) := by decide +kernel
theorem dX5_answer_65 : decode cX5_answer 65 = .ok (.iload_n 1, 1) := by decide +kernel
theorem dX5_answer_66 : decode cX5_answer 66 = .ok (.iaload, 1) := by decide +kernel
theorem dX5_answer_67 : decode cX5_answer 67 = .ok (.iconst 1, 1) := by decide +kernel
theorem dX5_answer_68 : decode cX5_answer 68 = .ok (.if_icmp .ne 65, 3) := by decide +kernel
theorem dX5_answer_71 : decode cX5_answer 71 = .ok (.aload_n 0, 1) := by decide +kernel
theorem dX5_answer_72 : decode cX5_answer 72 = .ok (.getfield 22, 3) := by decide +kernel
theorem dX5_answer_75 : decode cX5_answer 75 = .ok (.iload_n 1, 1) := by decide +kernel
theorem dX5_answer_76 : decode cX5_answer 76 = .ok (.dup2, 1) := by decide +kernel
theorem dX5_answer_77 : decode cX5_answer 77 = .ok (.iaload, 1) := by decide +kernel
theorem dX5_answer_78 : decode cX5_answer 78 = .ok (.iconst 1, 1) := by decide +kernel
theorem dX5_answer_79 : decode cX5_answer 79 = .ok (.iload_n 2, 1) := by decide +kernel
theorem dX5_answer_80 : decode cX5_answer 80 = .ok (.ishl, 1) := by decide +kernel
theorem dX5_answer_81 : decode cX5_answer 81 = .ok (.ior, 1) := by decide +kernel
theorem dX5_answer_82 : decode cX5_answer 82 = .ok (.iastore, 1) := by decide +kernel
theorem dX5_answer_83 : decode cX5_answer 83 = .ok (.iconst 0, 1) := by decide +kernel
theorem dX5_answer_84 : decode cX5_answer 84 = .ok (.istore 5, 2) := by decide +kernel
theorem dX5_answer_86 : decode cX5_answer 86 = .ok (.iload 5, 2) := by decide +kernel
theorem dX5_answer_88 : decode cX5_answer 88 = .ok (.aload_n 0, 1) := by decide +kernel
theorem dX5_answer_89 : decode cX5_answer 89 = .ok (.getfield 63, 3) := by decide +kernel
theorem dX5_answer_92 : decode cX5_answer 92 = .ok (.if_icmp .ge 38, 3) := by decide +kernel
theorem dX5_answer_95 : decode cX5_answer 95 = .ok (.aload_n 0, 1) := by decide +kernel
theorem dX5_answer_96 : decode cX5_answer 96 = .ok (.getfield 19, 3) := by decide +kernel
theorem dX5_answer_99 : decode cX5_answer 99 = .ok (.iload_n 1, 1) := by decide +kernel
theorem dX5_answer_100 : decode cX5_answer 100 = .ok (.iaload, 1) := by decide +kernel
theorem dX5_answer_101 : decode cX5_answer 101 = .ok (.aload_n 0, 1) := by decide +kernel
theorem dX5_answer_102 : decode cX5_answer 102 = .ok (.getfield 25, 3) := by decide +kernel
theorem dX5_answer_105 : decode cX5_answer 105 = .ok (.iload_n 1, 1) := by decide +kernel
theorem dX5_answer_106 : decode cX5_answer 106 = .ok (.iaload, 1) := by decide +kernel
theorem dX5_answer_107 : decode cX5_answer 107 = .ok (.iand, 1) := by decide +kernel
theorem dX5_answer_108 : decode cX5_answer 108 = .ok (.iload 5, 2) := by decide +kernel
theorem dX5_answer_110 : decode cX5_answer 110 = .ok (.ishr, 1) := by decide +kernel
theorem dX5_answer_111 : decode cX5_answer 111 = .ok (.iconst 1, 1) := by decide +kernel
theorem dX5_answer_112 : decode cX5_answer 112 = .ok (.iand, 1) := by decide +kernel
theorem dX5_answer_113 : decode cX5_answer 113 = .ok (.iconst 1, 1) := by decide +kernel
theorem dX5_answer_114 : decode cX5_answer 114 = .ok (.if_icmp .ne 10, 3) := by decide +kernel
theorem dX5_answer_117 : decode cX5_answer 117 = .ok (.aload_n 0, 1) := by decide +kernel
theorem dX5_answer_118 : decode cX5_answer 118 = .ok (.iload_n 1, 1) := by decide +kernel
theorem dX5_answer_119 : decode cX5_answer 119 = .ok (.iload 5, 2) := by decide +kernel
theorem dX5_answer_121 : decode cX5_answer 121 = .ok (.invokevirtual 92, 3) := by decide +kernel
theorem dX5_answer_124 : decode cX5_answer 124 = .ok (.iinc 5 1, 3) := by decide +kernel
theorem dX5_answer_127 : decode cX5_answer 127 = .ok (.goto (-41), 3) := by decide +kernel
theorem dX5_answer_130 : decode cX5_answer 130 = .ok (.goto 62, 3) := by decide +kernel
theorem dX5_answer_133 : decode cX5_answer 133 = .ok (.iload_n 3, 1) := by decide +kernel
theorem dX5_answer_134 : decode cX5_answer 134 = .ok (.iconst 4, 1) := by decide +kernel
theorem dX5_answer_135 : decode cX5_answer 135 = .ok (.if_icmp .ne 57, 3) := by decide +kernel
theorem dX5_answer_138 : decode cX5_answer 138 = .ok (.aload_n 0, 1) := by decide +kernel
theorem dX5_answer_139 : decode cX5_answer 139 = .ok (.getfield 13, 3) := by decide +kernel
theorem dX5_answer_142 : decode cX5_answer 142 = .ok (.iload_n 1, 1) := by decide +kernel
theorem dX5_answer_143 : decode cX5_answer 143 = .ok (.iaload, 1) := by decide +kernel
theorem dX5_answer_144 : decode cX5_answer 144 = .ok (.iconst 1, 1) := by decide +kernel
theorem dX5_answer_145 : decode cX5_answer 145 = .ok (.if_icmp .ne 47, 3) := by decide +kernel
theorem dX5_answer_148 : decode cX5_answer 148 = .ok (.aload_n 0, 1) := by decide +kernel
theorem dX5_answer_149 : decode cX5_answer 149 = .ok (.getfield 19, 3) := by decide +kernel
theorem dX5_answer_152 : decode cX5_answer 152 = .ok (.iload_n 1, 1) := by decide +kernel
theorem dX5_answer_153 : decode cX5_answer 153 = .ok (.iaload, 1) := by decide +kernel
theorem dX5_answer_154 : decode cX5_answer 154 = .ok (.iload_n 2, 1) := by decide +kernel
theorem dX5_answer_155 : decode cX5_answer 155 = .ok (.ishr, 1) := by decide +kernel
theorem dX5_answer_156 : decode cX5_answer 156 = .ok (.iconst 1, 1) := by decide +kernel
theorem dX5_answer_157 : decode cX5_answer 157 = .ok (.iand, 1) := by decide +kernel
theorem dX5_answer_158 : decode cX5_answer 158 = .ok (.iconst 1, 1) := by decide +kernel
theorem dX5_answer_159 : decode cX5_answer 159 = .ok (.if_icmp .ne 33, 3) := by decide +kernel
theorem dX5_answer_162 : decode cX5_answer 162 = .ok (.aload_n 0, 1) := by decide +kernel
theorem dX5_answer_163 : decode cX5_answer 163 = .ok (.getfield 22, 3) := by decide +kernel
theorem dX5_answer_166 : decode cX5_answer 166 = .ok (.iload_n 1, 1) := by decide +kernel
theorem dX5_answer_167 : decode cX5_answer 167 = .ok (.iaload, 1) := by decide +kernel
theorem dX5_answer_168 : decode cX5_answer 168 = .ok (.ifCond .eq 12, 3) := by decide +kernel
theorem dX5_answer_171 : decode cX5_answer 171 = .ok (.aload_n 0, 1) := by decide +kernel
theorem dX5_answer_172 : decode cX5_answer 172 = .ok (.iload_n 1, 1) := by decide +kernel
theorem dX5_answer_173 : decode cX5_answer 173 = .ok (.iload_n 2, 1) := by decide +kernel
theorem dX5_answer_174 : decode cX5_answer 174 = .ok (.invokevirtual 92, 3) := by decide +kernel
theorem dX5_answer_177 : decode cX5_answer 177 = .ok (.goto 15, 3) := by decide +kernel
theorem dX5_answer_180 : decode cX5_answer 180 = .ok (.aload_n 0, 1) := by decide +kernel
theorem dX5_answer_181 : decode cX5_answer 181 = .ok (.getfield 25, 3) := by decide +kernel
theorem dX5_answer_184 : decode cX5_answer 184 = .ok (.iload_n 1, 1) := by decide +kernel
theorem dX5_answer_185 : decode cX5_answer 185 = .ok (.dup2, 1) := by decide +kernel
theorem dX5_answer_186 : decode cX5_answer 186 = .ok (.iaload, 1) := by decide +kernel
theorem dX5_answer_187 : decode cX5_answer 187 = .ok (.iconst 1, 1) := by decide +kernel
theorem dX5_answer_188 : decode cX5_answer 188 = .ok (.iload_n 2, 1) := by decide +kernel
theorem dX5_answer_189 : decode cX5_answer 189 = .ok (.ishl, 1) := by decide +kernel
theorem dX5_answer_190 : decode cX5_answer 190 = .ok (.ior, 1) := by decide +kernel
theorem dX5_answer_191 : decode cX5_answer 191 = .ok (.iastore, 1) := by decide +kernel
theorem dX5_answer_192 : decode cX5_answer 192 = .ok (.return_, 1) := by decide +kernel
theorem dX5_isBefore_0 : decode cX5_isBefore 0 = .ok (.iload_n 0, 1) := by decide +kernel
theorem dX5_isBefore_1 : decode cX5_isBefore 1 = .ok (.iload_n 2, 1) := by decide +kernel
theorem dX5_isBefore_2 : decode cX5_isBefore 2 = .ok (.if_icmp .lt 13, 3) := by decide +kernel
theorem dX5_isBefore_5 : decode cX5_isBefore 5 = .ok (.iload_n 0, 1) := by decide +kernel
theorem dX5_isBefore_6 : decode cX5_isBefore 6 = .ok (.iload_n 2, 1) := by decide +kernel
theorem dX5_isBefore_7 : decode cX5_isBefore 7 = .ok (.if_icmp .ne 12, 3) := by decide +kernel
theorem dX5_isBefore_10 : decode cX5_isBefore 10 = .ok (.iload_n 1, 1) := by decide +kernel
theorem dX5_isBefore_11 : decode cX5_isBefore 11 = .ok (.iload_n 3, 1) := by decide +kernel
theorem dX5_isBefore_12 : decode cX5_isBefore 12 = .ok (.if_icmp .ge 7, 3) := by decide +kernel
theorem dX5_isBefore_15 : decode cX5_isBefore 15 = .ok (.iconst 1, 1) := by decide +kernel
theorem dX5_isBefore_16 : decode cX5_isBefore 16 = .ok (.goto 4, 3) := by decide +kernel
theorem dX5_isBefore_19 : decode cX5_isBefore 19 = .ok (.iconst 0, 1) := by decide +kernel
theorem dX5_isBefore_20 : decode cX5_isBefore 20 = .ok (.ireturn, 1) := by decide +kernel
set_option maxRecDepth 20000 in
theorem ggX5_line_X5_isBefore : GoodIn wsX5_line wsX5_isBefore := goodIn_r _ [7] (by decide +kernel) (by decide +kernel)
set_option maxRecDepth 20000 in
theorem gX5_line_X5_isBefore : GoodIn wsX5_line (va_wsS RX5 96 yX5_isBefore wsX5_isBefore) := goodIn_app (goodIn_of _ (by decide +kernel)) ggX5_line_X5_isBefore
theorem dX5_line_0 : decode cX5_line 0 = .ok (.aload_n 0, 1) := by decide +kernel
theorem dX5_line_1 : decode cX5_line 1 = .ok (.getfield 38, 3) := by decide +kernel
theorem dX5_line_4 : decode cX5_line 4 = .ok (.iload_n 1, 1) := by decide +kernel
theorem dX5_line_5 : decode cX5_line 5 = .ok (.iaload, 1) := by decide +kernel
theorem dX5_line_6 : decode cX5_line 6 = .ok (.istore 4, 2) := by decide +kernel
theorem dX5_line_8 : decode cX5_line 8 = .ok (.iload 4, 2) := by decide +kernel
theorem dX5_line_10 : decode cX5_line 10 = .ok (.ifCond .le 97, 3) := by decide +kernel
theorem dX5_line_13 : decode cX5_line 13 = .ok (.iload_n 3, 1) := by decide +kernel
theorem dX5_line_14 : decode cX5_line 14 = .ok (.iload_n 2, 1) := by decide +kernel
theorem dX5_line_15 : decode cX5_line 15 = .ok (.aload_n 0, 1) := by decide +kernel
theorem dX5_line_16 : decode cX5_line 16 = .ok (.getfield 44, 3) := by decide +kernel
theorem dX5_line_19 : decode cX5_line 19 = .ok (.bipush 64, 2) := by decide +kernel
theorem dX5_line_21 : decode cX5_line 21 = .ok (.iload_n 1, 1) := by decide +kernel
theorem dX5_line_22 : decode cX5_line 22 = .ok (.imul, 1) := by decide +kernel
theorem dX5_line_23 : decode cX5_line 23 = .ok (.iload 4, 2) := by decide +kernel
theorem dX5_line_25 : decode cX5_line 25 = .ok (.iadd, 1) := by decide +kernel
theorem dX5_line_26 : decode cX5_line 26 = .ok (.iconst 1, 1) := by decide +kernel
theorem dX5_line_27 : decode cX5_line 27 = .ok (.isub, 1) := by decide +kernel
theorem dX5_line_28 : decode cX5_line 28 = .ok (.iaload, 1) := by decide +kernel
theorem dX5_line_29 : decode cX5_line 29 = .ok (.aload_n 0, 1) := by decide +kernel
theorem dX5_line_30 : decode cX5_line 30 = .ok (.getfield 41, 3) := by decide +kernel
theorem dX5_line_33 : decode cX5_line 33 = .ok (.bipush 64, 2) := by decide +kernel
theorem dX5_line_35 : decode cX5_line 35 = .ok (.iload_n 1, 1) := by decide +kernel
theorem dX5_line_36 : decode cX5_line 36 = .ok (.imul, 1) := by decide +kernel
theorem dX5_line_37 : decode cX5_line 37 = .ok (.iload 4, 2) := by decide +kernel
theorem dX5_line_39 : decode cX5_line 39 = .ok (.iadd, 1) := by decide +kernel
theorem dX5_line_40 : decode cX5_line 40 = .ok (.iconst 1, 1) := by decide +kernel
theorem dX5_line_41 : decode cX5_line 41 = .ok (.isub, 1) := by decide +kernel
theorem dX5_line_42 : decode cX5_line 42 = .ok (.iaload, 1) := by decide +kernel
theorem dX5_line_43 : decode cX5_line 43 = .ok (.invokestatic 96, 3) := by decide +kernel
theorem dX5_line_46 : decode cX5_line 46 = .ok (.ifCond .eq 61, 3) := by decide +kernel
theorem dX5_line_49 : decode cX5_line 49 = .ok (.aload_n 0, 1) := by decide +kernel
theorem dX5_line_50 : decode cX5_line 50 = .ok (.getfield 44, 3) := by decide +kernel
theorem dX5_line_53 : decode cX5_line 53 = .ok (.bipush 64, 2) := by decide +kernel
theorem dX5_line_55 : decode cX5_line 55 = .ok (.iload_n 1, 1) := by decide +kernel
theorem dX5_line_56 : decode cX5_line 56 = .ok (.imul, 1) := by decide +kernel
theorem dX5_line_57 : decode cX5_line 57 = .ok (.iload 4, 2) := by decide +kernel
theorem dX5_line_59 : decode cX5_line 59 = .ok (.iadd, 1) := by decide +kernel
theorem dX5_line_60 : decode cX5_line 60 = .ok (.aload_n 0, 1) := by decide +kernel
theorem dX5_line_61 : decode cX5_line 61 = .ok (.getfield 44, 3) := by decide +kernel
theorem dX5_line_64 : decode cX5_line 64 = .ok (.bipush 64, 2) := by decide +kernel
theorem dX5_line_66 : decode cX5_line 66 = .ok (.iload_n 1, 1) := by decide +kernel
theorem dX5_line_67 : decode cX5_line 67 = .ok (.imul, 1) := by decide +kernel
theorem dX5_line_68 : decode cX5_line 68 = .ok (.iload 4, 2) := by decide +kernel
theorem dX5_line_70 : decode cX5_line 70 = .ok (.iadd, 1) := by decide +kernel
theorem dX5_line_71 : decode cX5_line 71 = .ok (.iconst 1, 1) := by decide +kernel
theorem dX5_line_72 : decode cX5_line 72 = .ok (.isub, 1) := by decide +kernel
theorem dX5_line_73 : decode cX5_line 73 = .ok (.iaload, 1) := by decide +kernel
theorem dX5_line_74 : decode cX5_line 74 = .ok (.iastore, 1) := by decide +kernel
theorem dX5_line_75 : decode cX5_line 75 = .ok (.aload_n 0, 1) := by decide +kernel
theorem dX5_line_76 : decode cX5_line 76 = .ok (.getfield 41, 3) := by decide +kernel
theorem dX5_line_79 : decode cX5_line 79 = .ok (.bipush 64, 2) := by decide +kernel
theorem dX5_line_81 : decode cX5_line 81 = .ok (.iload_n 1, 1) := by decide +kernel
theorem dX5_line_82 : decode cX5_line 82 = .ok (.imul, 1) := by decide +kernel
theorem dX5_line_83 : decode cX5_line 83 = .ok (.iload 4, 2) := by decide +kernel
theorem dX5_line_85 : decode cX5_line 85 = .ok (.iadd, 1) := by decide +kernel
theorem dX5_line_86 : decode cX5_line 86 = .ok (.aload_n 0, 1) := by decide +kernel
theorem dX5_line_87 : decode cX5_line 87 = .ok (.getfield 41, 3) := by decide +kernel
theorem dX5_line_90 : decode cX5_line 90 = .ok (.bipush 64, 2) := by decide +kernel
theorem dX5_line_92 : decode cX5_line 92 = .ok (.iload_n 1, 1) := by decide +kernel
theorem dX5_line_93 : decode cX5_line 93 = .ok (.imul, 1) := by decide +kernel
theorem dX5_line_94 : decode cX5_line 94 = .ok (.iload 4, 2) := by decide +kernel
theorem dX5_line_96 : decode cX5_line 96 = .ok (.iadd, 1) := by decide +kernel
theorem dX5_line_97 : decode cX5_line 97 = .ok (.iconst 1, 1) := by decide +kernel
theorem dX5_line_98 : decode cX5_line 98 = .ok (.isub, 1) := by decide +kernel
theorem dX5_line_99 : decode cX5_line 99 = .ok (.iaload, 1) := by decide +kernel
theorem dX5_line_100 : decode cX5_line 100 = .ok (.iastore, 1) := by decide +kernel
theorem dX5_line_101 : decode cX5_line 101 = .ok (.iinc 4 (-1), 3) := by decide +kernel
theorem dX5_line_104 : decode cX5_line 104 = .ok (.goto (-96), 3) := by decide +kernel
theorem dX5_line_107 : decode cX5_line 107 = .ok (.aload_n 0, 1) := by decide +kernel
theorem dX5_line_108 : decode cX5_line 108 = .ok (.getfield 44, 3) := by decide +kernel
theorem dX5_line_111 : decode cX5_line 111 = .ok (.bipush 64, 2) := by decide +kernel
theorem dX5_line_113 : decode cX5_line 113 = .ok (.iload_n 1, 1) := by decide +kernel
theorem dX5_line_114 : decode cX5_line 114 = .ok (.imul, 1) := by decide +kernel
theorem dX5_line_115 : decode cX5_line 115 = .ok (.iload 4, 2) := by decide +kernel
theorem dX5_line_117 : decode cX5_line 117 = .ok (.iadd, 1) := by decide +kernel
theorem dX5_line_118 : decode cX5_line 118 = .ok (.iload_n 3, 1) := by decide +kernel
theorem dX5_line_119 : decode cX5_line 119 = .ok (.iastore, 1) := by decide +kernel
theorem dX5_line_120 : decode cX5_line 120 = .ok (.aload_n 0, 1) := by decide +kernel
theorem dX5_line_121 : decode cX5_line 121 = .ok (.getfield 41, 3) := by decide +kernel
theorem dX5_line_124 : decode cX5_line 124 = .ok (.bipush 64, 2) := by decide +kernel
theorem dX5_line_126 : decode cX5_line 126 = .ok (.iload_n 1, 1) := by decide +kernel
theorem dX5_line_127 : decode cX5_line 127 = .ok (.imul, 1) := by decide +kernel
theorem dX5_line_128 : decode cX5_line 128 = .ok (.iload 4, 2) := by decide +kernel
theorem dX5_line_130 : decode cX5_line 130 = .ok (.iadd, 1) := by decide +kernel
theorem dX5_line_131 : decode cX5_line 131 = .ok (.iload_n 2, 1) := by decide +kernel
theorem dX5_line_132 : decode cX5_line 132 = .ok (.iastore, 1) := by decide +kernel
theorem dX5_line_133 : decode cX5_line 133 = .ok (.aload_n 0, 1) := by decide +kernel
theorem dX5_line_134 : decode cX5_line 134 = .ok (.getfield 38, 3) := by decide +kernel
theorem dX5_line_137 : decode cX5_line 137 = .ok (.iload_n 1, 1) := by decide +kernel
theorem dX5_line_138 : decode cX5_line 138 = .ok (.dup2, 1) := by decide +kernel
theorem dX5_line_139 : decode cX5_line 139 = .ok (.iaload, 1) := by decide +kernel
theorem dX5_line_140 : decode cX5_line 140 = .ok (.iconst 1, 1) := by decide +kernel
theorem dX5_line_141 : decode cX5_line 141 = .ok (.iadd, 1) := by decide +kernel
theorem dX5_line_142 : decode cX5_line 142 = .ok (.iastore, 1) := by decide +kernel
theorem dX5_line_143 : decode cX5_line 143 = .ok (.iload 4, 2) := by decide +kernel
theorem dX5_line_145 : decode cX5_line 145 = .ok (.ireturn, 1) := by decide +kernel
set_option maxRecDepth 20000 in
theorem ggX5_lend_X5_send : GoodIn wsX5_lend wsX5_send := goodIn_r _ [8, 9, 10, 11, 12, 13, 14, 15, 16, 17, 18, 19, 20, 21, 22, 23, 24, 25, 26, 27, 28, 29, 30, 31, 32] (by decide +kernel) (by decide +kernel)
set_option maxRecDepth 20000 in
theorem gX5_lend_X5_send : GoodIn wsX5_lend (wsV RX5 76 RX5 yX5_send wsX5_send) := goodIn_app (goodIn_of _ (by decide +kernel)) ggX5_lend_X5_send
theorem dX5_lend_0 : decode cX5_lend 0 = .ok (.aload_n 0, 1) := by decide +kernel
theorem dX5_lend_1 : decode cX5_lend 1 = .ok (.getfield 28, 3) := by decide +kernel
theorem dX5_lend_4 : decode cX5_lend 4 = .ok (.iload_n 1, 1) := by decide +kernel
theorem dX5_lend_5 : decode cX5_lend 5 = .ok (.iload_n 2, 1) := by decide +kernel
theorem dX5_lend_6 : decode cX5_lend 6 = .ok (.iastore, 1) := by decide +kernel
theorem dX5_lend_7 : decode cX5_lend 7 = .ok (.aload_n 0, 1) := by decide +kernel
theorem dX5_lend_8 : decode cX5_lend 8 = .ok (.getfield 31, 3) := by decide +kernel
theorem dX5_lend_11 : decode cX5_lend 11 = .ok (.iload_n 1, 1) := by decide +kernel
theorem dX5_lend_12 : decode cX5_lend 12 = .ok (.iload_n 3, 1) := by decide +kernel
theorem dX5_lend_13 : decode cX5_lend 13 = .ok (.iastore, 1) := by decide +kernel
theorem dX5_lend_14 : decode cX5_lend 14 = .ok (.aload_n 0, 1) := by decide +kernel
theorem dX5_lend_15 : decode cX5_lend 15 = .ok (.getfield 34, 3) := by decide +kernel
theorem dX5_lend_18 : decode cX5_lend 18 = .ok (.iload_n 1, 1) := by decide +kernel
theorem dX5_lend_19 : decode cX5_lend 19 = .ok (.iconst 0, 1) := by decide +kernel
theorem dX5_lend_20 : decode cX5_lend 20 = .ok (.bastore, 1) := by decide +kernel
theorem dX5_lend_21 : decode cX5_lend 21 = .ok (.aload_n 0, 1) := by decide +kernel
theorem dX5_lend_22 : decode cX5_lend 22 = .ok (.iload_n 1, 1) := by decide +kernel
theorem dX5_lend_23 : decode cX5_lend 23 = .ok (.iload_n 2, 1) := by decide +kernel
theorem dX5_lend_24 : decode cX5_lend 24 = .ok (.iconst 2, 1) := by decide +kernel
theorem dX5_lend_25 : decode cX5_lend 25 = .ok (.iload_n 3, 1) := by decide +kernel
theorem dX5_lend_26 : decode cX5_lend 26 = .ok (.invokevirtual 76, 3) := by decide +kernel
theorem dX5_lend_29 : decode cX5_lend 29 = .ok (.return_, 1) := by decide +kernel
set_option maxRecDepth 20000 in
theorem ggX5_asked_X5_lend : GoodIn wsX5_asked wsX5_lend := goodIn_r _ [11, 1, 5, 6, 12, 13, 14, 10, 15, 16, 17, 18, 19, 20, 28, 29, 30, 31, 32, 33, 34, 35, 36, 37, 38, 39, 40, 41, 42, 43, 44, 45, 46] (by decide +kernel) (by decide +kernel)
set_option maxRecDepth 20000 in
theorem gX5_asked_X5_lend : GoodIn wsX5_asked (wsV RX5 100 RX5 yX5_lend wsX5_lend) := goodIn_app (goodIn_of _ (by decide +kernel)) ggX5_asked_X5_lend
set_option maxRecDepth 20000 in
theorem ggX5_asked_X5_line : GoodIn wsX5_asked wsX5_line := goodIn_r _ [24, 2, 4, 3, 25, 26, 10, 27, 28, 29, 30, 31, 32, 33, 34, 35, 36, 37, 38, 39, 40, 41, 42, 43, 44, 45, 46] (by decide +kernel) (by decide +kernel)
set_option maxRecDepth 20000 in
theorem gX5_asked_X5_line : GoodIn wsX5_asked (wsV RX5 103 RX5 yX5_line wsX5_line) := goodIn_app (goodIn_of _ (by decide +kernel)) ggX5_asked_X5_line
set_option maxRecDepth 20000 in
theorem ggX5_asked_X5_isBefore : GoodIn wsX5_asked wsX5_isBefore := goodIn_r _ [27] (by decide +kernel) (by decide +kernel)
set_option maxRecDepth 20000 in
theorem gX5_asked_X5_isBefore : GoodIn wsX5_asked (va_wsS RX5 96 yX5_isBefore wsX5_isBefore) := goodIn_app (goodIn_of _ (by decide +kernel)) ggX5_asked_X5_isBefore
set_option maxRecDepth 20000 in
theorem ggX5_asked_X5_send : GoodIn wsX5_asked wsX5_send := goodIn_r _ [15, 16, 17, 18, 19, 20, 28, 29, 30, 31, 32, 33, 34, 35, 36, 37, 38, 39, 40, 41, 42, 43, 44, 45, 46] (by decide +kernel) (by decide +kernel)
set_option maxRecDepth 20000 in
theorem gX5_asked_X5_send : GoodIn wsX5_asked (wsV RX5 76 RX5 yX5_send wsX5_send) := goodIn_app (goodIn_of _ (by decide +kernel)) ggX5_asked_X5_send
theorem dX5_asked_0 : decode cX5_asked 0 = .ok (.aload_n 0, 1) := by decide +kernel
theorem dX5_asked_1 : decode cX5_asked 1 = .ok (.getfield 28, 3) := by decide +kernel
theorem dX5_asked_4 : decode cX5_asked 4 = .ok (.iload_n 1, 1) := by decide +kernel
theorem dX5_asked_5 : decode cX5_asked 5 = .ok (.iaload, 1) := by decide +kernel
theorem dX5_asked_6 : decode cX5_asked 6 = .ok (.iconst (-1), 1) := by decide +kernel
theorem dX5_asked_7 : decode cX5_asked 7 = .ok (.if_icmp .ne 11, 3) := by decide +kernel
theorem dX5_asked_10 : decode cX5_asked 10 = .ok (.aload_n 0, 1) := by decide +kernel
theorem dX5_asked_11 : decode cX5_asked 11 = .ok (.iload_n 1, 1) := by decide +kernel
theorem dX5_asked_12 : decode cX5_asked 12 = .ok (.iload_n 2, 1) := by decide +kernel
theorem dX5_asked_13 : decode cX5_asked 13 = .ok (.iload_n 3, 1) := by decide +kernel
theorem dX5_asked_14 : decode cX5_asked 14 = .ok (.invokevirtual 100, 3) := by decide +kernel
theorem dX5_asked_17 : decode cX5_asked 17 = .ok (.return_, 1) := by decide +kernel
theorem dX5_asked_18 : decode cX5_asked 18 = .ok (.aload_n 0, 1) := by decide +kernel
theorem dX5_asked_19 : decode cX5_asked 19 = .ok (.getfield 38, 3) := by decide +kernel
theorem dX5_asked_22 : decode cX5_asked 22 = .ok (.iload_n 1, 1) := by decide +kernel
theorem dX5_asked_23 : decode cX5_asked 23 = .ok (.iaload, 1) := by decide +kernel
theorem dX5_asked_24 : decode cX5_asked 24 = .ok (.ifCond .le 7, 3) := by decide +kernel
theorem dX5_asked_27 : decode cX5_asked 27 = .ok (.iconst 1, 1) := by decide +kernel
theorem dX5_asked_28 : decode cX5_asked 28 = .ok (.goto 4, 3) := by decide +kernel
theorem dX5_asked_31 : decode cX5_asked 31 = .ok (.iconst 0, 1) := by decide +kernel
theorem dX5_asked_32 : decode cX5_asked 32 = .ok (.istore 4, 2) := by decide +kernel
theorem dX5_asked_34 : decode cX5_asked 34 = .ok (.aload_n 0, 1) := by decide +kernel
theorem dX5_asked_35 : decode cX5_asked 35 = .ok (.getfield 41, 3) := by decide +kernel
theorem dX5_asked_38 : decode cX5_asked 38 = .ok (.bipush 64, 2) := by decide +kernel
theorem dX5_asked_40 : decode cX5_asked 40 = .ok (.iload_n 1, 1) := by decide +kernel
theorem dX5_asked_41 : decode cX5_asked 41 = .ok (.imul, 1) := by decide +kernel
theorem dX5_asked_42 : decode cX5_asked 42 = .ok (.iaload, 1) := by decide +kernel
theorem dX5_asked_43 : decode cX5_asked 43 = .ok (.istore 5, 2) := by decide +kernel
theorem dX5_asked_45 : decode cX5_asked 45 = .ok (.aload_n 0, 1) := by decide +kernel
theorem dX5_asked_46 : decode cX5_asked 46 = .ok (.getfield 44, 3) := by decide +kernel
theorem dX5_asked_49 : decode cX5_asked 49 = .ok (.bipush 64, 2) := by decide +kernel
theorem dX5_asked_51 : decode cX5_asked 51 = .ok (.iload_n 1, 1) := by decide +kernel
theorem dX5_asked_52 : decode cX5_asked 52 = .ok (.imul, 1) := by decide +kernel
theorem dX5_asked_53 : decode cX5_asked 53 = .ok (.iaload, 1) := by decide +kernel
theorem dX5_asked_54 : decode cX5_asked 54 = .ok (.istore 6, 2) := by decide +kernel
theorem dX5_asked_56 : decode cX5_asked 56 = .ok (.aload_n 0, 1) := by decide +kernel
theorem dX5_asked_57 : decode cX5_asked 57 = .ok (.iload_n 1, 1) := by decide +kernel
theorem dX5_asked_58 : decode cX5_asked 58 = .ok (.iload_n 2, 1) := by decide +kernel
theorem dX5_asked_59 : decode cX5_asked 59 = .ok (.iload_n 3, 1) := by decide +kernel
theorem dX5_asked_60 : decode cX5_asked 60 = .ok (.invokevirtual 103, 3) := by decide +kernel
theorem dX5_asked_63 : decode cX5_asked 63 = .ok (.ifCond .ne 98, 3) := by decide +kernel
theorem dX5_asked_66 : decode cX5_asked 66 = .ok (.iload_n 3, 1) := by decide +kernel
theorem dX5_asked_67 : decode cX5_asked 67 = .ok (.iload_n 2, 1) := by decide +kernel
theorem dX5_asked_68 : decode cX5_asked 68 = .ok (.aload_n 0, 1) := by decide +kernel
theorem dX5_asked_69 : decode cX5_asked 69 = .ok (.getfield 31, 3) := by decide +kernel
theorem dX5_asked_72 : decode cX5_asked 72 = .ok (.iload_n 1, 1) := by decide +kernel
theorem dX5_asked_73 : decode cX5_asked 73 = .ok (.iaload, 1) := by decide +kernel
theorem dX5_asked_74 : decode cX5_asked 74 = .ok (.aload_n 0, 1) := by decide +kernel
theorem dX5_asked_75 : decode cX5_asked 75 = .ok (.getfield 28, 3) := by decide +kernel
theorem dX5_asked_78 : decode cX5_asked 78 = .ok (.iload_n 1, 1) := by decide +kernel
theorem dX5_asked_79 : decode cX5_asked 79 = .ok (.iaload, 1) := by decide +kernel
theorem dX5_asked_80 : decode cX5_asked 80 = .ok (.invokestatic 96, 3) := by decide +kernel
theorem dX5_asked_83 : decode cX5_asked 83 = .ok (.ifCond .eq 78, 3) := by decide +kernel
theorem dX5_asked_86 : decode cX5_asked 86 = .ok (.iload 4, 2) := by decide +kernel
theorem dX5_asked_88 : decode cX5_asked 88 = .ok (.ifCond .eq 36, 3) := by decide +kernel
theorem dX5_asked_91 : decode cX5_asked 91 = .ok (.iload 6, 2) := by decide +kernel
theorem dX5_asked_93 : decode cX5_asked 93 = .ok (.iload 5, 2) := by decide +kernel
theorem dX5_asked_95 : decode cX5_asked 95 = .ok (.aload_n 0, 1) := by decide +kernel
theorem dX5_asked_96 : decode cX5_asked 96 = .ok (.getfield 31, 3) := by decide +kernel
theorem dX5_asked_99 : decode cX5_asked 99 = .ok (.iload_n 1, 1) := by decide +kernel
theorem dX5_asked_100 : decode cX5_asked 100 = .ok (.iaload, 1) := by decide +kernel
theorem dX5_asked_101 : decode cX5_asked 101 = .ok (.aload_n 0, 1) := by decide +kernel
theorem dX5_asked_102 : decode cX5_asked 102 = .ok (.getfield 28, 3) := by decide +kernel
theorem dX5_asked_105 : decode cX5_asked 105 = .ok (.iload_n 1, 1) := by decide +kernel
theorem dX5_asked_106 : decode cX5_asked 106 = .ok (.iaload, 1) := by decide +kernel
theorem dX5_asked_107 : decode cX5_asked 107 = .ok (.invokestatic 96, 3) := by decide +kernel
theorem dX5_asked_110 : decode cX5_asked 110 = .ok (.ifCond .eq 14, 3) := by decide +kernel
theorem dX5_asked_113 : decode cX5_asked 113 = .ok (.aload_n 0, 1) := by decide +kernel
theorem dX5_asked_114 : decode cX5_asked 114 = .ok (.iload_n 1, 1) := by decide +kernel
theorem dX5_asked_115 : decode cX5_asked 115 = .ok (.iload 5, 2) := by decide +kernel
theorem dX5_asked_117 : decode cX5_asked 117 = .ok (.bipush 6, 2) := by decide +kernel
theorem dX5_asked_119 : decode cX5_asked 119 = .ok (.iload 6, 2) := by decide +kernel
theorem dX5_asked_121 : decode cX5_asked 121 = .ok (.invokevirtual 76, 3) := by decide +kernel
theorem dX5_asked_124 : decode cX5_asked 124 = .ok (.aload_n 0, 1) := by decide +kernel
theorem dX5_asked_125 : decode cX5_asked 125 = .ok (.getfield 34, 3) := by decide +kernel
theorem dX5_asked_128 : decode cX5_asked 128 = .ok (.iload_n 1, 1) := by decide +kernel
theorem dX5_asked_129 : decode cX5_asked 129 = .ok (.baload, 1) := by decide +kernel
theorem dX5_asked_130 : decode cX5_asked 130 = .ok (.ifCond .ne 40, 3) := by decide +kernel
theorem dX5_asked_133 : decode cX5_asked 133 = .ok (.aload_n 0, 1) := by decide +kernel
theorem dX5_asked_134 : decode cX5_asked 134 = .ok (.getfield 34, 3) := by decide +kernel
theorem dX5_asked_137 : decode cX5_asked 137 = .ok (.iload_n 1, 1) := by decide +kernel
theorem dX5_asked_138 : decode cX5_asked 138 = .ok (.iconst 1, 1) := by decide +kernel
theorem dX5_asked_139 : decode cX5_asked 139 = .ok (.bastore, 1) := by decide +kernel
theorem dX5_asked_140 : decode cX5_asked 140 = .ok (.aload_n 0, 1) := by decide +kernel
theorem dX5_asked_141 : decode cX5_asked 141 = .ok (.iload_n 1, 1) := by decide +kernel
theorem dX5_asked_142 : decode cX5_asked 142 = .ok (.aload_n 0, 1) := by decide +kernel
theorem dX5_asked_143 : decode cX5_asked 143 = .ok (.getfield 28, 3) := by decide +kernel
theorem dX5_asked_146 : decode cX5_asked 146 = .ok (.iload_n 1, 1) := by decide +kernel
theorem dX5_asked_147 : decode cX5_asked 147 = .ok (.iaload, 1) := by decide +kernel
theorem dX5_asked_148 : decode cX5_asked 148 = .ok (.iconst 4, 1) := by decide +kernel
theorem dX5_asked_149 : decode cX5_asked 149 = .ok (.aload_n 0, 1) := by decide +kernel
theorem dX5_asked_150 : decode cX5_asked 150 = .ok (.getfield 31, 3) := by decide +kernel
theorem dX5_asked_153 : decode cX5_asked 153 = .ok (.iload_n 1, 1) := by decide +kernel
theorem dX5_asked_154 : decode cX5_asked 154 = .ok (.iaload, 1) := by decide +kernel
theorem dX5_asked_155 : decode cX5_asked 155 = .ok (.invokevirtual 76, 3) := by decide +kernel
theorem dX5_asked_158 : decode cX5_asked 158 = .ok (.goto 12, 3) := by decide +kernel
theorem dX5_asked_161 : decode cX5_asked 161 = .ok (.aload_n 0, 1) := by decide +kernel
theorem dX5_asked_162 : decode cX5_asked 162 = .ok (.iload_n 1, 1) := by decide +kernel
theorem dX5_asked_163 : decode cX5_asked 163 = .ok (.iload_n 2, 1) := by decide +kernel
theorem dX5_asked_164 : decode cX5_asked 164 = .ok (.bipush 6, 2) := by decide +kernel
theorem dX5_asked_166 : decode cX5_asked 166 = .ok (.iload_n 3, 1) := by decide +kernel
theorem dX5_asked_167 : decode cX5_asked 167 = .ok (.invokevirtual 76, 3) := by decide +kernel
theorem dX5_asked_170 : decode cX5_asked 170 = .ok (.return_, 1) := by decide +kernel
set_option maxRecDepth 20000 in
theorem ggX5_home_X5_line : GoodIn wsX5_home wsX5_line := goodIn_r _ [11, 4, 6, 5, 12, 13, 10, 14, 28, 29, 30, 31, 32, 33, 34, 35, 36, 37, 38, 39, 40, 41, 42, 43, 44, 45, 46] (by decide +kernel) (by decide +kernel)
set_option maxRecDepth 20000 in
theorem gX5_home_X5_line : GoodIn wsX5_home (wsV RX5 103 RX5 yX5_line wsX5_line) := goodIn_app (goodIn_of _ (by decide +kernel)) ggX5_home_X5_line
set_option maxRecDepth 20000 in
theorem ggX5_home_X5_lend : GoodIn wsX5_home wsX5_lend := goodIn_r _ [18, 1, 2, 3, 19, 20, 21, 10, 22, 23, 24, 25, 26, 27, 28, 29, 30, 31, 32, 33, 34, 35, 36, 37, 38, 39, 40, 41, 42, 43, 44, 45, 46] (by decide +kernel) (by decide +kernel)
set_option maxRecDepth 20000 in
theorem gX5_home_X5_lend : GoodIn wsX5_home (wsV RX5 100 RX5 yX5_lend wsX5_lend) := goodIn_app (goodIn_of _ (by decide +kernel)) ggX5_home_X5_lend
theorem dX5_home_0 : decode cX5_home 0 = .ok (.aload_n 0, 1) := by decide +kernel
theorem dX5_home_1 : decode cX5_home 1 = .ok (.getfield 28, 3) := by decide +kernel
theorem dX5_home_4 : decode cX5_home 4 = .ok (.iload_n 1, 1) := by decide +kernel
theorem dX5_home_5 : decode cX5_home 5 = .ok (.iaload, 1) := by decide +kernel
theorem dX5_home_6 : decode cX5_home 6 = .ok (.iload_n 2, 1) := by decide +kernel
theorem dX5_home_7 : decode cX5_home 7 = .ok (.if_icmp .ne 13, 3) := by decide +kernel
theorem dX5_home_10 : decode cX5_home 10 = .ok (.aload_n 0, 1) := by decide +kernel
theorem dX5_home_11 : decode cX5_home 11 = .ok (.getfield 31, 3) := by decide +kernel
theorem dX5_home_14 : decode cX5_home 14 = .ok (.iload_n 1, 1) := by decide +kernel
theorem dX5_home_15 : decode cX5_home 15 = .ok (.iaload, 1) := by decide +kernel
theorem dX5_home_16 : decode cX5_home 16 = .ok (.iload_n 3, 1) := by decide +kernel
theorem dX5_home_17 : decode cX5_home 17 = .ok (.if_icmp .eq 4, 3) := by decide +kernel
theorem dX5_home_20 : decode cX5_home 20 = .ok (.return_, 1) := by decide +kernel
theorem dX5_home_21 : decode cX5_home 21 = .ok (.iload 4, 2) := by decide +kernel
theorem dX5_home_23 : decode cX5_home 23 = .ok (.ifCond .eq 12, 3) := by decide +kernel
theorem dX5_home_26 : decode cX5_home 26 = .ok (.aload_n 0, 1) := by decide +kernel
theorem dX5_home_27 : decode cX5_home 27 = .ok (.iload_n 1, 1) := by decide +kernel
theorem dX5_home_28 : decode cX5_home 28 = .ok (.iload_n 2, 1) := by decide +kernel
theorem dX5_home_29 : decode cX5_home 29 = .ok (.iload_n 3, 1) := by decide +kernel
theorem dX5_home_30 : decode cX5_home 30 = .ok (.invokevirtual 103, 3) := by decide +kernel
theorem dX5_home_33 : decode cX5_home 33 = .ok (.istore 5, 2) := by decide +kernel
theorem dX5_home_35 : decode cX5_home 35 = .ok (.aload_n 0, 1) := by decide +kernel
theorem dX5_home_36 : decode cX5_home 36 = .ok (.getfield 28, 3) := by decide +kernel
theorem dX5_home_39 : decode cX5_home 39 = .ok (.iload_n 1, 1) := by decide +kernel
theorem dX5_home_40 : decode cX5_home 40 = .ok (.iconst (-1), 1) := by decide +kernel
theorem dX5_home_41 : decode cX5_home 41 = .ok (.iastore, 1) := by decide +kernel
theorem dX5_home_42 : decode cX5_home 42 = .ok (.aload_n 0, 1) := by decide +kernel
theorem dX5_home_43 : decode cX5_home 43 = .ok (.getfield 34, 3) := by decide +kernel
theorem dX5_home_46 : decode cX5_home 46 = .ok (.iload_n 1, 1) := by decide +kernel
theorem dX5_home_47 : decode cX5_home 47 = .ok (.iconst 0, 1) := by decide +kernel
theorem dX5_home_48 : decode cX5_home 48 = .ok (.bastore, 1) := by decide +kernel
theorem dX5_home_49 : decode cX5_home 49 = .ok (.aload_n 0, 1) := by decide +kernel
theorem dX5_home_50 : decode cX5_home 50 = .ok (.getfield 38, 3) := by decide +kernel
theorem dX5_home_53 : decode cX5_home 53 = .ok (.iload_n 1, 1) := by decide +kernel
theorem dX5_home_54 : decode cX5_home 54 = .ok (.iaload, 1) := by decide +kernel
theorem dX5_home_55 : decode cX5_home 55 = .ok (.ifCond .le 116, 3) := by decide +kernel
theorem dX5_home_58 : decode cX5_home 58 = .ok (.aload_n 0, 1) := by decide +kernel
theorem dX5_home_59 : decode cX5_home 59 = .ok (.getfield 41, 3) := by decide +kernel
theorem dX5_home_62 : decode cX5_home 62 = .ok (.bipush 64, 2) := by decide +kernel
theorem dX5_home_64 : decode cX5_home 64 = .ok (.iload_n 1, 1) := by decide +kernel
theorem dX5_home_65 : decode cX5_home 65 = .ok (.imul, 1) := by decide +kernel
theorem dX5_home_66 : decode cX5_home 66 = .ok (.iaload, 1) := by decide +kernel
theorem dX5_home_67 : decode cX5_home 67 = .ok (.istore 5, 2) := by decide +kernel
theorem dX5_home_69 : decode cX5_home 69 = .ok (.aload_n 0, 1) := by decide +kernel
theorem dX5_home_70 : decode cX5_home 70 = .ok (.getfield 44, 3) := by decide +kernel
theorem dX5_home_73 : decode cX5_home 73 = .ok (.bipush 64, 2) := by decide +kernel
theorem dX5_home_75 : decode cX5_home 75 = .ok (.iload_n 1, 1) := by decide +kernel
theorem dX5_home_76 : decode cX5_home 76 = .ok (.imul, 1) := by decide +kernel
theorem dX5_home_77 : decode cX5_home 77 = .ok (.iaload, 1) := by decide +kernel
theorem dX5_home_78 : decode cX5_home 78 = .ok (.istore 6, 2) := by decide +kernel
theorem dX5_home_80 : decode cX5_home 80 = .ok (.aload_n 0, 1) := by decide +kernel
theorem dX5_home_81 : decode cX5_home 81 = .ok (.getfield 38, 3) := by decide +kernel
theorem dX5_home_84 : decode cX5_home 84 = .ok (.iload_n 1, 1) := by decide +kernel
theorem dX5_home_85 : decode cX5_home 85 = .ok (.dup2, 1) := by decide +kernel
theorem dX5_home_86 : decode cX5_home 86 = .ok (.iaload, 1) := by decide +kernel
theorem dX5_home_87 : decode cX5_home 87 = .ok (.iconst 1, 1) := by decide +kernel
theorem dX5_home_88 : decode cX5_home 88 = .ok (.isub, 1) := by decide +kernel
theorem dX5_home_89 : decode cX5_home 89 = .ok (.iastore, 1) := by decide +kernel
theorem dX5_home_90 : decode cX5_home 90 = .ok (.iconst 0, 1) := by decide +kernel
theorem dX5_home_91 : decode cX5_home 91 = .ok (.istore 7, 2) := by decide +kernel
theorem dX5_home_93 : decode cX5_home 93 = .ok (.iload 7, 2) := by decide +kernel
theorem dX5_home_95 : decode cX5_home 95 = .ok (.aload_n 0, 1) := by decide +kernel
theorem dX5_home_96 : decode cX5_home 96 = .ok (.getfield 38, 3) := by decide +kernel
theorem dX5_home_99 : decode cX5_home 99 = .ok (.iload_n 1, 1) := by decide +kernel
theorem dX5_home_100 : decode cX5_home 100 = .ok (.iaload, 1) := by decide +kernel
theorem dX5_home_101 : decode cX5_home 101 = .ok (.if_icmp .ge 61, 3) := by decide +kernel
theorem dX5_home_104 : decode cX5_home 104 = .ok (.aload_n 0, 1) := by decide +kernel
theorem dX5_home_105 : decode cX5_home 105 = .ok (.getfield 41, 3) := by decide +kernel
theorem dX5_home_108 : decode cX5_home 108 = .ok (.bipush 64, 2) := by decide +kernel
theorem dX5_home_110 : decode cX5_home 110 = .ok (.iload_n 1, 1) := by decide +kernel
theorem dX5_home_111 : decode cX5_home 111 = .ok (.imul, 1) := by decide +kernel
theorem dX5_home_112 : decode cX5_home 112 = .ok (.iload 7, 2) := by decide +kernel
theorem dX5_home_114 : decode cX5_home 114 = .ok (.iadd, 1) := by decide +kernel
theorem dX5_home_115 : decode cX5_home 115 = .ok (.aload_n 0, 1) := by decide +kernel
theorem dX5_home_116 : decode cX5_home 116 = .ok (.getfield 41, 3) := by decide +kernel
theorem dX5_home_119 : decode cX5_home 119 = .ok (.bipush 64, 2) := by decide +kernel
theorem dX5_home_121 : decode cX5_home 121 = .ok (.iload_n 1, 1) := by decide +kernel
theorem dX5_home_122 : decode cX5_home 122 = .ok (.imul, 1) := by decide +kernel
theorem dX5_home_123 : decode cX5_home 123 = .ok (.iload 7, 2) := by decide +kernel
theorem dX5_home_125 : decode cX5_home 125 = .ok (.iadd, 1) := by decide +kernel
theorem dX5_home_126 : decode cX5_home 126 = .ok (.iconst 1, 1) := by decide +kernel
theorem dX5_home_127 : decode cX5_home 127 = .ok (.iadd, 1) := by decide +kernel
theorem dX5_home_128 : decode cX5_home 128 = .ok (.iaload, 1) := by decide +kernel
theorem dX5_home_129 : decode cX5_home 129 = .ok (.iastore, 1) := by decide +kernel
theorem dX5_home_130 : decode cX5_home 130 = .ok (.aload_n 0, 1) := by decide +kernel
theorem dX5_home_131 : decode cX5_home 131 = .ok (.getfield 44, 3) := by decide +kernel
theorem dX5_home_134 : decode cX5_home 134 = .ok (.bipush 64, 2) := by decide +kernel
theorem dX5_home_136 : decode cX5_home 136 = .ok (.iload_n 1, 1) := by decide +kernel
theorem dX5_home_137 : decode cX5_home 137 = .ok (.imul, 1) := by decide +kernel
theorem dX5_home_138 : decode cX5_home 138 = .ok (.iload 7, 2) := by decide +kernel
theorem dX5_home_140 : decode cX5_home 140 = .ok (.iadd, 1) := by decide +kernel
theorem dX5_home_141 : decode cX5_home 141 = .ok (.aload_n 0, 1) := by decide +kernel
theorem dX5_home_142 : decode cX5_home 142 = .ok (.getfield 44, 3) := by decide +kernel
theorem dX5_home_145 : decode cX5_home 145 = .ok (.bipush 64, 2) := by decide +kernel
theorem dX5_home_147 : decode cX5_home 147 = .ok (.iload_n 1, 1) := by decide +kernel
theorem dX5_home_148 : decode cX5_home 148 = .ok (.imul, 1) := by decide +kernel
theorem dX5_home_149 : decode cX5_home 149 = .ok (.iload 7, 2) := by decide +kernel
theorem dX5_home_151 : decode cX5_home 151 = .ok (.iadd, 1) := by decide +kernel
theorem dX5_home_152 : decode cX5_home 152 = .ok (.iconst 1, 1) := by decide +kernel
theorem dX5_home_153 : decode cX5_home 153 = .ok (.iadd, 1) := by decide +kernel
theorem dX5_home_154 : decode cX5_home 154 = .ok (.iaload, 1) := by decide +kernel
theorem dX5_home_155 : decode cX5_home 155 = .ok (.iastore, 1) := by decide +kernel
theorem dX5_home_156 : decode cX5_home 156 = .ok (.iinc 7 1, 3) := by decide +kernel
theorem dX5_home_159 : decode cX5_home 159 = .ok (.goto (-66), 3) := by decide +kernel
theorem dX5_home_162 : decode cX5_home 162 = .ok (.aload_n 0, 1) := by decide +kernel
theorem dX5_home_163 : decode cX5_home 163 = .ok (.iload_n 1, 1) := by decide +kernel
theorem dX5_home_164 : decode cX5_home 164 = .ok (.iload 5, 2) := by decide +kernel
theorem dX5_home_166 : decode cX5_home 166 = .ok (.iload 6, 2) := by decide +kernel
theorem dX5_home_168 : decode cX5_home 168 = .ok (.invokevirtual 100, 3) := by decide +kernel
theorem dX5_home_171 : decode cX5_home 171 = .ok (.return_, 1) := by decide +kernel
set_option maxRecDepth 20000 in
theorem ggX5_deliver_X5_isNode : GoodIn wsX5_deliver wsX5_isNode := goodIn_r _ [10, 11, 54, 55, 56, 57, 58, 59, 60, 61, 62, 63, 64, 65, 66, 67, 68, 69, 70, 71, 72] (by decide +kernel) (by decide +kernel)
set_option maxRecDepth 20000 in
theorem gX5_deliver_X5_isNode : GoodIn wsX5_deliver (wsV RX5 80 RX5 yX5_isNode wsX5_isNode) := goodIn_app (goodIn_of _ (by decide +kernel)) ggX5_deliver_X5_isNode
set_option maxRecDepth 20000 in
theorem ggX5_deliver_X5_asked : GoodIn wsX5_deliver wsX5_asked := goodIn_r _ [15, 16, 17, 18, 19, 20, 21, 22, 23, 24, 9, 25, 26, 27, 28, 29, 1, 2, 3, 4, 5, 30, 31, 32, 33, 34, 35, 36, 54, 55, 56, 57, 58, 59, 60, 61, 62, 63, 64, 65, 66, 67, 68, 69, 70, 71, 72] (by decide +kernel) (by decide +kernel)
set_option maxRecDepth 20000 in
theorem gX5_deliver_X5_asked : GoodIn wsX5_deliver (wsV RX5 107 RX5 yX5_asked wsX5_asked) := goodIn_app (goodIn_of _ (by decide +kernel)) ggX5_deliver_X5_asked
set_option maxRecDepth 20000 in
theorem ggX5_deliver_X5_home : GoodIn wsX5_deliver wsX5_home := goodIn_r _ [40, 16, 20, 21, 17, 18, 19, 30, 31, 32, 9, 33, 34, 35, 36, 22, 23, 24, 25, 26, 27, 28, 29, 1, 2, 3, 4, 5, 54, 55, 56, 57, 58, 59, 60, 61, 62, 63, 64, 65, 66, 67, 68, 69, 70, 71, 72] (by decide +kernel) (by decide +kernel)
set_option maxRecDepth 20000 in
theorem gX5_deliver_X5_home : GoodIn wsX5_deliver (wsV RX5 110 RX5 yX5_home wsX5_home) := goodIn_app (goodIn_of _ (by decide +kernel)) ggX5_deliver_X5_home
set_option maxRecDepth 20000 in
theorem ggX5_deliver_X5_answer : GoodIn wsX5_deliver wsX5_answer := goodIn_r _ [44, 45, 46, 47, 48, 11, 49, 50, 51, 52, 9, 53, 26, 27, 28, 29, 1, 2, 3, 4, 5, 54, 55, 56, 57, 58, 59, 60, 61, 62, 63, 64, 65, 66, 67, 68, 69, 70, 71, 72] (by decide +kernel) (by decide +kernel)
set_option maxRecDepth 20000 in
theorem gX5_deliver_X5_answer : GoodIn wsX5_deliver (wsV RX5 114 RX5 yX5_answer wsX5_answer) := goodIn_app (goodIn_of _ (by decide +kernel)) ggX5_deliver_X5_answer
theorem dX5_deliver_0 : decode cX5_deliver 0 = .ok (.aload_n 0, 1) := by decide +kernel
theorem dX5_deliver_1 : decode cX5_deliver 1 = .ok (.iload_n 1, 1) := by decide +kernel
theorem dX5_deliver_2 : decode cX5_deliver 2 = .ok (.invokevirtual 80, 3) := by decide +kernel
theorem dX5_deliver_5 : decode cX5_deliver 5 = .ok (.ifCond .eq 11, 3) := by decide +kernel
theorem dX5_deliver_8 : decode cX5_deliver 8 = .ok (.aload_n 0, 1) := by decide +kernel
theorem dX5_deliver_9 : decode cX5_deliver 9 = .ok (.iload_n 2, 1) := by decide +kernel
theorem dX5_deliver_10 : decode cX5_deliver 10 = .ok (.invokevirtual 80, 3) := by decide +kernel
theorem dX5_deliver_13 : decode cX5_deliver 13 = .ok (.ifCond .ne 5, 3) := by decide +kernel
theorem dX5_deliver_16 : decode cX5_deliver 16 = .ok (.iconst (-1), 1) := by decide +kernel
theorem dX5_deliver_17 : decode cX5_deliver 17 = .ok (.ireturn, 1) := by decide +kernel
theorem dX5_deliver_18 : decode cX5_deliver 18 = .ok (.bipush 16, 2) := by decide +kernel
theorem dX5_deliver_20 : decode cX5_deliver 20 = .ok (.iload_n 1, 1) := by decide +kernel
theorem dX5_deliver_21 : decode cX5_deliver 21 = .ok (.imul, 1) := by decide +kernel
theorem dX5_deliver_22 : decode cX5_deliver 22 = .ok (.iload_n 2, 1) := by decide +kernel
theorem dX5_deliver_23 : decode cX5_deliver 23 = .ok (.iadd, 1) := by decide +kernel
theorem dX5_deliver_24 : decode cX5_deliver 24 = .ok (.istore_n 3, 1) := by decide +kernel
theorem dX5_deliver_25 : decode cX5_deliver 25 = .ok (.aload_n 0, 1) := by decide +kernel
theorem dX5_deliver_26 : decode cX5_deliver 26 = .ok (.getfield 47, 3) := by decide +kernel
theorem dX5_deliver_29 : decode cX5_deliver 29 = .ok (.iload_n 3, 1) := by decide +kernel
theorem dX5_deliver_30 : decode cX5_deliver 30 = .ok (.iaload, 1) := by decide +kernel
theorem dX5_deliver_31 : decode cX5_deliver 31 = .ok (.ifCond .ne 5, 3) := by decide +kernel
theorem dX5_deliver_34 : decode cX5_deliver 34 = .ok (.iconst 0, 1) := by decide +kernel
theorem dX5_deliver_35 : decode cX5_deliver 35 = .ok (.ireturn, 1) := by decide +kernel
theorem dX5_deliver_36 : decode cX5_deliver 36 = .ok (.bipush 64, 2) := by decide +kernel
theorem dX5_deliver_38 : decode cX5_deliver 38 = .ok (.iload_n 3, 1) := by decide +kernel
theorem dX5_deliver_39 : decode cX5_deliver 39 = .ok (.imul, 1) := by decide +kernel
theorem dX5_deliver_40 : decode cX5_deliver 40 = .ok (.istore 4, 2) := by decide +kernel
theorem dX5_deliver_42 : decode cX5_deliver 42 = .ok (.aload_n 0, 1) := by decide +kernel
theorem dX5_deliver_43 : decode cX5_deliver 43 = .ok (.getfield 50, 3) := by decide +kernel
theorem dX5_deliver_46 : decode cX5_deliver 46 = .ok (.iload 4, 2) := by decide +kernel
theorem dX5_deliver_48 : decode cX5_deliver 48 = .ok (.iaload, 1) := by decide +kernel
theorem dX5_deliver_49 : decode cX5_deliver 49 = .ok (.istore 5, 2) := by decide +kernel
theorem dX5_deliver_51 : decode cX5_deliver 51 = .ok (.aload_n 0, 1) := by decide +kernel
theorem dX5_deliver_52 : decode cX5_deliver 52 = .ok (.getfield 53, 3) := by decide +kernel
theorem dX5_deliver_55 : decode cX5_deliver 55 = .ok (.iload 4, 2) := by decide +kernel
theorem dX5_deliver_57 : decode cX5_deliver 57 = .ok (.iaload, 1) := by decide +kernel
theorem dX5_deliver_58 : decode cX5_deliver 58 = .ok (.istore 6, 2) := by decide +kernel
theorem dX5_deliver_60 : decode cX5_deliver 60 = .ok (.aload_n 0, 1) := by decide +kernel
theorem dX5_deliver_61 : decode cX5_deliver 61 = .ok (.getfield 56, 3) := by decide +kernel
theorem dX5_deliver_64 : decode cX5_deliver 64 = .ok (.iload 4, 2) := by decide +kernel
theorem dX5_deliver_66 : decode cX5_deliver 66 = .ok (.iaload, 1) := by decide +kernel
theorem dX5_deliver_67 : decode cX5_deliver 67 = .ok (.istore 7, 2) := by decide +kernel
theorem dX5_deliver_69 : decode cX5_deliver 69 = .ok (.aload_n 0, 1) := by decide +kernel
theorem dX5_deliver_70 : decode cX5_deliver 70 = .ok (.getfield 47, 3) := by decide +kernel
theorem dX5_deliver_73 : decode cX5_deliver 73 = .ok (.iload_n 3, 1) := by decide +kernel
theorem dX5_deliver_74 : decode cX5_deliver 74 = .ok (.dup2, 1) := by decide +kernel
theorem dX5_deliver_75 : decode cX5_deliver 75 = .ok (.iaload, 1) := by decide +kernel
theorem dX5_deliver_76 : decode cX5_deliver 76 = .ok (.iconst 1, 1) := by decide +kernel
theorem dX5_deliver_77 : decode cX5_deliver 77 = .ok (.isub, 1) := by decide +kernel
theorem dX5_deliver_78 : decode cX5_deliver 78 = .ok (.iastore, 1) := by decide +kernel
theorem dX5_deliver_79 : decode cX5_deliver 79 = .ok (.iconst 0, 1) := by decide +kernel
theorem dX5_deliver_80 : decode cX5_deliver 80 = .ok (.istore 8, 2) := by decide +kernel
theorem dX5_deliver_82 : decode cX5_deliver 82 = .ok (.iload 8, 2) := by decide +kernel
theorem dX5_deliver_84 : decode cX5_deliver 84 = .ok (.aload_n 0, 1) := by decide +kernel
theorem dX5_deliver_85 : decode cX5_deliver 85 = .ok (.getfield 47, 3) := by decide +kernel
theorem dX5_deliver_88 : decode cX5_deliver 88 = .ok (.iload_n 3, 1) := by decide +kernel
theorem dX5_deliver_89 : decode cX5_deliver 89 = .ok (.iaload, 1) := by decide +kernel
theorem dX5_deliver_90 : decode cX5_deliver 90 = .ok (.if_icmp .ge 75, 3) := by decide +kernel
theorem dX5_deliver_93 : decode cX5_deliver 93 = .ok (.aload_n 0, 1) := by decide +kernel
theorem dX5_deliver_94 : decode cX5_deliver 94 = .ok (.getfield 50, 3) := by decide +kernel
theorem dX5_deliver_97 : decode cX5_deliver 97 = .ok (.iload 4, 2) := by decide +kernel
theorem dX5_deliver_99 : decode cX5_deliver 99 = .ok (.iload 8, 2) := by decide +kernel
theorem dX5_deliver_101 : decode cX5_deliver 101 = .ok (.iadd, 1) := by decide +kernel
theorem dX5_deliver_102 : decode cX5_deliver 102 = .ok (.aload_n 0, 1) := by decide +kernel
theorem dX5_deliver_103 : decode cX5_deliver 103 = .ok (.getfield 50, 3) := by decide +kernel
theorem dX5_deliver_106 : decode cX5_deliver 106 = .ok (.iload 4, 2) := by decide +kernel
theorem dX5_deliver_108 : decode cX5_deliver 108 = .ok (.iload 8, 2) := by decide +kernel
theorem dX5_deliver_110 : decode cX5_deliver 110 = .ok (.iadd, 1) := by decide +kernel
theorem dX5_deliver_111 : decode cX5_deliver 111 = .ok (.iconst 1, 1) := by decide +kernel
theorem dX5_deliver_112 : decode cX5_deliver 112 = .ok (.iadd, 1) := by decide +kernel
theorem dX5_deliver_113 : decode cX5_deliver 113 = .ok (.iaload, 1) := by decide +kernel
theorem dX5_deliver_114 : decode cX5_deliver 114 = .ok (.iastore, 1) := by decide +kernel
theorem dX5_deliver_115 : decode cX5_deliver 115 = .ok (.aload_n 0, 1) := by decide +kernel
theorem dX5_deliver_116 : decode cX5_deliver 116 = .ok (.getfield 53, 3) := by decide +kernel
theorem dX5_deliver_119 : decode cX5_deliver 119 = .ok (.iload 4, 2) := by decide +kernel
theorem dX5_deliver_121 : decode cX5_deliver 121 = .ok (.iload 8, 2) := by decide +kernel
theorem dX5_deliver_123 : decode cX5_deliver 123 = .ok (.iadd, 1) := by decide +kernel
theorem dX5_deliver_124 : decode cX5_deliver 124 = .ok (.aload_n 0, 1) := by decide +kernel
theorem dX5_deliver_125 : decode cX5_deliver 125 = .ok (.getfield 53, 3) := by decide +kernel
theorem dX5_deliver_128 : decode cX5_deliver 128 = .ok (.iload 4, 2) := by decide +kernel
theorem dX5_deliver_130 : decode cX5_deliver 130 = .ok (.iload 8, 2) := by decide +kernel
theorem dX5_deliver_132 : decode cX5_deliver 132 = .ok (.iadd, 1) := by decide +kernel
theorem dX5_deliver_133 : decode cX5_deliver 133 = .ok (.iconst 1, 1) := by decide +kernel
theorem dX5_deliver_134 : decode cX5_deliver 134 = .ok (.iadd, 1) := by decide +kernel
theorem dX5_deliver_135 : decode cX5_deliver 135 = .ok (.iaload, 1) := by decide +kernel
theorem dX5_deliver_136 : decode cX5_deliver 136 = .ok (.iastore, 1) := by decide +kernel
theorem dX5_deliver_137 : decode cX5_deliver 137 = .ok (.aload_n 0, 1) := by decide +kernel
theorem dX5_deliver_138 : decode cX5_deliver 138 = .ok (.getfield 56, 3) := by decide +kernel
theorem dX5_deliver_141 : decode cX5_deliver 141 = .ok (.iload 4, 2) := by decide +kernel
theorem dX5_deliver_143 : decode cX5_deliver 143 = .ok (.iload 8, 2) := by decide +kernel
theorem dX5_deliver_145 : decode cX5_deliver 145 = .ok (.iadd, 1) := by decide +kernel
theorem dX5_deliver_146 : decode cX5_deliver 146 = .ok (.aload_n 0, 1) := by decide +kernel
theorem dX5_deliver_147 : decode cX5_deliver 147 = .ok (.getfield 56, 3) := by decide +kernel
theorem dX5_deliver_150 : decode cX5_deliver 150 = .ok (.iload 4, 2) := by decide +kernel
theorem dX5_deliver_152 : decode cX5_deliver 152 = .ok (.iload 8, 2) := by decide +kernel
theorem dX5_deliver_154 : decode cX5_deliver 154 = .ok (.iadd, 1) := by decide +kernel
theorem dX5_deliver_155 : decode cX5_deliver 155 = .ok (.iconst 1, 1) := by decide +kernel
theorem dX5_deliver_156 : decode cX5_deliver 156 = .ok (.iadd, 1) := by decide +kernel
theorem dX5_deliver_157 : decode cX5_deliver 157 = .ok (.iaload, 1) := by decide +kernel
theorem dX5_deliver_158 : decode cX5_deliver 158 = .ok (.iastore, 1) := by decide +kernel
theorem dX5_deliver_159 : decode cX5_deliver 159 = .ok (.iinc 8 1, 3) := by decide +kernel
theorem dX5_deliver_162 : decode cX5_deliver 162 = .ok (.goto (-80), 3) := by decide +kernel
theorem dX5_deliver_165 : decode cX5_deliver 165 = .ok (.aload_n 0, 1) := by decide +kernel
theorem dX5_deliver_166 : decode cX5_deliver 166 = .ok (.getfield 7, 3) := by decide +kernel
theorem dX5_deliver_169 : decode cX5_deliver 169 = .ok (.iload_n 2, 1) := by decide +kernel
theorem dX5_deliver_170 : decode cX5_deliver 170 = .ok (.iload 7, 2) := by decide +kernel
theorem dX5_deliver_172 : decode cX5_deliver 172 = .ok (.aload_n 0, 1) := by decide +kernel
theorem dX5_deliver_173 : decode cX5_deliver 173 = .ok (.getfield 7, 3) := by decide +kernel
theorem dX5_deliver_176 : decode cX5_deliver 176 = .ok (.iload_n 2, 1) := by decide +kernel
theorem dX5_deliver_177 : decode cX5_deliver 177 = .ok (.iaload, 1) := by decide +kernel
theorem dX5_deliver_178 : decode cX5_deliver 178 = .ok (.if_icmp .le 8, 3) := by decide +kernel
theorem dX5_deliver_181 : decode cX5_deliver 181 = .ok (.iload 7, 2) := by decide +kernel
theorem dX5_deliver_183 : decode cX5_deliver 183 = .ok (.goto 9, 3) := by decide +kernel
theorem dX5_deliver_186 : decode cX5_deliver 186 = .ok (.aload_n 0, 1) := by decide +kernel
theorem dX5_deliver_187 : decode cX5_deliver 187 = .ok (.getfield 7, 3) := by decide +kernel
theorem dX5_deliver_190 : decode cX5_deliver 190 = .ok (.iload_n 2, 1) := by decide +kernel
theorem dX5_deliver_191 : decode cX5_deliver 191 = .ok (.iaload, 1) := by decide +kernel
theorem dX5_deliver_192 : decode cX5_deliver 192 = .ok (.iconst 1, 1) := by decide +kernel
theorem dX5_deliver_193 : decode cX5_deliver 193 = .ok (.iadd, 1) := by decide +kernel
theorem dX5_deliver_194 : decode cX5_deliver 194 = .ok (.iastore, 1) := by decide +kernel
theorem dX5_deliver_195 : decode cX5_deliver 195 = .ok (.iload 5, 2) := by decide +kernel
theorem dX5_deliver_197 : decode cX5_deliver 197 = .ok (.iconst 1, 1) := by decide +kernel
theorem dX5_deliver_198 : decode cX5_deliver 198 = .ok (.if_icmp .ne 14, 3) := by decide +kernel
theorem dX5_deliver_201 : decode cX5_deliver 201 = .ok (.aload_n 0, 1) := by decide +kernel
theorem dX5_deliver_202 : decode cX5_deliver 202 = .ok (.iload_n 2, 1) := by decide +kernel
theorem dX5_deliver_203 : decode cX5_deliver 203 = .ok (.iload_n 1, 1) := by decide +kernel
theorem dX5_deliver_204 : decode cX5_deliver 204 = .ok (.iload 6, 2) := by decide +kernel
theorem dX5_deliver_206 : decode cX5_deliver 206 = .ok (.invokevirtual 107, 3) := by decide +kernel
theorem dX5_deliver_209 : decode cX5_deliver 209 = .ok (.goto 47, 3) := by decide +kernel
theorem dX5_deliver_212 : decode cX5_deliver 212 = .ok (.iload 5, 2) := by decide +kernel
theorem dX5_deliver_214 : decode cX5_deliver 214 = .ok (.iconst 3, 1) := by decide +kernel
theorem dX5_deliver_215 : decode cX5_deliver 215 = .ok (.if_icmp .eq 9, 3) := by decide +kernel
theorem dX5_deliver_218 : decode cX5_deliver 218 = .ok (.iload 5, 2) := by decide +kernel
theorem dX5_deliver_220 : decode cX5_deliver 220 = .ok (.iconst 5, 1) := by decide +kernel
theorem dX5_deliver_221 : decode cX5_deliver 221 = .ok (.if_icmp .ne 25, 3) := by decide +kernel
theorem dX5_deliver_224 : decode cX5_deliver 224 = .ok (.aload_n 0, 1) := by decide +kernel
theorem dX5_deliver_225 : decode cX5_deliver 225 = .ok (.iload_n 2, 1) := by decide +kernel
theorem dX5_deliver_226 : decode cX5_deliver 226 = .ok (.iload_n 1, 1) := by decide +kernel
theorem dX5_deliver_227 : decode cX5_deliver 227 = .ok (.iload 6, 2) := by decide +kernel
theorem dX5_deliver_229 : decode cX5_deliver 229 = .ok (.iload 5, 2) := by decide +kernel
theorem dX5_deliver_231 : decode cX5_deliver 231 = .ok (.iconst 5, 1) := by decide +kernel
theorem dX5_deliver_232 : decode cX5_deliver 232 = .ok (.if_icmp .ne 7, 3) := by decide +kernel
theorem dX5_deliver_235 : decode cX5_deliver 235 = .ok (.iconst 1, 1) := by decide +kernel
theorem dX5_deliver_236 : decode cX5_deliver 236 = .ok (.goto 4, 3) := by decide +kernel
theorem dX5_deliver_239 : decode cX5_deliver 239 = .ok (.iconst 0, 1) := by decide +kernel
theorem dX5_deliver_240 : decode cX5_deliver 240 = .ok (.invokevirtual 110, 3) := by decide +kernel
theorem dX5_deliver_243 : decode cX5_deliver 243 = .ok (.goto 13, 3) := by decide +kernel
theorem dX5_deliver_246 : decode cX5_deliver 246 = .ok (.aload_n 0, 1) := by decide +kernel
theorem dX5_deliver_247 : decode cX5_deliver 247 = .ok (.iload_n 2, 1) := by decide +kernel
theorem dX5_deliver_248 : decode cX5_deliver 248 = .ok (.iload_n 1, 1) := by decide +kernel
theorem dX5_deliver_249 : decode cX5_deliver 249 = .ok (.iload 5, 2) := by decide +kernel
theorem dX5_deliver_251 : decode cX5_deliver 251 = .ok (.iload 6, 2) := by decide +kernel
theorem dX5_deliver_253 : decode cX5_deliver 253 = .ok (.invokevirtual 114, 3) := by decide +kernel
theorem dX5_deliver_256 : decode cX5_deliver 256 = .ok (.iload 5, 2) := by decide +kernel
theorem dX5_deliver_258 : decode cX5_deliver 258 = .ok (.ireturn, 1) := by decide +kernel
set_option maxRecDepth 20000 in
theorem ggX5_settle_X5_deliver : GoodIn wsX5_settle wsX5_deliver := goodIn_r _ [6, 1, 7, 8, 9, 10, 11, 12, 13, 5, 14, 15, 16, 17, 18, 19, 20, 21, 22, 23, 24, 25, 26, 27, 28, 29, 30, 31, 32, 33, 34, 35, 36, 37, 38, 39, 40, 41, 42, 43, 44, 45, 46, 47, 48, 49, 50, 51, 52, 53, 54, 55, 56, 57, 58, 59, 60, 61, 62, 63, 64, 65, 66, 67, 68, 69, 70, 71, 72, 73, 74, 75, 76] (by decide +kernel) (by decide +kernel)
set_option maxRecDepth 20000 in
theorem gX5_settle_X5_deliver : GoodIn wsX5_settle (wsV RX5 117 RX5 yX5_deliver wsX5_deliver) := goodIn_app (goodIn_of _ (by decide +kernel)) ggX5_settle_X5_deliver
theorem dX5_settle_0 : decode cX5_settle 0 = .ok (.iload_n 1, 1) := by decide +kernel
theorem dX5_settle_1 : decode cX5_settle 1 = .ok (.iconst 1, 1) := by decide +kernel
theorem dX5_settle_2 : decode cX5_settle 2 = .ok (.if_icmp .lt 10, 3) := by decide +kernel
theorem dX5_settle_5 : decode cX5_settle 5 = .ok (.iload_n 1, 1) := by decide +kernel
theorem dX5_settle_6 : decode cX5_settle 6 = .ok (.sipush 500, 3) := by decide +kernel
theorem dX5_settle_9 : decode cX5_settle 9 = .ok (.if_icmp .le 5, 3) := by decide +kernel
theorem dX5_settle_12 : decode cX5_settle 12 = .ok (.iconst (-1), 1) := by decide +kernel
theorem dX5_settle_13 : decode cX5_settle 13 = .ok (.ireturn, 1) := by decide +kernel
theorem dX5_settle_14 : decode cX5_settle 14 = .ok (.iconst 0, 1) := by decide +kernel
theorem dX5_settle_15 : decode cX5_settle 15 = .ok (.istore_n 2, 1) := by decide +kernel
theorem dX5_settle_16 : decode cX5_settle 16 = .ok (.iload_n 2, 1) := by decide +kernel
theorem dX5_settle_17 : decode cX5_settle 17 = .ok (.iload_n 1, 1) := by decide +kernel
theorem dX5_settle_18 : decode cX5_settle 18 = .ok (.if_icmp .ge 56, 3) := by decide +kernel
theorem dX5_settle_21 : decode cX5_settle 21 = .ok (.iconst 0, 1) := by decide +kernel
theorem dX5_settle_22 : decode cX5_settle 22 = .ok (.istore_n 3, 1) := by decide +kernel
theorem dX5_settle_23 : decode cX5_settle 23 = .ok (.iload_n 3, 1) := by decide +kernel
theorem dX5_settle_24 : decode cX5_settle 24 = .ok (.sipush 256, 3) := by decide +kernel
theorem dX5_settle_27 : decode cX5_settle 27 = .ok (.if_icmp .ge 18, 3) := by decide +kernel
theorem dX5_settle_30 : decode cX5_settle 30 = .ok (.aload_n 0, 1) := by decide +kernel
theorem dX5_settle_31 : decode cX5_settle 31 = .ok (.getfield 47, 3) := by decide +kernel
theorem dX5_settle_34 : decode cX5_settle 34 = .ok (.iload_n 3, 1) := by decide +kernel
theorem dX5_settle_35 : decode cX5_settle 35 = .ok (.iaload, 1) := by decide +kernel
theorem dX5_settle_36 : decode cX5_settle 36 = .ok (.ifCond .ne 9, 3) := by decide +kernel
theorem dX5_settle_39 : decode cX5_settle 39 = .ok (.iinc 3 1, 3) := by decide +kernel
theorem dX5_settle_42 : decode cX5_settle 42 = .ok (.goto (-19), 3) := by decide +kernel
theorem dX5_settle_45 : decode cX5_settle 45 = .ok (.iload_n 3, 1) := by decide +kernel
theorem dX5_settle_46 : decode cX5_settle 46 = .ok (.sipush 256, 3) := by decide +kernel
theorem dX5_settle_49 : decode cX5_settle 49 = .ok (.if_icmp .ne 5, 3) := by decide +kernel
theorem dX5_settle_52 : decode cX5_settle 52 = .ok (.iload_n 2, 1) := by decide +kernel
theorem dX5_settle_53 : decode cX5_settle 53 = .ok (.ireturn, 1) := by decide +kernel
theorem dX5_settle_54 : decode cX5_settle 54 = .ok (.aload_n 0, 1) := by decide +kernel
theorem dX5_settle_55 : decode cX5_settle 55 = .ok (.iload_n 3, 1) := by decide +kernel
theorem dX5_settle_56 : decode cX5_settle 56 = .ok (.bipush 16, 2) := by decide +kernel
theorem dX5_settle_58 : decode cX5_settle 58 = .ok (.idiv, 1) := by decide +kernel
theorem dX5_settle_59 : decode cX5_settle 59 = .ok (.iload_n 3, 1) := by decide +kernel
theorem dX5_settle_60 : decode cX5_settle 60 = .ok (.bipush 16, 2) := by decide +kernel
theorem dX5_settle_62 : decode cX5_settle 62 = .ok (.irem, 1) := by decide +kernel
theorem dX5_settle_63 : decode cX5_settle 63 = .ok (.invokevirtual 117, 3) := by decide +kernel
theorem dX5_settle_66 : decode cX5_settle 66 = .ok (.istore 4, 2) := by decide +kernel
theorem dX5_settle_68 : decode cX5_settle 68 = .ok (.iinc 2 1, 3) := by decide +kernel
theorem dX5_settle_71 : decode cX5_settle 71 = .ok (.goto (-55), 3) := by decide +kernel
theorem dX5_settle_74 : decode cX5_settle 74 = .ok (.iload_n 2, 1) := by decide +kernel
theorem dX5_settle_75 : decode cX5_settle 75 = .ok (.ireturn, 1) := by decide +kernel
theorem dX5_holder_0 : decode cX5_holder 0 = .ok (.iconst 0, 1) := by decide +kernel
theorem dX5_holder_1 : decode cX5_holder 1 = .ok (.istore_n 1, 1) := by decide +kernel
theorem dX5_holder_2 : decode cX5_holder 2 = .ok (.iload_n 1, 1) := by decide +kernel
theorem dX5_holder_3 : decode cX5_holder 3 = .ok (.aload_n 0, 1) := by decide +kernel
theorem dX5_holder_4 : decode cX5_holder 4 = .ok (.getfield 63, 3) := by decide +kernel
theorem dX5_holder_7 : decode cX5_holder 7 = .ok (.if_icmp .ge 21, 3) := by decide +kernel
theorem dX5_holder_10 : decode cX5_holder 10 = .ok (.aload_n 0, 1) := by decide +kernel
theorem dX5_holder_11 : decode cX5_holder 11 = .ok (.getfield 13, 3) := by decide +kernel
theorem dX5_holder_14 : decode cX5_holder 14 = .ok (.iload_n 1, 1) := by decide +kernel
theorem dX5_holder_15 : decode cX5_holder 15 = .ok (.iaload, 1) := by decide +kernel
theorem dX5_holder_16 : decode cX5_holder 16 = .ok (.iconst 2, 1) := by decide +kernel
theorem dX5_holder_17 : decode cX5_holder 17 = .ok (.if_icmp .ne 5, 3) := by decide +kernel
theorem dX5_holder_20 : decode cX5_holder 20 = .ok (.iload_n 1, 1) := by decide +kernel
theorem dX5_holder_21 : decode cX5_holder 21 = .ok (.ireturn, 1) := by decide +kernel
theorem dX5_holder_22 : decode cX5_holder 22 = .ok (.iinc 1 1, 3) := by decide +kernel
theorem dX5_holder_25 : decode cX5_holder 25 = .ok (.goto (-23), 3) := by decide +kernel
theorem dX5_holder_28 : decode cX5_holder 28 = .ok (.iconst (-1), 1) := by decide +kernel
theorem dX5_holder_29 : decode cX5_holder 29 = .ok (.ireturn, 1) := by decide +kernel
theorem dX5_count_0 : decode cX5_count 0 = .ok (.iconst 0, 1) := by decide +kernel
theorem dX5_count_1 : decode cX5_count 1 = .ok (.istore_n 2, 1) := by decide +kernel
theorem dX5_count_2 : decode cX5_count 2 = .ok (.iconst 0, 1) := by decide +kernel
theorem dX5_count_3 : decode cX5_count 3 = .ok (.istore_n 3, 1) := by decide +kernel
theorem dX5_count_4 : decode cX5_count 4 = .ok (.iload_n 3, 1) := by decide +kernel
theorem dX5_count_5 : decode cX5_count 5 = .ok (.aload_n 0, 1) := by decide +kernel
theorem dX5_count_6 : decode cX5_count 6 = .ok (.getfield 63, 3) := by decide +kernel
theorem dX5_count_9 : decode cX5_count 9 = .ok (.if_icmp .ge 17, 3) := by decide +kernel
theorem dX5_count_12 : decode cX5_count 12 = .ok (.iload_n 2, 1) := by decide +kernel
theorem dX5_count_13 : decode cX5_count 13 = .ok (.iload_n 1, 1) := by decide +kernel
theorem dX5_count_14 : decode cX5_count 14 = .ok (.iload_n 3, 1) := by decide +kernel
theorem dX5_count_15 : decode cX5_count 15 = .ok (.ishr, 1) := by decide +kernel
theorem dX5_count_16 : decode cX5_count 16 = .ok (.iconst 1, 1) := by decide +kernel
theorem dX5_count_17 : decode cX5_count 17 = .ok (.iand, 1) := by decide +kernel
theorem dX5_count_18 : decode cX5_count 18 = .ok (.iadd, 1) := by decide +kernel
theorem dX5_count_19 : decode cX5_count 19 = .ok (.istore_n 2, 1) := by decide +kernel
theorem dX5_count_20 : decode cX5_count 20 = .ok (.iinc 3 1, 3) := by decide +kernel
theorem dX5_count_23 : decode cX5_count 23 = .ok (.goto (-19), 3) := by decide +kernel
theorem dX5_count_26 : decode cX5_count 26 = .ok (.iload_n 2, 1) := by decide +kernel
theorem dX5_count_27 : decode cX5_count 27 = .ok (.ireturn, 1) := by decide +kernel
set_option maxRecDepth 20000 in
theorem ggX5_votesOf_X5_isNode : GoodIn wsX5_votesOf wsX5_isNode := goodIn_r _ [6, 7, 12, 13, 14, 15, 16, 17, 18, 19, 20, 21, 22, 23, 24, 25, 26, 27, 28, 29, 30] (by decide +kernel) (by decide +kernel)
set_option maxRecDepth 20000 in
theorem gX5_votesOf_X5_isNode : GoodIn wsX5_votesOf (wsV RX5 80 RX5 yX5_isNode wsX5_isNode) := goodIn_app (goodIn_of _ (by decide +kernel)) ggX5_votesOf_X5_isNode
set_option maxRecDepth 20000 in
theorem ggX5_votesOf_X5_count : GoodIn wsX5_votesOf wsX5_count := goodIn_r _ [11, 7, 12, 13, 14, 15, 16, 17, 18, 19, 20, 21, 22, 23, 24, 25, 26, 27, 28, 29, 30] (by decide +kernel) (by decide +kernel)
set_option maxRecDepth 20000 in
theorem gX5_votesOf_X5_count : GoodIn wsX5_votesOf (wsV RX5 121 RX5 yX5_count wsX5_count) := goodIn_app (goodIn_of _ (by decide +kernel)) ggX5_votesOf_X5_count
theorem dX5_votesOf_0 : decode cX5_votesOf 0 = .ok (.aload_n 0, 1) := by decide +kernel
theorem dX5_votesOf_1 : decode cX5_votesOf 1 = .ok (.iload_n 1, 1) := by decide +kernel
theorem dX5_votesOf_2 : decode cX5_votesOf 2 = .ok (.invokevirtual 80, 3) := by decide +kernel
theorem dX5_votesOf_5 : decode cX5_votesOf 5 = .ok (.ifCond .eq 16, 3) := by decide +kernel
theorem dX5_votesOf_8 : decode cX5_votesOf 8 = .ok (.aload_n 0, 1) := by decide +kernel
theorem dX5_votesOf_9 : decode cX5_votesOf 9 = .ok (.aload_n 0, 1) := by decide +kernel
theorem dX5_votesOf_10 : decode cX5_votesOf 10 = .ok (.getfield 19, 3) := by decide +kernel
theorem dX5_votesOf_13 : decode cX5_votesOf 13 = .ok (.iload_n 1, 1) := by decide +kernel
theorem dX5_votesOf_14 : decode cX5_votesOf 14 = .ok (.iaload, 1) := by decide +kernel
theorem dX5_votesOf_15 : decode cX5_votesOf 15 = .ok (.invokevirtual 121, 3) := by decide +kernel
theorem dX5_votesOf_18 : decode cX5_votesOf 18 = .ok (.goto 4, 3) := by decide +kernel
theorem dX5_votesOf_21 : decode cX5_votesOf 21 = .ok (.iconst (-1), 1) := by decide +kernel
theorem dX5_votesOf_22 : decode cX5_votesOf 22 = .ok (.ireturn, 1) := by decide +kernel
set_option maxRecDepth 20000 in
theorem ggX5_lockedFor_X5_isNode : GoodIn wsX5_lockedFor wsX5_isNode := goodIn_r _ [6, 7, 8, 9, 10, 11, 12, 13, 14, 15, 16, 17, 18, 19, 20, 21, 22, 23, 24, 25, 26] (by decide +kernel) (by decide +kernel)
set_option maxRecDepth 20000 in
theorem gX5_lockedFor_X5_isNode : GoodIn wsX5_lockedFor (wsV RX5 80 RX5 yX5_isNode wsX5_isNode) := goodIn_app (goodIn_of _ (by decide +kernel)) ggX5_lockedFor_X5_isNode
theorem dX5_lockedFor_0 : decode cX5_lockedFor 0 = .ok (.aload_n 0, 1) := by decide +kernel
theorem dX5_lockedFor_1 : decode cX5_lockedFor 1 = .ok (.iload_n 1, 1) := by decide +kernel
theorem dX5_lockedFor_2 : decode cX5_lockedFor 2 = .ok (.invokevirtual 80, 3) := by decide +kernel
theorem dX5_lockedFor_5 : decode cX5_lockedFor 5 = .ok (.ifCond .eq 12, 3) := by decide +kernel
theorem dX5_lockedFor_8 : decode cX5_lockedFor 8 = .ok (.aload_n 0, 1) := by decide +kernel
theorem dX5_lockedFor_9 : decode cX5_lockedFor 9 = .ok (.getfield 28, 3) := by decide +kernel
theorem dX5_lockedFor_12 : decode cX5_lockedFor 12 = .ok (.iload_n 1, 1) := by decide +kernel
theorem dX5_lockedFor_13 : decode cX5_lockedFor 13 = .ok (.iaload, 1) := by decide +kernel
theorem dX5_lockedFor_14 : decode cX5_lockedFor 14 = .ok (.goto 4, 3) := by decide +kernel
theorem dX5_lockedFor_17 : decode cX5_lockedFor 17 = .ok (.iconst (-1), 1) := by decide +kernel
theorem dX5_lockedFor_18 : decode cX5_lockedFor 18 = .ok (.ireturn, 1) := by decide +kernel
set_option maxRecDepth 20000 in
theorem ggX5_waiting_X5_isNode : GoodIn wsX5_waiting wsX5_isNode := goodIn_r _ [6, 7, 8, 9, 10, 11, 12, 13, 14, 15, 16, 17, 18, 19, 20, 21, 22, 23, 24, 25, 26] (by decide +kernel) (by decide +kernel)
set_option maxRecDepth 20000 in
theorem gX5_waiting_X5_isNode : GoodIn wsX5_waiting (wsV RX5 80 RX5 yX5_isNode wsX5_isNode) := goodIn_app (goodIn_of _ (by decide +kernel)) ggX5_waiting_X5_isNode
theorem dX5_waiting_0 : decode cX5_waiting 0 = .ok (.aload_n 0, 1) := by decide +kernel
theorem dX5_waiting_1 : decode cX5_waiting 1 = .ok (.iload_n 1, 1) := by decide +kernel
theorem dX5_waiting_2 : decode cX5_waiting 2 = .ok (.invokevirtual 80, 3) := by decide +kernel
theorem dX5_waiting_5 : decode cX5_waiting 5 = .ok (.ifCond .eq 25, 3) := by decide +kernel
theorem dX5_waiting_8 : decode cX5_waiting 8 = .ok (.aload_n 0, 1) := by decide +kernel
theorem dX5_waiting_9 : decode cX5_waiting 9 = .ok (.iload_n 2, 1) := by decide +kernel
theorem dX5_waiting_10 : decode cX5_waiting 10 = .ok (.invokevirtual 80, 3) := by decide +kernel
theorem dX5_waiting_13 : decode cX5_waiting 13 = .ok (.ifCond .eq 17, 3) := by decide +kernel
theorem dX5_waiting_16 : decode cX5_waiting 16 = .ok (.aload_n 0, 1) := by decide +kernel
theorem dX5_waiting_17 : decode cX5_waiting 17 = .ok (.getfield 47, 3) := by decide +kernel
theorem dX5_waiting_20 : decode cX5_waiting 20 = .ok (.bipush 16, 2) := by decide +kernel
theorem dX5_waiting_22 : decode cX5_waiting 22 = .ok (.iload_n 1, 1) := by decide +kernel
theorem dX5_waiting_23 : decode cX5_waiting 23 = .ok (.imul, 1) := by decide +kernel
theorem dX5_waiting_24 : decode cX5_waiting 24 = .ok (.iload_n 2, 1) := by decide +kernel
theorem dX5_waiting_25 : decode cX5_waiting 25 = .ok (.iadd, 1) := by decide +kernel
theorem dX5_waiting_26 : decode cX5_waiting 26 = .ok (.iaload, 1) := by decide +kernel
theorem dX5_waiting_27 : decode cX5_waiting 27 = .ok (.goto 4, 3) := by decide +kernel
theorem dX5_waiting_30 : decode cX5_waiting 30 = .ok (.iconst (-1), 1) := by decide +kernel
theorem dX5_waiting_31 : decode cX5_waiting 31 = .ok (.ireturn, 1) := by decide +kernel
set_option maxRecDepth 20000 in
theorem ggX5_look_X5_isNode : GoodIn wsX5_look wsX5_isNode := goodIn_r _ [9, 10, 11, 12, 13, 14, 15, 16, 17, 18, 19, 20, 21, 22, 23, 24, 25, 26, 27, 28, 29] (by decide +kernel) (by decide +kernel)
set_option maxRecDepth 20000 in
theorem gX5_look_X5_isNode : GoodIn wsX5_look (wsV RX5 80 RX5 yX5_isNode wsX5_isNode) := goodIn_app (goodIn_of _ (by decide +kernel)) ggX5_look_X5_isNode
theorem dX5_look_0 : decode cX5_look 0 = .ok (.aload_n 0, 1) := by decide +kernel
theorem dX5_look_1 : decode cX5_look 1 = .ok (.iload_n 1, 1) := by decide +kernel
theorem dX5_look_2 : decode cX5_look 2 = .ok (.invokevirtual 80, 3) := by decide +kernel
theorem dX5_look_5 : decode cX5_look 5 = .ok (.ifCond .eq 30, 3) := by decide +kernel
theorem dX5_look_8 : decode cX5_look 8 = .ok (.aload_n 0, 1) := by decide +kernel
theorem dX5_look_9 : decode cX5_look 9 = .ok (.iload_n 2, 1) := by decide +kernel
theorem dX5_look_10 : decode cX5_look 10 = .ok (.invokevirtual 80, 3) := by decide +kernel
theorem dX5_look_13 : decode cX5_look 13 = .ok (.ifCond .eq 22, 3) := by decide +kernel
theorem dX5_look_16 : decode cX5_look 16 = .ok (.iload_n 3, 1) := by decide +kernel
theorem dX5_look_17 : decode cX5_look 17 = .ok (.ifCond .lt 18, 3) := by decide +kernel
theorem dX5_look_20 : decode cX5_look 20 = .ok (.iload_n 3, 1) := by decide +kernel
theorem dX5_look_21 : decode cX5_look 21 = .ok (.aload_n 0, 1) := by decide +kernel
theorem dX5_look_22 : decode cX5_look 22 = .ok (.getfield 47, 3) := by decide +kernel
theorem dX5_look_25 : decode cX5_look 25 = .ok (.bipush 16, 2) := by decide +kernel
theorem dX5_look_27 : decode cX5_look 27 = .ok (.iload_n 1, 1) := by decide +kernel
theorem dX5_look_28 : decode cX5_look 28 = .ok (.imul, 1) := by decide +kernel
theorem dX5_look_29 : decode cX5_look 29 = .ok (.iload_n 2, 1) := by decide +kernel
theorem dX5_look_30 : decode cX5_look 30 = .ok (.iadd, 1) := by decide +kernel
theorem dX5_look_31 : decode cX5_look 31 = .ok (.iaload, 1) := by decide +kernel
theorem dX5_look_32 : decode cX5_look 32 = .ok (.if_icmp .lt 5, 3) := by decide +kernel
theorem dX5_look_35 : decode cX5_look 35 = .ok (.iconst (-1), 1) := by decide +kernel
theorem dX5_look_36 : decode cX5_look 36 = .ok (.ireturn, 1) := by decide +kernel
theorem dX5_look_37 : decode cX5_look 37 = .ok (.bipush 64, 2) := by decide +kernel
theorem dX5_look_39 : decode cX5_look 39 = .ok (.bipush 16, 2) := by decide +kernel
theorem dX5_look_41 : decode cX5_look 41 = .ok (.iload_n 1, 1) := by decide +kernel
theorem dX5_look_42 : decode cX5_look 42 = .ok (.imul, 1) := by decide +kernel
theorem dX5_look_43 : decode cX5_look 43 = .ok (.iload_n 2, 1) := by decide +kernel
theorem dX5_look_44 : decode cX5_look 44 = .ok (.iadd, 1) := by decide +kernel
theorem dX5_look_45 : decode cX5_look 45 = .ok (.imul, 1) := by decide +kernel
theorem dX5_look_46 : decode cX5_look 46 = .ok (.iload_n 3, 1) := by decide +kernel
theorem dX5_look_47 : decode cX5_look 47 = .ok (.iadd, 1) := by decide +kernel
theorem dX5_look_48 : decode cX5_look 48 = .ok (.istore 5, 2) := by decide +kernel
theorem dX5_look_50 : decode cX5_look 50 = .ok (.iload 4, 2) := by decide +kernel
theorem dX5_look_52 : decode cX5_look 52 = .ok (.ifCond .ne 13, 3) := by decide +kernel
theorem dX5_look_55 : decode cX5_look 55 = .ok (.aload_n 0, 1) := by decide +kernel
theorem dX5_look_56 : decode cX5_look 56 = .ok (.getfield 50, 3) := by decide +kernel
theorem dX5_look_59 : decode cX5_look 59 = .ok (.iload 5, 2) := by decide +kernel
theorem dX5_look_61 : decode cX5_look 61 = .ok (.iaload, 1) := by decide +kernel
theorem dX5_look_62 : decode cX5_look 62 = .ok (.goto 36, 3) := by decide +kernel
theorem dX5_look_65 : decode cX5_look 65 = .ok (.iload 4, 2) := by decide +kernel
theorem dX5_look_67 : decode cX5_look 67 = .ok (.iconst 1, 1) := by decide +kernel
theorem dX5_look_68 : decode cX5_look 68 = .ok (.if_icmp .ne 13, 3) := by decide +kernel
theorem dX5_look_71 : decode cX5_look 71 = .ok (.aload_n 0, 1) := by decide +kernel
theorem dX5_look_72 : decode cX5_look 72 = .ok (.getfield 53, 3) := by decide +kernel
theorem dX5_look_75 : decode cX5_look 75 = .ok (.iload 5, 2) := by decide +kernel
theorem dX5_look_77 : decode cX5_look 77 = .ok (.iaload, 1) := by decide +kernel
theorem dX5_look_78 : decode cX5_look 78 = .ok (.goto 20, 3) := by decide +kernel
theorem dX5_look_81 : decode cX5_look 81 = .ok (.iload 4, 2) := by decide +kernel
theorem dX5_look_83 : decode cX5_look 83 = .ok (.iconst 2, 1) := by decide +kernel
theorem dX5_look_84 : decode cX5_look 84 = .ok (.if_icmp .ne 13, 3) := by decide +kernel
theorem dX5_look_87 : decode cX5_look 87 = .ok (.aload_n 0, 1) := by decide +kernel
theorem dX5_look_88 : decode cX5_look 88 = .ok (.getfield 56, 3) := by decide +kernel
theorem dX5_look_91 : decode cX5_look 91 = .ok (.iload 5, 2) := by decide +kernel
theorem dX5_look_93 : decode cX5_look 93 = .ok (.iaload, 1) := by decide +kernel
theorem dX5_look_94 : decode cX5_look 94 = .ok (.goto 4, 3) := by decide +kernel
theorem dX5_look_97 : decode cX5_look 97 = .ok (.iconst (-1), 1) := by decide +kernel
theorem dX5_look_98 : decode cX5_look 98 = .ok (.ireturn, 1) := by decide +kernel
set_option maxRecDepth 20000 in
theorem ggX5_told_X5_isNode : GoodIn wsX5_told wsX5_isNode := goodIn_r _ [13, 14, 15, 16, 17, 18, 19, 20, 21, 22, 23, 24, 25, 26, 27, 28, 29, 30, 31, 32, 33] (by decide +kernel) (by decide +kernel)
set_option maxRecDepth 20000 in
theorem gX5_told_X5_isNode : GoodIn wsX5_told (wsV RX5 80 RX5 yX5_isNode wsX5_isNode) := goodIn_app (goodIn_of _ (by decide +kernel)) ggX5_told_X5_isNode
theorem dX5_told_0 : decode cX5_told 0 = .ok (.aload_n 0, 1) := by decide +kernel
theorem dX5_told_1 : decode cX5_told 1 = .ok (.iload_n 1, 1) := by decide +kernel
theorem dX5_told_2 : decode cX5_told 2 = .ok (.invokevirtual 80, 3) := by decide +kernel
theorem dX5_told_5 : decode cX5_told 5 = .ok (.ifCond .ne 5, 3) := by decide +kernel
theorem dX5_told_8 : decode cX5_told 8 = .ok (.iconst (-1), 1) := by decide +kernel
theorem dX5_told_9 : decode cX5_told 9 = .ok (.ireturn, 1) := by decide +kernel
theorem dX5_told_10 : decode cX5_told 10 = .ok (.iload_n 2, 1) := by decide +kernel
theorem dX5_told_11 : decode cX5_told 11 = .ok (.tableswitch 109 0 7 #[45, 52, 59, 66, 73, 80, 87, 102], 45) := by decide +kernel
theorem dX5_told_56 : decode cX5_told 56 = .ok (.aload_n 0, 1) := by decide +kernel
theorem dX5_told_57 : decode cX5_told 57 = .ok (.getfield 13, 3) := by decide +kernel
theorem dX5_told_60 : decode cX5_told 60 = .ok (.iload_n 1, 1) := by decide +kernel
theorem dX5_told_61 : decode cX5_told 61 = .ok (.iaload, 1) := by decide +kernel
theorem dX5_told_62 : decode cX5_told 62 = .ok (.ireturn, 1) := by decide +kernel
theorem dX5_told_63 : decode cX5_told 63 = .ok (.aload_n 0, 1) := by decide +kernel
theorem dX5_told_64 : decode cX5_told 64 = .ok (.getfield 7, 3) := by decide +kernel
theorem dX5_told_67 : decode cX5_told 67 = .ok (.iload_n 1, 1) := by decide +kernel
theorem dX5_told_68 : decode cX5_told 68 = .ok (.iaload, 1) := by decide +kernel
theorem dX5_told_69 : decode cX5_told 69 = .ok (.ireturn, 1) := by decide +kernel
theorem dX5_told_70 : decode cX5_told 70 = .ok (.aload_n 0, 1) := by decide +kernel
theorem dX5_told_71 : decode cX5_told 71 = .ok (.getfield 16, 3) := by decide +kernel
theorem dX5_told_74 : decode cX5_told 74 = .ok (.iload_n 1, 1) := by decide +kernel
theorem dX5_told_75 : decode cX5_told 75 = .ok (.iaload, 1) := by decide +kernel
theorem dX5_told_76 : decode cX5_told 76 = .ok (.ireturn, 1) := by decide +kernel
theorem dX5_told_77 : decode cX5_told 77 = .ok (.aload_n 0, 1) := by decide +kernel
theorem dX5_told_78 : decode cX5_told 78 = .ok (.getfield 22, 3) := by decide +kernel
theorem dX5_told_81 : decode cX5_told 81 = .ok (.iload_n 1, 1) := by decide +kernel
theorem dX5_told_82 : decode cX5_told 82 = .ok (.iaload, 1) := by decide +kernel
theorem dX5_told_83 : decode cX5_told 83 = .ok (.ireturn, 1) := by decide +kernel
theorem dX5_told_84 : decode cX5_told 84 = .ok (.aload_n 0, 1) := by decide +kernel
theorem dX5_told_85 : decode cX5_told 85 = .ok (.getfield 25, 3) := by decide +kernel
theorem dX5_told_88 : decode cX5_told 88 = .ok (.iload_n 1, 1) := by decide +kernel
theorem dX5_told_89 : decode cX5_told 89 = .ok (.iaload, 1) := by decide +kernel
theorem dX5_told_90 : decode cX5_told 90 = .ok (.ireturn, 1) := by decide +kernel
theorem dX5_told_91 : decode cX5_told 91 = .ok (.aload_n 0, 1) := by decide +kernel
theorem dX5_told_92 : decode cX5_told 92 = .ok (.getfield 19, 3) := by decide +kernel
theorem dX5_told_95 : decode cX5_told 95 = .ok (.iload_n 1, 1) := by decide +kernel
theorem dX5_told_96 : decode cX5_told 96 = .ok (.iaload, 1) := by decide +kernel
theorem dX5_told_97 : decode cX5_told 97 = .ok (.ireturn, 1) := by decide +kernel
theorem dX5_told_98 : decode cX5_told 98 = .ok (.aload_n 0, 1) := by decide +kernel
theorem dX5_told_99 : decode cX5_told 99 = .ok (.getfield 34, 3) := by decide +kernel
theorem dX5_told_102 : decode cX5_told 102 = .ok (.iload_n 1, 1) := by decide +kernel
theorem dX5_told_103 : decode cX5_told 103 = .ok (.baload, 1) := by decide +kernel
theorem dX5_told_104 : decode cX5_told 104 = .ok (.ifCond .eq 7, 3) := by decide +kernel
theorem dX5_told_107 : decode cX5_told 107 = .ok (.iconst 1, 1) := by decide +kernel
theorem dX5_told_108 : decode cX5_told 108 = .ok (.goto 4, 3) := by decide +kernel
theorem dX5_told_111 : decode cX5_told 111 = .ok (.iconst 0, 1) := by decide +kernel
theorem dX5_told_112 : decode cX5_told 112 = .ok (.ireturn, 1) := by decide +kernel
theorem dX5_told_113 : decode cX5_told 113 = .ok (.aload_n 0, 1) := by decide +kernel
theorem dX5_told_114 : decode cX5_told 114 = .ok (.getfield 38, 3) := by decide +kernel
theorem dX5_told_117 : decode cX5_told 117 = .ok (.iload_n 1, 1) := by decide +kernel
theorem dX5_told_118 : decode cX5_told 118 = .ok (.iaload, 1) := by decide +kernel
theorem dX5_told_119 : decode cX5_told 119 = .ok (.ireturn, 1) := by decide +kernel
theorem dX5_told_120 : decode cX5_told 120 = .ok (.iconst (-1), 1) := by decide +kernel
theorem dX5_told_121 : decode cX5_told 121 = .ok (.ireturn, 1) := by decide +kernel
set_option maxRecDepth 20000 in
theorem ggX5_waits_X5_isNode : GoodIn wsX5_waits wsX5_isNode := goodIn_r _ [7, 8, 9, 10, 11, 12, 13, 14, 15, 16, 17, 18, 19, 20, 21, 22, 23, 24, 25, 26, 27] (by decide +kernel) (by decide +kernel)
set_option maxRecDepth 20000 in
theorem gX5_waits_X5_isNode : GoodIn wsX5_waits (wsV RX5 80 RX5 yX5_isNode wsX5_isNode) := goodIn_app (goodIn_of _ (by decide +kernel)) ggX5_waits_X5_isNode
theorem dX5_waits_0 : decode cX5_waits 0 = .ok (.aload_n 0, 1) := by decide +kernel
theorem dX5_waits_1 : decode cX5_waits 1 = .ok (.iload_n 1, 1) := by decide +kernel
theorem dX5_waits_2 : decode cX5_waits 2 = .ok (.invokevirtual 80, 3) := by decide +kernel
theorem dX5_waits_5 : decode cX5_waits 5 = .ok (.ifCond .eq 17, 3) := by decide +kernel
theorem dX5_waits_8 : decode cX5_waits 8 = .ok (.iload_n 2, 1) := by decide +kernel
theorem dX5_waits_9 : decode cX5_waits 9 = .ok (.ifCond .lt 13, 3) := by decide +kernel
theorem dX5_waits_12 : decode cX5_waits 12 = .ok (.iload_n 2, 1) := by decide +kernel
theorem dX5_waits_13 : decode cX5_waits 13 = .ok (.aload_n 0, 1) := by decide +kernel
theorem dX5_waits_14 : decode cX5_waits 14 = .ok (.getfield 38, 3) := by decide +kernel
theorem dX5_waits_17 : decode cX5_waits 17 = .ok (.iload_n 1, 1) := by decide +kernel
theorem dX5_waits_18 : decode cX5_waits 18 = .ok (.iaload, 1) := by decide +kernel
theorem dX5_waits_19 : decode cX5_waits 19 = .ok (.if_icmp .lt 7, 3) := by decide +kernel
theorem dX5_waits_22 : decode cX5_waits 22 = .ok (.iconst (-1), 1) := by decide +kernel
theorem dX5_waits_23 : decode cX5_waits 23 = .ok (.goto 14, 3) := by decide +kernel
theorem dX5_waits_26 : decode cX5_waits 26 = .ok (.aload_n 0, 1) := by decide +kernel
theorem dX5_waits_27 : decode cX5_waits 27 = .ok (.getfield 41, 3) := by decide +kernel
theorem dX5_waits_30 : decode cX5_waits 30 = .ok (.bipush 64, 2) := by decide +kernel
theorem dX5_waits_32 : decode cX5_waits 32 = .ok (.iload_n 1, 1) := by decide +kernel
theorem dX5_waits_33 : decode cX5_waits 33 = .ok (.imul, 1) := by decide +kernel
theorem dX5_waits_34 : decode cX5_waits 34 = .ok (.iload_n 2, 1) := by decide +kernel
theorem dX5_waits_35 : decode cX5_waits 35 = .ok (.iadd, 1) := by decide +kernel
theorem dX5_waits_36 : decode cX5_waits 36 = .ok (.iaload, 1) := by decide +kernel
theorem dX5_waits_37 : decode cX5_waits 37 = .ok (.ireturn, 1) := by decide +kernel
theorem dX5_entered_0 : decode cX5_entered 0 = .ok (.aload_n 0, 1) := by decide +kernel
theorem dX5_entered_1 : decode cX5_entered 1 = .ok (.getfield 69, 3) := by decide +kernel
theorem dX5_entered_4 : decode cX5_entered 4 = .ok (.ireturn, 1) := by decide +kernel
theorem dJ6_bitCount_0f7a4_0 : decode cJ6_bitCount_0f7a4 0 = .ok (.iload_n 0, 1) := by decide +kernel
theorem dJ6_bitCount_0f7a4_1 : decode cJ6_bitCount_0f7a4 1 = .ok (.iload_n 0, 1) := by decide +kernel
theorem dJ6_bitCount_0f7a4_2 : decode cJ6_bitCount_0f7a4 2 = .ok (.iconst 1, 1) := by decide +kernel
theorem dJ6_bitCount_0f7a4_3 : decode cJ6_bitCount_0f7a4 3 = .ok (.iushr, 1) := by decide +kernel
theorem dJ6_bitCount_0f7a4_4 : decode cJ6_bitCount_0f7a4 4 = .ok (.ldc_w 265, 3) := by decide +kernel
theorem dJ6_bitCount_0f7a4_7 : decode cJ6_bitCount_0f7a4 7 = .ok (.iand, 1) := by decide +kernel
theorem dJ6_bitCount_0f7a4_8 : decode cJ6_bitCount_0f7a4 8 = .ok (.isub, 1) := by decide +kernel
theorem dJ6_bitCount_0f7a4_9 : decode cJ6_bitCount_0f7a4 9 = .ok (.istore_n 0, 1) := by decide +kernel
theorem dJ6_bitCount_0f7a4_10 : decode cJ6_bitCount_0f7a4 10 = .ok (.iload_n 0, 1) := by decide +kernel
theorem dJ6_bitCount_0f7a4_11 : decode cJ6_bitCount_0f7a4 11 = .ok (.ldc_w 266, 3) := by decide +kernel
theorem dJ6_bitCount_0f7a4_14 : decode cJ6_bitCount_0f7a4 14 = .ok (.iand, 1) := by decide +kernel
theorem dJ6_bitCount_0f7a4_15 : decode cJ6_bitCount_0f7a4 15 = .ok (.iload_n 0, 1) := by decide +kernel
theorem dJ6_bitCount_0f7a4_16 : decode cJ6_bitCount_0f7a4 16 = .ok (.iconst 2, 1) := by decide +kernel
theorem dJ6_bitCount_0f7a4_17 : decode cJ6_bitCount_0f7a4 17 = .ok (.iushr, 1) := by decide +kernel
theorem dJ6_bitCount_0f7a4_18 : decode cJ6_bitCount_0f7a4 18 = .ok (.ldc_w 266, 3) := by decide +kernel
theorem dJ6_bitCount_0f7a4_21 : decode cJ6_bitCount_0f7a4 21 = .ok (.iand, 1) := by decide +kernel
theorem dJ6_bitCount_0f7a4_22 : decode cJ6_bitCount_0f7a4 22 = .ok (.iadd, 1) := by decide +kernel
theorem dJ6_bitCount_0f7a4_23 : decode cJ6_bitCount_0f7a4 23 = .ok (.istore_n 0, 1) := by decide +kernel
theorem dJ6_bitCount_0f7a4_24 : decode cJ6_bitCount_0f7a4 24 = .ok (.iload_n 0, 1) := by decide +kernel
theorem dJ6_bitCount_0f7a4_25 : decode cJ6_bitCount_0f7a4 25 = .ok (.iload_n 0, 1) := by decide +kernel
theorem dJ6_bitCount_0f7a4_26 : decode cJ6_bitCount_0f7a4 26 = .ok (.iconst 4, 1) := by decide +kernel
theorem dJ6_bitCount_0f7a4_27 : decode cJ6_bitCount_0f7a4 27 = .ok (.iushr, 1) := by decide +kernel
theorem dJ6_bitCount_0f7a4_28 : decode cJ6_bitCount_0f7a4 28 = .ok (.iadd, 1) := by decide +kernel
theorem dJ6_bitCount_0f7a4_29 : decode cJ6_bitCount_0f7a4 29 = .ok (.ldc_w 267, 3) := by decide +kernel
theorem dJ6_bitCount_0f7a4_32 : decode cJ6_bitCount_0f7a4 32 = .ok (.iand, 1) := by decide +kernel
theorem dJ6_bitCount_0f7a4_33 : decode cJ6_bitCount_0f7a4 33 = .ok (.istore_n 0, 1) := by decide +kernel
theorem dJ6_bitCount_0f7a4_34 : decode cJ6_bitCount_0f7a4 34 = .ok (.iload_n 0, 1) := by decide +kernel
theorem dJ6_bitCount_0f7a4_35 : decode cJ6_bitCount_0f7a4 35 = .ok (.iload_n 0, 1) := by decide +kernel
theorem dJ6_bitCount_0f7a4_36 : decode cJ6_bitCount_0f7a4 36 = .ok (.bipush 8, 2) := by decide +kernel
theorem dJ6_bitCount_0f7a4_38 : decode cJ6_bitCount_0f7a4 38 = .ok (.iushr, 1) := by decide +kernel
theorem dJ6_bitCount_0f7a4_39 : decode cJ6_bitCount_0f7a4 39 = .ok (.iadd, 1) := by decide +kernel
theorem dJ6_bitCount_0f7a4_40 : decode cJ6_bitCount_0f7a4 40 = .ok (.istore_n 0, 1) := by decide +kernel
theorem dJ6_bitCount_0f7a4_41 : decode cJ6_bitCount_0f7a4 41 = .ok (.iload_n 0, 1) := by decide +kernel
theorem dJ6_bitCount_0f7a4_42 : decode cJ6_bitCount_0f7a4 42 = .ok (.iload_n 0, 1) := by decide +kernel
theorem dJ6_bitCount_0f7a4_43 : decode cJ6_bitCount_0f7a4 43 = .ok (.bipush 16, 2) := by decide +kernel
theorem dJ6_bitCount_0f7a4_45 : decode cJ6_bitCount_0f7a4 45 = .ok (.iushr, 1) := by decide +kernel
theorem dJ6_bitCount_0f7a4_46 : decode cJ6_bitCount_0f7a4 46 = .ok (.iadd, 1) := by decide +kernel
theorem dJ6_bitCount_0f7a4_47 : decode cJ6_bitCount_0f7a4 47 = .ok (.istore_n 0, 1) := by decide +kernel
theorem dJ6_bitCount_0f7a4_48 : decode cJ6_bitCount_0f7a4 48 = .ok (.iload_n 0, 1) := by decide +kernel
theorem dJ6_bitCount_0f7a4_49 : decode cJ6_bitCount_0f7a4 49 = .ok (.bipush 63, 2) := by decide +kernel
theorem dJ6_bitCount_0f7a4_51 : decode cJ6_bitCount_0f7a4 51 = .ok (.iand, 1) := by decide +kernel
theorem dJ6_bitCount_0f7a4_52 : decode cJ6_bitCount_0f7a4 52 = .ok (.ireturn, 1) := by decide +kernel
theorem dJ9_max_7cf53_0 : decode cJ9_max_7cf53 0 = .ok (.iload_n 0, 1) := by decide +kernel
theorem dJ9_max_7cf53_1 : decode cJ9_max_7cf53 1 = .ok (.iload_n 1, 1) := by decide +kernel
theorem dJ9_max_7cf53_2 : decode cJ9_max_7cf53 2 = .ok (.if_icmp .lt 7, 3) := by decide +kernel
theorem dJ9_max_7cf53_5 : decode cJ9_max_7cf53 5 = .ok (.iload_n 0, 1) := by decide +kernel
theorem dJ9_max_7cf53_6 : decode cJ9_max_7cf53 6 = .ok (.goto 4, 3) := by decide +kernel
theorem dJ9_max_7cf53_9 : decode cJ9_max_7cf53 9 = .ok (.iload_n 1, 1) := by decide +kernel
theorem dJ9_max_7cf53_10 : decode cJ9_max_7cf53 10 = .ok (.ireturn, 1) := by decide +kernel
theorem dJ9_min_7cf53_0 : decode cJ9_min_7cf53 0 = .ok (.iload_n 0, 1) := by decide +kernel
theorem dJ9_min_7cf53_1 : decode cJ9_min_7cf53 1 = .ok (.iload_n 1, 1) := by decide +kernel
theorem dJ9_min_7cf53_2 : decode cJ9_min_7cf53 2 = .ok (.if_icmp .gt 7, 3) := by decide +kernel
theorem dJ9_min_7cf53_5 : decode cJ9_min_7cf53 5 = .ok (.iload_n 0, 1) := by decide +kernel
theorem dJ9_min_7cf53_6 : decode cJ9_min_7cf53 6 = .ok (.goto 4, 3) := by decide +kernel
theorem dJ9_min_7cf53_9 : decode cJ9_min_7cf53 9 = .ok (.iload_n 1, 1) := by decide +kernel
theorem dJ9_min_7cf53_10 : decode cJ9_min_7cf53 10 = .ok (.ireturn, 1) := by decide +kernel
