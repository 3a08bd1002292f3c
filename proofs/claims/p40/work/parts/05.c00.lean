theorem dX0_init_0 : decode cX0_init 0 = .ok (.aload_n 0, 1) := by decide +kernel
theorem dX0_init_1 : decode cX0_init 1 = .ok (.invokespecial 3, 3) := by decide +kernel
theorem dX0_init_4 : decode cX0_init 4 = .ok (.aload_n 0, 1) := by decide +kernel
theorem dX0_init_5 : decode cX0_init 5 = .ok (.bipush 10, 2) := by decide +kernel
theorem dX0_init_7 : decode cX0_init 7 = .ok (.newarray .int, 2) := by decide +kernel
theorem dX0_init_9 : decode cX0_init 9 = .ok (.putfield 9, 3) := by decide +kernel
theorem dX0_init_12 : decode cX0_init 12 = .ok (.aload_n 0, 1) := by decide +kernel
theorem dX0_init_13 : decode cX0_init 13 = .ok (.bipush 12, 2) := by decide +kernel
theorem dX0_init_15 : decode cX0_init 15 = .ok (.newarray .int, 2) := by decide +kernel
theorem dX0_init_17 : decode cX0_init 17 = .ok (.putfield 15, 3) := by decide +kernel
theorem dX0_init_20 : decode cX0_init 20 = .ok (.aload_n 0, 1) := by decide +kernel
theorem dX0_init_21 : decode cX0_init 21 = .ok (.bipush 10, 2) := by decide +kernel
theorem dX0_init_23 : decode cX0_init 23 = .ok (.newarray .int, 2) := by decide +kernel
theorem dX0_init_25 : decode cX0_init 25 = .ok (.putfield 18, 3) := by decide +kernel
theorem dX0_init_28 : decode cX0_init 28 = .ok (.aload_n 0, 1) := by decide +kernel
theorem dX0_init_29 : decode cX0_init 29 = .ok (.sipush 640, 3) := by decide +kernel
theorem dX0_init_32 : decode cX0_init 32 = .ok (.newarray .int, 2) := by decide +kernel
theorem dX0_init_34 : decode cX0_init 34 = .ok (.putfield 21, 3) := by decide +kernel
theorem dX0_init_37 : decode cX0_init 37 = .ok (.aload_n 0, 1) := by decide +kernel
theorem dX0_init_38 : decode cX0_init 38 = .ok (.sipush 2560, 3) := by decide +kernel
theorem dX0_init_41 : decode cX0_init 41 = .ok (.newarray .int, 2) := by decide +kernel
theorem dX0_init_43 : decode cX0_init 43 = .ok (.putfield 24, 3) := by decide +kernel
theorem dX0_init_46 : decode cX0_init 46 = .ok (.aload_n 0, 1) := by decide +kernel
theorem dX0_init_47 : decode cX0_init 47 = .ok (.sipush 2560, 3) := by decide +kernel
theorem dX0_init_50 : decode cX0_init 50 = .ok (.newarray .int, 2) := by decide +kernel
theorem dX0_init_52 : decode cX0_init 52 = .ok (.putfield 27, 3) := by decide +kernel
theorem dX0_init_55 : decode cX0_init 55 = .ok (.aload_n 0, 1) := by decide +kernel
theorem dX0_init_56 : decode cX0_init 56 = .ok (.sipush 2560, 3) := by decide +kernel
theorem dX0_init_59 : decode cX0_init 59 = .ok (.newarray .int, 2) := by decide +kernel
theorem dX0_init_61 : decode cX0_init 61 = .ok (.putfield 30, 3) := by decide +kernel
theorem dX0_init_64 : decode cX0_init 64 = .ok (.aload_n 0, 1) := by decide +kernel
theorem dX0_init_65 : decode cX0_init 65 = .ok (.sipush 2560, 3) := by decide +kernel
theorem dX0_init_68 : decode cX0_init 68 = .ok (.newarray .int, 2) := by decide +kernel
theorem dX0_init_70 : decode cX0_init 70 = .ok (.putfield 33, 3) := by decide +kernel
theorem dX0_init_73 : decode cX0_init 73 = .ok (.aload_n 0, 1) := by decide +kernel
theorem dX0_init_74 : decode cX0_init 74 = .ok (.sipush 2560, 3) := by decide +kernel
theorem dX0_init_77 : decode cX0_init 77 = .ok (.newarray .int, 2) := by decide +kernel
theorem dX0_init_79 : decode cX0_init 79 = .ok (.putfield 36, 3) := by decide +kernel
theorem dX0_init_82 : decode cX0_init 82 = .ok (.aload_n 0, 1) := by decide +kernel
theorem dX0_init_83 : decode cX0_init 83 = .ok (.sipush 2560, 3) := by decide +kernel
theorem dX0_init_86 : decode cX0_init 86 = .ok (.newarray .int, 2) := by decide +kernel
theorem dX0_init_88 : decode cX0_init 88 = .ok (.putfield 39, 3) := by decide +kernel
theorem dX0_init_91 : decode cX0_init 91 = .ok (.aload_n 0, 1) := by decide +kernel
theorem dX0_init_92 : decode cX0_init 92 = .ok (.sipush 2560, 3) := by decide +kernel
theorem dX0_init_95 : decode cX0_init 95 = .ok (.newarray .int, 2) := by decide +kernel
theorem dX0_init_97 : decode cX0_init 97 = .ok (.putfield 42, 3) := by decide +kernel
theorem dX0_init_100 : decode cX0_init 100 = .ok (.aload_n 0, 1) := by decide +kernel
theorem dX0_init_101 : decode cX0_init 101 = .ok (.sipush 2560, 3) := by decide +kernel
theorem dX0_init_104 : decode cX0_init 104 = .ok (.newarray .int, 2) := by decide +kernel
theorem dX0_init_106 : decode cX0_init 106 = .ok (.putfield 45, 3) := by decide +kernel
theorem dX0_init_109 : decode cX0_init 109 = .ok (.aload_n 0, 1) := by decide +kernel
theorem dX0_init_110 : decode cX0_init 110 = .ok (.sipush 1024, 3) := by decide +kernel
theorem dX0_init_113 : decode cX0_init 113 = .ok (.newarray .int, 2) := by decide +kernel
theorem dX0_init_115 : decode cX0_init 115 = .ok (.putfield 48, 3) := by decide +kernel
theorem dX0_init_118 : decode cX0_init 118 = .ok (.aload_n 0, 1) := by decide +kernel
theorem dX0_init_119 : decode cX0_init 119 = .ok (.iconst 2, 1) := by decide +kernel
theorem dX0_init_120 : decode cX0_init 120 = .ok (.putfield 51, 3) := by decide +kernel
theorem dX0_init_123 : decode cX0_init 123 = .ok (.iconst 0, 1) := by decide +kernel
theorem dX0_init_124 : decode cX0_init 124 = .ok (.istore_n 1, 1) := by decide +kernel
theorem dX0_init_125 : decode cX0_init 125 = .ok (.iload_n 1, 1) := by decide +kernel
theorem dX0_init_126 : decode cX0_init 126 = .ok (.bipush 10, 2) := by decide +kernel
theorem dX0_init_128 : decode cX0_init 128 = .ok (.if_icmp .ge 16, 3) := by decide +kernel
theorem dX0_init_131 : decode cX0_init 131 = .ok (.aload_n 0, 1) := by decide +kernel
theorem dX0_init_132 : decode cX0_init 132 = .ok (.getfield 9, 3) := by decide +kernel
theorem dX0_init_135 : decode cX0_init 135 = .ok (.iload_n 1, 1) := by decide +kernel
theorem dX0_init_136 : decode cX0_init 136 = .ok (.iload_n 1, 1) := by decide +kernel
theorem dX0_init_137 : decode cX0_init 137 = .ok (.iastore, 1) := by decide +kernel
theorem dX0_init_138 : decode cX0_init 138 = .ok (.iinc 1 1, 3) := by decide +kernel
theorem dX0_init_141 : decode cX0_init 141 = .ok (.goto (-16), 3) := by decide +kernel
theorem dX0_init_144 : decode cX0_init 144 = .ok (.iconst 2, 1) := by decide +kernel
theorem dX0_init_145 : decode cX0_init 145 = .ok (.istore_n 1, 1) := by decide +kernel
theorem dX0_init_146 : decode cX0_init 146 = .ok (.iload_n 1, 1) := by decide +kernel
theorem dX0_init_147 : decode cX0_init 147 = .ok (.sipush 2559, 3) := by decide +kernel
theorem dX0_init_150 : decode cX0_init 150 = .ok (.if_icmp .ge 18, 3) := by decide +kernel
theorem dX0_init_153 : decode cX0_init 153 = .ok (.aload_n 0, 1) := by decide +kernel
theorem dX0_init_154 : decode cX0_init 154 = .ok (.getfield 33, 3) := by decide +kernel
theorem dX0_init_157 : decode cX0_init 157 = .ok (.iload_n 1, 1) := by decide +kernel
theorem dX0_init_158 : decode cX0_init 158 = .ok (.iload_n 1, 1) := by decide +kernel
theorem dX0_init_159 : decode cX0_init 159 = .ok (.iconst 1, 1) := by decide +kernel
theorem dX0_init_160 : decode cX0_init 160 = .ok (.iadd, 1) := by decide +kernel
theorem dX0_init_161 : decode cX0_init 161 = .ok (.iastore, 1) := by decide +kernel
theorem dX0_init_162 : decode cX0_init 162 = .ok (.iinc 1 1, 3) := by decide +kernel
theorem dX0_init_165 : decode cX0_init 165 = .ok (.goto (-19), 3) := by decide +kernel
theorem dX0_init_168 : decode cX0_init 168 = .ok (.return_, 1) := by decide +kernel
theorem dX0_count_0 : decode cX0_count 0 = .ok (.aload_n 0, 1) := by decide +kernel
theorem dX0_count_1 : decode cX0_count 1 = .ok (.getfield 55, 3) := by decide +kernel
theorem dX0_count_4 : decode cX0_count 4 = .ok (.ireturn, 1) := by decide +kernel
set_option maxRecDepth 20000 in
theorem ggX0_countAt_X0_isLevel : GoodIn wsX0_countAt wsX0_isLevel := goodIn_r _ [5] (by decide +kernel) (by decide +kernel)
set_option maxRecDepth 20000 in
theorem gX0_countAt_X0_isLevel : GoodIn wsX0_countAt (va_wsS RX0 58 yX0_isLevel wsX0_isLevel) := goodIn_app (goodIn_of _ (by decide +kernel)) ggX0_countAt_X0_isLevel
theorem dX0_countAt_0 : decode cX0_countAt 0 = .ok (.iload_n 1, 1) := by decide +kernel
theorem dX0_countAt_1 : decode cX0_countAt 1 = .ok (.invokestatic 58, 3) := by decide +kernel
theorem dX0_countAt_4 : decode cX0_countAt 4 = .ok (.ifCond .eq 12, 3) := by decide +kernel
theorem dX0_countAt_7 : decode cX0_countAt 7 = .ok (.aload_n 0, 1) := by decide +kernel
theorem dX0_countAt_8 : decode cX0_countAt 8 = .ok (.getfield 18, 3) := by decide +kernel
theorem dX0_countAt_11 : decode cX0_countAt 11 = .ok (.iload_n 1, 1) := by decide +kernel
theorem dX0_countAt_12 : decode cX0_countAt 12 = .ok (.iaload, 1) := by decide +kernel
theorem dX0_countAt_13 : decode cX0_countAt 13 = .ok (.goto 4, 3) := by decide +kernel
theorem dX0_countAt_16 : decode cX0_countAt 16 = .ok (.iconst 0, 1) := by decide +kernel
theorem dX0_countAt_17 : decode cX0_countAt 17 = .ok (.ireturn, 1) := by decide +kernel
set_option maxRecDepth 20000 in
theorem ggX0_variableOf_X0_isLevel : GoodIn wsX0_variableOf wsX0_isLevel := goodIn_r _ [5] (by decide +kernel) (by decide +kernel)
set_option maxRecDepth 20000 in
theorem gX0_variableOf_X0_isLevel : GoodIn wsX0_variableOf (va_wsS RX0 58 yX0_isLevel wsX0_isLevel) := goodIn_app (goodIn_of _ (by decide +kernel)) ggX0_variableOf_X0_isLevel
theorem dX0_variableOf_0 : decode cX0_variableOf 0 = .ok (.iload_n 1, 1) := by decide +kernel
theorem dX0_variableOf_1 : decode cX0_variableOf 1 = .ok (.invokestatic 58, 3) := by decide +kernel
theorem dX0_variableOf_4 : decode cX0_variableOf 4 = .ok (.ifCond .eq 12, 3) := by decide +kernel
theorem dX0_variableOf_7 : decode cX0_variableOf 7 = .ok (.aload_n 0, 1) := by decide +kernel
theorem dX0_variableOf_8 : decode cX0_variableOf 8 = .ok (.getfield 9, 3) := by decide +kernel
theorem dX0_variableOf_11 : decode cX0_variableOf 11 = .ok (.iload_n 1, 1) := by decide +kernel
theorem dX0_variableOf_12 : decode cX0_variableOf 12 = .ok (.iaload, 1) := by decide +kernel
theorem dX0_variableOf_13 : decode cX0_variableOf 13 = .ok (.goto 4, 3) := by decide +kernel
theorem dX0_variableOf_16 : decode cX0_variableOf 16 = .ok (.iconst 0, 1) := by decide +kernel
theorem dX0_variableOf_17 : decode cX0_variableOf 17 = .ok (.ireturn, 1) := by decide +kernel
theorem dX0_levelOf_0 : decode cX0_levelOf 0 = .ok (.iconst 0, 1) := by decide +kernel
theorem dX0_levelOf_1 : decode cX0_levelOf 1 = .ok (.istore_n 2, 1) := by decide +kernel
theorem dX0_levelOf_2 : decode cX0_levelOf 2 = .ok (.iload_n 2, 1) := by decide +kernel
theorem dX0_levelOf_3 : decode cX0_levelOf 3 = .ok (.bipush 10, 2) := by decide +kernel
theorem dX0_levelOf_5 : decode cX0_levelOf 5 = .ok (.if_icmp .ge 21, 3) := by decide +kernel
theorem dX0_levelOf_8 : decode cX0_levelOf 8 = .ok (.aload_n 0, 1) := by decide +kernel
theorem dX0_levelOf_9 : decode cX0_levelOf 9 = .ok (.getfield 9, 3) := by decide +kernel
theorem dX0_levelOf_12 : decode cX0_levelOf 12 = .ok (.iload_n 2, 1) := by decide +kernel
theorem dX0_levelOf_13 : decode cX0_levelOf 13 = .ok (.iaload, 1) := by decide +kernel
theorem dX0_levelOf_14 : decode cX0_levelOf 14 = .ok (.iload_n 1, 1) := by decide +kernel
theorem dX0_levelOf_15 : decode cX0_levelOf 15 = .ok (.if_icmp .ne 5, 3) := by decide +kernel
theorem dX0_levelOf_18 : decode cX0_levelOf 18 = .ok (.iload_n 2, 1) := by decide +kernel
theorem dX0_levelOf_19 : decode cX0_levelOf 19 = .ok (.ireturn, 1) := by decide +kernel
theorem dX0_levelOf_20 : decode cX0_levelOf 20 = .ok (.iinc 2 1, 3) := by decide +kernel
theorem dX0_levelOf_23 : decode cX0_levelOf 23 = .ok (.goto (-21), 3) := by decide +kernel
theorem dX0_levelOf_26 : decode cX0_levelOf 26 = .ok (.iconst 0, 1) := by decide +kernel
theorem dX0_levelOf_27 : decode cX0_levelOf 27 = .ok (.ireturn, 1) := by decide +kernel
theorem dX0_isNode_0 : decode cX0_isNode 0 = .ok (.iload_n 0, 1) := by decide +kernel
theorem dX0_isNode_1 : decode cX0_isNode 1 = .ok (.iconst 2, 1) := by decide +kernel
theorem dX0_isNode_2 : decode cX0_isNode 2 = .ok (.if_icmp .lt 14, 3) := by decide +kernel
theorem dX0_isNode_5 : decode cX0_isNode 5 = .ok (.iload_n 0, 1) := by decide +kernel
theorem dX0_isNode_6 : decode cX0_isNode 6 = .ok (.sipush 2560, 3) := by decide +kernel
theorem dX0_isNode_9 : decode cX0_isNode 9 = .ok (.if_icmp .ge 7, 3) := by decide +kernel
theorem dX0_isNode_12 : decode cX0_isNode 12 = .ok (.iconst 1, 1) := by decide +kernel
theorem dX0_isNode_13 : decode cX0_isNode 13 = .ok (.goto 4, 3) := by decide +kernel
theorem dX0_isNode_16 : decode cX0_isNode 16 = .ok (.iconst 0, 1) := by decide +kernel
theorem dX0_isNode_17 : decode cX0_isNode 17 = .ok (.ireturn, 1) := by decide +kernel
theorem dX0_isLevel_0 : decode cX0_isLevel 0 = .ok (.iload_n 0, 1) := by decide +kernel
theorem dX0_isLevel_1 : decode cX0_isLevel 1 = .ok (.ifCond .lt 13, 3) := by decide +kernel
theorem dX0_isLevel_4 : decode cX0_isLevel 4 = .ok (.iload_n 0, 1) := by decide +kernel
theorem dX0_isLevel_5 : decode cX0_isLevel 5 = .ok (.bipush 10, 2) := by decide +kernel
theorem dX0_isLevel_7 : decode cX0_isLevel 7 = .ok (.if_icmp .ge 7, 3) := by decide +kernel
theorem dX0_isLevel_10 : decode cX0_isLevel 10 = .ok (.iconst 1, 1) := by decide +kernel
theorem dX0_isLevel_11 : decode cX0_isLevel 11 = .ok (.goto 4, 3) := by decide +kernel
theorem dX0_isLevel_14 : decode cX0_isLevel 14 = .ok (.iconst 0, 1) := by decide +kernel
theorem dX0_isLevel_15 : decode cX0_isLevel 15 = .ok (.ireturn, 1) := by decide +kernel
set_option maxRecDepth 20000 in
theorem ggX0_levelAt_X0_isNode : GoodIn wsX0_levelAt wsX0_isNode := goodIn_r _ [5] (by decide +kernel) (by decide +kernel)
set_option maxRecDepth 20000 in
theorem gX0_levelAt_X0_isNode : GoodIn wsX0_levelAt (va_wsS RX0 62 yX0_isNode wsX0_isNode) := goodIn_app (goodIn_of _ (by decide +kernel)) ggX0_levelAt_X0_isNode
theorem dX0_levelAt_0 : decode cX0_levelAt 0 = .ok (.iload_n 1, 1) := by decide +kernel
theorem dX0_levelAt_1 : decode cX0_levelAt 1 = .ok (.invokestatic 62, 3) := by decide +kernel
theorem dX0_levelAt_4 : decode cX0_levelAt 4 = .ok (.ifCond .eq 12, 3) := by decide +kernel
theorem dX0_levelAt_7 : decode cX0_levelAt 7 = .ok (.aload_n 0, 1) := by decide +kernel
theorem dX0_levelAt_8 : decode cX0_levelAt 8 = .ok (.getfield 24, 3) := by decide +kernel
theorem dX0_levelAt_11 : decode cX0_levelAt 11 = .ok (.iload_n 1, 1) := by decide +kernel
theorem dX0_levelAt_12 : decode cX0_levelAt 12 = .ok (.iaload, 1) := by decide +kernel
theorem dX0_levelAt_13 : decode cX0_levelAt 13 = .ok (.goto 5, 3) := by decide +kernel
theorem dX0_levelAt_16 : decode cX0_levelAt 16 = .ok (.bipush 10, 2) := by decide +kernel
theorem dX0_levelAt_18 : decode cX0_levelAt 18 = .ok (.ireturn, 1) := by decide +kernel
set_option maxRecDepth 20000 in
theorem ggX0_lowOf_X0_isNode : GoodIn wsX0_lowOf wsX0_isNode := goodIn_r _ [5] (by decide +kernel) (by decide +kernel)
set_option maxRecDepth 20000 in
theorem gX0_lowOf_X0_isNode : GoodIn wsX0_lowOf (va_wsS RX0 62 yX0_isNode wsX0_isNode) := goodIn_app (goodIn_of _ (by decide +kernel)) ggX0_lowOf_X0_isNode
theorem dX0_lowOf_0 : decode cX0_lowOf 0 = .ok (.iload_n 1, 1) := by decide +kernel
theorem dX0_lowOf_1 : decode cX0_lowOf 1 = .ok (.invokestatic 62, 3) := by decide +kernel
theorem dX0_lowOf_4 : decode cX0_lowOf 4 = .ok (.ifCond .eq 12, 3) := by decide +kernel
theorem dX0_lowOf_7 : decode cX0_lowOf 7 = .ok (.aload_n 0, 1) := by decide +kernel
theorem dX0_lowOf_8 : decode cX0_lowOf 8 = .ok (.getfield 27, 3) := by decide +kernel
theorem dX0_lowOf_11 : decode cX0_lowOf 11 = .ok (.iload_n 1, 1) := by decide +kernel
theorem dX0_lowOf_12 : decode cX0_lowOf 12 = .ok (.iaload, 1) := by decide +kernel
theorem dX0_lowOf_13 : decode cX0_lowOf 13 = .ok (.goto 4, 3) := by decide +kernel
theorem dX0_lowOf_16 : decode cX0_lowOf 16 = .ok (.iload_n 1, 1) := by decide +kernel
theorem dX0_lowOf_17 : decode cX0_lowOf 17 = .ok (.ireturn, 1) := by decide +kernel
set_option maxRecDepth 20000 in
theorem ggX0_highOf_X0_isNode : GoodIn wsX0_highOf wsX0_isNode := goodIn_r _ [5] (by decide +kernel) (by decide +kernel)
set_option maxRecDepth 20000 in
theorem gX0_highOf_X0_isNode : GoodIn wsX0_highOf (va_wsS RX0 62 yX0_isNode wsX0_isNode) := goodIn_app (goodIn_of _ (by decide +kernel)) ggX0_highOf_X0_isNode
theorem dX0_highOf_0 : decode cX0_highOf 0 = .ok (.iload_n 1, 1) := by decide +kernel
theorem dX0_highOf_1 : decode cX0_highOf 1 = .ok (.invokestatic 62, 3) := by decide +kernel
theorem dX0_highOf_4 : decode cX0_highOf 4 = .ok (.ifCond .eq 12, 3) := by decide +kernel
theorem dX0_highOf_7 : decode cX0_highOf 7 = .ok (.aload_n 0, 1) := by decide +kernel
theorem dX0_highOf_8 : decode cX0_highOf 8 = .ok (.getfield 30, 3) := by decide +kernel
theorem dX0_highOf_11 : decode cX0_highOf 11 = .ok (.iload_n 1, 1) := by decide +kernel
theorem dX0_highOf_12 : decode cX0_highOf 12 = .ok (.iaload, 1) := by decide +kernel
theorem dX0_highOf_13 : decode cX0_highOf 13 = .ok (.goto 4, 3) := by decide +kernel
theorem dX0_highOf_16 : decode cX0_highOf 16 = .ok (.iload_n 1, 1) := by decide +kernel
theorem dX0_highOf_17 : decode cX0_highOf 17 = .ok (.ireturn, 1) := by decide +kernel
theorem dX0_bucketOf_0 : decode cX0_bucketOf 0 = .ok (.iload_n 1, 1) := by decide +kernel
theorem dX0_bucketOf_1 : decode cX0_bucketOf 1 = .ok (.ldc 65, 2) := by decide +kernel
theorem dX0_bucketOf_3 : decode cX0_bucketOf 3 = .ok (.imul, 1) := by decide +kernel
theorem dX0_bucketOf_4 : decode cX0_bucketOf 4 = .ok (.iload_n 2, 1) := by decide +kernel
theorem dX0_bucketOf_5 : decode cX0_bucketOf 5 = .ok (.ldc 66, 2) := by decide +kernel
theorem dX0_bucketOf_7 : decode cX0_bucketOf 7 = .ok (.imul, 1) := by decide +kernel
theorem dX0_bucketOf_8 : decode cX0_bucketOf 8 = .ok (.iadd, 1) := by decide +kernel
theorem dX0_bucketOf_9 : decode cX0_bucketOf 9 = .ok (.istore_n 3, 1) := by decide +kernel
theorem dX0_bucketOf_10 : decode cX0_bucketOf 10 = .ok (.iload_n 0, 1) := by decide +kernel
theorem dX0_bucketOf_11 : decode cX0_bucketOf 11 = .ok (.bipush 64, 2) := by decide +kernel
theorem dX0_bucketOf_13 : decode cX0_bucketOf 13 = .ok (.imul, 1) := by decide +kernel
theorem dX0_bucketOf_14 : decode cX0_bucketOf 14 = .ok (.iload_n 3, 1) := by decide +kernel
theorem dX0_bucketOf_15 : decode cX0_bucketOf 15 = .ok (.bipush 20, 2) := by decide +kernel
theorem dX0_bucketOf_17 : decode cX0_bucketOf 17 = .ok (.iushr, 1) := by decide +kernel
theorem dX0_bucketOf_18 : decode cX0_bucketOf 18 = .ok (.bipush 63, 2) := by decide +kernel
theorem dX0_bucketOf_20 : decode cX0_bucketOf 20 = .ok (.iand, 1) := by decide +kernel
theorem dX0_bucketOf_21 : decode cX0_bucketOf 21 = .ok (.iadd, 1) := by decide +kernel
theorem dX0_bucketOf_22 : decode cX0_bucketOf 22 = .ok (.ireturn, 1) := by decide +kernel
set_option maxRecDepth 20000 in
theorem ggX0_link_X0_isNode : GoodIn wsX0_link wsX0_isNode := goodIn_r _ [11] (by decide +kernel) (by decide +kernel)
set_option maxRecDepth 20000 in
theorem gX0_link_X0_isNode : GoodIn wsX0_link (va_wsS RX0 62 yX0_isNode wsX0_isNode) := goodIn_app (goodIn_of _ (by decide +kernel)) ggX0_link_X0_isNode
set_option maxRecDepth 20000 in
theorem ggX0_link_X0_isLevel : GoodIn wsX0_link wsX0_isLevel := goodIn_r _ [14] (by decide +kernel) (by decide +kernel)
set_option maxRecDepth 20000 in
theorem gX0_link_X0_isLevel : GoodIn wsX0_link (va_wsS RX0 58 yX0_isLevel wsX0_isLevel) := goodIn_app (goodIn_of _ (by decide +kernel)) ggX0_link_X0_isLevel
set_option maxRecDepth 20000 in
theorem ggX0_link_X0_bucketOf : GoodIn wsX0_link wsX0_bucketOf := goodIn_r _ [17, 18, 19] (by decide +kernel) (by decide +kernel)
set_option maxRecDepth 20000 in
theorem gX0_link_X0_bucketOf : GoodIn wsX0_link (va_wsS RX0 67 yX0_bucketOf wsX0_bucketOf) := goodIn_app (goodIn_of _ (by decide +kernel)) ggX0_link_X0_bucketOf
theorem dX0_link_0 : decode cX0_link 0 = .ok (.iload_n 1, 1) := by decide +kernel
theorem dX0_link_1 : decode cX0_link 1 = .ok (.invokestatic 62, 3) := by decide +kernel
theorem dX0_link_4 : decode cX0_link 4 = .ok (.ifCond .eq 15, 3) := by decide +kernel
theorem dX0_link_7 : decode cX0_link 7 = .ok (.aload_n 0, 1) := by decide +kernel
theorem dX0_link_8 : decode cX0_link 8 = .ok (.getfield 24, 3) := by decide +kernel
theorem dX0_link_11 : decode cX0_link 11 = .ok (.iload_n 1, 1) := by decide +kernel
theorem dX0_link_12 : decode cX0_link 12 = .ok (.iaload, 1) := by decide +kernel
theorem dX0_link_13 : decode cX0_link 13 = .ok (.invokestatic 58, 3) := by decide +kernel
theorem dX0_link_16 : decode cX0_link 16 = .ok (.ifCond .ne 4, 3) := by decide +kernel
theorem dX0_link_19 : decode cX0_link 19 = .ok (.return_, 1) := by decide +kernel
theorem dX0_link_20 : decode cX0_link 20 = .ok (.aload_n 0, 1) := by decide +kernel
theorem dX0_link_21 : decode cX0_link 21 = .ok (.getfield 24, 3) := by decide +kernel
theorem dX0_link_24 : decode cX0_link 24 = .ok (.iload_n 1, 1) := by decide +kernel
theorem dX0_link_25 : decode cX0_link 25 = .ok (.iaload, 1) := by decide +kernel
theorem dX0_link_26 : decode cX0_link 26 = .ok (.aload_n 0, 1) := by decide +kernel
theorem dX0_link_27 : decode cX0_link 27 = .ok (.getfield 27, 3) := by decide +kernel
theorem dX0_link_30 : decode cX0_link 30 = .ok (.iload_n 1, 1) := by decide +kernel
theorem dX0_link_31 : decode cX0_link 31 = .ok (.iaload, 1) := by decide +kernel
theorem dX0_link_32 : decode cX0_link 32 = .ok (.aload_n 0, 1) := by decide +kernel
theorem dX0_link_33 : decode cX0_link 33 = .ok (.getfield 30, 3) := by decide +kernel
theorem dX0_link_36 : decode cX0_link 36 = .ok (.iload_n 1, 1) := by decide +kernel
theorem dX0_link_37 : decode cX0_link 37 = .ok (.iaload, 1) := by decide +kernel
theorem dX0_link_38 : decode cX0_link 38 = .ok (.invokestatic 67, 3) := by decide +kernel
theorem dX0_link_41 : decode cX0_link 41 = .ok (.istore_n 2, 1) := by decide +kernel
theorem dX0_link_42 : decode cX0_link 42 = .ok (.aload_n 0, 1) := by decide +kernel
theorem dX0_link_43 : decode cX0_link 43 = .ok (.getfield 33, 3) := by decide +kernel
theorem dX0_link_46 : decode cX0_link 46 = .ok (.iload_n 1, 1) := by decide +kernel
theorem dX0_link_47 : decode cX0_link 47 = .ok (.aload_n 0, 1) := by decide +kernel
theorem dX0_link_48 : decode cX0_link 48 = .ok (.getfield 21, 3) := by decide +kernel
theorem dX0_link_51 : decode cX0_link 51 = .ok (.iload_n 2, 1) := by decide +kernel
theorem dX0_link_52 : decode cX0_link 52 = .ok (.iaload, 1) := by decide +kernel
theorem dX0_link_53 : decode cX0_link 53 = .ok (.iastore, 1) := by decide +kernel
theorem dX0_link_54 : decode cX0_link 54 = .ok (.aload_n 0, 1) := by decide +kernel
theorem dX0_link_55 : decode cX0_link 55 = .ok (.getfield 21, 3) := by decide +kernel
theorem dX0_link_58 : decode cX0_link 58 = .ok (.iload_n 2, 1) := by decide +kernel
theorem dX0_link_59 : decode cX0_link 59 = .ok (.iload_n 1, 1) := by decide +kernel
theorem dX0_link_60 : decode cX0_link 60 = .ok (.iastore, 1) := by decide +kernel
theorem dX0_link_61 : decode cX0_link 61 = .ok (.aload_n 0, 1) := by decide +kernel
theorem dX0_link_62 : decode cX0_link 62 = .ok (.getfield 18, 3) := by decide +kernel
theorem dX0_link_65 : decode cX0_link 65 = .ok (.aload_n 0, 1) := by decide +kernel
theorem dX0_link_66 : decode cX0_link 66 = .ok (.getfield 24, 3) := by decide +kernel
theorem dX0_link_69 : decode cX0_link 69 = .ok (.iload_n 1, 1) := by decide +kernel
theorem dX0_link_70 : decode cX0_link 70 = .ok (.iaload, 1) := by decide +kernel
theorem dX0_link_71 : decode cX0_link 71 = .ok (.dup2, 1) := by decide +kernel
theorem dX0_link_72 : decode cX0_link 72 = .ok (.iaload, 1) := by decide +kernel
theorem dX0_link_73 : decode cX0_link 73 = .ok (.iconst 1, 1) := by decide +kernel
theorem dX0_link_74 : decode cX0_link 74 = .ok (.iadd, 1) := by decide +kernel
theorem dX0_link_75 : decode cX0_link 75 = .ok (.iastore, 1) := by decide +kernel
theorem dX0_link_76 : decode cX0_link 76 = .ok (.aload_n 0, 1) := by decide +kernel
theorem dX0_link_77 : decode cX0_link 77 = .ok (.dup, 1) := by decide +kernel
theorem dX0_link_78 : decode cX0_link 78 = .ok (.getfield 55, 3) := by decide +kernel
theorem dX0_link_81 : decode cX0_link 81 = .ok (.iconst 1, 1) := by decide +kernel
theorem dX0_link_82 : decode cX0_link 82 = .ok (.iadd, 1) := by decide +kernel
theorem dX0_link_83 : decode cX0_link 83 = .ok (.putfield 55, 3) := by decide +kernel
theorem dX0_link_86 : decode cX0_link 86 = .ok (.return_, 1) := by decide +kernel
set_option maxRecDepth 20000 in
theorem ggX0_unlink_X0_isNode : GoodIn wsX0_unlink wsX0_isNode := goodIn_r _ [11] (by decide +kernel) (by decide +kernel)
set_option maxRecDepth 20000 in
theorem gX0_unlink_X0_isNode : GoodIn wsX0_unlink (va_wsS RX0 62 yX0_isNode wsX0_isNode) := goodIn_app (goodIn_of _ (by decide +kernel)) ggX0_unlink_X0_isNode
set_option maxRecDepth 20000 in
theorem ggX0_unlink_X0_isLevel : GoodIn wsX0_unlink wsX0_isLevel := goodIn_r _ [14] (by decide +kernel) (by decide +kernel)
set_option maxRecDepth 20000 in
theorem gX0_unlink_X0_isLevel : GoodIn wsX0_unlink (va_wsS RX0 58 yX0_isLevel wsX0_isLevel) := goodIn_app (goodIn_of _ (by decide +kernel)) ggX0_unlink_X0_isLevel
set_option maxRecDepth 20000 in
theorem ggX0_unlink_X0_bucketOf : GoodIn wsX0_unlink wsX0_bucketOf := goodIn_r _ [17, 18, 19] (by decide +kernel) (by decide +kernel)
set_option maxRecDepth 20000 in
theorem gX0_unlink_X0_bucketOf : GoodIn wsX0_unlink (va_wsS RX0 67 yX0_bucketOf wsX0_bucketOf) := goodIn_app (goodIn_of _ (by decide +kernel)) ggX0_unlink_X0_bucketOf
theorem dX0_unlink_0 : decode cX0_unlink 0 = .ok (.iload_n 1, 1) := by decide +kernel
theorem dX0_unlink_1 : decode cX0_unlink 1 = .ok (.invokestatic 62, 3) := by decide +kernel
theorem dX0_unlink_4 : decode cX0_unlink 4 = .ok (.ifCond .eq 15, 3) := by decide +kernel
theorem dX0_unlink_7 : decode cX0_unlink 7 = .ok (.aload_n 0, 1) := by decide +kernel
theorem dX0_unlink_8 : decode cX0_unlink 8 = .ok (.getfield 24, 3) := by decide +kernel
theorem dX0_unlink_11 : decode cX0_unlink 11 = .ok (.iload_n 1, 1) := by decide +kernel
theorem dX0_unlink_12 : decode cX0_unlink 12 = .ok (.iaload, 1) := by decide +kernel
theorem dX0_unlink_13 : decode cX0_unlink 13 = .ok (.invokestatic 58, 3) := by decide +kernel
theorem dX0_unlink_16 : decode cX0_unlink 16 = .ok (.ifCond .ne 4, 3) := by decide +kernel
theorem dX0_unlink_19 : decode cX0_unlink 19 = .ok (.return_, 1) := by decide +kernel
theorem dX0_unlink_20 : decode cX0_unlink 20 = .ok (.aload_n 0, 1) := by decide +kernel
theorem dX0_unlink_21 : decode cX0_unlink 21 = .ok (.getfield 24, 3) := by decide +kernel
theorem dX0_unlink_24 : decode cX0_unlink 24 = .ok (.iload_n 1, 1) := by decide +kernel
theorem dX0_unlink_25 : decode cX0_unlink 25 = .ok (.iaload, 1) := by decide +kernel
theorem dX0_unlink_26 : decode cX0_unlink 26 = .ok (.aload_n 0, 1) := by decide +kernel
theorem dX0_unlink_27 : decode cX0_unlink 27 = .ok (.getfield 27, 3) := by decide +kernel
theorem dX0_unlink_30 : decode cX0_unlink 30 = .ok (.iload_n 1, 1) := by decide +kernel
theorem dX0_unlink_31 : decode cX0_unlink 31 = .ok (.iaload, 1) := by decide +kernel
theorem dX0_unlink_32 : decode cX0_unlink 32 = .ok (.aload_n 0, 1) := by decide +kernel
theorem dX0_unlink_33 : decode cX0_unlink 33 = .ok (.getfield 30, 3) := by decide +kernel
theorem dX0_unlink_36 : decode cX0_unlink 36 = .ok (.iload_n 1, 1) := by decide +kernel
theorem dX0_unlink_37 : decode cX0_unlink 37 = .ok (.iaload, 1) := by decide +kernel
theorem dX0_unlink_38 : decode cX0_unlink 38 = .ok (.invokestatic 67, 3) := by decide +kernel
theorem dX0_unlink_41 : decode cX0_unlink 41 = .ok (.istore_n 2, 1) := by decide +kernel
theorem dX0_unlink_42 : decode cX0_unlink 42 = .ok (.aload_n 0, 1) := by decide +kernel
theorem dX0_unlink_43 : decode cX0_unlink 43 = .ok (.getfield 21, 3) := by decide +kernel
theorem dX0_unlink_46 : decode cX0_unlink 46 = .ok (.iload_n 2, 1) := by decide +kernel
theorem dX0_unlink_47 : decode cX0_unlink 47 = .ok (.iaload, 1) := by decide +kernel
theorem dX0_unlink_48 : decode cX0_unlink 48 = .ok (.istore_n 3, 1) := by decide +kernel
theorem dX0_unlink_49 : decode cX0_unlink 49 = .ok (.iload_n 3, 1) := by decide +kernel
theorem dX0_unlink_50 : decode cX0_unlink 50 = .ok (.iload_n 1, 1) := by decide +kernel
theorem dX0_unlink_51 : decode cX0_unlink 51 = .ok (.if_icmp .ne 15, 3) := by decide +kernel
theorem dX0_unlink_54 : decode cX0_unlink 54 = .ok (.aload_n 0, 1) := by decide +kernel
theorem dX0_unlink_55 : decode cX0_unlink 55 = .ok (.getfield 21, 3) := by decide +kernel
theorem dX0_unlink_58 : decode cX0_unlink 58 = .ok (.iload_n 2, 1) := by decide +kernel
theorem dX0_unlink_59 : decode cX0_unlink 59 = .ok (.aload_n 0, 1) := by decide +kernel
theorem dX0_unlink_60 : decode cX0_unlink 60 = .ok (.getfield 33, 3) := by decide +kernel
theorem dX0_unlink_63 : decode cX0_unlink 63 = .ok (.iload_n 1, 1) := by decide +kernel
theorem dX0_unlink_64 : decode cX0_unlink 64 = .ok (.iaload, 1) := by decide +kernel
theorem dX0_unlink_65 : decode cX0_unlink 65 = .ok (.iastore, 1) := by decide +kernel
theorem dX0_unlink_66 : decode cX0_unlink 66 = .ok (.iconst 0, 1) := by decide +kernel
theorem dX0_unlink_67 : decode cX0_unlink 67 = .ok (.istore 4, 2) := by decide +kernel
theorem dX0_unlink_69 : decode cX0_unlink 69 = .ok (.iload 4, 2) := by decide +kernel
theorem dX0_unlink_71 : decode cX0_unlink 71 = .ok (.sipush 2560, 3) := by decide +kernel
theorem dX0_unlink_74 : decode cX0_unlink 74 = .ok (.if_icmp .ge 50, 3) := by decide +kernel
theorem dX0_unlink_77 : decode cX0_unlink 77 = .ok (.iload_n 3, 1) := by decide +kernel
theorem dX0_unlink_78 : decode cX0_unlink 78 = .ok (.invokestatic 62, 3) := by decide +kernel
theorem dX0_unlink_81 : decode cX0_unlink 81 = .ok (.ifCond .eq 43, 3) := by decide +kernel
theorem dX0_unlink_84 : decode cX0_unlink 84 = .ok (.iload_n 3, 1) := by decide +kernel
theorem dX0_unlink_85 : decode cX0_unlink 85 = .ok (.iload_n 1, 1) := by decide +kernel
theorem dX0_unlink_86 : decode cX0_unlink 86 = .ok (.if_icmp .eq 38, 3) := by decide +kernel
theorem dX0_unlink_89 : decode cX0_unlink 89 = .ok (.aload_n 0, 1) := by decide +kernel
theorem dX0_unlink_90 : decode cX0_unlink 90 = .ok (.getfield 33, 3) := by decide +kernel
theorem dX0_unlink_93 : decode cX0_unlink 93 = .ok (.iload_n 3, 1) := by decide +kernel
theorem dX0_unlink_94 : decode cX0_unlink 94 = .ok (.iaload, 1) := by decide +kernel
theorem dX0_unlink_95 : decode cX0_unlink 95 = .ok (.istore 5, 2) := by decide +kernel
theorem dX0_unlink_97 : decode cX0_unlink 97 = .ok (.iload 5, 2) := by decide +kernel
theorem dX0_unlink_99 : decode cX0_unlink 99 = .ok (.iload_n 1, 1) := by decide +kernel
theorem dX0_unlink_100 : decode cX0_unlink 100 = .ok (.if_icmp .ne 15, 3) := by decide +kernel
theorem dX0_unlink_103 : decode cX0_unlink 103 = .ok (.aload_n 0, 1) := by decide +kernel
theorem dX0_unlink_104 : decode cX0_unlink 104 = .ok (.getfield 33, 3) := by decide +kernel
theorem dX0_unlink_107 : decode cX0_unlink 107 = .ok (.iload_n 3, 1) := by decide +kernel
theorem dX0_unlink_108 : decode cX0_unlink 108 = .ok (.aload_n 0, 1) := by decide +kernel
theorem dX0_unlink_109 : decode cX0_unlink 109 = .ok (.getfield 33, 3) := by decide +kernel
theorem dX0_unlink_112 : decode cX0_unlink 112 = .ok (.iload_n 1, 1) := by decide +kernel
theorem dX0_unlink_113 : decode cX0_unlink 113 = .ok (.iaload, 1) := by decide +kernel
theorem dX0_unlink_114 : decode cX0_unlink 114 = .ok (.iastore, 1) := by decide +kernel
theorem dX0_unlink_115 : decode cX0_unlink 115 = .ok (.iload 5, 2) := by decide +kernel
theorem dX0_unlink_117 : decode cX0_unlink 117 = .ok (.istore_n 3, 1) := by decide +kernel
theorem dX0_unlink_118 : decode cX0_unlink 118 = .ok (.iinc 4 1, 3) := by decide +kernel
theorem dX0_unlink_121 : decode cX0_unlink 121 = .ok (.goto (-52), 3) := by decide +kernel
theorem dX0_unlink_124 : decode cX0_unlink 124 = .ok (.aload_n 0, 1) := by decide +kernel
theorem dX0_unlink_125 : decode cX0_unlink 125 = .ok (.getfield 18, 3) := by decide +kernel
theorem dX0_unlink_128 : decode cX0_unlink 128 = .ok (.aload_n 0, 1) := by decide +kernel
theorem dX0_unlink_129 : decode cX0_unlink 129 = .ok (.getfield 24, 3) := by decide +kernel
theorem dX0_unlink_132 : decode cX0_unlink 132 = .ok (.iload_n 1, 1) := by decide +kernel
theorem dX0_unlink_133 : decode cX0_unlink 133 = .ok (.iaload, 1) := by decide +kernel
theorem dX0_unlink_134 : decode cX0_unlink 134 = .ok (.dup2, 1) := by decide +kernel
theorem dX0_unlink_135 : decode cX0_unlink 135 = .ok (.iaload, 1) := by decide +kernel
theorem dX0_unlink_136 : decode cX0_unlink 136 = .ok (.iconst 1, 1) := by decide +kernel
theorem dX0_unlink_137 : decode cX0_unlink 137 = .ok (.isub, 1) := by decide +kernel
theorem dX0_unlink_138 : decode cX0_unlink 138 = .ok (.iastore, 1) := by decide +kernel
theorem dX0_unlink_139 : decode cX0_unlink 139 = .ok (.aload_n 0, 1) := by decide +kernel
theorem dX0_unlink_140 : decode cX0_unlink 140 = .ok (.dup, 1) := by decide +kernel
theorem dX0_unlink_141 : decode cX0_unlink 141 = .ok (.getfield 55, 3) := by decide +kernel
theorem dX0_unlink_144 : decode cX0_unlink 144 = .ok (.iconst 1, 1) := by decide +kernel
theorem dX0_unlink_145 : decode cX0_unlink 145 = .ok (.isub, 1) := by decide +kernel
theorem dX0_unlink_146 : decode cX0_unlink 146 = .ok (.putfield 55, 3) := by decide +kernel
theorem dX0_unlink_149 : decode cX0_unlink 149 = .ok (.return_, 1) := by decide +kernel
set_option maxRecDepth 20000 in
theorem ggX0_make_X0_isLevel : GoodIn wsX0_make wsX0_isLevel := goodIn_r _ [11] (by decide +kernel) (by decide +kernel)
set_option maxRecDepth 20000 in
theorem gX0_make_X0_isLevel : GoodIn wsX0_make (va_wsS RX0 58 yX0_isLevel wsX0_isLevel) := goodIn_app (goodIn_of _ (by decide +kernel)) ggX0_make_X0_isLevel
set_option maxRecDepth 20000 in
theorem ggX0_make_X0_bucketOf : GoodIn wsX0_make wsX0_bucketOf := goodIn_r _ [14, 15, 16] (by decide +kernel) (by decide +kernel)
set_option maxRecDepth 20000 in
theorem gX0_make_X0_bucketOf : GoodIn wsX0_make (va_wsS RX0 67 yX0_bucketOf wsX0_bucketOf) := goodIn_app (goodIn_of _ (by decide +kernel)) ggX0_make_X0_bucketOf
set_option maxRecDepth 20000 in
theorem ggX0_make_X0_isNode : GoodIn wsX0_make wsX0_isNode := goodIn_r _ [19] (by decide +kernel) (by decide +kernel)
set_option maxRecDepth 20000 in
theorem gX0_make_X0_isNode : GoodIn wsX0_make (va_wsS RX0 62 yX0_isNode wsX0_isNode) := goodIn_app (goodIn_of _ (by decide +kernel)) ggX0_make_X0_isNode
set_option maxRecDepth 20000 in
theorem ggX0_make_X0_link : GoodIn wsX0_make wsX0_link := goodIn_r _ [23, 6, 2, 3, 4, 1, 24, 25, 17, 18, 10, 19, 8, 9, 11, 12, 13, 14, 15, 16, 30, 31, 32, 33, 34, 35, 36, 37, 38, 39, 40, 41, 42, 43, 44, 45, 46] (by decide +kernel) (by decide +kernel)
set_option maxRecDepth 20000 in
theorem gX0_make_X0_link : GoodIn wsX0_make (wsV RX0 71 RX0 yX0_link wsX0_link) := goodIn_app (goodIn_of _ (by decide +kernel)) ggX0_make_X0_link
set_option maxRecDepth 20000 in
theorem ggX0_make_X0_point : GoodIn wsX0_make wsX0_point := goodIn_r _ [29, 7, 17, 18, 10, 19, 30, 31, 32, 33, 34, 35, 36, 37, 38, 39, 40, 41, 42, 43, 44, 45, 46] (by decide +kernel) (by decide +kernel)
set_option maxRecDepth 20000 in
theorem gX0_make_X0_point : GoodIn wsX0_make (wsV RX0 75 RX0 yX0_point wsX0_point) := goodIn_app (goodIn_of _ (by decide +kernel)) ggX0_make_X0_point
theorem dX0_make_0 : decode cX0_make 0 = .ok (.iload_n 2, 1) := by decide +kernel
theorem dX0_make_1 : decode cX0_make 1 = .ok (.iload_n 3, 1) := by decide +kernel
theorem dX0_make_2 : decode cX0_make 2 = .ok (.if_icmp .eq 10, 3) := by decide +kernel
theorem dX0_make_5 : decode cX0_make 5 = .ok (.iload_n 1, 1) := by decide +kernel
theorem dX0_make_6 : decode cX0_make 6 = .ok (.invokestatic 58, 3) := by decide +kernel
theorem dX0_make_9 : decode cX0_make 9 = .ok (.ifCond .ne 5, 3) := by decide +kernel
theorem dX0_make_12 : decode cX0_make 12 = .ok (.iload_n 2, 1) := by decide +kernel
theorem dX0_make_13 : decode cX0_make 13 = .ok (.ireturn, 1) := by decide +kernel
theorem dX0_make_14 : decode cX0_make 14 = .ok (.aload_n 0, 1) := by decide +kernel
theorem dX0_make_15 : decode cX0_make 15 = .ok (.getfield 21, 3) := by decide +kernel
theorem dX0_make_18 : decode cX0_make 18 = .ok (.iload_n 1, 1) := by decide +kernel
theorem dX0_make_19 : decode cX0_make 19 = .ok (.iload_n 2, 1) := by decide +kernel
theorem dX0_make_20 : decode cX0_make 20 = .ok (.iload_n 3, 1) := by decide +kernel
theorem dX0_make_21 : decode cX0_make 21 = .ok (.invokestatic 67, 3) := by decide +kernel
theorem dX0_make_24 : decode cX0_make 24 = .ok (.iaload, 1) := by decide +kernel
theorem dX0_make_25 : decode cX0_make 25 = .ok (.istore 4, 2) := by decide +kernel
theorem dX0_make_27 : decode cX0_make 27 = .ok (.iconst 0, 1) := by decide +kernel
theorem dX0_make_28 : decode cX0_make 28 = .ok (.istore 5, 2) := by decide +kernel
theorem dX0_make_30 : decode cX0_make 30 = .ok (.iload 5, 2) := by decide +kernel
theorem dX0_make_32 : decode cX0_make 32 = .ok (.sipush 2560, 3) := by decide +kernel
theorem dX0_make_35 : decode cX0_make 35 = .ok (.if_icmp .ge 51, 3) := by decide +kernel
theorem dX0_make_38 : decode cX0_make 38 = .ok (.iload 4, 2) := by decide +kernel
theorem dX0_make_40 : decode cX0_make 40 = .ok (.invokestatic 62, 3) := by decide +kernel
theorem dX0_make_43 : decode cX0_make 43 = .ok (.ifCond .eq 43, 3) := by decide +kernel
theorem dX0_make_46 : decode cX0_make 46 = .ok (.aload_n 0, 1) := by decide +kernel
theorem dX0_make_47 : decode cX0_make 47 = .ok (.getfield 27, 3) := by decide +kernel
theorem dX0_make_50 : decode cX0_make 50 = .ok (.iload 4, 2) := by decide +kernel
theorem dX0_make_52 : decode cX0_make 52 = .ok (.iaload, 1) := by decide +kernel
theorem dX0_make_53 : decode cX0_make 53 = .ok (.iload_n 2, 1) := by decide +kernel
theorem dX0_make_54 : decode cX0_make 54 = .ok (.if_icmp .ne 17, 3) := by decide +kernel
theorem dX0_make_57 : decode cX0_make 57 = .ok (.aload_n 0, 1) := by decide +kernel
theorem dX0_make_58 : decode cX0_make 58 = .ok (.getfield 30, 3) := by decide +kernel
theorem dX0_make_61 : decode cX0_make 61 = .ok (.iload 4, 2) := by decide +kernel
theorem dX0_make_63 : decode cX0_make 63 = .ok (.iaload, 1) := by decide +kernel
theorem dX0_make_64 : decode cX0_make 64 = .ok (.iload_n 3, 1) := by decide +kernel
theorem dX0_make_65 : decode cX0_make 65 = .ok (.if_icmp .ne 6, 3) := by decide +kernel
theorem dX0_make_68 : decode cX0_make 68 = .ok (.iload 4, 2) := by decide +kernel
theorem dX0_make_70 : decode cX0_make 70 = .ok (.ireturn, 1) := by decide +kernel
theorem dX0_make_71 : decode cX0_make 71 = .ok (.aload_n 0, 1) := by decide +kernel
theorem dX0_make_72 : decode cX0_make 72 = .ok (.getfield 33, 3) := by decide +kernel
theorem dX0_make_75 : decode cX0_make 75 = .ok (.iload 4, 2) := by decide +kernel
theorem dX0_make_77 : decode cX0_make 77 = .ok (.iaload, 1) := by decide +kernel
theorem dX0_make_78 : decode cX0_make 78 = .ok (.istore 4, 2) := by decide +kernel
theorem dX0_make_80 : decode cX0_make 80 = .ok (.iinc 5 1, 3) := by decide +kernel
theorem dX0_make_83 : decode cX0_make 83 = .ok (.goto (-53), 3) := by decide +kernel
theorem dX0_make_86 : decode cX0_make 86 = .ok (.aload_n 0, 1) := by decide +kernel
theorem dX0_make_87 : decode cX0_make 87 = .ok (.getfield 51, 3) := by decide +kernel
theorem dX0_make_90 : decode cX0_make 90 = .ok (.invokestatic 62, 3) := by decide +kernel
theorem dX0_make_93 : decode cX0_make 93 = .ok (.ifCond .ne 5, 3) := by decide +kernel
theorem dX0_make_96 : decode cX0_make 96 = .ok (.iconst 0, 1) := by decide +kernel
theorem dX0_make_97 : decode cX0_make 97 = .ok (.ireturn, 1) := by decide +kernel
theorem dX0_make_98 : decode cX0_make 98 = .ok (.aload_n 0, 1) := by decide +kernel
theorem dX0_make_99 : decode cX0_make 99 = .ok (.getfield 51, 3) := by decide +kernel
