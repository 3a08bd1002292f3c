theorem dX0_longestPath_22 : decode cX0_longestPath 22 = .ok (.istore_n 3, 1) := by decide +kernel
theorem dX0_longestPath_23 : decode cX0_longestPath 23 = .ok (.iload_n 3, 1) := by decide +kernel
theorem dX0_longestPath_24 : decode cX0_longestPath 24 = .ok (.iload_n 2, 1) := by decide +kernel
theorem dX0_longestPath_25 : decode cX0_longestPath 25 = .ok (.if_icmp .ge 48, 3) := by decide +kernel
theorem dX0_longestPath_28 : decode cX0_longestPath 28 = .ok (.aload_n 0, 1) := by decide +kernel
theorem dX0_longestPath_29 : decode cX0_longestPath 29 = .ok (.getfield 45, 3) := by decide +kernel
theorem dX0_longestPath_32 : decode cX0_longestPath 32 = .ok (.iload_n 3, 1) := by decide +kernel
theorem dX0_longestPath_33 : decode cX0_longestPath 33 = .ok (.iaload, 1) := by decide +kernel
theorem dX0_longestPath_34 : decode cX0_longestPath 34 = .ok (.istore 4, 2) := by decide +kernel
theorem dX0_longestPath_36 : decode cX0_longestPath 36 = .ok (.aload_n 0, 1) := by decide +kernel
theorem dX0_longestPath_37 : decode cX0_longestPath 37 = .ok (.iload 4, 2) := by decide +kernel
theorem dX0_longestPath_39 : decode cX0_longestPath 39 = .ok (.iconst 1, 1) := by decide +kernel
theorem dX0_longestPath_40 : decode cX0_longestPath 40 = .ok (.aload_n 0, 1) := by decide +kernel
theorem dX0_longestPath_41 : decode cX0_longestPath 41 = .ok (.aload_n 0, 1) := by decide +kernel
theorem dX0_longestPath_42 : decode cX0_longestPath 42 = .ok (.iload 4, 2) := by decide +kernel
theorem dX0_longestPath_44 : decode cX0_longestPath 44 = .ok (.invokevirtual 116, 3) := by decide +kernel
theorem dX0_longestPath_47 : decode cX0_longestPath 47 = .ok (.invokevirtual 119, 3) := by decide +kernel
theorem dX0_longestPath_50 : decode cX0_longestPath 50 = .ok (.aload_n 0, 1) := by decide +kernel
theorem dX0_longestPath_51 : decode cX0_longestPath 51 = .ok (.aload_n 0, 1) := by decide +kernel
theorem dX0_longestPath_52 : decode cX0_longestPath 52 = .ok (.iload 4, 2) := by decide +kernel
theorem dX0_longestPath_54 : decode cX0_longestPath 54 = .ok (.invokevirtual 122, 3) := by decide +kernel
theorem dX0_longestPath_57 : decode cX0_longestPath 57 = .ok (.invokevirtual 119, 3) := by decide +kernel
theorem dX0_longestPath_60 : decode cX0_longestPath 60 = .ok (.invokestatic 129, 3) := by decide +kernel
theorem dX0_longestPath_63 : decode cX0_longestPath 63 = .ok (.iadd, 1) := by decide +kernel
theorem dX0_longestPath_64 : decode cX0_longestPath 64 = .ok (.invokevirtual 125, 3) := by decide +kernel
theorem dX0_longestPath_67 : decode cX0_longestPath 67 = .ok (.iinc 3 1, 3) := by decide +kernel
theorem dX0_longestPath_70 : decode cX0_longestPath 70 = .ok (.goto (-47), 3) := by decide +kernel
theorem dX0_longestPath_73 : decode cX0_longestPath 73 = .ok (.aload_n 0, 1) := by decide +kernel
theorem dX0_longestPath_74 : decode cX0_longestPath 74 = .ok (.aload_n 0, 1) := by decide +kernel
theorem dX0_longestPath_75 : decode cX0_longestPath 75 = .ok (.getfield 15, 3) := by decide +kernel
theorem dX0_longestPath_78 : decode cX0_longestPath 78 = .ok (.iload_n 1, 1) := by decide +kernel
theorem dX0_longestPath_79 : decode cX0_longestPath 79 = .ok (.iaload, 1) := by decide +kernel
theorem dX0_longestPath_80 : decode cX0_longestPath 80 = .ok (.invokevirtual 119, 3) := by decide +kernel
theorem dX0_longestPath_83 : decode cX0_longestPath 83 = .ok (.ireturn, 1) := by decide +kernel
theorem dX0_valueOf_0 : decode cX0_valueOf 0 = .ok (.iload_n 1, 1) := by decide +kernel
theorem dX0_valueOf_1 : decode cX0_valueOf 1 = .ok (.ifCond .lt 19, 3) := by decide +kernel
theorem dX0_valueOf_4 : decode cX0_valueOf 4 = .ok (.iload_n 1, 1) := by decide +kernel
theorem dX0_valueOf_5 : decode cX0_valueOf 5 = .ok (.sipush 2560, 3) := by decide +kernel
theorem dX0_valueOf_8 : decode cX0_valueOf 8 = .ok (.if_icmp .ge 12, 3) := by decide +kernel
theorem dX0_valueOf_11 : decode cX0_valueOf 11 = .ok (.aload_n 0, 1) := by decide +kernel
theorem dX0_valueOf_12 : decode cX0_valueOf 12 = .ok (.getfield 42, 3) := by decide +kernel
theorem dX0_valueOf_15 : decode cX0_valueOf 15 = .ok (.iload_n 1, 1) := by decide +kernel
theorem dX0_valueOf_16 : decode cX0_valueOf 16 = .ok (.iaload, 1) := by decide +kernel
theorem dX0_valueOf_17 : decode cX0_valueOf 17 = .ok (.goto 4, 3) := by decide +kernel
theorem dX0_valueOf_20 : decode cX0_valueOf 20 = .ok (.iconst 0, 1) := by decide +kernel
theorem dX0_valueOf_21 : decode cX0_valueOf 21 = .ok (.ireturn, 1) := by decide +kernel
set_option maxRecDepth 20000 in
theorem ggX0_setValue_X0_isNode : GoodIn wsX0_setValue wsX0_isNode := goodIn_r _ [5] (by decide +kernel) (by decide +kernel)
set_option maxRecDepth 20000 in
theorem gX0_setValue_X0_isNode : GoodIn wsX0_setValue (va_wsS RX0 62 yX0_isNode wsX0_isNode) := goodIn_app (goodIn_of _ (by decide +kernel)) ggX0_setValue_X0_isNode
theorem dX0_setValue_0 : decode cX0_setValue 0 = .ok (.iload_n 1, 1) := by decide +kernel
theorem dX0_setValue_1 : decode cX0_setValue 1 = .ok (.invokestatic 62, 3) := by decide +kernel
theorem dX0_setValue_4 : decode cX0_setValue 4 = .ok (.ifCond .eq 10, 3) := by decide +kernel
theorem dX0_setValue_7 : decode cX0_setValue 7 = .ok (.aload_n 0, 1) := by decide +kernel
theorem dX0_setValue_8 : decode cX0_setValue 8 = .ok (.getfield 42, 3) := by decide +kernel
theorem dX0_setValue_11 : decode cX0_setValue 11 = .ok (.iload_n 1, 1) := by decide +kernel
theorem dX0_setValue_12 : decode cX0_setValue 12 = .ok (.iload_n 2, 1) := by decide +kernel
theorem dX0_setValue_13 : decode cX0_setValue 13 = .ok (.iastore, 1) := by decide +kernel
theorem dX0_setValue_14 : decode cX0_setValue 14 = .ok (.return_, 1) := by decide +kernel
set_option maxRecDepth 20000 in
theorem ggX0_exchangeAt_X0_takeAll : GoodIn wsX0_exchangeAt wsX0_takeAll := goodIn_r _ [7, 8, 1, 9, 10, 11, 12, 13, 6, 14, 75, 76, 77, 78, 79, 80, 81, 82, 83, 84, 85, 86, 87, 88, 89, 90, 91] (by decide +kernel) (by decide +kernel)
set_option maxRecDepth 20000 in
theorem gX0_exchangeAt_X0_takeAll : GoodIn wsX0_exchangeAt (wsV RX0 134 RX0 yX0_takeAll wsX0_takeAll) := goodIn_app (goodIn_of _ (by decide +kernel)) ggX0_exchangeAt_X0_takeAll
set_option maxRecDepth 20000 in
theorem ggX0_exchangeAt_X0_raise : GoodIn wsX0_exchangeAt wsX0_raise := goodIn_r _ [18, 19, 20, 12, 13, 6, 14, 21, 22, 23, 24, 25, 26, 9, 8, 11, 10, 27, 28, 29, 30, 31, 32, 33, 34, 75, 76, 77, 78, 79, 80, 81, 82, 83, 84, 85, 86, 87, 88, 89, 90, 91] (by decide +kernel) (by decide +kernel)
set_option maxRecDepth 20000 in
theorem gX0_exchangeAt_X0_raise : GoodIn wsX0_exchangeAt (wsV RX0 137 RX0 yX0_raise wsX0_raise) := goodIn_app (goodIn_of _ (by decide +kernel)) ggX0_exchangeAt_X0_raise
set_option maxRecDepth 20000 in
theorem ggX0_exchangeAt_X0_sinkIfFree : GoodIn wsX0_exchangeAt wsX0_sinkIfFree := goodIn_r _ [38, 19, 12, 13, 6, 14, 39, 40, 41, 42, 25, 43, 44, 45, 46, 47, 48, 49, 50, 26, 21, 22, 23, 24, 9, 8, 11, 10, 27, 28, 29, 30, 31, 32, 33, 34, 75, 76, 77, 78, 79, 80, 81, 82, 83, 84, 85, 86, 87, 88, 89, 90, 91] (by decide +kernel) (by decide +kernel)
set_option maxRecDepth 20000 in
theorem gX0_exchangeAt_X0_sinkIfFree : GoodIn wsX0_exchangeAt (wsV RX0 140 RX0 yX0_sinkIfFree wsX0_sinkIfFree) := goodIn_app (goodIn_of _ (by decide +kernel)) ggX0_exchangeAt_X0_sinkIfFree
set_option maxRecDepth 20000 in
theorem ggX0_exchangeAt_X0_levelAt : GoodIn wsX0_exchangeAt wsX0_levelAt := goodIn_r _ [46, 19, 12, 13, 6, 14, 75, 76, 77, 78, 79, 80, 81, 82, 83, 84, 85, 86, 87, 88, 89, 90, 91] (by decide +kernel) (by decide +kernel)
set_option maxRecDepth 20000 in
theorem gX0_exchangeAt_X0_levelAt : GoodIn wsX0_exchangeAt (wsV RX0 143 RX0 yX0_levelAt wsX0_levelAt) := goodIn_app (goodIn_of _ (by decide +kernel)) ggX0_exchangeAt_X0_levelAt
set_option maxRecDepth 20000 in
theorem ggX0_exchangeAt_X0_turn : GoodIn wsX0_exchangeAt wsX0_turn := goodIn_r _ [54, 25, 26, 12, 13, 6, 14, 39, 40, 41, 42, 47, 48, 49, 50, 55, 56, 57, 58, 43, 44, 45, 46, 19, 59, 60, 61, 62, 8, 9, 63, 20, 27, 28, 29, 30, 31, 32, 33, 34, 21, 22, 23, 24, 11, 10, 64, 65, 66, 67, 68, 69, 70, 71, 72, 73, 74, 75, 76, 77, 78, 79, 80, 81, 82, 83, 84, 85, 86, 87, 88, 89, 90, 91] (by decide +kernel) (by decide +kernel)
set_option maxRecDepth 20000 in
theorem gX0_exchangeAt_X0_turn : GoodIn wsX0_exchangeAt (wsV RX0 146 RX0 yX0_turn wsX0_turn) := goodIn_app (goodIn_of _ (by decide +kernel)) ggX0_exchangeAt_X0_turn
set_option maxRecDepth 20000 in
theorem ggX0_exchangeAt_X0_drop : GoodIn wsX0_exchangeAt wsX0_drop := goodIn_r _ [70, 20, 9, 63, 25, 26, 12, 13, 6, 14, 71, 72, 73, 74, 19, 8, 11, 10, 27, 28, 29, 30, 31, 32, 33, 34, 68, 69, 75, 76, 77, 78, 79, 80, 81, 82, 83, 84, 85, 86, 87, 88, 89, 90, 91] (by decide +kernel) (by decide +kernel)
set_option maxRecDepth 20000 in
theorem gX0_exchangeAt_X0_drop : GoodIn wsX0_exchangeAt (va_wsS RX0 81 yX0_drop wsX0_drop) := goodIn_app (goodIn_of _ (by decide +kernel)) ggX0_exchangeAt_X0_drop
theorem dX0_exchangeAt_0 : decode cX0_exchangeAt 0 = .ok (.iload_n 1, 1) := by decide +kernel
theorem dX0_exchangeAt_1 : decode cX0_exchangeAt 1 = .ok (.iconst 1, 1) := by decide +kernel
theorem dX0_exchangeAt_2 : decode cX0_exchangeAt 2 = .ok (.iadd, 1) := by decide +kernel
theorem dX0_exchangeAt_3 : decode cX0_exchangeAt 3 = .ok (.istore_n 2, 1) := by decide +kernel
theorem dX0_exchangeAt_4 : decode cX0_exchangeAt 4 = .ok (.iload_n 1, 1) := by decide +kernel
theorem dX0_exchangeAt_5 : decode cX0_exchangeAt 5 = .ok (.ifCond .lt 9, 3) := by decide +kernel
theorem dX0_exchangeAt_8 : decode cX0_exchangeAt 8 = .ok (.iload_n 2, 1) := by decide +kernel
theorem dX0_exchangeAt_9 : decode cX0_exchangeAt 9 = .ok (.bipush 10, 2) := by decide +kernel
theorem dX0_exchangeAt_11 : decode cX0_exchangeAt 11 = .ok (.if_icmp .lt 4, 3) := by decide +kernel
theorem dX0_exchangeAt_14 : decode cX0_exchangeAt 14 = .ok (.return_, 1) := by decide +kernel
theorem dX0_exchangeAt_15 : decode cX0_exchangeAt 15 = .ok (.aload_n 0, 1) := by decide +kernel
theorem dX0_exchangeAt_16 : decode cX0_exchangeAt 16 = .ok (.iload_n 1, 1) := by decide +kernel
theorem dX0_exchangeAt_17 : decode cX0_exchangeAt 17 = .ok (.iconst 0, 1) := by decide +kernel
theorem dX0_exchangeAt_18 : decode cX0_exchangeAt 18 = .ok (.invokevirtual 134, 3) := by decide +kernel
theorem dX0_exchangeAt_21 : decode cX0_exchangeAt 21 = .ok (.istore_n 3, 1) := by decide +kernel
theorem dX0_exchangeAt_22 : decode cX0_exchangeAt 22 = .ok (.aload_n 0, 1) := by decide +kernel
theorem dX0_exchangeAt_23 : decode cX0_exchangeAt 23 = .ok (.iload_n 2, 1) := by decide +kernel
theorem dX0_exchangeAt_24 : decode cX0_exchangeAt 24 = .ok (.iload_n 3, 1) := by decide +kernel
theorem dX0_exchangeAt_25 : decode cX0_exchangeAt 25 = .ok (.invokevirtual 134, 3) := by decide +kernel
theorem dX0_exchangeAt_28 : decode cX0_exchangeAt 28 = .ok (.istore 4, 2) := by decide +kernel
theorem dX0_exchangeAt_30 : decode cX0_exchangeAt 30 = .ok (.iload_n 3, 1) := by decide +kernel
theorem dX0_exchangeAt_31 : decode cX0_exchangeAt 31 = .ok (.istore 5, 2) := by decide +kernel
theorem dX0_exchangeAt_33 : decode cX0_exchangeAt 33 = .ok (.iload 5, 2) := by decide +kernel
theorem dX0_exchangeAt_35 : decode cX0_exchangeAt 35 = .ok (.iload 4, 2) := by decide +kernel
theorem dX0_exchangeAt_37 : decode cX0_exchangeAt 37 = .ok (.if_icmp .ge 21, 3) := by decide +kernel
theorem dX0_exchangeAt_40 : decode cX0_exchangeAt 40 = .ok (.aload_n 0, 1) := by decide +kernel
theorem dX0_exchangeAt_41 : decode cX0_exchangeAt 41 = .ok (.aload_n 0, 1) := by decide +kernel
theorem dX0_exchangeAt_42 : decode cX0_exchangeAt 42 = .ok (.getfield 45, 3) := by decide +kernel
theorem dX0_exchangeAt_45 : decode cX0_exchangeAt 45 = .ok (.iload 5, 2) := by decide +kernel
theorem dX0_exchangeAt_47 : decode cX0_exchangeAt 47 = .ok (.iaload, 1) := by decide +kernel
theorem dX0_exchangeAt_48 : decode cX0_exchangeAt 48 = .ok (.iload_n 1, 1) := by decide +kernel
theorem dX0_exchangeAt_49 : decode cX0_exchangeAt 49 = .ok (.invokevirtual 137, 3) := by decide +kernel
theorem dX0_exchangeAt_52 : decode cX0_exchangeAt 52 = .ok (.iinc 5 1, 3) := by decide +kernel
theorem dX0_exchangeAt_55 : decode cX0_exchangeAt 55 = .ok (.goto (-22), 3) := by decide +kernel
theorem dX0_exchangeAt_58 : decode cX0_exchangeAt 58 = .ok (.iconst 0, 1) := by decide +kernel
theorem dX0_exchangeAt_59 : decode cX0_exchangeAt 59 = .ok (.istore 5, 2) := by decide +kernel
theorem dX0_exchangeAt_61 : decode cX0_exchangeAt 61 = .ok (.iload 5, 2) := by decide +kernel
theorem dX0_exchangeAt_63 : decode cX0_exchangeAt 63 = .ok (.iload_n 3, 1) := by decide +kernel
theorem dX0_exchangeAt_64 : decode cX0_exchangeAt 64 = .ok (.if_icmp .ge 21, 3) := by decide +kernel
theorem dX0_exchangeAt_67 : decode cX0_exchangeAt 67 = .ok (.aload_n 0, 1) := by decide +kernel
theorem dX0_exchangeAt_68 : decode cX0_exchangeAt 68 = .ok (.aload_n 0, 1) := by decide +kernel
theorem dX0_exchangeAt_69 : decode cX0_exchangeAt 69 = .ok (.getfield 45, 3) := by decide +kernel
theorem dX0_exchangeAt_72 : decode cX0_exchangeAt 72 = .ok (.iload 5, 2) := by decide +kernel
theorem dX0_exchangeAt_74 : decode cX0_exchangeAt 74 = .ok (.iaload, 1) := by decide +kernel
theorem dX0_exchangeAt_75 : decode cX0_exchangeAt 75 = .ok (.iload_n 1, 1) := by decide +kernel
theorem dX0_exchangeAt_76 : decode cX0_exchangeAt 76 = .ok (.invokevirtual 140, 3) := by decide +kernel
theorem dX0_exchangeAt_79 : decode cX0_exchangeAt 79 = .ok (.iinc 5 1, 3) := by decide +kernel
theorem dX0_exchangeAt_82 : decode cX0_exchangeAt 82 = .ok (.goto (-21), 3) := by decide +kernel
theorem dX0_exchangeAt_85 : decode cX0_exchangeAt 85 = .ok (.iconst 0, 1) := by decide +kernel
theorem dX0_exchangeAt_86 : decode cX0_exchangeAt 86 = .ok (.istore 5, 2) := by decide +kernel
theorem dX0_exchangeAt_88 : decode cX0_exchangeAt 88 = .ok (.iload 5, 2) := by decide +kernel
theorem dX0_exchangeAt_90 : decode cX0_exchangeAt 90 = .ok (.iload_n 3, 1) := by decide +kernel
theorem dX0_exchangeAt_91 : decode cX0_exchangeAt 91 = .ok (.if_icmp .ge 36, 3) := by decide +kernel
theorem dX0_exchangeAt_94 : decode cX0_exchangeAt 94 = .ok (.aload_n 0, 1) := by decide +kernel
theorem dX0_exchangeAt_95 : decode cX0_exchangeAt 95 = .ok (.aload_n 0, 1) := by decide +kernel
theorem dX0_exchangeAt_96 : decode cX0_exchangeAt 96 = .ok (.getfield 45, 3) := by decide +kernel
theorem dX0_exchangeAt_99 : decode cX0_exchangeAt 99 = .ok (.iload 5, 2) := by decide +kernel
theorem dX0_exchangeAt_101 : decode cX0_exchangeAt 101 = .ok (.iaload, 1) := by decide +kernel
theorem dX0_exchangeAt_102 : decode cX0_exchangeAt 102 = .ok (.invokevirtual 143, 3) := by decide +kernel
theorem dX0_exchangeAt_105 : decode cX0_exchangeAt 105 = .ok (.iload_n 1, 1) := by decide +kernel
theorem dX0_exchangeAt_106 : decode cX0_exchangeAt 106 = .ok (.if_icmp .ne 15, 3) := by decide +kernel
theorem dX0_exchangeAt_109 : decode cX0_exchangeAt 109 = .ok (.aload_n 0, 1) := by decide +kernel
theorem dX0_exchangeAt_110 : decode cX0_exchangeAt 110 = .ok (.aload_n 0, 1) := by decide +kernel
theorem dX0_exchangeAt_111 : decode cX0_exchangeAt 111 = .ok (.getfield 45, 3) := by decide +kernel
theorem dX0_exchangeAt_114 : decode cX0_exchangeAt 114 = .ok (.iload 5, 2) := by decide +kernel
theorem dX0_exchangeAt_116 : decode cX0_exchangeAt 116 = .ok (.iaload, 1) := by decide +kernel
theorem dX0_exchangeAt_117 : decode cX0_exchangeAt 117 = .ok (.iload_n 1, 1) := by decide +kernel
theorem dX0_exchangeAt_118 : decode cX0_exchangeAt 118 = .ok (.invokevirtual 146, 3) := by decide +kernel
theorem dX0_exchangeAt_121 : decode cX0_exchangeAt 121 = .ok (.iinc 5 1, 3) := by decide +kernel
theorem dX0_exchangeAt_124 : decode cX0_exchangeAt 124 = .ok (.goto (-36), 3) := by decide +kernel
theorem dX0_exchangeAt_127 : decode cX0_exchangeAt 127 = .ok (.iload_n 3, 1) := by decide +kernel
theorem dX0_exchangeAt_128 : decode cX0_exchangeAt 128 = .ok (.istore 5, 2) := by decide +kernel
theorem dX0_exchangeAt_130 : decode cX0_exchangeAt 130 = .ok (.iload 5, 2) := by decide +kernel
theorem dX0_exchangeAt_132 : decode cX0_exchangeAt 132 = .ok (.iload 4, 2) := by decide +kernel
theorem dX0_exchangeAt_134 : decode cX0_exchangeAt 134 = .ok (.if_icmp .ge 21, 3) := by decide +kernel
theorem dX0_exchangeAt_137 : decode cX0_exchangeAt 137 = .ok (.aload_n 0, 1) := by decide +kernel
theorem dX0_exchangeAt_138 : decode cX0_exchangeAt 138 = .ok (.aload_n 0, 1) := by decide +kernel
theorem dX0_exchangeAt_139 : decode cX0_exchangeAt 139 = .ok (.getfield 45, 3) := by decide +kernel
theorem dX0_exchangeAt_142 : decode cX0_exchangeAt 142 = .ok (.iload 5, 2) := by decide +kernel
theorem dX0_exchangeAt_144 : decode cX0_exchangeAt 144 = .ok (.iaload, 1) := by decide +kernel
theorem dX0_exchangeAt_145 : decode cX0_exchangeAt 145 = .ok (.iconst 0, 1) := by decide +kernel
theorem dX0_exchangeAt_146 : decode cX0_exchangeAt 146 = .ok (.invokestatic 81, 3) := by decide +kernel
theorem dX0_exchangeAt_149 : decode cX0_exchangeAt 149 = .ok (.iinc 5 1, 3) := by decide +kernel
theorem dX0_exchangeAt_152 : decode cX0_exchangeAt 152 = .ok (.goto (-22), 3) := by decide +kernel
theorem dX0_exchangeAt_155 : decode cX0_exchangeAt 155 = .ok (.aload_n 0, 1) := by decide +kernel
theorem dX0_exchangeAt_156 : decode cX0_exchangeAt 156 = .ok (.getfield 9, 3) := by decide +kernel
theorem dX0_exchangeAt_159 : decode cX0_exchangeAt 159 = .ok (.iload_n 1, 1) := by decide +kernel
theorem dX0_exchangeAt_160 : decode cX0_exchangeAt 160 = .ok (.iaload, 1) := by decide +kernel
theorem dX0_exchangeAt_161 : decode cX0_exchangeAt 161 = .ok (.istore 5, 2) := by decide +kernel
theorem dX0_exchangeAt_163 : decode cX0_exchangeAt 163 = .ok (.aload_n 0, 1) := by decide +kernel
theorem dX0_exchangeAt_164 : decode cX0_exchangeAt 164 = .ok (.getfield 9, 3) := by decide +kernel
theorem dX0_exchangeAt_167 : decode cX0_exchangeAt 167 = .ok (.iload_n 1, 1) := by decide +kernel
theorem dX0_exchangeAt_168 : decode cX0_exchangeAt 168 = .ok (.aload_n 0, 1) := by decide +kernel
theorem dX0_exchangeAt_169 : decode cX0_exchangeAt 169 = .ok (.getfield 9, 3) := by decide +kernel
theorem dX0_exchangeAt_172 : decode cX0_exchangeAt 172 = .ok (.iload_n 2, 1) := by decide +kernel
theorem dX0_exchangeAt_173 : decode cX0_exchangeAt 173 = .ok (.iaload, 1) := by decide +kernel
theorem dX0_exchangeAt_174 : decode cX0_exchangeAt 174 = .ok (.iastore, 1) := by decide +kernel
theorem dX0_exchangeAt_175 : decode cX0_exchangeAt 175 = .ok (.aload_n 0, 1) := by decide +kernel
theorem dX0_exchangeAt_176 : decode cX0_exchangeAt 176 = .ok (.getfield 9, 3) := by decide +kernel
theorem dX0_exchangeAt_179 : decode cX0_exchangeAt 179 = .ok (.iload_n 2, 1) := by decide +kernel
theorem dX0_exchangeAt_180 : decode cX0_exchangeAt 180 = .ok (.iload 5, 2) := by decide +kernel
theorem dX0_exchangeAt_182 : decode cX0_exchangeAt 182 = .ok (.iastore, 1) := by decide +kernel
theorem dX0_exchangeAt_183 : decode cX0_exchangeAt 183 = .ok (.return_, 1) := by decide +kernel
set_option maxRecDepth 20000 in
theorem ggX0_takeAll_X0_isNode : GoodIn wsX0_takeAll wsX0_isNode := goodIn_r _ [9] (by decide +kernel) (by decide +kernel)
set_option maxRecDepth 20000 in
theorem gX0_takeAll_X0_isNode : GoodIn wsX0_takeAll (va_wsS RX0 62 yX0_isNode wsX0_isNode) := goodIn_app (goodIn_of _ (by decide +kernel)) ggX0_takeAll_X0_isNode
theorem dX0_takeAll_0 : decode cX0_takeAll 0 = .ok (.iload_n 2, 1) := by decide +kernel
theorem dX0_takeAll_1 : decode cX0_takeAll 1 = .ok (.istore_n 3, 1) := by decide +kernel
theorem dX0_takeAll_2 : decode cX0_takeAll 2 = .ok (.iload_n 1, 1) := by decide +kernel
theorem dX0_takeAll_3 : decode cX0_takeAll 3 = .ok (.bipush 64, 2) := by decide +kernel
theorem dX0_takeAll_5 : decode cX0_takeAll 5 = .ok (.imul, 1) := by decide +kernel
theorem dX0_takeAll_6 : decode cX0_takeAll 6 = .ok (.istore 4, 2) := by decide +kernel
theorem dX0_takeAll_8 : decode cX0_takeAll 8 = .ok (.iload 4, 2) := by decide +kernel
theorem dX0_takeAll_10 : decode cX0_takeAll 10 = .ok (.iload_n 1, 1) := by decide +kernel
theorem dX0_takeAll_11 : decode cX0_takeAll 11 = .ok (.iconst 1, 1) := by decide +kernel
theorem dX0_takeAll_12 : decode cX0_takeAll 12 = .ok (.iadd, 1) := by decide +kernel
theorem dX0_takeAll_13 : decode cX0_takeAll 13 = .ok (.bipush 64, 2) := by decide +kernel
theorem dX0_takeAll_15 : decode cX0_takeAll 15 = .ok (.imul, 1) := by decide +kernel
theorem dX0_takeAll_16 : decode cX0_takeAll 16 = .ok (.if_icmp .ge 78, 3) := by decide +kernel
theorem dX0_takeAll_19 : decode cX0_takeAll 19 = .ok (.aload_n 0, 1) := by decide +kernel
theorem dX0_takeAll_20 : decode cX0_takeAll 20 = .ok (.getfield 21, 3) := by decide +kernel
theorem dX0_takeAll_23 : decode cX0_takeAll 23 = .ok (.iload 4, 2) := by decide +kernel
theorem dX0_takeAll_25 : decode cX0_takeAll 25 = .ok (.iaload, 1) := by decide +kernel
theorem dX0_takeAll_26 : decode cX0_takeAll 26 = .ok (.istore 5, 2) := by decide +kernel
theorem dX0_takeAll_28 : decode cX0_takeAll 28 = .ok (.aload_n 0, 1) := by decide +kernel
theorem dX0_takeAll_29 : decode cX0_takeAll 29 = .ok (.getfield 21, 3) := by decide +kernel
theorem dX0_takeAll_32 : decode cX0_takeAll 32 = .ok (.iload 4, 2) := by decide +kernel
theorem dX0_takeAll_34 : decode cX0_takeAll 34 = .ok (.iconst 0, 1) := by decide +kernel
theorem dX0_takeAll_35 : decode cX0_takeAll 35 = .ok (.iastore, 1) := by decide +kernel
theorem dX0_takeAll_36 : decode cX0_takeAll 36 = .ok (.iconst 0, 1) := by decide +kernel
theorem dX0_takeAll_37 : decode cX0_takeAll 37 = .ok (.istore 6, 2) := by decide +kernel
theorem dX0_takeAll_39 : decode cX0_takeAll 39 = .ok (.iload 6, 2) := by decide +kernel
theorem dX0_takeAll_41 : decode cX0_takeAll 41 = .ok (.sipush 2560, 3) := by decide +kernel
theorem dX0_takeAll_44 : decode cX0_takeAll 44 = .ok (.if_icmp .ge 44, 3) := by decide +kernel
theorem dX0_takeAll_47 : decode cX0_takeAll 47 = .ok (.iload 5, 2) := by decide +kernel
theorem dX0_takeAll_49 : decode cX0_takeAll 49 = .ok (.invokestatic 62, 3) := by decide +kernel
theorem dX0_takeAll_52 : decode cX0_takeAll 52 = .ok (.ifCond .eq 36, 3) := by decide +kernel
theorem dX0_takeAll_55 : decode cX0_takeAll 55 = .ok (.iload_n 3, 1) := by decide +kernel
theorem dX0_takeAll_56 : decode cX0_takeAll 56 = .ok (.sipush 2560, 3) := by decide +kernel
theorem dX0_takeAll_59 : decode cX0_takeAll 59 = .ok (.if_icmp .ge 29, 3) := by decide +kernel
theorem dX0_takeAll_62 : decode cX0_takeAll 62 = .ok (.aload_n 0, 1) := by decide +kernel
theorem dX0_takeAll_63 : decode cX0_takeAll 63 = .ok (.getfield 45, 3) := by decide +kernel
theorem dX0_takeAll_66 : decode cX0_takeAll 66 = .ok (.iload_n 3, 1) := by decide +kernel
theorem dX0_takeAll_67 : decode cX0_takeAll 67 = .ok (.iload 5, 2) := by decide +kernel
theorem dX0_takeAll_69 : decode cX0_takeAll 69 = .ok (.iastore, 1) := by decide +kernel
theorem dX0_takeAll_70 : decode cX0_takeAll 70 = .ok (.iinc 3 1, 3) := by decide +kernel
theorem dX0_takeAll_73 : decode cX0_takeAll 73 = .ok (.aload_n 0, 1) := by decide +kernel
theorem dX0_takeAll_74 : decode cX0_takeAll 74 = .ok (.getfield 33, 3) := by decide +kernel
theorem dX0_takeAll_77 : decode cX0_takeAll 77 = .ok (.iload 5, 2) := by decide +kernel
theorem dX0_takeAll_79 : decode cX0_takeAll 79 = .ok (.iaload, 1) := by decide +kernel
theorem dX0_takeAll_80 : decode cX0_takeAll 80 = .ok (.istore 5, 2) := by decide +kernel
theorem dX0_takeAll_82 : decode cX0_takeAll 82 = .ok (.iinc 6 1, 3) := by decide +kernel
theorem dX0_takeAll_85 : decode cX0_takeAll 85 = .ok (.goto (-46), 3) := by decide +kernel
theorem dX0_takeAll_88 : decode cX0_takeAll 88 = .ok (.iinc 4 1, 3) := by decide +kernel
theorem dX0_takeAll_91 : decode cX0_takeAll 91 = .ok (.goto (-83), 3) := by decide +kernel
theorem dX0_takeAll_94 : decode cX0_takeAll 94 = .ok (.aload_n 0, 1) := by decide +kernel
theorem dX0_takeAll_95 : decode cX0_takeAll 95 = .ok (.dup, 1) := by decide +kernel
theorem dX0_takeAll_96 : decode cX0_takeAll 96 = .ok (.getfield 55, 3) := by decide +kernel
theorem dX0_takeAll_99 : decode cX0_takeAll 99 = .ok (.aload_n 0, 1) := by decide +kernel
theorem dX0_takeAll_100 : decode cX0_takeAll 100 = .ok (.getfield 18, 3) := by decide +kernel
theorem dX0_takeAll_103 : decode cX0_takeAll 103 = .ok (.iload_n 1, 1) := by decide +kernel
theorem dX0_takeAll_104 : decode cX0_takeAll 104 = .ok (.iaload, 1) := by decide +kernel
theorem dX0_takeAll_105 : decode cX0_takeAll 105 = .ok (.isub, 1) := by decide +kernel
theorem dX0_takeAll_106 : decode cX0_takeAll 106 = .ok (.putfield 55, 3) := by decide +kernel
theorem dX0_takeAll_109 : decode cX0_takeAll 109 = .ok (.aload_n 0, 1) := by decide +kernel
theorem dX0_takeAll_110 : decode cX0_takeAll 110 = .ok (.getfield 18, 3) := by decide +kernel
theorem dX0_takeAll_113 : decode cX0_takeAll 113 = .ok (.iload_n 1, 1) := by decide +kernel
theorem dX0_takeAll_114 : decode cX0_takeAll 114 = .ok (.iconst 0, 1) := by decide +kernel
theorem dX0_takeAll_115 : decode cX0_takeAll 115 = .ok (.iastore, 1) := by decide +kernel
theorem dX0_takeAll_116 : decode cX0_takeAll 116 = .ok (.iload_n 3, 1) := by decide +kernel
theorem dX0_takeAll_117 : decode cX0_takeAll 117 = .ok (.ireturn, 1) := by decide +kernel
set_option maxRecDepth 20000 in
theorem ggX0_raise_X0_isNode : GoodIn wsX0_raise wsX0_isNode := goodIn_r _ [6] (by decide +kernel) (by decide +kernel)
set_option maxRecDepth 20000 in
theorem gX0_raise_X0_isNode : GoodIn wsX0_raise (va_wsS RX0 62 yX0_isNode wsX0_isNode) := goodIn_app (goodIn_of _ (by decide +kernel)) ggX0_raise_X0_isNode
set_option maxRecDepth 20000 in
theorem ggX0_raise_X0_link : GoodIn wsX0_raise wsX0_link := goodIn_r _ [10, 1, 11, 12, 13, 14, 15, 16, 3, 4, 5, 6, 17, 18, 19, 20, 21, 22, 23, 24, 25, 26, 27, 28, 29, 30, 31, 32, 33, 34, 35, 36, 37, 38, 39, 40, 41] (by decide +kernel) (by decide +kernel)
set_option maxRecDepth 20000 in
theorem gX0_raise_X0_link : GoodIn wsX0_raise (wsV RX0 71 RX0 yX0_link wsX0_link) := goodIn_app (goodIn_of _ (by decide +kernel)) ggX0_raise_X0_link
theorem dX0_raise_0 : decode cX0_raise 0 = .ok (.iload_n 1, 1) := by decide +kernel
theorem dX0_raise_1 : decode cX0_raise 1 = .ok (.invokestatic 62, 3) := by decide +kernel
theorem dX0_raise_4 : decode cX0_raise 4 = .ok (.ifCond .ne 4, 3) := by decide +kernel
theorem dX0_raise_7 : decode cX0_raise 7 = .ok (.return_, 1) := by decide +kernel
theorem dX0_raise_8 : decode cX0_raise 8 = .ok (.aload_n 0, 1) := by decide +kernel
theorem dX0_raise_9 : decode cX0_raise 9 = .ok (.getfield 24, 3) := by decide +kernel
theorem dX0_raise_12 : decode cX0_raise 12 = .ok (.iload_n 1, 1) := by decide +kernel
theorem dX0_raise_13 : decode cX0_raise 13 = .ok (.iload_n 2, 1) := by decide +kernel
theorem dX0_raise_14 : decode cX0_raise 14 = .ok (.iastore, 1) := by decide +kernel
theorem dX0_raise_15 : decode cX0_raise 15 = .ok (.aload_n 0, 1) := by decide +kernel
theorem dX0_raise_16 : decode cX0_raise 16 = .ok (.getfield 36, 3) := by decide +kernel
theorem dX0_raise_19 : decode cX0_raise 19 = .ok (.iload_n 1, 1) := by decide +kernel
theorem dX0_raise_20 : decode cX0_raise 20 = .ok (.dup2, 1) := by decide +kernel
theorem dX0_raise_21 : decode cX0_raise 21 = .ok (.iaload, 1) := by decide +kernel
theorem dX0_raise_22 : decode cX0_raise 22 = .ok (.iconst 1, 1) := by decide +kernel
theorem dX0_raise_23 : decode cX0_raise 23 = .ok (.iadd, 1) := by decide +kernel
theorem dX0_raise_24 : decode cX0_raise 24 = .ok (.iastore, 1) := by decide +kernel
theorem dX0_raise_25 : decode cX0_raise 25 = .ok (.aload_n 0, 1) := by decide +kernel
theorem dX0_raise_26 : decode cX0_raise 26 = .ok (.iload_n 1, 1) := by decide +kernel
theorem dX0_raise_27 : decode cX0_raise 27 = .ok (.invokevirtual 71, 3) := by decide +kernel
theorem dX0_raise_30 : decode cX0_raise 30 = .ok (.return_, 1) := by decide +kernel
set_option maxRecDepth 20000 in
theorem ggX0_sinkIfFree_X0_isNode : GoodIn wsX0_sinkIfFree wsX0_isNode := goodIn_r _ [5] (by decide +kernel) (by decide +kernel)
set_option maxRecDepth 20000 in
theorem gX0_sinkIfFree_X0_isNode : GoodIn wsX0_sinkIfFree (va_wsS RX0 62 yX0_isNode wsX0_isNode) := goodIn_app (goodIn_of _ (by decide +kernel)) ggX0_sinkIfFree_X0_isNode
set_option maxRecDepth 20000 in
theorem ggX0_sinkIfFree_X0_lowOf : GoodIn wsX0_sinkIfFree wsX0_lowOf := goodIn_r _ [9, 10, 2, 3, 4, 5, 36, 37, 38, 39, 40, 41, 42, 43, 44, 45, 46, 47, 48, 49, 50, 51, 52] (by decide +kernel) (by decide +kernel)
set_option maxRecDepth 20000 in
theorem gX0_sinkIfFree_X0_lowOf : GoodIn wsX0_sinkIfFree (wsV RX0 116 RX0 yX0_lowOf wsX0_lowOf) := goodIn_app (goodIn_of _ (by decide +kernel)) ggX0_sinkIfFree_X0_lowOf
set_option maxRecDepth 20000 in
theorem ggX0_sinkIfFree_X0_levelAt : GoodIn wsX0_sinkIfFree wsX0_levelAt := goodIn_r _ [14, 1, 2, 3, 4, 5, 36, 37, 38, 39, 40, 41, 42, 43, 44, 45, 46, 47, 48, 49, 50, 51, 52] (by decide +kernel) (by decide +kernel)
set_option maxRecDepth 20000 in
theorem gX0_sinkIfFree_X0_levelAt : GoodIn wsX0_sinkIfFree (wsV RX0 143 RX0 yX0_levelAt wsX0_levelAt) := goodIn_app (goodIn_of _ (by decide +kernel)) ggX0_sinkIfFree_X0_levelAt
set_option maxRecDepth 20000 in
theorem ggX0_sinkIfFree_X0_highOf : GoodIn wsX0_sinkIfFree wsX0_highOf := goodIn_r _ [18, 19, 2, 3, 4, 5, 36, 37, 38, 39, 40, 41, 42, 43, 44, 45, 46, 47, 48, 49, 50, 51, 52] (by decide +kernel) (by decide +kernel)
set_option maxRecDepth 20000 in
theorem gX0_sinkIfFree_X0_highOf : GoodIn wsX0_sinkIfFree (wsV RX0 122 RX0 yX0_highOf wsX0_highOf) := goodIn_app (goodIn_of _ (by decide +kernel)) ggX0_sinkIfFree_X0_highOf
set_option maxRecDepth 20000 in
theorem ggX0_sinkIfFree_X0_link : GoodIn wsX0_sinkIfFree wsX0_link := goodIn_r _ [23, 1, 10, 19, 24, 25, 26, 27, 2, 3, 4, 5, 28, 29, 30, 31, 32, 33, 34, 35, 36, 37, 38, 39, 40, 41, 42, 43, 44, 45, 46, 47, 48, 49, 50, 51, 52] (by decide +kernel) (by decide +kernel)
set_option maxRecDepth 20000 in
theorem gX0_sinkIfFree_X0_link : GoodIn wsX0_sinkIfFree (wsV RX0 71 RX0 yX0_link wsX0_link) := goodIn_app (goodIn_of _ (by decide +kernel)) ggX0_sinkIfFree_X0_link
theorem dX0_sinkIfFree_0 : decode cX0_sinkIfFree 0 = .ok (.iload_n 1, 1) := by decide +kernel
theorem dX0_sinkIfFree_1 : decode cX0_sinkIfFree 1 = .ok (.invokestatic 62, 3) := by decide +kernel
theorem dX0_sinkIfFree_4 : decode cX0_sinkIfFree 4 = .ok (.ifCond .eq 43, 3) := by decide +kernel
theorem dX0_sinkIfFree_7 : decode cX0_sinkIfFree 7 = .ok (.aload_n 0, 1) := by decide +kernel
theorem dX0_sinkIfFree_8 : decode cX0_sinkIfFree 8 = .ok (.aload_n 0, 1) := by decide +kernel
theorem dX0_sinkIfFree_9 : decode cX0_sinkIfFree 9 = .ok (.iload_n 1, 1) := by decide +kernel
theorem dX0_sinkIfFree_10 : decode cX0_sinkIfFree 10 = .ok (.invokevirtual 116, 3) := by decide +kernel
theorem dX0_sinkIfFree_13 : decode cX0_sinkIfFree 13 = .ok (.invokevirtual 143, 3) := by decide +kernel
theorem dX0_sinkIfFree_16 : decode cX0_sinkIfFree 16 = .ok (.iload_n 2, 1) := by decide +kernel
theorem dX0_sinkIfFree_17 : decode cX0_sinkIfFree 17 = .ok (.if_icmp .eq 30, 3) := by decide +kernel
theorem dX0_sinkIfFree_20 : decode cX0_sinkIfFree 20 = .ok (.aload_n 0, 1) := by decide +kernel
theorem dX0_sinkIfFree_21 : decode cX0_sinkIfFree 21 = .ok (.aload_n 0, 1) := by decide +kernel
theorem dX0_sinkIfFree_22 : decode cX0_sinkIfFree 22 = .ok (.iload_n 1, 1) := by decide +kernel
theorem dX0_sinkIfFree_23 : decode cX0_sinkIfFree 23 = .ok (.invokevirtual 122, 3) := by decide +kernel
theorem dX0_sinkIfFree_26 : decode cX0_sinkIfFree 26 = .ok (.invokevirtual 143, 3) := by decide +kernel
theorem dX0_sinkIfFree_29 : decode cX0_sinkIfFree 29 = .ok (.iload_n 2, 1) := by decide +kernel
theorem dX0_sinkIfFree_30 : decode cX0_sinkIfFree 30 = .ok (.if_icmp .eq 17, 3) := by decide +kernel
theorem dX0_sinkIfFree_33 : decode cX0_sinkIfFree 33 = .ok (.aload_n 0, 1) := by decide +kernel
theorem dX0_sinkIfFree_34 : decode cX0_sinkIfFree 34 = .ok (.getfield 24, 3) := by decide +kernel
theorem dX0_sinkIfFree_37 : decode cX0_sinkIfFree 37 = .ok (.iload_n 1, 1) := by decide +kernel
theorem dX0_sinkIfFree_38 : decode cX0_sinkIfFree 38 = .ok (.iload_n 2, 1) := by decide +kernel
theorem dX0_sinkIfFree_39 : decode cX0_sinkIfFree 39 = .ok (.iconst 1, 1) := by decide +kernel
theorem dX0_sinkIfFree_40 : decode cX0_sinkIfFree 40 = .ok (.iadd, 1) := by decide +kernel
theorem dX0_sinkIfFree_41 : decode cX0_sinkIfFree 41 = .ok (.iastore, 1) := by decide +kernel
theorem dX0_sinkIfFree_42 : decode cX0_sinkIfFree 42 = .ok (.aload_n 0, 1) := by decide +kernel
theorem dX0_sinkIfFree_43 : decode cX0_sinkIfFree 43 = .ok (.iload_n 1, 1) := by decide +kernel
theorem dX0_sinkIfFree_44 : decode cX0_sinkIfFree 44 = .ok (.invokevirtual 71, 3) := by decide +kernel
theorem dX0_sinkIfFree_47 : decode cX0_sinkIfFree 47 = .ok (.return_, 1) := by decide +kernel
set_option maxRecDepth 20000 in
theorem ggX0_turn_X0_isNode : GoodIn wsX0_turn wsX0_isNode := goodIn_r _ [6] (by decide +kernel) (by decide +kernel)
set_option maxRecDepth 20000 in
theorem gX0_turn_X0_isNode : GoodIn wsX0_turn (va_wsS RX0 62 yX0_isNode wsX0_isNode) := goodIn_app (goodIn_of _ (by decide +kernel)) ggX0_turn_X0_isNode
set_option maxRecDepth 20000 in
theorem ggX0_turn_X0_lowOf : GoodIn wsX0_turn wsX0_lowOf := goodIn_r _ [10, 1, 3, 4, 5, 6, 57, 58, 59, 60, 61, 62, 63, 64, 65, 66, 67, 68, 69, 70, 71, 72, 73] (by decide +kernel) (by decide +kernel)
set_option maxRecDepth 20000 in
theorem gX0_turn_X0_lowOf : GoodIn wsX0_turn (wsV RX0 116 RX0 yX0_lowOf wsX0_lowOf) := goodIn_app (goodIn_of _ (by decide +kernel)) ggX0_turn_X0_lowOf
set_option maxRecDepth 20000 in
theorem ggX0_turn_X0_highOf : GoodIn wsX0_turn wsX0_highOf := goodIn_r _ [14, 2, 3, 4, 5, 6, 57, 58, 59, 60, 61, 62, 63, 64, 65, 66, 67, 68, 69, 70, 71, 72, 73] (by decide +kernel) (by decide +kernel)
set_option maxRecDepth 20000 in
theorem gX0_turn_X0_highOf : GoodIn wsX0_turn (wsV RX0 122 RX0 yX0_highOf wsX0_highOf) := goodIn_app (goodIn_of _ (by decide +kernel)) ggX0_turn_X0_highOf
set_option maxRecDepth 20000 in
theorem ggX0_turn_X0_half : GoodIn wsX0_turn wsX0_half := goodIn_r _ [18, 19, 20, 21, 5, 22, 23, 3, 4, 6, 11, 12, 13, 14, 2, 7, 8, 9, 10, 1, 57, 58, 59, 60, 61, 62, 63, 64, 65, 66, 67, 68, 69, 70, 71, 72, 73] (by decide +kernel) (by decide +kernel)
set_option maxRecDepth 20000 in
theorem gX0_turn_X0_half : GoodIn wsX0_turn (wsV RX0 149 RX0 yX0_half wsX0_half) := goodIn_app (goodIn_of _ (by decide +kernel)) ggX0_turn_X0_half
set_option maxRecDepth 20000 in
theorem ggX0_turn_X0_make : GoodIn wsX0_turn wsX0_make := goodIn_r _ [27, 28, 1, 2, 29, 30, 23, 31, 32, 33, 5, 34, 35, 36, 37, 38, 39, 3, 4, 6, 40, 41, 42, 43, 44, 45, 46, 47, 48, 49, 57, 58, 59, 60, 61, 62, 63, 64, 65, 66, 67, 68, 69, 70, 71, 72, 73] (by decide +kernel) (by decide +kernel)
set_option maxRecDepth 20000 in
theorem gX0_turn_X0_make : GoodIn wsX0_turn (wsV RX0 100 RX0 yX0_make wsX0_make) := goodIn_app (goodIn_of _ (by decide +kernel)) ggX0_turn_X0_make
set_option maxRecDepth 20000 in
theorem ggX0_turn_X0_point : GoodIn wsX0_turn wsX0_point := goodIn_r _ [49, 31, 3, 4, 5, 6, 57, 58, 59, 60, 61, 62, 63, 64, 65, 66, 67, 68, 69, 70, 71, 72, 73] (by decide +kernel) (by decide +kernel)
set_option maxRecDepth 20000 in
theorem gX0_turn_X0_point : GoodIn wsX0_turn (wsV RX0 75 RX0 yX0_point wsX0_point) := goodIn_app (goodIn_of _ (by decide +kernel)) ggX0_turn_X0_point
set_option maxRecDepth 20000 in
theorem ggX0_turn_X0_link : GoodIn wsX0_turn wsX0_link := goodIn_r _ [43, 23, 1, 2, 29, 28, 44, 45, 3, 4, 5, 6, 32, 33, 34, 35, 36, 37, 38, 39, 57, 58, 59, 60, 61, 62, 63, 64, 65, 66, 67, 68, 69, 70, 71, 72, 73] (by decide +kernel) (by decide +kernel)
set_option maxRecDepth 20000 in
theorem gX0_turn_X0_link : GoodIn wsX0_turn (wsV RX0 71 RX0 yX0_link wsX0_link) := goodIn_app (goodIn_of _ (by decide +kernel)) ggX0_turn_X0_link
set_option maxRecDepth 20000 in
theorem ggX0_turn_X0_drop : GoodIn wsX0_turn wsX0_drop := goodIn_r _ [52, 31, 29, 30, 1, 2, 3, 4, 5, 6, 53, 54, 55, 56, 23, 28, 44, 45, 32, 33, 34, 35, 36, 37, 38, 39, 50, 51, 57, 58, 59, 60, 61, 62, 63, 64, 65, 66, 67, 68, 69, 70, 71, 72, 73] (by decide +kernel) (by decide +kernel)
set_option maxRecDepth 20000 in
theorem gX0_turn_X0_drop : GoodIn wsX0_turn (va_wsS RX0 81 yX0_drop wsX0_drop) := goodIn_app (goodIn_of _ (by decide +kernel)) ggX0_turn_X0_drop
theorem dX0_turn_0 : decode cX0_turn 0 = .ok (.iload_n 1, 1) := by decide +kernel
theorem dX0_turn_1 : decode cX0_turn 1 = .ok (.invokestatic 62, 3) := by decide +kernel
theorem dX0_turn_4 : decode cX0_turn 4 = .ok (.ifCond .ne 4, 3) := by decide +kernel
theorem dX0_turn_7 : decode cX0_turn 7 = .ok (.return_, 1) := by decide +kernel
theorem dX0_turn_8 : decode cX0_turn 8 = .ok (.aload_n 0, 1) := by decide +kernel
theorem dX0_turn_9 : decode cX0_turn 9 = .ok (.iload_n 1, 1) := by decide +kernel
theorem dX0_turn_10 : decode cX0_turn 10 = .ok (.invokevirtual 116, 3) := by decide +kernel
theorem dX0_turn_13 : decode cX0_turn 13 = .ok (.istore_n 3, 1) := by decide +kernel
theorem dX0_turn_14 : decode cX0_turn 14 = .ok (.aload_n 0, 1) := by decide +kernel
theorem dX0_turn_15 : decode cX0_turn 15 = .ok (.iload_n 1, 1) := by decide +kernel
theorem dX0_turn_16 : decode cX0_turn 16 = .ok (.invokevirtual 122, 3) := by decide +kernel
theorem dX0_turn_19 : decode cX0_turn 19 = .ok (.istore 4, 2) := by decide +kernel
theorem dX0_turn_21 : decode cX0_turn 21 = .ok (.aload_n 0, 1) := by decide +kernel
theorem dX0_turn_22 : decode cX0_turn 22 = .ok (.iload_n 2, 1) := by decide +kernel
theorem dX0_turn_23 : decode cX0_turn 23 = .ok (.iconst 1, 1) := by decide +kernel
theorem dX0_turn_24 : decode cX0_turn 24 = .ok (.iadd, 1) := by decide +kernel
theorem dX0_turn_25 : decode cX0_turn 25 = .ok (.aload_n 0, 1) := by decide +kernel
theorem dX0_turn_26 : decode cX0_turn 26 = .ok (.iload_n 3, 1) := by decide +kernel
theorem dX0_turn_27 : decode cX0_turn 27 = .ok (.iload_n 2, 1) := by decide +kernel
theorem dX0_turn_28 : decode cX0_turn 28 = .ok (.iconst 0, 1) := by decide +kernel
theorem dX0_turn_29 : decode cX0_turn 29 = .ok (.invokevirtual 149, 3) := by decide +kernel
theorem dX0_turn_32 : decode cX0_turn 32 = .ok (.aload_n 0, 1) := by decide +kernel
theorem dX0_turn_33 : decode cX0_turn 33 = .ok (.iload 4, 2) := by decide +kernel
theorem dX0_turn_35 : decode cX0_turn 35 = .ok (.iload_n 2, 1) := by decide +kernel
theorem dX0_turn_36 : decode cX0_turn 36 = .ok (.iconst 0, 1) := by decide +kernel
theorem dX0_turn_37 : decode cX0_turn 37 = .ok (.invokevirtual 149, 3) := by decide +kernel
theorem dX0_turn_40 : decode cX0_turn 40 = .ok (.invokevirtual 100, 3) := by decide +kernel
theorem dX0_turn_43 : decode cX0_turn 43 = .ok (.istore 5, 2) := by decide +kernel
theorem dX0_turn_45 : decode cX0_turn 45 = .ok (.aload_n 0, 1) := by decide +kernel
theorem dX0_turn_46 : decode cX0_turn 46 = .ok (.iload_n 2, 1) := by decide +kernel
theorem dX0_turn_47 : decode cX0_turn 47 = .ok (.iconst 1, 1) := by decide +kernel
theorem dX0_turn_48 : decode cX0_turn 48 = .ok (.iadd, 1) := by decide +kernel
theorem dX0_turn_49 : decode cX0_turn 49 = .ok (.aload_n 0, 1) := by decide +kernel
theorem dX0_turn_50 : decode cX0_turn 50 = .ok (.iload_n 3, 1) := by decide +kernel
theorem dX0_turn_51 : decode cX0_turn 51 = .ok (.iload_n 2, 1) := by decide +kernel
theorem dX0_turn_52 : decode cX0_turn 52 = .ok (.iconst 1, 1) := by decide +kernel
theorem dX0_turn_53 : decode cX0_turn 53 = .ok (.invokevirtual 149, 3) := by decide +kernel
theorem dX0_turn_56 : decode cX0_turn 56 = .ok (.aload_n 0, 1) := by decide +kernel
theorem dX0_turn_57 : decode cX0_turn 57 = .ok (.iload 4, 2) := by decide +kernel
theorem dX0_turn_59 : decode cX0_turn 59 = .ok (.iload_n 2, 1) := by decide +kernel
theorem dX0_turn_60 : decode cX0_turn 60 = .ok (.iconst 1, 1) := by decide +kernel
theorem dX0_turn_61 : decode cX0_turn 61 = .ok (.invokevirtual 149, 3) := by decide +kernel
theorem dX0_turn_64 : decode cX0_turn 64 = .ok (.invokevirtual 100, 3) := by decide +kernel
theorem dX0_turn_67 : decode cX0_turn 67 = .ok (.istore 6, 2) := by decide +kernel
theorem dX0_turn_69 : decode cX0_turn 69 = .ok (.aload_n 0, 1) := by decide +kernel
theorem dX0_turn_70 : decode cX0_turn 70 = .ok (.iload 5, 2) := by decide +kernel
theorem dX0_turn_72 : decode cX0_turn 72 = .ok (.invokevirtual 75, 3) := by decide +kernel
theorem dX0_turn_75 : decode cX0_turn 75 = .ok (.aload_n 0, 1) := by decide +kernel
theorem dX0_turn_76 : decode cX0_turn 76 = .ok (.iload 6, 2) := by decide +kernel
theorem dX0_turn_78 : decode cX0_turn 78 = .ok (.invokevirtual 75, 3) := by decide +kernel
theorem dX0_turn_81 : decode cX0_turn 81 = .ok (.aload_n 0, 1) := by decide +kernel
theorem dX0_turn_82 : decode cX0_turn 82 = .ok (.getfield 27, 3) := by decide +kernel
theorem dX0_turn_85 : decode cX0_turn 85 = .ok (.iload_n 1, 1) := by decide +kernel
theorem dX0_turn_86 : decode cX0_turn 86 = .ok (.iload 5, 2) := by decide +kernel
theorem dX0_turn_88 : decode cX0_turn 88 = .ok (.iastore, 1) := by decide +kernel
theorem dX0_turn_89 : decode cX0_turn 89 = .ok (.aload_n 0, 1) := by decide +kernel
theorem dX0_turn_90 : decode cX0_turn 90 = .ok (.getfield 30, 3) := by decide +kernel
theorem dX0_turn_93 : decode cX0_turn 93 = .ok (.iload_n 1, 1) := by decide +kernel
theorem dX0_turn_94 : decode cX0_turn 94 = .ok (.iload 6, 2) := by decide +kernel
theorem dX0_turn_96 : decode cX0_turn 96 = .ok (.iastore, 1) := by decide +kernel
theorem dX0_turn_97 : decode cX0_turn 97 = .ok (.aload_n 0, 1) := by decide +kernel
theorem dX0_turn_98 : decode cX0_turn 98 = .ok (.iload_n 1, 1) := by decide +kernel
theorem dX0_turn_99 : decode cX0_turn 99 = .ok (.invokevirtual 71, 3) := by decide +kernel
theorem dX0_turn_102 : decode cX0_turn 102 = .ok (.aload_n 0, 1) := by decide +kernel
theorem dX0_turn_103 : decode cX0_turn 103 = .ok (.iload_n 3, 1) := by decide +kernel
theorem dX0_turn_104 : decode cX0_turn 104 = .ok (.iconst 0, 1) := by decide +kernel
theorem dX0_turn_105 : decode cX0_turn 105 = .ok (.invokestatic 81, 3) := by decide +kernel
theorem dX0_turn_108 : decode cX0_turn 108 = .ok (.aload_n 0, 1) := by decide +kernel
theorem dX0_turn_109 : decode cX0_turn 109 = .ok (.iload 4, 2) := by decide +kernel
theorem dX0_turn_111 : decode cX0_turn 111 = .ok (.iconst 0, 1) := by decide +kernel
theorem dX0_turn_112 : decode cX0_turn 112 = .ok (.invokestatic 81, 3) := by decide +kernel
theorem dX0_turn_115 : decode cX0_turn 115 = .ok (.return_, 1) := by decide +kernel
set_option maxRecDepth 20000 in
theorem ggX0_half_X0_levelAt : GoodIn wsX0_half wsX0_levelAt := goodIn_r _ [5, 6, 7, 8, 4, 9, 20, 21, 22, 23, 24, 25, 26, 27, 28, 29, 30, 31, 32, 33, 34, 35, 36] (by decide +kernel) (by decide +kernel)
set_option maxRecDepth 20000 in
theorem gX0_half_X0_levelAt : GoodIn wsX0_half (wsV RX0 143 RX0 yX0_levelAt wsX0_levelAt) := goodIn_app (goodIn_of _ (by decide +kernel)) ggX0_half_X0_levelAt
set_option maxRecDepth 20000 in
theorem ggX0_half_X0_highOf : GoodIn wsX0_half wsX0_highOf := goodIn_r _ [13, 14, 7, 8, 4, 9, 20, 21, 22, 23, 24, 25, 26, 27, 28, 29, 30, 31, 32, 33, 34, 35, 36] (by decide +kernel) (by decide +kernel)
set_option maxRecDepth 20000 in
theorem gX0_half_X0_highOf : GoodIn wsX0_half (wsV RX0 122 RX0 yX0_highOf wsX0_highOf) := goodIn_app (goodIn_of _ (by decide +kernel)) ggX0_half_X0_highOf
set_option maxRecDepth 20000 in
theorem ggX0_half_X0_lowOf : GoodIn wsX0_half wsX0_lowOf := goodIn_r _ [18, 19, 7, 8, 4, 9, 20, 21, 22, 23, 24, 25, 26, 27, 28, 29, 30, 31, 32, 33, 34, 35, 36] (by decide +kernel) (by decide +kernel)
set_option maxRecDepth 20000 in
theorem gX0_half_X0_lowOf : GoodIn wsX0_half (wsV RX0 116 RX0 yX0_lowOf wsX0_lowOf) := goodIn_app (goodIn_of _ (by decide +kernel)) ggX0_half_X0_lowOf
theorem dX0_half_0 : decode cX0_half 0 = .ok (.aload_n 0, 1) := by decide +kernel
theorem dX0_half_1 : decode cX0_half 1 = .ok (.iload_n 1, 1) := by decide +kernel
theorem dX0_half_2 : decode cX0_half 2 = .ok (.invokevirtual 143, 3) := by decide +kernel
theorem dX0_half_5 : decode cX0_half 5 = .ok (.iload_n 2, 1) := by decide +kernel
theorem dX0_half_6 : decode cX0_half 6 = .ok (.if_icmp .eq 5, 3) := by decide +kernel
theorem dX0_half_9 : decode cX0_half 9 = .ok (.iload_n 1, 1) := by decide +kernel
theorem dX0_half_10 : decode cX0_half 10 = .ok (.ireturn, 1) := by decide +kernel
theorem dX0_half_11 : decode cX0_half 11 = .ok (.iload_n 3, 1) := by decide +kernel
theorem dX0_half_12 : decode cX0_half 12 = .ok (.ifCond .eq 11, 3) := by decide +kernel
theorem dX0_half_15 : decode cX0_half 15 = .ok (.aload_n 0, 1) := by decide +kernel
theorem dX0_half_16 : decode cX0_half 16 = .ok (.iload_n 1, 1) := by decide +kernel
theorem dX0_half_17 : decode cX0_half 17 = .ok (.invokevirtual 122, 3) := by decide +kernel
theorem dX0_half_20 : decode cX0_half 20 = .ok (.goto 8, 3) := by decide +kernel
theorem dX0_half_23 : decode cX0_half 23 = .ok (.aload_n 0, 1) := by decide +kernel
theorem dX0_half_24 : decode cX0_half 24 = .ok (.iload_n 1, 1) := by decide +kernel
theorem dX0_half_25 : decode cX0_half 25 = .ok (.invokevirtual 116, 3) := by decide +kernel
theorem dX0_half_28 : decode cX0_half 28 = .ok (.ireturn, 1) := by decide +kernel
set_option maxRecDepth 20000 in
theorem ggX0_lift_X0_levelOf : GoodIn wsX0_lift wsX0_levelOf := goodIn_r _ [5, 6, 83, 84, 85, 86, 87, 88, 89, 90, 91, 92, 93, 94, 95, 96, 97, 98, 99] (by decide +kernel) (by decide +kernel)
set_option maxRecDepth 20000 in
theorem gX0_lift_X0_levelOf : GoodIn wsX0_lift (wsV RX0 153 RX0 yX0_levelOf wsX0_levelOf) := goodIn_app (goodIn_of _ (by decide +kernel)) ggX0_lift_X0_levelOf
set_option maxRecDepth 20000 in
theorem ggX0_lift_X0_exchangeAt : GoodIn wsX0_lift wsX0_exchangeAt := goodIn_r _ [10, 11, 6, 12, 13, 14, 4, 15, 16, 17, 18, 19, 20, 21, 22, 23, 24, 25, 26, 27, 28, 29, 30, 31, 32, 33, 34, 35, 36, 37, 38, 39, 40, 41, 42, 43, 44, 45, 46, 47, 48, 49, 50, 51, 52, 53, 54, 55, 56, 57, 58, 59, 60, 61, 62, 63, 64, 65, 66, 67, 68, 69, 70, 71, 72, 73, 74, 75, 76, 77, 78, 79, 80, 81, 82, 83, 84, 85, 86, 87, 88, 89, 90, 91, 92, 93, 94, 95, 96, 97, 98, 99] (by decide +kernel) (by decide +kernel)
set_option maxRecDepth 20000 in
theorem gX0_lift_X0_exchangeAt : GoodIn wsX0_lift (wsV RX0 156 RX0 yX0_exchangeAt wsX0_exchangeAt) := goodIn_app (goodIn_of _ (by decide +kernel)) ggX0_lift_X0_exchangeAt
theorem dX0_lift_0 : decode cX0_lift 0 = .ok (.aload_n 0, 1) := by decide +kernel
theorem dX0_lift_1 : decode cX0_lift 1 = .ok (.iload_n 1, 1) := by decide +kernel
theorem dX0_lift_2 : decode cX0_lift 2 = .ok (.invokevirtual 153, 3) := by decide +kernel
