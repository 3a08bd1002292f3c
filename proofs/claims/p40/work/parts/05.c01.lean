theorem dX0_make_102 : decode cX0_make 102 = .ok (.istore 4, 2) := by decide +kernel
theorem dX0_make_104 : decode cX0_make 104 = .ok (.aload_n 0, 1) := by decide +kernel
theorem dX0_make_105 : decode cX0_make 105 = .ok (.aload_n 0, 1) := by decide +kernel
theorem dX0_make_106 : decode cX0_make 106 = .ok (.getfield 33, 3) := by decide +kernel
theorem dX0_make_109 : decode cX0_make 109 = .ok (.iload 4, 2) := by decide +kernel
theorem dX0_make_111 : decode cX0_make 111 = .ok (.iaload, 1) := by decide +kernel
theorem dX0_make_112 : decode cX0_make 112 = .ok (.putfield 51, 3) := by decide +kernel
theorem dX0_make_115 : decode cX0_make 115 = .ok (.aload_n 0, 1) := by decide +kernel
theorem dX0_make_116 : decode cX0_make 116 = .ok (.getfield 24, 3) := by decide +kernel
theorem dX0_make_119 : decode cX0_make 119 = .ok (.iload 4, 2) := by decide +kernel
theorem dX0_make_121 : decode cX0_make 121 = .ok (.iload_n 1, 1) := by decide +kernel
theorem dX0_make_122 : decode cX0_make 122 = .ok (.iastore, 1) := by decide +kernel
theorem dX0_make_123 : decode cX0_make 123 = .ok (.aload_n 0, 1) := by decide +kernel
theorem dX0_make_124 : decode cX0_make 124 = .ok (.getfield 27, 3) := by decide +kernel
theorem dX0_make_127 : decode cX0_make 127 = .ok (.iload 4, 2) := by decide +kernel
theorem dX0_make_129 : decode cX0_make 129 = .ok (.iload_n 2, 1) := by decide +kernel
theorem dX0_make_130 : decode cX0_make 130 = .ok (.iastore, 1) := by decide +kernel
theorem dX0_make_131 : decode cX0_make 131 = .ok (.aload_n 0, 1) := by decide +kernel
theorem dX0_make_132 : decode cX0_make 132 = .ok (.getfield 30, 3) := by decide +kernel
theorem dX0_make_135 : decode cX0_make 135 = .ok (.iload 4, 2) := by decide +kernel
theorem dX0_make_137 : decode cX0_make 137 = .ok (.iload_n 3, 1) := by decide +kernel
theorem dX0_make_138 : decode cX0_make 138 = .ok (.iastore, 1) := by decide +kernel
theorem dX0_make_139 : decode cX0_make 139 = .ok (.aload_n 0, 1) := by decide +kernel
theorem dX0_make_140 : decode cX0_make 140 = .ok (.getfield 36, 3) := by decide +kernel
theorem dX0_make_143 : decode cX0_make 143 = .ok (.iload 4, 2) := by decide +kernel
theorem dX0_make_145 : decode cX0_make 145 = .ok (.iconst 0, 1) := by decide +kernel
theorem dX0_make_146 : decode cX0_make 146 = .ok (.iastore, 1) := by decide +kernel
theorem dX0_make_147 : decode cX0_make 147 = .ok (.aload_n 0, 1) := by decide +kernel
theorem dX0_make_148 : decode cX0_make 148 = .ok (.iload 4, 2) := by decide +kernel
theorem dX0_make_150 : decode cX0_make 150 = .ok (.invokevirtual 71, 3) := by decide +kernel
theorem dX0_make_153 : decode cX0_make 153 = .ok (.aload_n 0, 1) := by decide +kernel
theorem dX0_make_154 : decode cX0_make 154 = .ok (.iload_n 2, 1) := by decide +kernel
theorem dX0_make_155 : decode cX0_make 155 = .ok (.invokevirtual 75, 3) := by decide +kernel
theorem dX0_make_158 : decode cX0_make 158 = .ok (.aload_n 0, 1) := by decide +kernel
theorem dX0_make_159 : decode cX0_make 159 = .ok (.iload_n 3, 1) := by decide +kernel
theorem dX0_make_160 : decode cX0_make 160 = .ok (.invokevirtual 75, 3) := by decide +kernel
theorem dX0_make_163 : decode cX0_make 163 = .ok (.iload 4, 2) := by decide +kernel
theorem dX0_make_165 : decode cX0_make 165 = .ok (.ireturn, 1) := by decide +kernel
set_option maxRecDepth 20000 in
theorem ggX0_point_X0_isNode : GoodIn wsX0_point wsX0_isNode := goodIn_r _ [5] (by decide +kernel) (by decide +kernel)
set_option maxRecDepth 20000 in
theorem gX0_point_X0_isNode : GoodIn wsX0_point (va_wsS RX0 62 yX0_isNode wsX0_isNode) := goodIn_app (goodIn_of _ (by decide +kernel)) ggX0_point_X0_isNode
theorem dX0_point_0 : decode cX0_point 0 = .ok (.iload_n 1, 1) := by decide +kernel
theorem dX0_point_1 : decode cX0_point 1 = .ok (.invokestatic 62, 3) := by decide +kernel
theorem dX0_point_4 : decode cX0_point 4 = .ok (.ifCond .eq 13, 3) := by decide +kernel
theorem dX0_point_7 : decode cX0_point 7 = .ok (.aload_n 0, 1) := by decide +kernel
theorem dX0_point_8 : decode cX0_point 8 = .ok (.getfield 36, 3) := by decide +kernel
theorem dX0_point_11 : decode cX0_point 11 = .ok (.iload_n 1, 1) := by decide +kernel
theorem dX0_point_12 : decode cX0_point 12 = .ok (.dup2, 1) := by decide +kernel
theorem dX0_point_13 : decode cX0_point 13 = .ok (.iaload, 1) := by decide +kernel
theorem dX0_point_14 : decode cX0_point 14 = .ok (.iconst 1, 1) := by decide +kernel
theorem dX0_point_15 : decode cX0_point 15 = .ok (.iadd, 1) := by decide +kernel
theorem dX0_point_16 : decode cX0_point 16 = .ok (.iastore, 1) := by decide +kernel
theorem dX0_point_17 : decode cX0_point 17 = .ok (.return_, 1) := by decide +kernel
set_option maxRecDepth 20000 in
theorem ggX0_drop_X0_isNode : GoodIn wsX0_drop wsX0_isNode := goodIn_r _ [9] (by decide +kernel) (by decide +kernel)
set_option maxRecDepth 20000 in
theorem gX0_drop_X0_isNode : GoodIn wsX0_drop (va_wsS RX0 62 yX0_isNode wsX0_isNode) := goodIn_app (goodIn_of _ (by decide +kernel)) ggX0_drop_X0_isNode
set_option maxRecDepth 20000 in
theorem ggX0_drop_X0_unlink : GoodIn wsX0_drop wsX0_unlink := goodIn_r _ [13, 14, 4, 5, 15, 2, 16, 17, 6, 7, 8, 9, 18, 19, 20, 21, 22, 23, 24, 25, 28, 29, 30, 31, 32, 33, 34, 35, 36, 37, 38, 39, 40, 41, 42, 43, 44] (by decide +kernel) (by decide +kernel)
set_option maxRecDepth 20000 in
theorem gX0_drop_X0_unlink : GoodIn wsX0_drop (wsV RX0 78 RX0 yX0_unlink wsX0_unlink) := goodIn_app (goodIn_of _ (by decide +kernel)) ggX0_drop_X0_unlink
set_option maxRecDepth 20000 in
theorem ggX0_drop_X0_drop : GoodIn wsX0_drop wsX0_drop := goodIn_r _ [0, 1, 2, 3, 4, 5, 6, 7, 8, 9, 10, 11, 12, 13, 14, 15, 16, 17, 18, 19, 20, 21, 22, 23, 24, 25, 26, 27, 28, 29, 30, 31, 32, 33, 34, 35, 36, 37, 38, 39, 40, 41, 42, 43, 44] (by decide +kernel) (by decide +kernel)
set_option maxRecDepth 20000 in
theorem gX0_drop_X0_drop : GoodIn wsX0_drop (va_wsS RX0 81 yX0_drop wsX0_drop) := goodIn_app (goodIn_of _ (by decide +kernel)) ggX0_drop_X0_drop
theorem dX0_drop_0 : decode cX0_drop 0 = .ok (.iload_n 1, 1) := by decide +kernel
theorem dX0_drop_1 : decode cX0_drop 1 = .ok (.invokestatic 62, 3) := by decide +kernel
theorem dX0_drop_4 : decode cX0_drop 4 = .ok (.ifCond .eq 9, 3) := by decide +kernel
theorem dX0_drop_7 : decode cX0_drop 7 = .ok (.iload_n 2, 1) := by decide +kernel
theorem dX0_drop_8 : decode cX0_drop 8 = .ok (.bipush 10, 2) := by decide +kernel
theorem dX0_drop_10 : decode cX0_drop 10 = .ok (.if_icmp .le 4, 3) := by decide +kernel
theorem dX0_drop_13 : decode cX0_drop 13 = .ok (.return_, 1) := by decide +kernel
theorem dX0_drop_14 : decode cX0_drop 14 = .ok (.aload_n 0, 1) := by decide +kernel
theorem dX0_drop_15 : decode cX0_drop 15 = .ok (.getfield 36, 3) := by decide +kernel
theorem dX0_drop_18 : decode cX0_drop 18 = .ok (.iload_n 1, 1) := by decide +kernel
theorem dX0_drop_19 : decode cX0_drop 19 = .ok (.dup2, 1) := by decide +kernel
theorem dX0_drop_20 : decode cX0_drop 20 = .ok (.iaload, 1) := by decide +kernel
theorem dX0_drop_21 : decode cX0_drop 21 = .ok (.iconst 1, 1) := by decide +kernel
theorem dX0_drop_22 : decode cX0_drop 22 = .ok (.isub, 1) := by decide +kernel
theorem dX0_drop_23 : decode cX0_drop 23 = .ok (.iastore, 1) := by decide +kernel
theorem dX0_drop_24 : decode cX0_drop 24 = .ok (.aload_n 0, 1) := by decide +kernel
theorem dX0_drop_25 : decode cX0_drop 25 = .ok (.getfield 36, 3) := by decide +kernel
theorem dX0_drop_28 : decode cX0_drop 28 = .ok (.iload_n 1, 1) := by decide +kernel
theorem dX0_drop_29 : decode cX0_drop 29 = .ok (.iaload, 1) := by decide +kernel
theorem dX0_drop_30 : decode cX0_drop 30 = .ok (.ifCond .le 4, 3) := by decide +kernel
theorem dX0_drop_33 : decode cX0_drop 33 = .ok (.return_, 1) := by decide +kernel
theorem dX0_drop_34 : decode cX0_drop 34 = .ok (.aload_n 0, 1) := by decide +kernel
theorem dX0_drop_35 : decode cX0_drop 35 = .ok (.iload_n 1, 1) := by decide +kernel
theorem dX0_drop_36 : decode cX0_drop 36 = .ok (.invokevirtual 78, 3) := by decide +kernel
theorem dX0_drop_39 : decode cX0_drop 39 = .ok (.aload_n 0, 1) := by decide +kernel
theorem dX0_drop_40 : decode cX0_drop 40 = .ok (.getfield 33, 3) := by decide +kernel
theorem dX0_drop_43 : decode cX0_drop 43 = .ok (.iload_n 1, 1) := by decide +kernel
theorem dX0_drop_44 : decode cX0_drop 44 = .ok (.aload_n 0, 1) := by decide +kernel
theorem dX0_drop_45 : decode cX0_drop 45 = .ok (.getfield 51, 3) := by decide +kernel
theorem dX0_drop_48 : decode cX0_drop 48 = .ok (.iastore, 1) := by decide +kernel
theorem dX0_drop_49 : decode cX0_drop 49 = .ok (.aload_n 0, 1) := by decide +kernel
theorem dX0_drop_50 : decode cX0_drop 50 = .ok (.iload_n 1, 1) := by decide +kernel
theorem dX0_drop_51 : decode cX0_drop 51 = .ok (.putfield 51, 3) := by decide +kernel
theorem dX0_drop_54 : decode cX0_drop 54 = .ok (.aload_n 0, 1) := by decide +kernel
theorem dX0_drop_55 : decode cX0_drop 55 = .ok (.aload_n 0, 1) := by decide +kernel
theorem dX0_drop_56 : decode cX0_drop 56 = .ok (.getfield 27, 3) := by decide +kernel
theorem dX0_drop_59 : decode cX0_drop 59 = .ok (.iload_n 1, 1) := by decide +kernel
theorem dX0_drop_60 : decode cX0_drop 60 = .ok (.iaload, 1) := by decide +kernel
theorem dX0_drop_61 : decode cX0_drop 61 = .ok (.iload_n 2, 1) := by decide +kernel
theorem dX0_drop_62 : decode cX0_drop 62 = .ok (.iconst 1, 1) := by decide +kernel
theorem dX0_drop_63 : decode cX0_drop 63 = .ok (.iadd, 1) := by decide +kernel
theorem dX0_drop_64 : decode cX0_drop 64 = .ok (.invokestatic 81, 3) := by decide +kernel
theorem dX0_drop_67 : decode cX0_drop 67 = .ok (.aload_n 0, 1) := by decide +kernel
theorem dX0_drop_68 : decode cX0_drop 68 = .ok (.aload_n 0, 1) := by decide +kernel
theorem dX0_drop_69 : decode cX0_drop 69 = .ok (.getfield 30, 3) := by decide +kernel
theorem dX0_drop_72 : decode cX0_drop 72 = .ok (.iload_n 1, 1) := by decide +kernel
theorem dX0_drop_73 : decode cX0_drop 73 = .ok (.iaload, 1) := by decide +kernel
theorem dX0_drop_74 : decode cX0_drop 74 = .ok (.iload_n 2, 1) := by decide +kernel
theorem dX0_drop_75 : decode cX0_drop 75 = .ok (.iconst 1, 1) := by decide +kernel
theorem dX0_drop_76 : decode cX0_drop 76 = .ok (.iadd, 1) := by decide +kernel
theorem dX0_drop_77 : decode cX0_drop 77 = .ok (.invokestatic 81, 3) := by decide +kernel
theorem dX0_drop_80 : decode cX0_drop 80 = .ok (.return_, 1) := by decide +kernel
set_option maxRecDepth 20000 in
theorem ggX0_build_J6_bitCount_0f7a4 : GoodIn wsX0_build wsJ6_bitCount_0f7a4 := goodIn_r _ [6, 7, 8, 9] (by decide +kernel) (by decide +kernel)
set_option maxRecDepth 20000 in
theorem gX0_build_J6_bitCount_0f7a4 : GoodIn wsX0_build (va_wsS RX0 85 yJ6_bitCount_0f7a4 wsJ6_bitCount_0f7a4) := goodIn_app (goodIn_of _ (by decide +kernel)) ggX0_build_J6_bitCount_0f7a4
set_option maxRecDepth 20000 in
theorem ggX0_build_X2_tells : GoodIn wsX0_build wsX2_tells := goodIn_r _ [14, 15, 70] (by decide +kernel) (by decide +kernel)
set_option maxRecDepth 20000 in
theorem gX0_build_X2_tells : GoodIn wsX0_build (wsV RX0 91 RX2 yX2_tells wsX2_tells) := goodIn_app (goodIn_of _ (by decide +kernel)) ggX0_build_X2_tells
set_option maxRecDepth 20000 in
theorem ggX0_build_X0_join : GoodIn wsX0_build wsX0_join := goodIn_r _ [20, 1, 3, 4, 5, 6, 7, 8, 9, 21, 22, 23, 19, 24, 25, 26, 27, 28, 29, 30, 31, 32, 33, 34, 35, 36, 37, 38, 39, 40, 41, 42, 43, 44, 45, 46, 47, 48, 49, 50, 51, 52, 53, 54, 55, 56, 57, 58, 59, 60, 61, 62, 63, 64, 65, 66, 67, 68, 69] (by decide +kernel) (by decide +kernel)
set_option maxRecDepth 20000 in
theorem gX0_build_X0_join : GoodIn wsX0_build (wsV RX0 96 RX0 yX0_join wsX0_join) := goodIn_app (goodIn_of _ (by decide +kernel)) ggX0_build_X0_join
theorem dX0_build_0 : decode cX0_build 0 = .ok (.iload_n 2, 1) := by decide +kernel
theorem dX0_build_1 : decode cX0_build 1 = .ok (.ifCond .lt 10, 3) := by decide +kernel
theorem dX0_build_4 : decode cX0_build 4 = .ok (.iload_n 2, 1) := by decide +kernel
theorem dX0_build_5 : decode cX0_build 5 = .ok (.sipush 1024, 3) := by decide +kernel
theorem dX0_build_8 : decode cX0_build 8 = .ok (.if_icmp .lt 5, 3) := by decide +kernel
theorem dX0_build_11 : decode cX0_build 11 = .ok (.iconst 0, 1) := by decide +kernel
theorem dX0_build_12 : decode cX0_build 12 = .ok (.ireturn, 1) := by decide +kernel
theorem dX0_build_13 : decode cX0_build 13 = .ok (.iconst 0, 1) := by decide +kernel
theorem dX0_build_14 : decode cX0_build 14 = .ok (.istore_n 3, 1) := by decide +kernel
theorem dX0_build_15 : decode cX0_build 15 = .ok (.iconst 0, 1) := by decide +kernel
theorem dX0_build_16 : decode cX0_build 16 = .ok (.istore 4, 2) := by decide +kernel
theorem dX0_build_18 : decode cX0_build 18 = .ok (.iload 4, 2) := by decide +kernel
theorem dX0_build_20 : decode cX0_build 20 = .ok (.iconst 1, 1) := by decide +kernel
theorem dX0_build_21 : decode cX0_build 21 = .ok (.iload_n 2, 1) := by decide +kernel
theorem dX0_build_22 : decode cX0_build 22 = .ok (.invokestatic 85, 3) := by decide +kernel
theorem dX0_build_25 : decode cX0_build 25 = .ok (.ishl, 1) := by decide +kernel
theorem dX0_build_26 : decode cX0_build 26 = .ok (.if_icmp .ge 34, 3) := by decide +kernel
theorem dX0_build_29 : decode cX0_build 29 = .ok (.aload_n 0, 1) := by decide +kernel
theorem dX0_build_30 : decode cX0_build 30 = .ok (.getfield 48, 3) := by decide +kernel
theorem dX0_build_33 : decode cX0_build 33 = .ok (.iload_n 3, 1) := by decide +kernel
theorem dX0_build_34 : decode cX0_build 34 = .ok (.aload_n 1, 1) := by decide +kernel
theorem dX0_build_35 : decode cX0_build 35 = .ok (.iload_n 3, 1) := by decide +kernel
theorem dX0_build_36 : decode cX0_build 36 = .ok (.invokevirtual 91, 3) := by decide +kernel
theorem dX0_build_39 : decode cX0_build 39 = .ok (.ifCond .eq 7, 3) := by decide +kernel
theorem dX0_build_42 : decode cX0_build 42 = .ok (.iconst 1, 1) := by decide +kernel
theorem dX0_build_43 : decode cX0_build 43 = .ok (.goto 4, 3) := by decide +kernel
theorem dX0_build_46 : decode cX0_build 46 = .ok (.iconst 0, 1) := by decide +kernel
theorem dX0_build_47 : decode cX0_build 47 = .ok (.iastore, 1) := by decide +kernel
theorem dX0_build_48 : decode cX0_build 48 = .ok (.iload_n 3, 1) := by decide +kernel
theorem dX0_build_49 : decode cX0_build 49 = .ok (.iload_n 2, 1) := by decide +kernel
theorem dX0_build_50 : decode cX0_build 50 = .ok (.isub, 1) := by decide +kernel
theorem dX0_build_51 : decode cX0_build 51 = .ok (.iload_n 2, 1) := by decide +kernel
theorem dX0_build_52 : decode cX0_build 52 = .ok (.iand, 1) := by decide +kernel
theorem dX0_build_53 : decode cX0_build 53 = .ok (.istore_n 3, 1) := by decide +kernel
theorem dX0_build_54 : decode cX0_build 54 = .ok (.iinc 4 1, 3) := by decide +kernel
theorem dX0_build_57 : decode cX0_build 57 = .ok (.goto (-39), 3) := by decide +kernel
theorem dX0_build_60 : decode cX0_build 60 = .ok (.iload_n 2, 1) := by decide +kernel
theorem dX0_build_61 : decode cX0_build 61 = .ok (.istore 4, 2) := by decide +kernel
theorem dX0_build_63 : decode cX0_build 63 = .ok (.bipush 9, 2) := by decide +kernel
theorem dX0_build_65 : decode cX0_build 65 = .ok (.istore 5, 2) := by decide +kernel
theorem dX0_build_67 : decode cX0_build 67 = .ok (.iload 5, 2) := by decide +kernel
theorem dX0_build_69 : decode cX0_build 69 = .ok (.ifCond .lt 47, 3) := by decide +kernel
theorem dX0_build_72 : decode cX0_build 72 = .ok (.iconst 1, 1) := by decide +kernel
theorem dX0_build_73 : decode cX0_build 73 = .ok (.aload_n 0, 1) := by decide +kernel
theorem dX0_build_74 : decode cX0_build 74 = .ok (.getfield 9, 3) := by decide +kernel
theorem dX0_build_77 : decode cX0_build 77 = .ok (.iload 5, 2) := by decide +kernel
theorem dX0_build_79 : decode cX0_build 79 = .ok (.iaload, 1) := by decide +kernel
theorem dX0_build_80 : decode cX0_build 80 = .ok (.ishl, 1) := by decide +kernel
theorem dX0_build_81 : decode cX0_build 81 = .ok (.istore 6, 2) := by decide +kernel
theorem dX0_build_83 : decode cX0_build 83 = .ok (.iload 4, 2) := by decide +kernel
theorem dX0_build_85 : decode cX0_build 85 = .ok (.iload 6, 2) := by decide +kernel
theorem dX0_build_87 : decode cX0_build 87 = .ok (.iand, 1) := by decide +kernel
theorem dX0_build_88 : decode cX0_build 88 = .ok (.ifCond .eq 22, 3) := by decide +kernel
theorem dX0_build_91 : decode cX0_build 91 = .ok (.iload 4, 2) := by decide +kernel
theorem dX0_build_93 : decode cX0_build 93 = .ok (.iload 6, 2) := by decide +kernel
theorem dX0_build_95 : decode cX0_build 95 = .ok (.iconst (-1), 1) := by decide +kernel
theorem dX0_build_96 : decode cX0_build 96 = .ok (.ixor, 1) := by decide +kernel
theorem dX0_build_97 : decode cX0_build 97 = .ok (.iand, 1) := by decide +kernel
theorem dX0_build_98 : decode cX0_build 98 = .ok (.istore 4, 2) := by decide +kernel
theorem dX0_build_100 : decode cX0_build 100 = .ok (.aload_n 0, 1) := by decide +kernel
theorem dX0_build_101 : decode cX0_build 101 = .ok (.iload 5, 2) := by decide +kernel
theorem dX0_build_103 : decode cX0_build 103 = .ok (.iload 6, 2) := by decide +kernel
theorem dX0_build_105 : decode cX0_build 105 = .ok (.iload 4, 2) := by decide +kernel
theorem dX0_build_107 : decode cX0_build 107 = .ok (.invokevirtual 96, 3) := by decide +kernel
theorem dX0_build_110 : decode cX0_build 110 = .ok (.iinc 5 (-1), 3) := by decide +kernel
theorem dX0_build_113 : decode cX0_build 113 = .ok (.goto (-46), 3) := by decide +kernel
theorem dX0_build_116 : decode cX0_build 116 = .ok (.aload_n 0, 1) := by decide +kernel
theorem dX0_build_117 : decode cX0_build 117 = .ok (.getfield 48, 3) := by decide +kernel
theorem dX0_build_120 : decode cX0_build 120 = .ok (.iconst 0, 1) := by decide +kernel
theorem dX0_build_121 : decode cX0_build 121 = .ok (.iaload, 1) := by decide +kernel
theorem dX0_build_122 : decode cX0_build 122 = .ok (.ireturn, 1) := by decide +kernel
set_option maxRecDepth 20000 in
theorem ggX0_join_J6_bitCount_0f7a4 : GoodIn wsX0_join wsJ6_bitCount_0f7a4 := goodIn_r _ [5, 6, 7, 8] (by decide +kernel) (by decide +kernel)
set_option maxRecDepth 20000 in
theorem gX0_join_J6_bitCount_0f7a4 : GoodIn wsX0_join (va_wsS RX0 85 yJ6_bitCount_0f7a4 wsJ6_bitCount_0f7a4) := goodIn_app (goodIn_of _ (by decide +kernel)) ggX0_join_J6_bitCount_0f7a4
set_option maxRecDepth 20000 in
theorem ggX0_join_X0_make : GoodIn wsX0_join wsX0_make := goodIn_r _ [13, 14, 15, 16, 17, 18, 19, 20, 21, 22, 12, 23, 24, 25, 26, 27, 28, 29, 30, 31, 32, 33, 34, 35, 36, 37, 38, 39, 40, 41, 42, 43, 44, 45, 46, 47, 48, 49, 50, 51, 52, 53, 54, 55, 56, 57, 58] (by decide +kernel) (by decide +kernel)
set_option maxRecDepth 20000 in
theorem gX0_join_X0_make : GoodIn wsX0_join (wsV RX0 100 RX0 yX0_make wsX0_make) := goodIn_app (goodIn_of _ (by decide +kernel)) ggX0_join_X0_make
theorem dX0_join_0 : decode cX0_join 0 = .ok (.iconst 0, 1) := by decide +kernel
theorem dX0_join_1 : decode cX0_join 1 = .ok (.istore 4, 2) := by decide +kernel
theorem dX0_join_3 : decode cX0_join 3 = .ok (.iconst 0, 1) := by decide +kernel
theorem dX0_join_4 : decode cX0_join 4 = .ok (.istore 5, 2) := by decide +kernel
theorem dX0_join_6 : decode cX0_join 6 = .ok (.iload 5, 2) := by decide +kernel
theorem dX0_join_8 : decode cX0_join 8 = .ok (.iconst 1, 1) := by decide +kernel
theorem dX0_join_9 : decode cX0_join 9 = .ok (.iload_n 3, 1) := by decide +kernel
theorem dX0_join_10 : decode cX0_join 10 = .ok (.invokestatic 85, 3) := by decide +kernel
theorem dX0_join_13 : decode cX0_join 13 = .ok (.ishl, 1) := by decide +kernel
theorem dX0_join_14 : decode cX0_join 14 = .ok (.if_icmp .ge 45, 3) := by decide +kernel
theorem dX0_join_17 : decode cX0_join 17 = .ok (.aload_n 0, 1) := by decide +kernel
theorem dX0_join_18 : decode cX0_join 18 = .ok (.getfield 48, 3) := by decide +kernel
theorem dX0_join_21 : decode cX0_join 21 = .ok (.iload 4, 2) := by decide +kernel
theorem dX0_join_23 : decode cX0_join 23 = .ok (.aload_n 0, 1) := by decide +kernel
theorem dX0_join_24 : decode cX0_join 24 = .ok (.iload_n 1, 1) := by decide +kernel
theorem dX0_join_25 : decode cX0_join 25 = .ok (.aload_n 0, 1) := by decide +kernel
theorem dX0_join_26 : decode cX0_join 26 = .ok (.getfield 48, 3) := by decide +kernel
theorem dX0_join_29 : decode cX0_join 29 = .ok (.iload 4, 2) := by decide +kernel
theorem dX0_join_31 : decode cX0_join 31 = .ok (.iaload, 1) := by decide +kernel
theorem dX0_join_32 : decode cX0_join 32 = .ok (.aload_n 0, 1) := by decide +kernel
theorem dX0_join_33 : decode cX0_join 33 = .ok (.getfield 48, 3) := by decide +kernel
theorem dX0_join_36 : decode cX0_join 36 = .ok (.iload 4, 2) := by decide +kernel
theorem dX0_join_38 : decode cX0_join 38 = .ok (.iload_n 2, 1) := by decide +kernel
theorem dX0_join_39 : decode cX0_join 39 = .ok (.ior, 1) := by decide +kernel
theorem dX0_join_40 : decode cX0_join 40 = .ok (.iaload, 1) := by decide +kernel
theorem dX0_join_41 : decode cX0_join 41 = .ok (.invokevirtual 100, 3) := by decide +kernel
theorem dX0_join_44 : decode cX0_join 44 = .ok (.iastore, 1) := by decide +kernel
theorem dX0_join_45 : decode cX0_join 45 = .ok (.iload 4, 2) := by decide +kernel
theorem dX0_join_47 : decode cX0_join 47 = .ok (.iload_n 3, 1) := by decide +kernel
theorem dX0_join_48 : decode cX0_join 48 = .ok (.isub, 1) := by decide +kernel
theorem dX0_join_49 : decode cX0_join 49 = .ok (.iload_n 3, 1) := by decide +kernel
theorem dX0_join_50 : decode cX0_join 50 = .ok (.iand, 1) := by decide +kernel
theorem dX0_join_51 : decode cX0_join 51 = .ok (.istore 4, 2) := by decide +kernel
theorem dX0_join_53 : decode cX0_join 53 = .ok (.iinc 5 1, 3) := by decide +kernel
theorem dX0_join_56 : decode cX0_join 56 = .ok (.goto (-50), 3) := by decide +kernel
theorem dX0_join_59 : decode cX0_join 59 = .ok (.return_, 1) := by decide +kernel
set_option maxRecDepth 20000 in
theorem ggX0_setRoot_X0_point : GoodIn wsX0_setRoot wsX0_point := goodIn_r _ [6, 7, 8, 9, 5, 10, 34, 35, 36, 37, 38, 39, 40, 41, 42, 43, 44, 45, 46, 47, 48, 49, 50] (by decide +kernel) (by decide +kernel)
set_option maxRecDepth 20000 in
theorem gX0_setRoot_X0_point : GoodIn wsX0_setRoot (wsV RX0 75 RX0 yX0_point wsX0_point) := goodIn_app (goodIn_of _ (by decide +kernel)) ggX0_setRoot_X0_point
set_option maxRecDepth 20000 in
theorem ggX0_setRoot_X0_drop : GoodIn wsX0_setRoot wsX0_drop := goodIn_r _ [13, 7, 14, 15, 16, 17, 8, 9, 5, 10, 18, 19, 20, 21, 22, 23, 24, 25, 26, 27, 28, 29, 30, 31, 32, 33, 11, 12, 34, 35, 36, 37, 38, 39, 40, 41, 42, 43, 44, 45, 46, 47, 48, 49, 50] (by decide +kernel) (by decide +kernel)
set_option maxRecDepth 20000 in
theorem gX0_setRoot_X0_drop : GoodIn wsX0_setRoot (va_wsS RX0 81 yX0_drop wsX0_drop) := goodIn_app (goodIn_of _ (by decide +kernel)) ggX0_setRoot_X0_drop
theorem dX0_setRoot_0 : decode cX0_setRoot 0 = .ok (.aload_n 0, 1) := by decide +kernel
theorem dX0_setRoot_1 : decode cX0_setRoot 1 = .ok (.iload_n 2, 1) := by decide +kernel
theorem dX0_setRoot_2 : decode cX0_setRoot 2 = .ok (.invokevirtual 75, 3) := by decide +kernel
theorem dX0_setRoot_5 : decode cX0_setRoot 5 = .ok (.aload_n 0, 1) := by decide +kernel
theorem dX0_setRoot_6 : decode cX0_setRoot 6 = .ok (.getfield 15, 3) := by decide +kernel
theorem dX0_setRoot_9 : decode cX0_setRoot 9 = .ok (.iload_n 1, 1) := by decide +kernel
theorem dX0_setRoot_10 : decode cX0_setRoot 10 = .ok (.iaload, 1) := by decide +kernel
theorem dX0_setRoot_11 : decode cX0_setRoot 11 = .ok (.istore_n 3, 1) := by decide +kernel
theorem dX0_setRoot_12 : decode cX0_setRoot 12 = .ok (.aload_n 0, 1) := by decide +kernel
theorem dX0_setRoot_13 : decode cX0_setRoot 13 = .ok (.getfield 15, 3) := by decide +kernel
theorem dX0_setRoot_16 : decode cX0_setRoot 16 = .ok (.iload_n 1, 1) := by decide +kernel
theorem dX0_setRoot_17 : decode cX0_setRoot 17 = .ok (.iload_n 2, 1) := by decide +kernel
theorem dX0_setRoot_18 : decode cX0_setRoot 18 = .ok (.iastore, 1) := by decide +kernel
theorem dX0_setRoot_19 : decode cX0_setRoot 19 = .ok (.aload_n 0, 1) := by decide +kernel
theorem dX0_setRoot_20 : decode cX0_setRoot 20 = .ok (.iload_n 3, 1) := by decide +kernel
theorem dX0_setRoot_21 : decode cX0_setRoot 21 = .ok (.iconst 0, 1) := by decide +kernel
theorem dX0_setRoot_22 : decode cX0_setRoot 22 = .ok (.invokestatic 81, 3) := by decide +kernel
theorem dX0_setRoot_25 : decode cX0_setRoot 25 = .ok (.return_, 1) := by decide +kernel
set_option maxRecDepth 20000 in
theorem ggX0_collect_X0_isNode : GoodIn wsX0_collect wsX0_isNode := goodIn_r _ [10] (by decide +kernel) (by decide +kernel)
set_option maxRecDepth 20000 in
theorem gX0_collect_X0_isNode : GoodIn wsX0_collect (va_wsS RX0 62 yX0_isNode wsX0_isNode) := goodIn_app (goodIn_of _ (by decide +kernel)) ggX0_collect_X0_isNode
set_option maxRecDepth 20000 in
theorem ggX0_collect_X0_collect : GoodIn wsX0_collect wsX0_collect := goodIn_r _ [0, 1, 2, 3, 4, 5, 6, 7, 8, 9, 10, 11, 12, 13, 14, 15, 16, 17, 18, 19, 20, 21, 22, 23, 24, 25, 26, 27, 28, 29] (by decide +kernel) (by decide +kernel)
set_option maxRecDepth 20000 in
theorem gX0_collect_X0_collect : GoodIn wsX0_collect (va_wsS RX0 106 yX0_collect wsX0_collect) := goodIn_app (goodIn_of _ (by decide +kernel)) ggX0_collect_X0_collect
theorem dX0_collect_0 : decode cX0_collect 0 = .ok (.iload_n 1, 1) := by decide +kernel
theorem dX0_collect_1 : decode cX0_collect 1 = .ok (.invokestatic 62, 3) := by decide +kernel
theorem dX0_collect_4 : decode cX0_collect 4 = .ok (.ifCond .eq 22, 3) := by decide +kernel
theorem dX0_collect_7 : decode cX0_collect 7 = .ok (.iload_n 2, 1) := by decide +kernel
theorem dX0_collect_8 : decode cX0_collect 8 = .ok (.bipush 10, 2) := by decide +kernel
theorem dX0_collect_10 : decode cX0_collect 10 = .ok (.if_icmp .gt 16, 3) := by decide +kernel
theorem dX0_collect_13 : decode cX0_collect 13 = .ok (.aload_n 0, 1) := by decide +kernel
theorem dX0_collect_14 : decode cX0_collect 14 = .ok (.getfield 39, 3) := by decide +kernel
theorem dX0_collect_17 : decode cX0_collect 17 = .ok (.iload_n 1, 1) := by decide +kernel
theorem dX0_collect_18 : decode cX0_collect 18 = .ok (.iaload, 1) := by decide +kernel
theorem dX0_collect_19 : decode cX0_collect 19 = .ok (.aload_n 0, 1) := by decide +kernel
theorem dX0_collect_20 : decode cX0_collect 20 = .ok (.getfield 103, 3) := by decide +kernel
theorem dX0_collect_23 : decode cX0_collect 23 = .ok (.if_icmp .ne 4, 3) := by decide +kernel
theorem dX0_collect_26 : decode cX0_collect 26 = .ok (.return_, 1) := by decide +kernel
theorem dX0_collect_27 : decode cX0_collect 27 = .ok (.aload_n 0, 1) := by decide +kernel
theorem dX0_collect_28 : decode cX0_collect 28 = .ok (.getfield 39, 3) := by decide +kernel
theorem dX0_collect_31 : decode cX0_collect 31 = .ok (.iload_n 1, 1) := by decide +kernel
theorem dX0_collect_32 : decode cX0_collect 32 = .ok (.aload_n 0, 1) := by decide +kernel
theorem dX0_collect_33 : decode cX0_collect 33 = .ok (.getfield 103, 3) := by decide +kernel
theorem dX0_collect_36 : decode cX0_collect 36 = .ok (.iastore, 1) := by decide +kernel
theorem dX0_collect_37 : decode cX0_collect 37 = .ok (.aload_n 0, 1) := by decide +kernel
theorem dX0_collect_38 : decode cX0_collect 38 = .ok (.aload_n 0, 1) := by decide +kernel
theorem dX0_collect_39 : decode cX0_collect 39 = .ok (.getfield 27, 3) := by decide +kernel
theorem dX0_collect_42 : decode cX0_collect 42 = .ok (.iload_n 1, 1) := by decide +kernel
theorem dX0_collect_43 : decode cX0_collect 43 = .ok (.iaload, 1) := by decide +kernel
theorem dX0_collect_44 : decode cX0_collect 44 = .ok (.iload_n 2, 1) := by decide +kernel
theorem dX0_collect_45 : decode cX0_collect 45 = .ok (.iconst 1, 1) := by decide +kernel
theorem dX0_collect_46 : decode cX0_collect 46 = .ok (.iadd, 1) := by decide +kernel
theorem dX0_collect_47 : decode cX0_collect 47 = .ok (.invokestatic 106, 3) := by decide +kernel
theorem dX0_collect_50 : decode cX0_collect 50 = .ok (.aload_n 0, 1) := by decide +kernel
theorem dX0_collect_51 : decode cX0_collect 51 = .ok (.aload_n 0, 1) := by decide +kernel
theorem dX0_collect_52 : decode cX0_collect 52 = .ok (.getfield 30, 3) := by decide +kernel
theorem dX0_collect_55 : decode cX0_collect 55 = .ok (.iload_n 1, 1) := by decide +kernel
theorem dX0_collect_56 : decode cX0_collect 56 = .ok (.iaload, 1) := by decide +kernel
theorem dX0_collect_57 : decode cX0_collect 57 = .ok (.iload_n 2, 1) := by decide +kernel
theorem dX0_collect_58 : decode cX0_collect 58 = .ok (.iconst 1, 1) := by decide +kernel
theorem dX0_collect_59 : decode cX0_collect 59 = .ok (.iadd, 1) := by decide +kernel
theorem dX0_collect_60 : decode cX0_collect 60 = .ok (.invokestatic 106, 3) := by decide +kernel
theorem dX0_collect_63 : decode cX0_collect 63 = .ok (.aload_n 0, 1) := by decide +kernel
theorem dX0_collect_64 : decode cX0_collect 64 = .ok (.getfield 109, 3) := by decide +kernel
theorem dX0_collect_67 : decode cX0_collect 67 = .ok (.sipush 2560, 3) := by decide +kernel
theorem dX0_collect_70 : decode cX0_collect 70 = .ok (.if_icmp .ge 23, 3) := by decide +kernel
theorem dX0_collect_73 : decode cX0_collect 73 = .ok (.aload_n 0, 1) := by decide +kernel
theorem dX0_collect_74 : decode cX0_collect 74 = .ok (.getfield 45, 3) := by decide +kernel
theorem dX0_collect_77 : decode cX0_collect 77 = .ok (.aload_n 0, 1) := by decide +kernel
theorem dX0_collect_78 : decode cX0_collect 78 = .ok (.getfield 109, 3) := by decide +kernel
theorem dX0_collect_81 : decode cX0_collect 81 = .ok (.iload_n 1, 1) := by decide +kernel
theorem dX0_collect_82 : decode cX0_collect 82 = .ok (.iastore, 1) := by decide +kernel
theorem dX0_collect_83 : decode cX0_collect 83 = .ok (.aload_n 0, 1) := by decide +kernel
theorem dX0_collect_84 : decode cX0_collect 84 = .ok (.dup, 1) := by decide +kernel
theorem dX0_collect_85 : decode cX0_collect 85 = .ok (.getfield 109, 3) := by decide +kernel
theorem dX0_collect_88 : decode cX0_collect 88 = .ok (.iconst 1, 1) := by decide +kernel
theorem dX0_collect_89 : decode cX0_collect 89 = .ok (.iadd, 1) := by decide +kernel
theorem dX0_collect_90 : decode cX0_collect 90 = .ok (.putfield 109, 3) := by decide +kernel
theorem dX0_collect_93 : decode cX0_collect 93 = .ok (.return_, 1) := by decide +kernel
set_option maxRecDepth 20000 in
theorem ggX0_countFrom_X0_collect : GoodIn wsX0_countFrom wsX0_collect := goodIn_r _ [7, 8, 1, 9, 10, 2, 11, 12, 13, 6, 14, 4, 5, 15, 16, 17, 18, 19, 20, 21, 22, 23, 24, 25, 26, 27, 28, 29, 30, 31] (by decide +kernel) (by decide +kernel)
set_option maxRecDepth 20000 in
theorem gX0_countFrom_X0_collect : GoodIn wsX0_countFrom (va_wsS RX0 106 yX0_collect wsX0_collect) := goodIn_app (goodIn_of _ (by decide +kernel)) ggX0_countFrom_X0_collect
theorem dX0_countFrom_0 : decode cX0_countFrom 0 = .ok (.aload_n 0, 1) := by decide +kernel
theorem dX0_countFrom_1 : decode cX0_countFrom 1 = .ok (.dup, 1) := by decide +kernel
theorem dX0_countFrom_2 : decode cX0_countFrom 2 = .ok (.getfield 103, 3) := by decide +kernel
theorem dX0_countFrom_5 : decode cX0_countFrom 5 = .ok (.iconst 1, 1) := by decide +kernel
theorem dX0_countFrom_6 : decode cX0_countFrom 6 = .ok (.iadd, 1) := by decide +kernel
theorem dX0_countFrom_7 : decode cX0_countFrom 7 = .ok (.putfield 103, 3) := by decide +kernel
theorem dX0_countFrom_10 : decode cX0_countFrom 10 = .ok (.aload_n 0, 1) := by decide +kernel
theorem dX0_countFrom_11 : decode cX0_countFrom 11 = .ok (.iconst 0, 1) := by decide +kernel
theorem dX0_countFrom_12 : decode cX0_countFrom 12 = .ok (.putfield 109, 3) := by decide +kernel
theorem dX0_countFrom_15 : decode cX0_countFrom 15 = .ok (.aload_n 0, 1) := by decide +kernel
theorem dX0_countFrom_16 : decode cX0_countFrom 16 = .ok (.aload_n 0, 1) := by decide +kernel
theorem dX0_countFrom_17 : decode cX0_countFrom 17 = .ok (.getfield 15, 3) := by decide +kernel
theorem dX0_countFrom_20 : decode cX0_countFrom 20 = .ok (.iload_n 1, 1) := by decide +kernel
theorem dX0_countFrom_21 : decode cX0_countFrom 21 = .ok (.iaload, 1) := by decide +kernel
theorem dX0_countFrom_22 : decode cX0_countFrom 22 = .ok (.iconst 0, 1) := by decide +kernel
theorem dX0_countFrom_23 : decode cX0_countFrom 23 = .ok (.invokestatic 106, 3) := by decide +kernel
theorem dX0_countFrom_26 : decode cX0_countFrom 26 = .ok (.aload_n 0, 1) := by decide +kernel
theorem dX0_countFrom_27 : decode cX0_countFrom 27 = .ok (.aload_n 0, 1) := by decide +kernel
theorem dX0_countFrom_28 : decode cX0_countFrom 28 = .ok (.getfield 15, 3) := by decide +kernel
theorem dX0_countFrom_31 : decode cX0_countFrom 31 = .ok (.iload_n 2, 1) := by decide +kernel
theorem dX0_countFrom_32 : decode cX0_countFrom 32 = .ok (.iaload, 1) := by decide +kernel
theorem dX0_countFrom_33 : decode cX0_countFrom 33 = .ok (.iconst 0, 1) := by decide +kernel
theorem dX0_countFrom_34 : decode cX0_countFrom 34 = .ok (.invokestatic 106, 3) := by decide +kernel
theorem dX0_countFrom_37 : decode cX0_countFrom 37 = .ok (.aload_n 0, 1) := by decide +kernel
theorem dX0_countFrom_38 : decode cX0_countFrom 38 = .ok (.getfield 109, 3) := by decide +kernel
theorem dX0_countFrom_41 : decode cX0_countFrom 41 = .ok (.ireturn, 1) := by decide +kernel
set_option maxRecDepth 20000 in
theorem ggX0_pathsToOne_X0_countFrom : GoodIn wsX0_pathsToOne wsX0_countFrom := goodIn_r _ [8, 9, 10, 3, 11, 12, 7, 13, 14, 15, 16, 2, 17, 18, 19, 36, 37, 38, 39, 40, 41, 42, 43, 44, 45, 46, 47, 48, 49, 50, 51, 52] (by decide +kernel) (by decide +kernel)
set_option maxRecDepth 20000 in
theorem gX0_pathsToOne_X0_countFrom : GoodIn wsX0_pathsToOne (wsV RX0 112 RX0 yX0_countFrom wsX0_countFrom) := goodIn_app (goodIn_of _ (by decide +kernel)) ggX0_pathsToOne_X0_countFrom
set_option maxRecDepth 20000 in
theorem ggX0_pathsToOne_X0_lowOf : GoodIn wsX0_pathsToOne wsX0_lowOf := goodIn_r _ [23, 15, 17, 18, 7, 19, 36, 37, 38, 39, 40, 41, 42, 43, 44, 45, 46, 47, 48, 49, 50, 51, 52] (by decide +kernel) (by decide +kernel)
set_option maxRecDepth 20000 in
theorem gX0_pathsToOne_X0_lowOf : GoodIn wsX0_pathsToOne (wsV RX0 116 RX0 yX0_lowOf wsX0_lowOf) := goodIn_app (goodIn_of _ (by decide +kernel)) ggX0_pathsToOne_X0_lowOf
set_option maxRecDepth 20000 in
theorem ggX0_pathsToOne_X0_valueOf : GoodIn wsX0_pathsToOne wsX0_valueOf := goodIn_r _ [27, 1, 36, 37, 38, 39, 40, 41, 42, 43, 44, 45, 46, 47, 48, 49, 50, 51, 52] (by decide +kernel) (by decide +kernel)
set_option maxRecDepth 20000 in
theorem gX0_pathsToOne_X0_valueOf : GoodIn wsX0_pathsToOne (wsV RX0 119 RX0 yX0_valueOf wsX0_valueOf) := goodIn_app (goodIn_of _ (by decide +kernel)) ggX0_pathsToOne_X0_valueOf
set_option maxRecDepth 20000 in
theorem ggX0_pathsToOne_X0_highOf : GoodIn wsX0_pathsToOne wsX0_highOf := goodIn_r _ [31, 16, 17, 18, 7, 19, 36, 37, 38, 39, 40, 41, 42, 43, 44, 45, 46, 47, 48, 49, 50, 51, 52] (by decide +kernel) (by decide +kernel)
set_option maxRecDepth 20000 in
theorem gX0_pathsToOne_X0_highOf : GoodIn wsX0_pathsToOne (wsV RX0 122 RX0 yX0_highOf wsX0_highOf) := goodIn_app (goodIn_of _ (by decide +kernel)) ggX0_pathsToOne_X0_highOf
set_option maxRecDepth 20000 in
theorem ggX0_pathsToOne_X0_setValue : GoodIn wsX0_pathsToOne wsX0_setValue := goodIn_r _ [35, 1, 17, 18, 7, 19, 36, 37, 38, 39, 40, 41, 42, 43, 44, 45, 46, 47, 48, 49, 50, 51, 52] (by decide +kernel) (by decide +kernel)
set_option maxRecDepth 20000 in
theorem gX0_pathsToOne_X0_setValue : GoodIn wsX0_pathsToOne (wsV RX0 125 RX0 yX0_setValue wsX0_setValue) := goodIn_app (goodIn_of _ (by decide +kernel)) ggX0_pathsToOne_X0_setValue
theorem dX0_pathsToOne_0 : decode cX0_pathsToOne 0 = .ok (.aload_n 0, 1) := by decide +kernel
theorem dX0_pathsToOne_1 : decode cX0_pathsToOne 1 = .ok (.iload_n 1, 1) := by decide +kernel
theorem dX0_pathsToOne_2 : decode cX0_pathsToOne 2 = .ok (.iload_n 1, 1) := by decide +kernel
theorem dX0_pathsToOne_3 : decode cX0_pathsToOne 3 = .ok (.invokevirtual 112, 3) := by decide +kernel
theorem dX0_pathsToOne_6 : decode cX0_pathsToOne 6 = .ok (.istore_n 2, 1) := by decide +kernel
theorem dX0_pathsToOne_7 : decode cX0_pathsToOne 7 = .ok (.aload_n 0, 1) := by decide +kernel
theorem dX0_pathsToOne_8 : decode cX0_pathsToOne 8 = .ok (.getfield 42, 3) := by decide +kernel
theorem dX0_pathsToOne_11 : decode cX0_pathsToOne 11 = .ok (.iconst 0, 1) := by decide +kernel
theorem dX0_pathsToOne_12 : decode cX0_pathsToOne 12 = .ok (.iconst 0, 1) := by decide +kernel
theorem dX0_pathsToOne_13 : decode cX0_pathsToOne 13 = .ok (.iastore, 1) := by decide +kernel
theorem dX0_pathsToOne_14 : decode cX0_pathsToOne 14 = .ok (.aload_n 0, 1) := by decide +kernel
theorem dX0_pathsToOne_15 : decode cX0_pathsToOne 15 = .ok (.getfield 42, 3) := by decide +kernel
theorem dX0_pathsToOne_18 : decode cX0_pathsToOne 18 = .ok (.iconst 1, 1) := by decide +kernel
theorem dX0_pathsToOne_19 : decode cX0_pathsToOne 19 = .ok (.iconst 1, 1) := by decide +kernel
theorem dX0_pathsToOne_20 : decode cX0_pathsToOne 20 = .ok (.iastore, 1) := by decide +kernel
theorem dX0_pathsToOne_21 : decode cX0_pathsToOne 21 = .ok (.iconst 0, 1) := by decide +kernel
theorem dX0_pathsToOne_22 : decode cX0_pathsToOne 22 = .ok (.istore_n 3, 1) := by decide +kernel
theorem dX0_pathsToOne_23 : decode cX0_pathsToOne 23 = .ok (.iload_n 3, 1) := by decide +kernel
theorem dX0_pathsToOne_24 : decode cX0_pathsToOne 24 = .ok (.iload_n 2, 1) := by decide +kernel
theorem dX0_pathsToOne_25 : decode cX0_pathsToOne 25 = .ok (.if_icmp .ge 44, 3) := by decide +kernel
theorem dX0_pathsToOne_28 : decode cX0_pathsToOne 28 = .ok (.aload_n 0, 1) := by decide +kernel
theorem dX0_pathsToOne_29 : decode cX0_pathsToOne 29 = .ok (.getfield 45, 3) := by decide +kernel
theorem dX0_pathsToOne_32 : decode cX0_pathsToOne 32 = .ok (.iload_n 3, 1) := by decide +kernel
theorem dX0_pathsToOne_33 : decode cX0_pathsToOne 33 = .ok (.iaload, 1) := by decide +kernel
theorem dX0_pathsToOne_34 : decode cX0_pathsToOne 34 = .ok (.istore 4, 2) := by decide +kernel
theorem dX0_pathsToOne_36 : decode cX0_pathsToOne 36 = .ok (.aload_n 0, 1) := by decide +kernel
theorem dX0_pathsToOne_37 : decode cX0_pathsToOne 37 = .ok (.iload 4, 2) := by decide +kernel
theorem dX0_pathsToOne_39 : decode cX0_pathsToOne 39 = .ok (.aload_n 0, 1) := by decide +kernel
theorem dX0_pathsToOne_40 : decode cX0_pathsToOne 40 = .ok (.aload_n 0, 1) := by decide +kernel
theorem dX0_pathsToOne_41 : decode cX0_pathsToOne 41 = .ok (.iload 4, 2) := by decide +kernel
theorem dX0_pathsToOne_43 : decode cX0_pathsToOne 43 = .ok (.invokevirtual 116, 3) := by decide +kernel
theorem dX0_pathsToOne_46 : decode cX0_pathsToOne 46 = .ok (.invokevirtual 119, 3) := by decide +kernel
theorem dX0_pathsToOne_49 : decode cX0_pathsToOne 49 = .ok (.aload_n 0, 1) := by decide +kernel
theorem dX0_pathsToOne_50 : decode cX0_pathsToOne 50 = .ok (.aload_n 0, 1) := by decide +kernel
theorem dX0_pathsToOne_51 : decode cX0_pathsToOne 51 = .ok (.iload 4, 2) := by decide +kernel
theorem dX0_pathsToOne_53 : decode cX0_pathsToOne 53 = .ok (.invokevirtual 122, 3) := by decide +kernel
theorem dX0_pathsToOne_56 : decode cX0_pathsToOne 56 = .ok (.invokevirtual 119, 3) := by decide +kernel
theorem dX0_pathsToOne_59 : decode cX0_pathsToOne 59 = .ok (.iadd, 1) := by decide +kernel
theorem dX0_pathsToOne_60 : decode cX0_pathsToOne 60 = .ok (.invokevirtual 125, 3) := by decide +kernel
theorem dX0_pathsToOne_63 : decode cX0_pathsToOne 63 = .ok (.iinc 3 1, 3) := by decide +kernel
theorem dX0_pathsToOne_66 : decode cX0_pathsToOne 66 = .ok (.goto (-43), 3) := by decide +kernel
theorem dX0_pathsToOne_69 : decode cX0_pathsToOne 69 = .ok (.aload_n 0, 1) := by decide +kernel
theorem dX0_pathsToOne_70 : decode cX0_pathsToOne 70 = .ok (.aload_n 0, 1) := by decide +kernel
theorem dX0_pathsToOne_71 : decode cX0_pathsToOne 71 = .ok (.getfield 15, 3) := by decide +kernel
theorem dX0_pathsToOne_74 : decode cX0_pathsToOne 74 = .ok (.iload_n 1, 1) := by decide +kernel
theorem dX0_pathsToOne_75 : decode cX0_pathsToOne 75 = .ok (.iaload, 1) := by decide +kernel
theorem dX0_pathsToOne_76 : decode cX0_pathsToOne 76 = .ok (.invokevirtual 119, 3) := by decide +kernel
theorem dX0_pathsToOne_79 : decode cX0_pathsToOne 79 = .ok (.ireturn, 1) := by decide +kernel
set_option maxRecDepth 20000 in
theorem ggX0_longestPath_X0_countFrom : GoodIn wsX0_longestPath wsX0_countFrom := goodIn_r _ [12, 13, 14, 7, 15, 16, 11, 17, 18, 19, 20, 2, 21, 22, 23, 40, 41, 42, 43, 44, 45, 46, 47, 48, 49, 50, 51, 52, 53, 54, 55, 56] (by decide +kernel) (by decide +kernel)
set_option maxRecDepth 20000 in
theorem gX0_longestPath_X0_countFrom : GoodIn wsX0_longestPath (wsV RX0 112 RX0 yX0_countFrom wsX0_countFrom) := goodIn_app (goodIn_of _ (by decide +kernel)) ggX0_longestPath_X0_countFrom
set_option maxRecDepth 20000 in
theorem ggX0_longestPath_X0_lowOf : GoodIn wsX0_longestPath wsX0_lowOf := goodIn_r _ [27, 19, 21, 22, 11, 23, 40, 41, 42, 43, 44, 45, 46, 47, 48, 49, 50, 51, 52, 53, 54, 55, 56] (by decide +kernel) (by decide +kernel)
set_option maxRecDepth 20000 in
theorem gX0_longestPath_X0_lowOf : GoodIn wsX0_longestPath (wsV RX0 116 RX0 yX0_lowOf wsX0_lowOf) := goodIn_app (goodIn_of _ (by decide +kernel)) ggX0_longestPath_X0_lowOf
set_option maxRecDepth 20000 in
theorem ggX0_longestPath_X0_valueOf : GoodIn wsX0_longestPath wsX0_valueOf := goodIn_r _ [31, 1, 40, 41, 42, 43, 44, 45, 46, 47, 48, 49, 50, 51, 52, 53, 54, 55, 56] (by decide +kernel) (by decide +kernel)
set_option maxRecDepth 20000 in
theorem gX0_longestPath_X0_valueOf : GoodIn wsX0_longestPath (wsV RX0 119 RX0 yX0_valueOf wsX0_valueOf) := goodIn_app (goodIn_of _ (by decide +kernel)) ggX0_longestPath_X0_valueOf
set_option maxRecDepth 20000 in
theorem ggX0_longestPath_X0_highOf : GoodIn wsX0_longestPath wsX0_highOf := goodIn_r _ [35, 20, 21, 22, 11, 23, 40, 41, 42, 43, 44, 45, 46, 47, 48, 49, 50, 51, 52, 53, 54, 55, 56] (by decide +kernel) (by decide +kernel)
set_option maxRecDepth 20000 in
theorem gX0_longestPath_X0_highOf : GoodIn wsX0_longestPath (wsV RX0 122 RX0 yX0_highOf wsX0_highOf) := goodIn_app (goodIn_of _ (by decide +kernel)) ggX0_longestPath_X0_highOf
set_option maxRecDepth 20000 in
theorem ggX0_longestPath_X0_setValue : GoodIn wsX0_longestPath wsX0_setValue := goodIn_r _ [39, 1, 21, 22, 11, 23, 40, 41, 42, 43, 44, 45, 46, 47, 48, 49, 50, 51, 52, 53, 54, 55, 56] (by decide +kernel) (by decide +kernel)
set_option maxRecDepth 20000 in
theorem gX0_longestPath_X0_setValue : GoodIn wsX0_longestPath (wsV RX0 125 RX0 yX0_setValue wsX0_setValue) := goodIn_app (goodIn_of _ (by decide +kernel)) ggX0_longestPath_X0_setValue
theorem dX0_longestPath_0 : decode cX0_longestPath 0 = .ok (.aload_n 0, 1) := by decide +kernel
theorem dX0_longestPath_1 : decode cX0_longestPath 1 = .ok (.iload_n 1, 1) := by decide +kernel
theorem dX0_longestPath_2 : decode cX0_longestPath 2 = .ok (.iload_n 1, 1) := by decide +kernel
theorem dX0_longestPath_3 : decode cX0_longestPath 3 = .ok (.invokevirtual 112, 3) := by decide +kernel
theorem dX0_longestPath_6 : decode cX0_longestPath 6 = .ok (.istore_n 2, 1) := by decide +kernel
theorem dX0_longestPath_7 : decode cX0_longestPath 7 = .ok (.aload_n 0, 1) := by decide +kernel
theorem dX0_longestPath_8 : decode cX0_longestPath 8 = .ok (.getfield 42, 3) := by decide +kernel
theorem dX0_longestPath_11 : decode cX0_longestPath 11 = .ok (.iconst 0, 1) := by decide +kernel
theorem dX0_longestPath_12 : decode cX0_longestPath 12 = .ok (.iconst 0, 1) := by decide +kernel
theorem dX0_longestPath_13 : decode cX0_longestPath 13 = .ok (.iastore, 1) := by decide +kernel
theorem dX0_longestPath_14 : decode cX0_longestPath 14 = .ok (.aload_n 0, 1) := by decide +kernel
theorem dX0_longestPath_15 : decode cX0_longestPath 15 = .ok (.getfield 42, 3) := by decide +kernel
theorem dX0_longestPath_18 : decode cX0_longestPath 18 = .ok (.iconst 1, 1) := by decide +kernel
theorem dX0_longestPath_19 : decode cX0_longestPath 19 = .ok (.iconst 0, 1) := by decide +kernel
theorem dX0_longestPath_20 : decode cX0_longestPath 20 = .ok (.iastore, 1) := by decide +kernel
theorem dX0_longestPath_21 : decode cX0_longestPath 21 = .ok (.iconst 0, 1) := by decide +kernel
