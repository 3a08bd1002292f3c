theorem dX0_lift_5 : decode cX0_lift 5 = .ok (.istore_n 3, 1) := by decide +kernel
theorem dX0_lift_6 : decode cX0_lift 6 = .ok (.iload_n 3, 1) := by decide +kernel
theorem dX0_lift_7 : decode cX0_lift 7 = .ok (.iload_n 2, 1) := by decide +kernel
theorem dX0_lift_8 : decode cX0_lift 8 = .ok (.if_icmp .le 20, 3) := by decide +kernel
theorem dX0_lift_11 : decode cX0_lift 11 = .ok (.iload_n 3, 1) := by decide +kernel
theorem dX0_lift_12 : decode cX0_lift 12 = .ok (.ifCond .le 16, 3) := by decide +kernel
theorem dX0_lift_15 : decode cX0_lift 15 = .ok (.aload_n 0, 1) := by decide +kernel
theorem dX0_lift_16 : decode cX0_lift 16 = .ok (.iload_n 3, 1) := by decide +kernel
theorem dX0_lift_17 : decode cX0_lift 17 = .ok (.iconst 1, 1) := by decide +kernel
theorem dX0_lift_18 : decode cX0_lift 18 = .ok (.isub, 1) := by decide +kernel
theorem dX0_lift_19 : decode cX0_lift 19 = .ok (.invokevirtual 156, 3) := by decide +kernel
theorem dX0_lift_22 : decode cX0_lift 22 = .ok (.iinc 3 (-1), 3) := by decide +kernel
theorem dX0_lift_25 : decode cX0_lift 25 = .ok (.goto (-19), 3) := by decide +kernel
theorem dX0_lift_28 : decode cX0_lift 28 = .ok (.return_, 1) := by decide +kernel
set_option maxRecDepth 20000 in
theorem ggX0_walk_X0_exchangeAt : GoodIn wsX0_walk wsX0_exchangeAt := goodIn_r _ [6, 7, 8, 9, 10, 11, 5, 12, 13, 14, 1, 15, 16, 17, 18, 19, 20, 21, 22, 23, 24, 25, 26, 27, 28, 29, 30, 31, 32, 33, 34, 35, 36, 37, 38, 39, 40, 41, 42, 43, 44, 45, 46, 47, 48, 49, 50, 51, 52, 53, 54, 55, 56, 57, 58, 59, 60, 61, 62, 63, 64, 65, 66, 67, 68, 69, 70, 71, 72, 73, 74, 75, 76, 77, 78, 79, 80, 81, 82, 83, 84, 85, 86, 87, 88, 89, 90, 91, 92, 93, 94, 95] (by decide +kernel) (by decide +kernel)
set_option maxRecDepth 20000 in
theorem gX0_walk_X0_exchangeAt : GoodIn wsX0_walk (wsV RX0 156 RX0 yX0_exchangeAt wsX0_exchangeAt) := goodIn_app (goodIn_of _ (by decide +kernel)) ggX0_walk_X0_exchangeAt
theorem dX0_walk_0 : decode cX0_walk 0 = .ok (.iconst 0, 1) := by decide +kernel
theorem dX0_walk_1 : decode cX0_walk 1 = .ok (.istore_n 1, 1) := by decide +kernel
theorem dX0_walk_2 : decode cX0_walk 2 = .ok (.sipush 401, 3) := by decide +kernel
theorem dX0_walk_5 : decode cX0_walk 5 = .ok (.istore_n 2, 1) := by decide +kernel
theorem dX0_walk_6 : decode cX0_walk 6 = .ok (.iconst 0, 1) := by decide +kernel
theorem dX0_walk_7 : decode cX0_walk 7 = .ok (.istore_n 3, 1) := by decide +kernel
theorem dX0_walk_8 : decode cX0_walk 8 = .ok (.iload_n 3, 1) := by decide +kernel
theorem dX0_walk_9 : decode cX0_walk 9 = .ok (.bipush 10, 2) := by decide +kernel
theorem dX0_walk_11 : decode cX0_walk 11 = .ok (.if_icmp .ge 29, 3) := by decide +kernel
theorem dX0_walk_14 : decode cX0_walk 14 = .ok (.aload_n 0, 1) := by decide +kernel
theorem dX0_walk_15 : decode cX0_walk 15 = .ok (.getfield 55, 3) := by decide +kernel
theorem dX0_walk_18 : decode cX0_walk 18 = .ok (.iload_n 2, 1) := by decide +kernel
theorem dX0_walk_19 : decode cX0_walk 19 = .ok (.if_icmp .ge 10, 3) := by decide +kernel
theorem dX0_walk_22 : decode cX0_walk 22 = .ok (.aload_n 0, 1) := by decide +kernel
theorem dX0_walk_23 : decode cX0_walk 23 = .ok (.getfield 55, 3) := by decide +kernel
theorem dX0_walk_26 : decode cX0_walk 26 = .ok (.istore_n 2, 1) := by decide +kernel
theorem dX0_walk_27 : decode cX0_walk 27 = .ok (.iload_n 3, 1) := by decide +kernel
theorem dX0_walk_28 : decode cX0_walk 28 = .ok (.istore_n 1, 1) := by decide +kernel
theorem dX0_walk_29 : decode cX0_walk 29 = .ok (.aload_n 0, 1) := by decide +kernel
theorem dX0_walk_30 : decode cX0_walk 30 = .ok (.iload_n 3, 1) := by decide +kernel
theorem dX0_walk_31 : decode cX0_walk 31 = .ok (.invokevirtual 156, 3) := by decide +kernel
theorem dX0_walk_34 : decode cX0_walk 34 = .ok (.iinc 3 1, 3) := by decide +kernel
theorem dX0_walk_37 : decode cX0_walk 37 = .ok (.goto (-29), 3) := by decide +kernel
theorem dX0_walk_40 : decode cX0_walk 40 = .ok (.iload_n 1, 1) := by decide +kernel
theorem dX0_walk_41 : decode cX0_walk 41 = .ok (.ireturn, 1) := by decide +kernel
theorem dX1_init_0 : decode cX1_init 0 = .ok (.aload_n 0, 1) := by decide +kernel
theorem dX1_init_1 : decode cX1_init 1 = .ok (.invokespecial 3, 3) := by decide +kernel
theorem dX1_init_4 : decode cX1_init 4 = .ok (.aload_n 0, 1) := by decide +kernel
theorem dX1_init_5 : decode cX1_init 5 = .ok (.bipush 64, 2) := by decide +kernel
theorem dX1_init_7 : decode cX1_init 7 = .ok (.newarray .int, 2) := by decide +kernel
theorem dX1_init_9 : decode cX1_init 9 = .ok (.putfield 11, 3) := by decide +kernel
theorem dX1_init_12 : decode cX1_init 12 = .ok (.aload_n 0, 1) := by decide +kernel
theorem dX1_init_13 : decode cX1_init 13 = .ok (.bipush 64, 2) := by decide +kernel
theorem dX1_init_15 : decode cX1_init 15 = .ok (.newarray .long, 2) := by decide +kernel
theorem dX1_init_17 : decode cX1_init 17 = .ok (.putfield 15, 3) := by decide +kernel
theorem dX1_init_20 : decode cX1_init 20 = .ok (.aload_n 0, 1) := by decide +kernel
theorem dX1_init_21 : decode cX1_init 21 = .ok (.bipush 64, 2) := by decide +kernel
theorem dX1_init_23 : decode cX1_init 23 = .ok (.newarray .long, 2) := by decide +kernel
theorem dX1_init_25 : decode cX1_init 25 = .ok (.putfield 19, 3) := by decide +kernel
theorem dX1_init_28 : decode cX1_init 28 = .ok (.return_, 1) := by decide +kernel
set_option maxRecDepth 20000 in
theorem ggX1_leastNodes_X1_partsOf : GoodIn wsX1_leastNodes wsX1_partsOf := goodIn_r _ [10, 11, 12, 13, 14, 9, 15, 16, 17, 18, 19, 20, 21, 22, 23, 24, 25, 26, 27, 28, 29, 30, 31, 32, 33, 34, 39, 40, 41] (by decide +kernel) (by decide +kernel)
set_option maxRecDepth 20000 in
theorem gX1_leastNodes_X1_partsOf : GoodIn wsX1_leastNodes (wsV RX1 28 RX1 yX1_partsOf wsX1_partsOf) := goodIn_app (goodIn_of _ (by decide +kernel)) ggX1_leastNodes_X1_partsOf
set_option maxRecDepth 20000 in
theorem ggX1_leastNodes_X1_dependent : GoodIn wsX1_leastNodes wsX1_dependent := goodIn_r _ [38, 11, 21, 22, 9, 23, 24, 25, 26, 27, 28, 29, 30, 39, 40, 41] (by decide +kernel) (by decide +kernel)
set_option maxRecDepth 20000 in
theorem gX1_leastNodes_X1_dependent : GoodIn wsX1_leastNodes (wsV RX1 32 RX1 yX1_dependent wsX1_dependent) := goodIn_app (goodIn_of _ (by decide +kernel)) ggX1_leastNodes_X1_dependent
theorem dX1_leastNodes_0 : decode cX1_leastNodes 0 = .ok (.iconst 1, 1) := by decide +kernel
theorem dX1_leastNodes_1 : decode cX1_leastNodes 1 = .ok (.iload_n 3, 1) := by decide +kernel
theorem dX1_leastNodes_2 : decode cX1_leastNodes 2 = .ok (.bipush 6, 2) := by decide +kernel
theorem dX1_leastNodes_4 : decode cX1_leastNodes 4 = .ok (.invokestatic 22, 3) := by decide +kernel
theorem dX1_leastNodes_7 : decode cX1_leastNodes 7 = .ok (.ishl, 1) := by decide +kernel
theorem dX1_leastNodes_8 : decode cX1_leastNodes 8 = .ok (.istore 4, 2) := by decide +kernel
theorem dX1_leastNodes_10 : decode cX1_leastNodes 10 = .ok (.iconst 1, 1) := by decide +kernel
theorem dX1_leastNodes_11 : decode cX1_leastNodes 11 = .ok (.istore 5, 2) := by decide +kernel
theorem dX1_leastNodes_13 : decode cX1_leastNodes 13 = .ok (.iload 5, 2) := by decide +kernel
theorem dX1_leastNodes_15 : decode cX1_leastNodes 15 = .ok (.iload 4, 2) := by decide +kernel
theorem dX1_leastNodes_17 : decode cX1_leastNodes 17 = .ok (.if_icmp .ge 19, 3) := by decide +kernel
theorem dX1_leastNodes_20 : decode cX1_leastNodes 20 = .ok (.aload_n 0, 1) := by decide +kernel
theorem dX1_leastNodes_21 : decode cX1_leastNodes 21 = .ok (.getfield 11, 3) := by decide +kernel
theorem dX1_leastNodes_24 : decode cX1_leastNodes 24 = .ok (.iload 5, 2) := by decide +kernel
theorem dX1_leastNodes_26 : decode cX1_leastNodes 26 = .ok (.sipush 1000, 3) := by decide +kernel
theorem dX1_leastNodes_29 : decode cX1_leastNodes 29 = .ok (.iastore, 1) := by decide +kernel
theorem dX1_leastNodes_30 : decode cX1_leastNodes 30 = .ok (.iinc 5 1, 3) := by decide +kernel
theorem dX1_leastNodes_33 : decode cX1_leastNodes 33 = .ok (.goto (-20), 3) := by decide +kernel
theorem dX1_leastNodes_36 : decode cX1_leastNodes 36 = .ok (.aload_n 0, 1) := by decide +kernel
theorem dX1_leastNodes_37 : decode cX1_leastNodes 37 = .ok (.getfield 11, 3) := by decide +kernel
theorem dX1_leastNodes_40 : decode cX1_leastNodes 40 = .ok (.iconst 0, 1) := by decide +kernel
theorem dX1_leastNodes_41 : decode cX1_leastNodes 41 = .ok (.iconst 0, 1) := by decide +kernel
theorem dX1_leastNodes_42 : decode cX1_leastNodes 42 = .ok (.iastore, 1) := by decide +kernel
theorem dX1_leastNodes_43 : decode cX1_leastNodes 43 = .ok (.iconst 0, 1) := by decide +kernel
theorem dX1_leastNodes_44 : decode cX1_leastNodes 44 = .ok (.istore 5, 2) := by decide +kernel
theorem dX1_leastNodes_46 : decode cX1_leastNodes 46 = .ok (.iload 5, 2) := by decide +kernel
theorem dX1_leastNodes_48 : decode cX1_leastNodes 48 = .ok (.iload 4, 2) := by decide +kernel
theorem dX1_leastNodes_50 : decode cX1_leastNodes 50 = .ok (.if_icmp .ge 92, 3) := by decide +kernel
theorem dX1_leastNodes_53 : decode cX1_leastNodes 53 = .ok (.aload_n 0, 1) := by decide +kernel
theorem dX1_leastNodes_54 : decode cX1_leastNodes 54 = .ok (.lload_n 1, 1) := by decide +kernel
theorem dX1_leastNodes_55 : decode cX1_leastNodes 55 = .ok (.iload 5, 2) := by decide +kernel
theorem dX1_leastNodes_57 : decode cX1_leastNodes 57 = .ok (.invokevirtual 28, 3) := by decide +kernel
theorem dX1_leastNodes_60 : decode cX1_leastNodes 60 = .ok (.istore 6, 2) := by decide +kernel
theorem dX1_leastNodes_62 : decode cX1_leastNodes 62 = .ok (.iconst 0, 1) := by decide +kernel
theorem dX1_leastNodes_63 : decode cX1_leastNodes 63 = .ok (.istore 7, 2) := by decide +kernel
theorem dX1_leastNodes_65 : decode cX1_leastNodes 65 = .ok (.iload 7, 2) := by decide +kernel
theorem dX1_leastNodes_67 : decode cX1_leastNodes 67 = .ok (.bipush 6, 2) := by decide +kernel
theorem dX1_leastNodes_69 : decode cX1_leastNodes 69 = .ok (.if_icmp .ge 67, 3) := by decide +kernel
theorem dX1_leastNodes_72 : decode cX1_leastNodes 72 = .ok (.iconst 1, 1) := by decide +kernel
theorem dX1_leastNodes_73 : decode cX1_leastNodes 73 = .ok (.iload 7, 2) := by decide +kernel
theorem dX1_leastNodes_75 : decode cX1_leastNodes 75 = .ok (.ishl, 1) := by decide +kernel
theorem dX1_leastNodes_76 : decode cX1_leastNodes 76 = .ok (.iload 4, 2) := by decide +kernel
theorem dX1_leastNodes_78 : decode cX1_leastNodes 78 = .ok (.if_icmp .ge 58, 3) := by decide +kernel
theorem dX1_leastNodes_81 : decode cX1_leastNodes 81 = .ok (.iload 5, 2) := by decide +kernel
theorem dX1_leastNodes_83 : decode cX1_leastNodes 83 = .ok (.iconst 1, 1) := by decide +kernel
theorem dX1_leastNodes_84 : decode cX1_leastNodes 84 = .ok (.iload 7, 2) := by decide +kernel
theorem dX1_leastNodes_86 : decode cX1_leastNodes 86 = .ok (.ishl, 1) := by decide +kernel
theorem dX1_leastNodes_87 : decode cX1_leastNodes 87 = .ok (.ior, 1) := by decide +kernel
theorem dX1_leastNodes_88 : decode cX1_leastNodes 88 = .ok (.istore 8, 2) := by decide +kernel
theorem dX1_leastNodes_90 : decode cX1_leastNodes 90 = .ok (.iload 8, 2) := by decide +kernel
theorem dX1_leastNodes_92 : decode cX1_leastNodes 92 = .ok (.iload 5, 2) := by decide +kernel
theorem dX1_leastNodes_94 : decode cX1_leastNodes 94 = .ok (.if_icmp .eq 36, 3) := by decide +kernel
theorem dX1_leastNodes_97 : decode cX1_leastNodes 97 = .ok (.aload_n 0, 1) := by decide +kernel
theorem dX1_leastNodes_98 : decode cX1_leastNodes 98 = .ok (.getfield 11, 3) := by decide +kernel
theorem dX1_leastNodes_101 : decode cX1_leastNodes 101 = .ok (.iload 8, 2) := by decide +kernel
theorem dX1_leastNodes_103 : decode cX1_leastNodes 103 = .ok (.aload_n 0, 1) := by decide +kernel
theorem dX1_leastNodes_104 : decode cX1_leastNodes 104 = .ok (.getfield 11, 3) := by decide +kernel
theorem dX1_leastNodes_107 : decode cX1_leastNodes 107 = .ok (.iload 8, 2) := by decide +kernel
theorem dX1_leastNodes_109 : decode cX1_leastNodes 109 = .ok (.iaload, 1) := by decide +kernel
theorem dX1_leastNodes_110 : decode cX1_leastNodes 110 = .ok (.aload_n 0, 1) := by decide +kernel
theorem dX1_leastNodes_111 : decode cX1_leastNodes 111 = .ok (.getfield 11, 3) := by decide +kernel
theorem dX1_leastNodes_114 : decode cX1_leastNodes 114 = .ok (.iload 5, 2) := by decide +kernel
theorem dX1_leastNodes_116 : decode cX1_leastNodes 116 = .ok (.iaload, 1) := by decide +kernel
theorem dX1_leastNodes_117 : decode cX1_leastNodes 117 = .ok (.aload_n 0, 1) := by decide +kernel
theorem dX1_leastNodes_118 : decode cX1_leastNodes 118 = .ok (.iload 6, 2) := by decide +kernel
theorem dX1_leastNodes_120 : decode cX1_leastNodes 120 = .ok (.iload 7, 2) := by decide +kernel
theorem dX1_leastNodes_122 : decode cX1_leastNodes 122 = .ok (.invokevirtual 32, 3) := by decide +kernel
theorem dX1_leastNodes_125 : decode cX1_leastNodes 125 = .ok (.iadd, 1) := by decide +kernel
theorem dX1_leastNodes_126 : decode cX1_leastNodes 126 = .ok (.invokestatic 22, 3) := by decide +kernel
theorem dX1_leastNodes_129 : decode cX1_leastNodes 129 = .ok (.iastore, 1) := by decide +kernel
theorem dX1_leastNodes_130 : decode cX1_leastNodes 130 = .ok (.iinc 7 1, 3) := by decide +kernel
theorem dX1_leastNodes_133 : decode cX1_leastNodes 133 = .ok (.goto (-68), 3) := by decide +kernel
theorem dX1_leastNodes_136 : decode cX1_leastNodes 136 = .ok (.iinc 5 1, 3) := by decide +kernel
theorem dX1_leastNodes_139 : decode cX1_leastNodes 139 = .ok (.goto (-93), 3) := by decide +kernel
theorem dX1_leastNodes_142 : decode cX1_leastNodes 142 = .ok (.aload_n 0, 1) := by decide +kernel
theorem dX1_leastNodes_143 : decode cX1_leastNodes 143 = .ok (.getfield 11, 3) := by decide +kernel
theorem dX1_leastNodes_146 : decode cX1_leastNodes 146 = .ok (.iload 4, 2) := by decide +kernel
theorem dX1_leastNodes_148 : decode cX1_leastNodes 148 = .ok (.iconst 1, 1) := by decide +kernel
theorem dX1_leastNodes_149 : decode cX1_leastNodes 149 = .ok (.isub, 1) := by decide +kernel
theorem dX1_leastNodes_150 : decode cX1_leastNodes 150 = .ok (.iaload, 1) := by decide +kernel
theorem dX1_leastNodes_151 : decode cX1_leastNodes 151 = .ok (.ireturn, 1) := by decide +kernel
set_option maxRecDepth 20000 in
theorem ggX1_partsOf_X1_splitAll : GoodIn wsX1_partsOf wsX1_splitAll := goodIn_r _ [6, 1, 7, 8, 9, 10, 11, 12, 13, 5, 14, 15, 16, 17, 18, 19, 20, 21, 22, 23, 24, 25, 26, 27, 28] (by decide +kernel) (by decide +kernel)
set_option maxRecDepth 20000 in
theorem gX1_partsOf_X1_splitAll : GoodIn wsX1_partsOf (wsV RX1 35 RX1 yX1_splitAll wsX1_splitAll) := goodIn_app (goodIn_of _ (by decide +kernel)) ggX1_partsOf_X1_splitAll
theorem dX1_partsOf_0 : decode cX1_partsOf 0 = .ok (.aload_n 0, 1) := by decide +kernel
theorem dX1_partsOf_1 : decode cX1_partsOf 1 = .ok (.getfield 15, 3) := by decide +kernel
theorem dX1_partsOf_4 : decode cX1_partsOf 4 = .ok (.iconst 0, 1) := by decide +kernel
theorem dX1_partsOf_5 : decode cX1_partsOf 5 = .ok (.lload_n 1, 1) := by decide +kernel
theorem dX1_partsOf_6 : decode cX1_partsOf 6 = .ok (.lastore, 1) := by decide +kernel
theorem dX1_partsOf_7 : decode cX1_partsOf 7 = .ok (.iconst 1, 1) := by decide +kernel
theorem dX1_partsOf_8 : decode cX1_partsOf 8 = .ok (.istore 4, 2) := by decide +kernel
theorem dX1_partsOf_10 : decode cX1_partsOf 10 = .ok (.iconst 0, 1) := by decide +kernel
theorem dX1_partsOf_11 : decode cX1_partsOf 11 = .ok (.istore 5, 2) := by decide +kernel
theorem dX1_partsOf_13 : decode cX1_partsOf 13 = .ok (.iload 5, 2) := by decide +kernel
theorem dX1_partsOf_15 : decode cX1_partsOf 15 = .ok (.bipush 6, 2) := by decide +kernel
theorem dX1_partsOf_17 : decode cX1_partsOf 17 = .ok (.if_icmp .ge 29, 3) := by decide +kernel
theorem dX1_partsOf_20 : decode cX1_partsOf 20 = .ok (.iload_n 3, 1) := by decide +kernel
theorem dX1_partsOf_21 : decode cX1_partsOf 21 = .ok (.iload 5, 2) := by decide +kernel
theorem dX1_partsOf_23 : decode cX1_partsOf 23 = .ok (.ishr, 1) := by decide +kernel
theorem dX1_partsOf_24 : decode cX1_partsOf 24 = .ok (.iconst 1, 1) := by decide +kernel
theorem dX1_partsOf_25 : decode cX1_partsOf 25 = .ok (.iand, 1) := by decide +kernel
theorem dX1_partsOf_26 : decode cX1_partsOf 26 = .ok (.iconst 1, 1) := by decide +kernel
theorem dX1_partsOf_27 : decode cX1_partsOf 27 = .ok (.if_icmp .ne 13, 3) := by decide +kernel
theorem dX1_partsOf_30 : decode cX1_partsOf 30 = .ok (.aload_n 0, 1) := by decide +kernel
theorem dX1_partsOf_31 : decode cX1_partsOf 31 = .ok (.iload 4, 2) := by decide +kernel
theorem dX1_partsOf_33 : decode cX1_partsOf 33 = .ok (.iload 5, 2) := by decide +kernel
theorem dX1_partsOf_35 : decode cX1_partsOf 35 = .ok (.invokevirtual 35, 3) := by decide +kernel
theorem dX1_partsOf_38 : decode cX1_partsOf 38 = .ok (.istore 4, 2) := by decide +kernel
theorem dX1_partsOf_40 : decode cX1_partsOf 40 = .ok (.iinc 5 1, 3) := by decide +kernel
theorem dX1_partsOf_43 : decode cX1_partsOf 43 = .ok (.goto (-30), 3) := by decide +kernel
theorem dX1_partsOf_46 : decode cX1_partsOf 46 = .ok (.iload 4, 2) := by decide +kernel
theorem dX1_partsOf_48 : decode cX1_partsOf 48 = .ok (.ireturn, 1) := by decide +kernel
set_option maxRecDepth 20000 in
theorem ggX1_splitAll_X1_putTo : GoodIn wsX1_splitAll wsX1_putTo := goodIn_r _ [10, 11, 12, 13, 14, 15, 16, 17] (by decide +kernel) (by decide +kernel)
set_option maxRecDepth 20000 in
theorem gX1_splitAll_X1_putTo : GoodIn wsX1_splitAll (va_wsS RX1 38 yX1_putTo wsX1_putTo) := goodIn_app (goodIn_of _ (by decide +kernel)) ggX1_splitAll_X1_putTo
set_option maxRecDepth 20000 in
theorem ggX1_splitAll_X1_keep : GoodIn wsX1_splitAll wsX1_keep := goodIn_r _ [21, 2, 22, 23, 24] (by decide +kernel) (by decide +kernel)
set_option maxRecDepth 20000 in
theorem gX1_splitAll_X1_keep : GoodIn wsX1_splitAll (wsV RX1 42 RX1 yX1_keep wsX1_keep) := goodIn_app (goodIn_of _ (by decide +kernel)) ggX1_splitAll_X1_keep
theorem dX1_splitAll_0 : decode cX1_splitAll 0 = .ok (.iconst 0, 1) := by decide +kernel
theorem dX1_splitAll_1 : decode cX1_splitAll 1 = .ok (.istore_n 3, 1) := by decide +kernel
theorem dX1_splitAll_2 : decode cX1_splitAll 2 = .ok (.iconst 0, 1) := by decide +kernel
theorem dX1_splitAll_3 : decode cX1_splitAll 3 = .ok (.istore 4, 2) := by decide +kernel
theorem dX1_splitAll_5 : decode cX1_splitAll 5 = .ok (.iload 4, 2) := by decide +kernel
theorem dX1_splitAll_7 : decode cX1_splitAll 7 = .ok (.iload_n 1, 1) := by decide +kernel
theorem dX1_splitAll_8 : decode cX1_splitAll 8 = .ok (.if_icmp .ge 45, 3) := by decide +kernel
theorem dX1_splitAll_11 : decode cX1_splitAll 11 = .ok (.aload_n 0, 1) := by decide +kernel
theorem dX1_splitAll_12 : decode cX1_splitAll 12 = .ok (.iload_n 3, 1) := by decide +kernel
theorem dX1_splitAll_13 : decode cX1_splitAll 13 = .ok (.aload_n 0, 1) := by decide +kernel
theorem dX1_splitAll_14 : decode cX1_splitAll 14 = .ok (.getfield 15, 3) := by decide +kernel
theorem dX1_splitAll_17 : decode cX1_splitAll 17 = .ok (.iload 4, 2) := by decide +kernel
theorem dX1_splitAll_19 : decode cX1_splitAll 19 = .ok (.laload, 1) := by decide +kernel
theorem dX1_splitAll_20 : decode cX1_splitAll 20 = .ok (.iload_n 2, 1) := by decide +kernel
theorem dX1_splitAll_21 : decode cX1_splitAll 21 = .ok (.iconst 0, 1) := by decide +kernel
theorem dX1_splitAll_22 : decode cX1_splitAll 22 = .ok (.invokestatic 38, 3) := by decide +kernel
theorem dX1_splitAll_25 : decode cX1_splitAll 25 = .ok (.invokevirtual 42, 3) := by decide +kernel
theorem dX1_splitAll_28 : decode cX1_splitAll 28 = .ok (.istore_n 3, 1) := by decide +kernel
theorem dX1_splitAll_29 : decode cX1_splitAll 29 = .ok (.aload_n 0, 1) := by decide +kernel
theorem dX1_splitAll_30 : decode cX1_splitAll 30 = .ok (.iload_n 3, 1) := by decide +kernel
theorem dX1_splitAll_31 : decode cX1_splitAll 31 = .ok (.aload_n 0, 1) := by decide +kernel
theorem dX1_splitAll_32 : decode cX1_splitAll 32 = .ok (.getfield 15, 3) := by decide +kernel
theorem dX1_splitAll_35 : decode cX1_splitAll 35 = .ok (.iload 4, 2) := by decide +kernel
theorem dX1_splitAll_37 : decode cX1_splitAll 37 = .ok (.laload, 1) := by decide +kernel
theorem dX1_splitAll_38 : decode cX1_splitAll 38 = .ok (.iload_n 2, 1) := by decide +kernel
theorem dX1_splitAll_39 : decode cX1_splitAll 39 = .ok (.iconst 1, 1) := by decide +kernel
theorem dX1_splitAll_40 : decode cX1_splitAll 40 = .ok (.invokestatic 38, 3) := by decide +kernel
theorem dX1_splitAll_43 : decode cX1_splitAll 43 = .ok (.invokevirtual 42, 3) := by decide +kernel
theorem dX1_splitAll_46 : decode cX1_splitAll 46 = .ok (.istore_n 3, 1) := by decide +kernel
theorem dX1_splitAll_47 : decode cX1_splitAll 47 = .ok (.iinc 4 1, 3) := by decide +kernel
theorem dX1_splitAll_50 : decode cX1_splitAll 50 = .ok (.goto (-45), 3) := by decide +kernel
theorem dX1_splitAll_53 : decode cX1_splitAll 53 = .ok (.aload_n 0, 1) := by decide +kernel
theorem dX1_splitAll_54 : decode cX1_splitAll 54 = .ok (.getfield 19, 3) := by decide +kernel
theorem dX1_splitAll_57 : decode cX1_splitAll 57 = .ok (.iconst 0, 1) := by decide +kernel
theorem dX1_splitAll_58 : decode cX1_splitAll 58 = .ok (.aload_n 0, 1) := by decide +kernel
theorem dX1_splitAll_59 : decode cX1_splitAll 59 = .ok (.getfield 15, 3) := by decide +kernel
theorem dX1_splitAll_62 : decode cX1_splitAll 62 = .ok (.iconst 0, 1) := by decide +kernel
theorem dX1_splitAll_63 : decode cX1_splitAll 63 = .ok (.iload_n 3, 1) := by decide +kernel
theorem dX1_splitAll_64 : decode cX1_splitAll 64 = .ok (.invokestatic 46, 3) := by decide +kernel
theorem dX1_splitAll_67 : decode cX1_splitAll 67 = .ok (.iload_n 3, 1) := by decide +kernel
theorem dX1_splitAll_68 : decode cX1_splitAll 68 = .ok (.ireturn, 1) := by decide +kernel
theorem dX1_keep_0 : decode cX1_keep 0 = .ok (.iconst 0, 1) := by decide +kernel
theorem dX1_keep_1 : decode cX1_keep 1 = .ok (.istore 4, 2) := by decide +kernel
theorem dX1_keep_3 : decode cX1_keep 3 = .ok (.iload 4, 2) := by decide +kernel
theorem dX1_keep_5 : decode cX1_keep 5 = .ok (.iload_n 1, 1) := by decide +kernel
theorem dX1_keep_6 : decode cX1_keep 6 = .ok (.if_icmp .ge 23, 3) := by decide +kernel
theorem dX1_keep_9 : decode cX1_keep 9 = .ok (.aload_n 0, 1) := by decide +kernel
theorem dX1_keep_10 : decode cX1_keep 10 = .ok (.getfield 19, 3) := by decide +kernel
theorem dX1_keep_13 : decode cX1_keep 13 = .ok (.iload 4, 2) := by decide +kernel
theorem dX1_keep_15 : decode cX1_keep 15 = .ok (.laload, 1) := by decide +kernel
theorem dX1_keep_16 : decode cX1_keep 16 = .ok (.lload_n 2, 1) := by decide +kernel
theorem dX1_keep_17 : decode cX1_keep 17 = .ok (.lcmp, 1) := by decide +kernel
theorem dX1_keep_18 : decode cX1_keep 18 = .ok (.ifCond .ne 5, 3) := by decide +kernel
theorem dX1_keep_21 : decode cX1_keep 21 = .ok (.iload_n 1, 1) := by decide +kernel
theorem dX1_keep_22 : decode cX1_keep 22 = .ok (.ireturn, 1) := by decide +kernel
theorem dX1_keep_23 : decode cX1_keep 23 = .ok (.iinc 4 1, 3) := by decide +kernel
theorem dX1_keep_26 : decode cX1_keep 26 = .ok (.goto (-23), 3) := by decide +kernel
theorem dX1_keep_29 : decode cX1_keep 29 = .ok (.iload_n 1, 1) := by decide +kernel
theorem dX1_keep_30 : decode cX1_keep 30 = .ok (.bipush 64, 2) := by decide +kernel
theorem dX1_keep_32 : decode cX1_keep 32 = .ok (.if_icmp .lt 5, 3) := by decide +kernel
theorem dX1_keep_35 : decode cX1_keep 35 = .ok (.iload_n 1, 1) := by decide +kernel
theorem dX1_keep_36 : decode cX1_keep 36 = .ok (.ireturn, 1) := by decide +kernel
theorem dX1_keep_37 : decode cX1_keep 37 = .ok (.aload_n 0, 1) := by decide +kernel
theorem dX1_keep_38 : decode cX1_keep 38 = .ok (.getfield 19, 3) := by decide +kernel
theorem dX1_keep_41 : decode cX1_keep 41 = .ok (.iload_n 1, 1) := by decide +kernel
theorem dX1_keep_42 : decode cX1_keep 42 = .ok (.lload_n 2, 1) := by decide +kernel
theorem dX1_keep_43 : decode cX1_keep 43 = .ok (.lastore, 1) := by decide +kernel
theorem dX1_keep_44 : decode cX1_keep 44 = .ok (.iload_n 1, 1) := by decide +kernel
theorem dX1_keep_45 : decode cX1_keep 45 = .ok (.iconst 1, 1) := by decide +kernel
theorem dX1_keep_46 : decode cX1_keep 46 = .ok (.iadd, 1) := by decide +kernel
theorem dX1_keep_47 : decode cX1_keep 47 = .ok (.ireturn, 1) := by decide +kernel
set_option maxRecDepth 20000 in
theorem ggX1_dependent_X1_putTo : GoodIn wsX1_dependent wsX1_putTo := goodIn_r _ [5, 6, 7, 8, 9, 10, 11, 12] (by decide +kernel) (by decide +kernel)
set_option maxRecDepth 20000 in
theorem gX1_dependent_X1_putTo : GoodIn wsX1_dependent (va_wsS RX1 38 yX1_putTo wsX1_putTo) := goodIn_app (goodIn_of _ (by decide +kernel)) ggX1_dependent_X1_putTo
theorem dX1_dependent_0 : decode cX1_dependent 0 = .ok (.iconst 0, 1) := by decide +kernel
theorem dX1_dependent_1 : decode cX1_dependent 1 = .ok (.istore_n 3, 1) := by decide +kernel
theorem dX1_dependent_2 : decode cX1_dependent 2 = .ok (.iconst 0, 1) := by decide +kernel
theorem dX1_dependent_3 : decode cX1_dependent 3 = .ok (.istore 4, 2) := by decide +kernel
theorem dX1_dependent_5 : decode cX1_dependent 5 = .ok (.iload 4, 2) := by decide +kernel
theorem dX1_dependent_7 : decode cX1_dependent 7 = .ok (.iload_n 1, 1) := by decide +kernel
theorem dX1_dependent_8 : decode cX1_dependent 8 = .ok (.if_icmp .ge 40, 3) := by decide +kernel
theorem dX1_dependent_11 : decode cX1_dependent 11 = .ok (.aload_n 0, 1) := by decide +kernel
theorem dX1_dependent_12 : decode cX1_dependent 12 = .ok (.getfield 15, 3) := by decide +kernel
theorem dX1_dependent_15 : decode cX1_dependent 15 = .ok (.iload 4, 2) := by decide +kernel
theorem dX1_dependent_17 : decode cX1_dependent 17 = .ok (.laload, 1) := by decide +kernel
theorem dX1_dependent_18 : decode cX1_dependent 18 = .ok (.iload_n 2, 1) := by decide +kernel
theorem dX1_dependent_19 : decode cX1_dependent 19 = .ok (.iconst 0, 1) := by decide +kernel
theorem dX1_dependent_20 : decode cX1_dependent 20 = .ok (.invokestatic 38, 3) := by decide +kernel
theorem dX1_dependent_23 : decode cX1_dependent 23 = .ok (.aload_n 0, 1) := by decide +kernel
theorem dX1_dependent_24 : decode cX1_dependent 24 = .ok (.getfield 15, 3) := by decide +kernel
theorem dX1_dependent_27 : decode cX1_dependent 27 = .ok (.iload 4, 2) := by decide +kernel
theorem dX1_dependent_29 : decode cX1_dependent 29 = .ok (.laload, 1) := by decide +kernel
theorem dX1_dependent_30 : decode cX1_dependent 30 = .ok (.iload_n 2, 1) := by decide +kernel
theorem dX1_dependent_31 : decode cX1_dependent 31 = .ok (.iconst 1, 1) := by decide +kernel
theorem dX1_dependent_32 : decode cX1_dependent 32 = .ok (.invokestatic 38, 3) := by decide +kernel
theorem dX1_dependent_35 : decode cX1_dependent 35 = .ok (.lcmp, 1) := by decide +kernel
theorem dX1_dependent_36 : decode cX1_dependent 36 = .ok (.ifCond .eq 6, 3) := by decide +kernel
theorem dX1_dependent_39 : decode cX1_dependent 39 = .ok (.iinc 3 1, 3) := by decide +kernel
theorem dX1_dependent_42 : decode cX1_dependent 42 = .ok (.iinc 4 1, 3) := by decide +kernel
theorem dX1_dependent_45 : decode cX1_dependent 45 = .ok (.goto (-40), 3) := by decide +kernel
theorem dX1_dependent_48 : decode cX1_dependent 48 = .ok (.iload_n 3, 1) := by decide +kernel
theorem dX1_dependent_49 : decode cX1_dependent 49 = .ok (.ireturn, 1) := by decide +kernel
set_option maxRecDepth 20000 in
theorem ggX1_putTo_X2_wordOfVariable : GoodIn wsX1_putTo wsX2_wordOfVariable := goodIn_r _ [5, 6, 7] (by decide +kernel) (by decide +kernel)
set_option maxRecDepth 20000 in
theorem gX1_putTo_X2_wordOfVariable : GoodIn wsX1_putTo (va_wsS RX1 52 yX2_wordOfVariable wsX2_wordOfVariable) := goodIn_app (goodIn_of _ (by decide +kernel)) ggX1_putTo_X2_wordOfVariable
theorem dX1_putTo_0 : decode cX1_putTo 0 = .ok (.iconst 1, 1) := by decide +kernel
theorem dX1_putTo_1 : decode cX1_putTo 1 = .ok (.iload_n 2, 1) := by decide +kernel
theorem dX1_putTo_2 : decode cX1_putTo 2 = .ok (.ishl, 1) := by decide +kernel
theorem dX1_putTo_3 : decode cX1_putTo 3 = .ok (.istore 4, 2) := by decide +kernel
theorem dX1_putTo_5 : decode cX1_putTo 5 = .ok (.iload_n 2, 1) := by decide +kernel
theorem dX1_putTo_6 : decode cX1_putTo 6 = .ok (.iconst 0, 1) := by decide +kernel
theorem dX1_putTo_7 : decode cX1_putTo 7 = .ok (.invokestatic 52, 3) := by decide +kernel
theorem dX1_putTo_10 : decode cX1_putTo 10 = .ok (.lstore 5, 2) := by decide +kernel
theorem dX1_putTo_12 : decode cX1_putTo 12 = .ok (.iload_n 3, 1) := by decide +kernel
theorem dX1_putTo_13 : decode cX1_putTo 13 = .ok (.ifCond .eq 18, 3) := by decide +kernel
theorem dX1_putTo_16 : decode cX1_putTo 16 = .ok (.lload_n 0, 1) := by decide +kernel
theorem dX1_putTo_17 : decode cX1_putTo 17 = .ok (.lload 5, 2) := by decide +kernel
theorem dX1_putTo_19 : decode cX1_putTo 19 = .ok (.land, 1) := by decide +kernel
theorem dX1_putTo_20 : decode cX1_putTo 20 = .ok (.lstore 7, 2) := by decide +kernel
theorem dX1_putTo_22 : decode cX1_putTo 22 = .ok (.lload 7, 2) := by decide +kernel
theorem dX1_putTo_24 : decode cX1_putTo 24 = .ok (.lload 7, 2) := by decide +kernel
theorem dX1_putTo_26 : decode cX1_putTo 26 = .ok (.iload 4, 2) := by decide +kernel
theorem dX1_putTo_28 : decode cX1_putTo 28 = .ok (.lushr, 1) := by decide +kernel
theorem dX1_putTo_29 : decode cX1_putTo 29 = .ok (.lor, 1) := by decide +kernel
theorem dX1_putTo_30 : decode cX1_putTo 30 = .ok (.lreturn, 1) := by decide +kernel
theorem dX1_putTo_31 : decode cX1_putTo 31 = .ok (.lload_n 0, 1) := by decide +kernel
theorem dX1_putTo_32 : decode cX1_putTo 32 = .ok (.lload 5, 2) := by decide +kernel
theorem dX1_putTo_34 : decode cX1_putTo 34 = .ok (.ldc2_w 58, 3) := by decide +kernel
theorem dX1_putTo_37 : decode cX1_putTo 37 = .ok (.lxor, 1) := by decide +kernel
theorem dX1_putTo_38 : decode cX1_putTo 38 = .ok (.land, 1) := by decide +kernel
theorem dX1_putTo_39 : decode cX1_putTo 39 = .ok (.lstore 7, 2) := by decide +kernel
theorem dX1_putTo_41 : decode cX1_putTo 41 = .ok (.lload 7, 2) := by decide +kernel
theorem dX1_putTo_43 : decode cX1_putTo 43 = .ok (.lload 7, 2) := by decide +kernel
theorem dX1_putTo_45 : decode cX1_putTo 45 = .ok (.iload 4, 2) := by decide +kernel
theorem dX1_putTo_47 : decode cX1_putTo 47 = .ok (.lshl, 1) := by decide +kernel
theorem dX1_putTo_48 : decode cX1_putTo 48 = .ok (.lor, 1) := by decide +kernel
theorem dX1_putTo_49 : decode cX1_putTo 49 = .ok (.lreturn, 1) := by decide +kernel
theorem dX2_init_0 : decode cX2_init 0 = .ok (.aload_n 0, 1) := by decide +kernel
theorem dX2_init_1 : decode cX2_init 1 = .ok (.invokespecial 3, 3) := by decide +kernel
theorem dX2_init_4 : decode cX2_init 4 = .ok (.aload_n 0, 1) := by decide +kernel
theorem dX2_init_5 : decode cX2_init 5 = .ok (.bipush 16, 2) := by decide +kernel
theorem dX2_init_7 : decode cX2_init 7 = .ok (.newarray .long, 2) := by decide +kernel
theorem dX2_init_9 : decode cX2_init 9 = .ok (.putfield 11, 3) := by decide +kernel
theorem dX2_init_12 : decode cX2_init 12 = .ok (.return_, 1) := by decide +kernel
theorem dX2_wordOfVariable_0 : decode cX2_wordOfVariable 0 = .ok (.iload_n 0, 1) := by decide +kernel
theorem dX2_wordOfVariable_1 : decode cX2_wordOfVariable 1 = .ok (.ifCond .lt 15, 3) := by decide +kernel
theorem dX2_wordOfVariable_4 : decode cX2_wordOfVariable 4 = .ok (.iload_n 0, 1) := by decide +kernel
theorem dX2_wordOfVariable_5 : decode cX2_wordOfVariable 5 = .ok (.bipush 6, 2) := by decide +kernel
theorem dX2_wordOfVariable_7 : decode cX2_wordOfVariable 7 = .ok (.if_icmp .ge 9, 3) := by decide +kernel
theorem dX2_wordOfVariable_10 : decode cX2_wordOfVariable 10 = .ok (.getstatic 15, 3) := by decide +kernel
theorem dX2_wordOfVariable_13 : decode cX2_wordOfVariable 13 = .ok (.iload_n 0, 1) := by decide +kernel
theorem dX2_wordOfVariable_14 : decode cX2_wordOfVariable 14 = .ok (.laload, 1) := by decide +kernel
theorem dX2_wordOfVariable_15 : decode cX2_wordOfVariable 15 = .ok (.lreturn, 1) := by decide +kernel
theorem dX2_wordOfVariable_16 : decode cX2_wordOfVariable 16 = .ok (.iload_n 1, 1) := by decide +kernel
theorem dX2_wordOfVariable_17 : decode cX2_wordOfVariable 17 = .ok (.iload_n 0, 1) := by decide +kernel
theorem dX2_wordOfVariable_18 : decode cX2_wordOfVariable 18 = .ok (.bipush 6, 2) := by decide +kernel
theorem dX2_wordOfVariable_20 : decode cX2_wordOfVariable 20 = .ok (.isub, 1) := by decide +kernel
theorem dX2_wordOfVariable_21 : decode cX2_wordOfVariable 21 = .ok (.ishr, 1) := by decide +kernel
theorem dX2_wordOfVariable_22 : decode cX2_wordOfVariable 22 = .ok (.iconst 1, 1) := by decide +kernel
theorem dX2_wordOfVariable_23 : decode cX2_wordOfVariable 23 = .ok (.iand, 1) := by decide +kernel
theorem dX2_wordOfVariable_24 : decode cX2_wordOfVariable 24 = .ok (.iconst 1, 1) := by decide +kernel
theorem dX2_wordOfVariable_25 : decode cX2_wordOfVariable 25 = .ok (.if_icmp .ne 9, 3) := by decide +kernel
theorem dX2_wordOfVariable_28 : decode cX2_wordOfVariable 28 = .ok (.ldc2_w 18, 3) := by decide +kernel
theorem dX2_wordOfVariable_31 : decode cX2_wordOfVariable 31 = .ok (.goto 4, 3) := by decide +kernel
theorem dX2_wordOfVariable_34 : decode cX2_wordOfVariable 34 = .ok (.lconst 0, 1) := by decide +kernel
theorem dX2_wordOfVariable_35 : decode cX2_wordOfVariable 35 = .ok (.lreturn, 1) := by decide +kernel
theorem dX2_wordByTable_0 : decode cX2_wordByTable 0 = .ok (.lconst 0, 1) := by decide +kernel
theorem dX2_wordByTable_1 : decode cX2_wordByTable 1 = .ok (.lstore 5, 2) := by decide +kernel
theorem dX2_wordByTable_3 : decode cX2_wordByTable 3 = .ok (.iload 4, 2) := by decide +kernel
theorem dX2_wordByTable_5 : decode cX2_wordByTable 5 = .ok (.iconst 1, 1) := by decide +kernel
theorem dX2_wordByTable_6 : decode cX2_wordByTable 6 = .ok (.iand, 1) := by decide +kernel
theorem dX2_wordByTable_7 : decode cX2_wordByTable 7 = .ok (.ifCond .eq 19, 3) := by decide +kernel
theorem dX2_wordByTable_10 : decode cX2_wordByTable 10 = .ok (.lload 5, 2) := by decide +kernel
theorem dX2_wordByTable_12 : decode cX2_wordByTable 12 = .ok (.lload_n 0, 1) := by decide +kernel
theorem dX2_wordByTable_13 : decode cX2_wordByTable 13 = .ok (.ldc2_w 18, 3) := by decide +kernel
theorem dX2_wordByTable_16 : decode cX2_wordByTable 16 = .ok (.lxor, 1) := by decide +kernel
theorem dX2_wordByTable_17 : decode cX2_wordByTable 17 = .ok (.lload_n 2, 1) := by decide +kernel
theorem dX2_wordByTable_18 : decode cX2_wordByTable 18 = .ok (.ldc2_w 18, 3) := by decide +kernel
theorem dX2_wordByTable_21 : decode cX2_wordByTable 21 = .ok (.lxor, 1) := by decide +kernel
theorem dX2_wordByTable_22 : decode cX2_wordByTable 22 = .ok (.land, 1) := by decide +kernel
theorem dX2_wordByTable_23 : decode cX2_wordByTable 23 = .ok (.lor, 1) := by decide +kernel
theorem dX2_wordByTable_24 : decode cX2_wordByTable 24 = .ok (.lstore 5, 2) := by decide +kernel
theorem dX2_wordByTable_26 : decode cX2_wordByTable 26 = .ok (.iload 4, 2) := by decide +kernel
theorem dX2_wordByTable_28 : decode cX2_wordByTable 28 = .ok (.iconst 2, 1) := by decide +kernel
theorem dX2_wordByTable_29 : decode cX2_wordByTable 29 = .ok (.iand, 1) := by decide +kernel
theorem dX2_wordByTable_30 : decode cX2_wordByTable 30 = .ok (.ifCond .eq 15, 3) := by decide +kernel
theorem dX2_wordByTable_33 : decode cX2_wordByTable 33 = .ok (.lload 5, 2) := by decide +kernel
theorem dX2_wordByTable_35 : decode cX2_wordByTable 35 = .ok (.lload_n 0, 1) := by decide +kernel
theorem dX2_wordByTable_36 : decode cX2_wordByTable 36 = .ok (.ldc2_w 18, 3) := by decide +kernel
theorem dX2_wordByTable_39 : decode cX2_wordByTable 39 = .ok (.lxor, 1) := by decide +kernel
theorem dX2_wordByTable_40 : decode cX2_wordByTable 40 = .ok (.lload_n 2, 1) := by decide +kernel
theorem dX2_wordByTable_41 : decode cX2_wordByTable 41 = .ok (.land, 1) := by decide +kernel
theorem dX2_wordByTable_42 : decode cX2_wordByTable 42 = .ok (.lor, 1) := by decide +kernel
theorem dX2_wordByTable_43 : decode cX2_wordByTable 43 = .ok (.lstore 5, 2) := by decide +kernel
theorem dX2_wordByTable_45 : decode cX2_wordByTable 45 = .ok (.iload 4, 2) := by decide +kernel
theorem dX2_wordByTable_47 : decode cX2_wordByTable 47 = .ok (.iconst 4, 1) := by decide +kernel
theorem dX2_wordByTable_48 : decode cX2_wordByTable 48 = .ok (.iand, 1) := by decide +kernel
theorem dX2_wordByTable_49 : decode cX2_wordByTable 49 = .ok (.ifCond .eq 15, 3) := by decide +kernel
theorem dX2_wordByTable_52 : decode cX2_wordByTable 52 = .ok (.lload 5, 2) := by decide +kernel
theorem dX2_wordByTable_54 : decode cX2_wordByTable 54 = .ok (.lload_n 0, 1) := by decide +kernel
theorem dX2_wordByTable_55 : decode cX2_wordByTable 55 = .ok (.lload_n 2, 1) := by decide +kernel
theorem dX2_wordByTable_56 : decode cX2_wordByTable 56 = .ok (.ldc2_w 18, 3) := by decide +kernel
theorem dX2_wordByTable_59 : decode cX2_wordByTable 59 = .ok (.lxor, 1) := by decide +kernel
theorem dX2_wordByTable_60 : decode cX2_wordByTable 60 = .ok (.land, 1) := by decide +kernel
theorem dX2_wordByTable_61 : decode cX2_wordByTable 61 = .ok (.lor, 1) := by decide +kernel
theorem dX2_wordByTable_62 : decode cX2_wordByTable 62 = .ok (.lstore 5, 2) := by decide +kernel
theorem dX2_wordByTable_64 : decode cX2_wordByTable 64 = .ok (.iload 4, 2) := by decide +kernel
theorem dX2_wordByTable_66 : decode cX2_wordByTable 66 = .ok (.bipush 8, 2) := by decide +kernel
theorem dX2_wordByTable_68 : decode cX2_wordByTable 68 = .ok (.iand, 1) := by decide +kernel
theorem dX2_wordByTable_69 : decode cX2_wordByTable 69 = .ok (.ifCond .eq 11, 3) := by decide +kernel
theorem dX2_wordByTable_72 : decode cX2_wordByTable 72 = .ok (.lload 5, 2) := by decide +kernel
theorem dX2_wordByTable_74 : decode cX2_wordByTable 74 = .ok (.lload_n 0, 1) := by decide +kernel
theorem dX2_wordByTable_75 : decode cX2_wordByTable 75 = .ok (.lload_n 2, 1) := by decide +kernel
theorem dX2_wordByTable_76 : decode cX2_wordByTable 76 = .ok (.land, 1) := by decide +kernel
theorem dX2_wordByTable_77 : decode cX2_wordByTable 77 = .ok (.lor, 1) := by decide +kernel
theorem dX2_wordByTable_78 : decode cX2_wordByTable 78 = .ok (.lstore 5, 2) := by decide +kernel
theorem dX2_wordByTable_80 : decode cX2_wordByTable 80 = .ok (.lload 5, 2) := by decide +kernel
theorem dX2_wordByTable_82 : decode cX2_wordByTable 82 = .ok (.lreturn, 1) := by decide +kernel
theorem dX2_wordAcross_0 : decode cX2_wordAcross 0 = .ok (.iload_n 1, 1) := by decide +kernel
theorem dX2_wordAcross_1 : decode cX2_wordAcross 1 = .ok (.ifCond .lt 44, 3) := by decide +kernel
theorem dX2_wordAcross_4 : decode cX2_wordAcross 4 = .ok (.iload_n 1, 1) := by decide +kernel
theorem dX2_wordAcross_5 : decode cX2_wordAcross 5 = .ok (.bipush 6, 2) := by decide +kernel
theorem dX2_wordAcross_7 : decode cX2_wordAcross 7 = .ok (.if_icmp .ge 38, 3) := by decide +kernel
theorem dX2_wordAcross_10 : decode cX2_wordAcross 10 = .ok (.iconst 1, 1) := by decide +kernel
theorem dX2_wordAcross_11 : decode cX2_wordAcross 11 = .ok (.iload_n 1, 1) := by decide +kernel
theorem dX2_wordAcross_12 : decode cX2_wordAcross 12 = .ok (.ishl, 1) := by decide +kernel
theorem dX2_wordAcross_13 : decode cX2_wordAcross 13 = .ok (.istore_n 3, 1) := by decide +kernel
theorem dX2_wordAcross_14 : decode cX2_wordAcross 14 = .ok (.getstatic 15, 3) := by decide +kernel
theorem dX2_wordAcross_17 : decode cX2_wordAcross 17 = .ok (.iload_n 1, 1) := by decide +kernel
theorem dX2_wordAcross_18 : decode cX2_wordAcross 18 = .ok (.laload, 1) := by decide +kernel
theorem dX2_wordAcross_19 : decode cX2_wordAcross 19 = .ok (.lstore 4, 2) := by decide +kernel
theorem dX2_wordAcross_21 : decode cX2_wordAcross 21 = .ok (.aload_n 0, 1) := by decide +kernel
theorem dX2_wordAcross_22 : decode cX2_wordAcross 22 = .ok (.getfield 11, 3) := by decide +kernel
theorem dX2_wordAcross_25 : decode cX2_wordAcross 25 = .ok (.iload_n 2, 1) := by decide +kernel
theorem dX2_wordAcross_26 : decode cX2_wordAcross 26 = .ok (.laload, 1) := by decide +kernel
theorem dX2_wordAcross_27 : decode cX2_wordAcross 27 = .ok (.lload 4, 2) := by decide +kernel
theorem dX2_wordAcross_29 : decode cX2_wordAcross 29 = .ok (.land, 1) := by decide +kernel
theorem dX2_wordAcross_30 : decode cX2_wordAcross 30 = .ok (.iload_n 3, 1) := by decide +kernel
theorem dX2_wordAcross_31 : decode cX2_wordAcross 31 = .ok (.lushr, 1) := by decide +kernel
theorem dX2_wordAcross_32 : decode cX2_wordAcross 32 = .ok (.aload_n 0, 1) := by decide +kernel
theorem dX2_wordAcross_33 : decode cX2_wordAcross 33 = .ok (.getfield 11, 3) := by decide +kernel
theorem dX2_wordAcross_36 : decode cX2_wordAcross 36 = .ok (.iload_n 2, 1) := by decide +kernel
theorem dX2_wordAcross_37 : decode cX2_wordAcross 37 = .ok (.laload, 1) := by decide +kernel
theorem dX2_wordAcross_38 : decode cX2_wordAcross 38 = .ok (.iload_n 3, 1) := by decide +kernel
theorem dX2_wordAcross_39 : decode cX2_wordAcross 39 = .ok (.lshl, 1) := by decide +kernel
theorem dX2_wordAcross_40 : decode cX2_wordAcross 40 = .ok (.lload 4, 2) := by decide +kernel
theorem dX2_wordAcross_42 : decode cX2_wordAcross 42 = .ok (.land, 1) := by decide +kernel
