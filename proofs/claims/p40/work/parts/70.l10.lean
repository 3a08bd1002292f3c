theorem dL_third_0 : decode cL_third 0 = .ok (.aload_n 0, 1) := by decide +kernel
theorem dL_third_1 : decode cL_third 1 = .ok (.bipush 6, 2) := by decide +kernel
theorem dL_third_3 : decode cL_third 3 = .ok (.iconst 0, 1) := by decide +kernel
theorem dL_third_4 : decode cL_third 4 = .ok (.iload_n 1, 1) := by decide +kernel
theorem dL_third_5 : decode cL_third 5 = .ok (.iconst 1, 1) := by decide +kernel
theorem dL_third_6 : decode cL_third 6 = .ok (.invokevirtual 90, 3) := by decide +kernel
theorem dL_third_9 : decode cL_third 9 = .ok (.ifCond .lt 42, 3) := by decide +kernel
theorem dL_third_12 : decode cL_third 12 = .ok (.aload_n 0, 1) := by decide +kernel
theorem dL_third_13 : decode cL_third 13 = .ok (.bipush 7, 2) := by decide +kernel
theorem dL_third_15 : decode cL_third 15 = .ok (.iconst 0, 1) := by decide +kernel
theorem dL_third_16 : decode cL_third 16 = .ok (.iconst 0, 1) := by decide +kernel
theorem dL_third_17 : decode cL_third 17 = .ok (.iconst 1, 1) := by decide +kernel
theorem dL_third_18 : decode cL_third 18 = .ok (.invokevirtual 31, 3) := by decide +kernel
theorem dL_third_21 : decode cL_third 21 = .ok (.ifCond .lt 30, 3) := by decide +kernel
theorem dL_third_24 : decode cL_third 24 = .ok (.aload_n 0, 1) := by decide +kernel
theorem dL_third_25 : decode cL_third 25 = .ok (.bipush 7, 2) := by decide +kernel
theorem dL_third_27 : decode cL_third 27 = .ok (.bipush 7, 2) := by decide +kernel
theorem dL_third_29 : decode cL_third 29 = .ok (.iload_n 1, 1) := by decide +kernel
theorem dL_third_30 : decode cL_third 30 = .ok (.iconst 0, 1) := by decide +kernel
theorem dL_third_31 : decode cL_third 31 = .ok (.invokevirtual 90, 3) := by decide +kernel
theorem dL_third_34 : decode cL_third 34 = .ok (.ifCond .lt 17, 3) := by decide +kernel
theorem dL_third_37 : decode cL_third 37 = .ok (.aload_n 0, 1) := by decide +kernel
theorem dL_third_38 : decode cL_third 38 = .ok (.bipush 7, 2) := by decide +kernel
theorem dL_third_40 : decode cL_third 40 = .ok (.bipush 7, 2) := by decide +kernel
theorem dL_third_42 : decode cL_third 42 = .ok (.bipush 7, 2) := by decide +kernel
theorem dL_third_44 : decode cL_third 44 = .ok (.iconst 1, 1) := by decide +kernel
theorem dL_third_45 : decode cL_third 45 = .ok (.invokevirtual 31, 3) := by decide +kernel
theorem dL_third_48 : decode cL_third 48 = .ok (.ifCond .ge 5, 3) := by decide +kernel
theorem dL_third_51 : decode cL_third 51 = .ok (.iconst 2, 1) := by decide +kernel
theorem dL_third_52 : decode cL_third 52 = .ok (.ireturn, 1) := by decide +kernel
theorem dL_third_53 : decode cL_third 53 = .ok (.aload_n 0, 1) := by decide +kernel
theorem dL_third_54 : decode cL_third 54 = .ok (.bipush 6, 2) := by decide +kernel
theorem dL_third_56 : decode cL_third 56 = .ok (.bipush 7, 2) := by decide +kernel
theorem dL_third_58 : decode cL_third 58 = .ok (.invokevirtual 71, 3) := by decide +kernel
theorem dL_third_61 : decode cL_third 61 = .ok (.ifCond .ne 18, 3) := by decide +kernel
theorem dL_third_64 : decode cL_third 64 = .ok (.aload_n 0, 1) := by decide +kernel
theorem dL_third_65 : decode cL_third 65 = .ok (.bipush 6, 2) := by decide +kernel
theorem dL_third_67 : decode cL_third 67 = .ok (.invokevirtual 45, 3) := by decide +kernel
theorem dL_third_70 : decode cL_third 70 = .ok (.iload_n 1, 1) := by decide +kernel
theorem dL_third_71 : decode cL_third 71 = .ok (.iand, 1) := by decide +kernel
theorem dL_third_72 : decode cL_third 72 = .ok (.ifCond .ne 7, 3) := by decide +kernel
theorem dL_third_75 : decode cL_third 75 = .ok (.iconst 1, 1) := by decide +kernel
theorem dL_third_76 : decode cL_third 76 = .ok (.goto 4, 3) := by decide +kernel
theorem dL_third_79 : decode cL_third 79 = .ok (.iconst 0, 1) := by decide +kernel
theorem dL_third_80 : decode cL_third 80 = .ok (.istore_n 3, 1) := by decide +kernel
theorem dL_third_81 : decode cL_third 81 = .ok (.aload_n 0, 1) := by decide +kernel
theorem dL_third_82 : decode cL_third 82 = .ok (.bipush 6, 2) := by decide +kernel
theorem dL_third_84 : decode cL_third 84 = .ok (.iconst 0, 1) := by decide +kernel
theorem dL_third_85 : decode cL_third 85 = .ok (.iconst 1, 1) := by decide +kernel
theorem dL_third_86 : decode cL_third 86 = .ok (.bipush 8, 2) := by decide +kernel
theorem dL_third_88 : decode cL_third 88 = .ok (.invokevirtual 31, 3) := by decide +kernel
theorem dL_third_91 : decode cL_third 91 = .ok (.ifCond .lt 28, 3) := by decide +kernel
theorem dL_third_94 : decode cL_third 94 = .ok (.aload_n 0, 1) := by decide +kernel
theorem dL_third_95 : decode cL_third 95 = .ok (.bipush 6, 2) := by decide +kernel
theorem dL_third_97 : decode cL_third 97 = .ok (.bipush 6, 2) := by decide +kernel
theorem dL_third_99 : decode cL_third 99 = .ok (.iload_n 1, 1) := by decide +kernel
theorem dL_third_100 : decode cL_third 100 = .ok (.iconst 0, 1) := by decide +kernel
theorem dL_third_101 : decode cL_third 101 = .ok (.invokevirtual 90, 3) := by decide +kernel
theorem dL_third_104 : decode cL_third 104 = .ok (.ifCond .lt 15, 3) := by decide +kernel
theorem dL_third_107 : decode cL_third 107 = .ok (.aload_n 0, 1) := by decide +kernel
theorem dL_third_108 : decode cL_third 108 = .ok (.bipush 7, 2) := by decide +kernel
theorem dL_third_110 : decode cL_third 110 = .ok (.iconst 0, 1) := by decide +kernel
theorem dL_third_111 : decode cL_third 111 = .ok (.iconst 1, 1) := by decide +kernel
theorem dL_third_112 : decode cL_third 112 = .ok (.iload_n 1, 1) := by decide +kernel
theorem dL_third_113 : decode cL_third 113 = .ok (.invokevirtual 93, 3) := by decide +kernel
theorem dL_third_116 : decode cL_third 116 = .ok (.ifCond .ge 5, 3) := by decide +kernel
theorem dL_third_119 : decode cL_third 119 = .ok (.iconst 2, 1) := by decide +kernel
theorem dL_third_120 : decode cL_third 120 = .ok (.ireturn, 1) := by decide +kernel
theorem dL_third_121 : decode cL_third 121 = .ok (.iload_n 3, 1) := by decide +kernel
theorem dL_third_122 : decode cL_third 122 = .ok (.aload_n 0, 1) := by decide +kernel
theorem dL_third_123 : decode cL_third 123 = .ok (.bipush 6, 2) := by decide +kernel
theorem dL_third_125 : decode cL_third 125 = .ok (.bipush 7, 2) := by decide +kernel
theorem dL_third_127 : decode cL_third 127 = .ok (.invokevirtual 71, 3) := by decide +kernel
theorem dL_third_130 : decode cL_third 130 = .ok (.ifCond .ne 7, 3) := by decide +kernel
theorem dL_third_133 : decode cL_third 133 = .ok (.iconst 1, 1) := by decide +kernel
theorem dL_third_134 : decode cL_third 134 = .ok (.goto 4, 3) := by decide +kernel
theorem dL_third_137 : decode cL_third 137 = .ok (.iconst 0, 1) := by decide +kernel
theorem dL_third_138 : decode cL_third 138 = .ok (.iand, 1) := by decide +kernel
theorem dL_third_139 : decode cL_third 139 = .ok (.istore_n 3, 1) := by decide +kernel
theorem dL_third_140 : decode cL_third 140 = .ok (.aload_n 0, 1) := by decide +kernel
theorem dL_third_141 : decode cL_third 141 = .ok (.bipush 6, 2) := by decide +kernel
theorem dL_third_143 : decode cL_third 143 = .ok (.iconst 0, 1) := by decide +kernel
theorem dL_third_144 : decode cL_third 144 = .ok (.iconst 1, 1) := by decide +kernel
theorem dL_third_145 : decode cL_third 145 = .ok (.iload_n 2, 1) := by decide +kernel
theorem dL_third_146 : decode cL_third 146 = .ok (.ishl, 1) := by decide +kernel
theorem dL_third_147 : decode cL_third 147 = .ok (.iconst 2, 1) := by decide +kernel
theorem dL_third_148 : decode cL_third 148 = .ok (.invokevirtual 90, 3) := by decide +kernel
theorem dL_third_151 : decode cL_third 151 = .ok (.ifCond .ge 5, 3) := by decide +kernel
theorem dL_third_154 : decode cL_third 154 = .ok (.iconst 2, 1) := by decide +kernel
theorem dL_third_155 : decode cL_third 155 = .ok (.ireturn, 1) := by decide +kernel
theorem dL_third_156 : decode cL_third 156 = .ok (.iload_n 3, 1) := by decide +kernel
theorem dL_third_157 : decode cL_third 157 = .ok (.ifCond .eq 22, 3) := by decide +kernel
theorem dL_third_160 : decode cL_third 160 = .ok (.aload_n 0, 1) := by decide +kernel
theorem dL_third_161 : decode cL_third 161 = .ok (.bipush 6, 2) := by decide +kernel
theorem dL_third_163 : decode cL_third 163 = .ok (.invokevirtual 15, 3) := by decide +kernel
theorem dL_third_166 : decode cL_third 166 = .ok (.aload_n 0, 1) := by decide +kernel
theorem dL_third_167 : decode cL_third 167 = .ok (.iconst 0, 1) := by decide +kernel
theorem dL_third_168 : decode cL_third 168 = .ok (.iload_n 2, 1) := by decide +kernel
theorem dL_third_169 : decode cL_third 169 = .ok (.invokevirtual 84, 3) := by decide +kernel
theorem dL_third_172 : decode cL_third 172 = .ok (.if_icmp .ne 7, 3) := by decide +kernel
theorem dL_third_175 : decode cL_third 175 = .ok (.iconst 1, 1) := by decide +kernel
theorem dL_third_176 : decode cL_third 176 = .ok (.goto 4, 3) := by decide +kernel
theorem dL_third_179 : decode cL_third 179 = .ok (.iconst 0, 1) := by decide +kernel
theorem dL_third_180 : decode cL_third 180 = .ok (.ireturn, 1) := by decide +kernel
set_option maxRecDepth 20000 in
theorem ggL_fourth_X3_models : GoodIn wsL_fourth wsX3_models := goodIn_ca (goodIn_r _ [5, 6, 7, 8, 4, 9, 10, 11, 12, 13, 14, 15, 16, 17, 18, 19, 20, 21, 22, 23, 24, 171, 172, 173, 174, 175, 176, 177, 178, 179, 180, 181] (by decide +kernel) (by decide +kernel)) (goodIn_sub (fun _ h => List.mem_cons_of_mem _ (List.mem_append_left _ (List.mem_append_left _ (List.mem_append_right _ h)))) (by decide +kernel))
set_option maxRecDepth 20000 in
theorem gL_fourth_X3_models : GoodIn wsL_fourth (wsV RL 15 RX3 yX3_models wsX3_models) := goodIn_app (goodIn_of _ (by decide +kernel)) ggL_fourth_X3_models
set_option maxRecDepth 20000 in
theorem ggL_fourth_X3_press : GoodIn wsL_fourth wsX3_press := goodIn_ca (goodIn_ca (goodIn_r _ [28, 29, 30, 6, 31, 32, 33, 34, 7, 8, 4, 9, 10, 11, 12, 13, 14, 15, 16, 17, 18, 19, 20, 21, 22, 23, 24, 35, 36, 37, 38, 39, 40, 41, 42, 43, 44, 45, 46, 47, 48, 49, 50, 51, 52, 53, 54, 55, 56, 57, 58, 59, 60, 61, 62, 63, 64, 65, 66, 67, 68, 69, 70, 71, 72, 73, 74, 75, 76, 77, 78, 79, 80, 81, 82, 83, 84, 85, 86, 87, 88, 89, 90, 91, 92, 93, 94, 95, 96, 97, 98, 99, 100, 101, 102, 103, 104, 105, 106, 107, 108, 109, 110, 111, 112, 113, 114, 115, 116, 117, 118, 119, 120, 121, 122, 123, 124, 125, 126, 127, 128, 129, 130, 131, 132, 133, 134, 135, 136, 137, 138, 139, 140, 141, 142, 143, 144, 145, 146, 147, 148, 149, 150, 151, 152, 153, 154, 155, 171, 172, 173, 174, 175, 176, 177, 178, 179, 180, 181, 182, 183, 184, 185, 186, 187, 188, 189, 190, 191, 192, 193, 194, 195, 196, 197, 198] (by decide +kernel) (by decide +kernel)) (goodIn_sub (fun _ h => List.mem_cons_of_mem _ (List.mem_append_left _ (List.mem_append_right _ h))) (by decide +kernel))) (goodIn_sub (fun _ h => List.mem_cons_of_mem _ (List.mem_append_left _ (List.mem_append_left _ (List.mem_append_right _ h)))) (by decide +kernel))
set_option maxRecDepth 20000 in
theorem gL_fourth_X3_press : GoodIn wsL_fourth (wsV RL 96 RX3 yX3_press wsX3_press) := goodIn_app (goodIn_of _ (by decide +kernel)) ggL_fourth_X3_press
set_option maxRecDepth 20000 in
theorem ggL_fourth_X3_apply : GoodIn wsL_fourth wsX3_apply := goodIn_ca (goodIn_ca (goodIn_r _ [159, 160, 161, 6, 162, 31, 7, 8, 4, 9, 10, 11, 163, 164, 15, 165, 56, 67, 68, 69, 70, 33, 71, 72, 73, 74, 75, 76, 77, 78, 79, 17, 58, 59, 60, 61, 62, 80, 81, 82, 46, 83, 84, 48, 85, 86, 87, 88, 89, 90, 91, 92, 93, 94, 95, 96, 97, 98, 99, 100, 101, 102, 103, 104, 105, 106, 107, 108, 109, 110, 49, 50, 51, 111, 112, 113, 114, 115, 116, 117, 118, 119, 120, 121, 122, 123, 124, 125, 126, 127, 128, 129, 130, 131, 132, 133, 134, 135, 136, 137, 138, 139, 140, 141, 142, 143, 144, 35, 36, 37, 38, 39, 40, 41, 42, 145, 146, 147, 148, 149, 150, 151, 152, 153, 154, 155, 171, 172, 173, 174, 175, 176, 177, 178, 179, 180, 181, 182, 183, 184, 185, 186, 187, 188, 189, 190, 191, 192, 193, 194, 195, 196, 197, 198] (by decide +kernel) (by decide +kernel)) (goodIn_sub (fun _ h => List.mem_cons_of_mem _ (List.mem_append_right _ h)) (by decide +kernel))) (goodIn_sub (fun _ h => List.mem_cons_of_mem _ (List.mem_append_left _ (List.mem_append_left _ (List.mem_append_right _ h)))) (by decide +kernel))
set_option maxRecDepth 20000 in
theorem gL_fourth_X3_apply : GoodIn wsL_fourth (wsV RL 31 RX3 yX3_apply wsX3_apply) := goodIn_app (goodIn_of _ (by decide +kernel)) ggL_fourth_X3_apply
set_option maxRecDepth 20000 in
theorem ggL_fourth_X3_compare : GoodIn wsL_fourth wsX3_compare := goodIn_ca (goodIn_r _ [169, 6, 162, 170, 7, 8, 4, 9, 10, 11, 171, 172, 173, 174, 175, 176, 177, 178, 179, 180, 181] (by decide +kernel) (by decide +kernel)) (goodIn_sub (fun _ h => List.mem_cons_of_mem _ (List.mem_append_left _ (List.mem_append_left _ (List.mem_append_right _ h)))) (by decide +kernel))
set_option maxRecDepth 20000 in
theorem gL_fourth_X3_compare : GoodIn wsL_fourth (wsV RL 71 RX3 yX3_compare wsX3_compare) := goodIn_app (goodIn_of _ (by decide +kernel)) ggL_fourth_X3_compare
theorem dL_fourth_0 : decode cL_fourth 0 = .ok (.aload_n 0, 1) := by decide +kernel
theorem dL_fourth_1 : decode cL_fourth 1 = .ok (.iconst 1, 1) := by decide +kernel
theorem dL_fourth_2 : decode cL_fourth 2 = .ok (.invokevirtual 15, 3) := by decide +kernel
theorem dL_fourth_5 : decode cL_fourth 5 = .ok (.ifCond .ne 5, 3) := by decide +kernel
theorem dL_fourth_8 : decode cL_fourth 8 = .ok (.iconst 1, 1) := by decide +kernel
theorem dL_fourth_9 : decode cL_fourth 9 = .ok (.ireturn, 1) := by decide +kernel
theorem dL_fourth_10 : decode cL_fourth 10 = .ok (.aload_n 0, 1) := by decide +kernel
theorem dL_fourth_11 : decode cL_fourth 11 = .ok (.bipush 6, 2) := by decide +kernel
theorem dL_fourth_13 : decode cL_fourth 13 = .ok (.iconst 0, 1) := by decide +kernel
theorem dL_fourth_14 : decode cL_fourth 14 = .ok (.iconst 1, 1) := by decide +kernel
theorem dL_fourth_15 : decode cL_fourth 15 = .ok (.invokevirtual 96, 3) := by decide +kernel
theorem dL_fourth_18 : decode cL_fourth 18 = .ok (.ifCond .lt 30, 3) := by decide +kernel
theorem dL_fourth_21 : decode cL_fourth 21 = .ok (.aload_n 0, 1) := by decide +kernel
theorem dL_fourth_22 : decode cL_fourth 22 = .ok (.bipush 7, 2) := by decide +kernel
theorem dL_fourth_24 : decode cL_fourth 24 = .ok (.bipush 6, 2) := by decide +kernel
theorem dL_fourth_26 : decode cL_fourth 26 = .ok (.iconst 1, 1) := by decide +kernel
theorem dL_fourth_27 : decode cL_fourth 27 = .ok (.bipush 8, 2) := by decide +kernel
theorem dL_fourth_29 : decode cL_fourth 29 = .ok (.invokevirtual 31, 3) := by decide +kernel
theorem dL_fourth_32 : decode cL_fourth 32 = .ok (.ifCond .lt 16, 3) := by decide +kernel
theorem dL_fourth_35 : decode cL_fourth 35 = .ok (.aload_n 0, 1) := by decide +kernel
theorem dL_fourth_36 : decode cL_fourth 36 = .ok (.bipush 9, 2) := by decide +kernel
theorem dL_fourth_38 : decode cL_fourth 38 = .ok (.iconst 0, 1) := by decide +kernel
theorem dL_fourth_39 : decode cL_fourth 39 = .ok (.iconst 1, 1) := by decide +kernel
theorem dL_fourth_40 : decode cL_fourth 40 = .ok (.bipush 8, 2) := by decide +kernel
theorem dL_fourth_42 : decode cL_fourth 42 = .ok (.invokevirtual 31, 3) := by decide +kernel
theorem dL_fourth_45 : decode cL_fourth 45 = .ok (.ifCond .ge 5, 3) := by decide +kernel
theorem dL_fourth_48 : decode cL_fourth 48 = .ok (.iconst 2, 1) := by decide +kernel
theorem dL_fourth_49 : decode cL_fourth 49 = .ok (.ireturn, 1) := by decide +kernel
theorem dL_fourth_50 : decode cL_fourth 50 = .ok (.aload_n 0, 1) := by decide +kernel
theorem dL_fourth_51 : decode cL_fourth 51 = .ok (.bipush 7, 2) := by decide +kernel
theorem dL_fourth_53 : decode cL_fourth 53 = .ok (.bipush 9, 2) := by decide +kernel
theorem dL_fourth_55 : decode cL_fourth 55 = .ok (.invokevirtual 71, 3) := by decide +kernel
theorem dL_fourth_58 : decode cL_fourth 58 = .ok (.ifCond .ne 7, 3) := by decide +kernel
theorem dL_fourth_61 : decode cL_fourth 61 = .ok (.iconst 1, 1) := by decide +kernel
theorem dL_fourth_62 : decode cL_fourth 62 = .ok (.goto 4, 3) := by decide +kernel
theorem dL_fourth_65 : decode cL_fourth 65 = .ok (.iconst 0, 1) := by decide +kernel
theorem dL_fourth_66 : decode cL_fourth 66 = .ok (.ireturn, 1) := by decide +kernel
set_option maxRecDepth 20000 in
theorem ggL_law_X3_init : GoodIn wsL_law wsX3_init := goodIn_r _ [5, 6, 7, 8, 9, 10, 11, 12, 13, 14, 15, 16, 17, 18, 19, 20, 21, 22, 23, 24, 25, 26, 27, 28, 29, 30, 31, 32, 33, 34, 35, 36, 37, 38, 39, 40, 41, 42, 43, 44, 45, 46, 47, 48, 49, 50, 51, 52, 53, 54, 55, 56, 57, 58, 59, 528, 529, 530, 531, 532, 533, 534, 535, 536, 537, 538, 539, 540, 541, 542, 543, 544, 545, 546, 547, 548, 549, 550, 551, 552, 553, 554, 555, 556, 557, 558] (by decide +kernel) (by decide +kernel)
set_option maxRecDepth 20000 in
theorem gL_law_X3_init : GoodIn wsL_law (wsX3_init) := ggL_law_X3_init
set_option maxRecDepth 20000 in
theorem ggL_law_L_cell : GoodIn wsL_law wsL_cell := goodIn_r _ [63, 64] (by decide +kernel) (by decide +kernel)
set_option maxRecDepth 20000 in
theorem gL_law_L_cell : GoodIn wsL_law (va_wsS RL 101 yL_cell wsL_cell) := goodIn_app (goodIn_of _ (by decide +kernel)) ggL_law_L_cell
set_option maxRecDepth 20000 in
theorem ggL_law_L_made : GoodIn wsL_law wsL_made := goodIn_ca (goodIn_ca (goodIn_r _ [67, 68, 69, 70, 62, 71, 72, 73, 74, 75, 2, 76, 23, 77, 78, 79, 80, 81, 82, 83, 84, 85, 86, 87, 22, 88, 89, 90, 91, 92, 93, 94, 16, 10, 12, 95, 96, 97, 98, 99, 100, 101, 102, 59, 103, 104, 105, 106, 107, 108, 109, 15, 110, 45, 33, 111, 112, 113, 114, 115, 116, 117, 118, 119, 120, 121, 122, 123, 124, 125, 126, 127, 128, 129, 36, 38, 39, 40, 46, 37, 41, 130, 131, 132, 133, 134, 135, 136, 137, 138, 139, 140, 141, 142, 143, 144, 35, 145, 146, 147, 148, 149, 150, 151, 152, 153, 34, 154, 155, 156, 157, 158, 159, 160, 161, 162, 163, 164, 165, 166, 167, 168, 169, 170, 171, 172, 173, 174, 175, 176, 177, 178, 179, 180, 181, 42, 44, 182, 183, 184, 185, 186, 187, 188, 189, 190, 191, 192, 193, 528, 529, 530, 531, 532, 533, 534, 535, 536, 537, 558, 538, 539, 540, 541, 542, 543, 544, 545, 546, 547, 548, 549, 550, 551, 552, 553, 554] (by decide +kernel) (by decide +kernel)) (goodIn_sub (fun _ h => List.mem_append_left _ (List.mem_append_left _ (List.mem_append_right _ h))) (by decide +kernel))) (goodIn_sub (fun _ h => List.mem_append_left _ (List.mem_append_right _ h)) (by decide +kernel))
set_option maxRecDepth 20000 in
theorem gL_law_L_made : GoodIn wsL_law (va_wsS RL 105 yL_made wsL_made) := goodIn_app (goodIn_of _ (by decide +kernel)) ggL_law_L_made
set_option maxRecDepth 20000 in
theorem ggL_law_L_below : GoodIn wsL_law wsL_below := goodIn_r _ [71, 72] (by decide +kernel) (by decide +kernel)
set_option maxRecDepth 20000 in
theorem gL_law_L_below : GoodIn wsL_law (va_wsS RL 24 yL_below wsL_below) := goodIn_app (goodIn_of _ (by decide +kernel)) ggL_law_L_below
set_option maxRecDepth 20000 in
theorem ggL_law_X3_swap : GoodIn wsL_law wsX3_swap := goodIn_ca (goodIn_r _ [197, 16, 198, 199, 2, 200, 81, 82, 201, 202, 203, 15, 204, 44, 33, 205, 206, 207, 208, 36, 40, 145, 35, 138, 139, 140, 209, 210, 211, 212, 37, 41, 141, 142, 143, 144, 38, 39, 130, 131, 132, 133, 134, 135, 136, 137, 213, 214, 215, 216, 217, 218, 219, 220, 221, 222, 223, 224, 225, 226, 227, 228, 229, 230, 231, 232, 233, 234, 235, 236, 126, 127, 128, 129, 46, 146, 147, 148, 149, 154, 155, 156, 157, 158, 159, 160, 161, 162, 163, 164, 528, 529, 530, 531, 532, 533, 534, 535, 536, 537, 538, 539, 540, 541, 542, 543, 544, 545, 546, 547, 548, 549, 550, 551, 552, 553, 554] (by decide +kernel) (by decide +kernel)) (goodIn_sub (fun _ h => List.mem_append_left _ (List.mem_append_left _ (List.mem_append_right _ h))) (by decide +kernel))
set_option maxRecDepth 20000 in
theorem gL_law_X3_swap : GoodIn wsL_law (wsV RL 109 RX3 yX3_swap wsX3_swap) := goodIn_app (goodIn_of _ (by decide +kernel)) ggL_law_X3_swap
set_option maxRecDepth 20000 in
theorem ggL_law_X3_sift : GoodIn wsL_law wsX3_sift := goodIn_ca (goodIn_r _ [240, 83, 84, 2, 85, 81, 82, 241, 242, 243, 244, 16, 245, 246, 247, 15, 248, 249, 250, 251, 252, 33, 253, 202, 203, 204, 44, 205, 206, 207, 208, 36, 40, 145, 35, 138, 139, 140, 209, 210, 211, 212, 37, 41, 141, 142, 143, 144, 38, 39, 130, 131, 132, 133, 134, 135, 136, 137, 213, 214, 215, 216, 217, 218, 219, 220, 221, 222, 223, 224, 225, 226, 227, 228, 229, 230, 231, 232, 233, 234, 235, 236, 126, 127, 128, 129, 46, 146, 147, 148, 149, 154, 155, 156, 157, 158, 159, 160, 254, 255, 256, 257, 528, 529, 530, 531, 532, 533, 534, 535, 536, 537, 538, 539, 540, 541, 542, 543, 544, 545, 546, 547, 548, 549, 550, 551, 552, 553, 554] (by decide +kernel) (by decide +kernel)) (goodIn_sub (fun _ h => List.mem_append_left _ (List.mem_append_left _ (List.mem_append_right _ h))) (by decide +kernel))
set_option maxRecDepth 20000 in
theorem gL_law_X3_sift : GoodIn wsL_law (wsV RL 112 RX3 yX3_sift wsX3_sift) := goodIn_app (goodIn_of _ (by decide +kernel)) ggL_law_X3_sift
set_option maxRecDepth 20000 in
theorem ggL_law_L_isSound : GoodIn wsL_law wsL_isSound := goodIn_ca (goodIn_r _ [260, 261, 262, 263, 264, 2, 265, 16, 198, 199, 200, 81, 82, 266, 267, 268, 15, 269, 35, 130, 131, 132, 270, 271, 272, 273, 161, 162, 163, 164, 145, 274, 275, 276, 277, 78, 79, 80, 173, 174, 175, 176, 177, 178, 34, 179, 180, 181, 42, 38, 39, 44, 138, 139, 140, 278, 279, 280, 281, 12, 282, 112, 113, 114, 115, 116, 117, 283, 284, 285, 286, 287, 288, 289, 290, 291, 292, 293, 294, 43, 295, 296, 297, 298, 299, 217, 218, 219, 220, 300, 301, 302, 303, 225, 226, 227, 228, 304, 305, 306, 307, 308, 309, 310, 311, 312, 313, 314, 315, 316, 317, 318, 319, 10, 320, 321, 322, 22, 323, 59, 324, 325, 326, 327, 328, 329, 330, 331, 332, 333, 334, 335, 528, 529, 530, 531, 532, 533, 534, 535, 536, 537, 538, 539, 540, 541, 542, 543, 544, 545, 546, 547, 548, 549, 550, 551, 552, 553, 554, 558] (by decide +kernel) (by decide +kernel)) (goodIn_sub (fun _ h => List.mem_append_left _ (List.mem_append_left _ (List.mem_append_right _ h))) (by decide +kernel))
set_option maxRecDepth 20000 in
theorem gL_law_L_isSound : GoodIn wsL_law (va_wsS RL 115 yL_isSound wsL_isSound) := goodIn_app (goodIn_of _ (by decide +kernel)) ggL_law_L_isSound
set_option maxRecDepth 20000 in
theorem ggL_law_X3_digest : GoodIn wsL_law wsX3_digest := goodIn_ca (goodIn_ca (goodIn_r _ [339, 340, 341, 342, 271, 272, 2, 273, 16, 161, 162, 163, 15, 164, 145, 343, 344, 345, 346, 198, 199, 200, 81, 82, 347, 348, 349, 350, 33, 130, 131, 132, 351, 263, 264, 265, 266, 267, 268, 269, 35, 352, 353, 354, 355, 356, 317, 318, 319, 10, 78, 79, 80, 320, 321, 322, 22, 323, 59, 324, 325, 326, 327, 328, 329, 330, 357, 279, 280, 281, 12, 358, 275, 276, 277, 173, 174, 175, 176, 177, 178, 34, 179, 180, 181, 42, 38, 39, 44, 138, 139, 140, 359, 309, 310, 311, 312, 313, 314, 315, 43, 299, 217, 218, 219, 220, 300, 301, 302, 303, 225, 226, 227, 228, 304, 305, 306, 307, 360, 288, 289, 290, 291, 292, 293, 294, 295, 296, 297, 298, 361, 362, 363, 364, 27, 365, 119, 120, 121, 366, 367, 368, 369, 189, 190, 370, 371, 372, 373, 374, 375, 376, 90, 377, 378, 379, 380, 77, 381, 382, 284, 285, 286, 383, 384, 385, 386, 83, 84, 85, 387, 388, 389, 390, 391, 87, 88, 89, 103, 104, 105, 106, 392, 393, 394, 395, 396, 397, 398, 399, 528, 529, 530, 531, 532, 533, 534, 535, 536, 537, 538, 539, 540, 541, 542, 543, 544, 545, 546, 547, 548, 549, 550, 551, 552, 553, 554, 558] (by decide +kernel) (by decide +kernel)) (goodIn_sub (fun _ h => List.mem_append_left _ (List.mem_append_left _ (List.mem_append_right _ h))) (by decide +kernel))) (goodIn_sub (fun _ h => List.mem_append_left _ (List.mem_append_right _ h)) (by decide +kernel))
set_option maxRecDepth 20000 in
theorem gL_law_X3_digest : GoodIn wsL_law (wsV RL 119 RX3 yX3_digest wsX3_digest) := goodIn_app (goodIn_of _ (by decide +kernel)) ggL_law_X3_digest
set_option maxRecDepth 20000 in
theorem ggL_law_X3_wouldSwap : GoodIn wsL_law wsX3_wouldSwap := goodIn_ca (goodIn_r _ [403, 16, 198, 199, 2, 200, 81, 82, 201, 202, 203, 15, 204, 44, 33, 205, 206, 207, 208, 36, 40, 145, 35, 138, 139, 140, 209, 210, 211, 212, 37, 41, 141, 142, 143, 144, 38, 39, 130, 131, 132, 133, 134, 135, 136, 137, 213, 214, 215, 216, 217, 218, 219, 220, 221, 222, 223, 224, 225, 226, 227, 228, 229, 230, 231, 232, 233, 234, 235, 236, 126, 127, 128, 129, 46, 146, 147, 148, 149, 154, 155, 156, 157, 158, 159, 160, 161, 162, 163, 164, 528, 529, 530, 531, 532, 533, 534, 535, 536, 537, 538, 539, 540, 541, 542, 543, 544, 545, 546, 547, 548, 549, 550, 551, 552, 553, 554] (by decide +kernel) (by decide +kernel)) (goodIn_sub (fun _ h => List.mem_append_left _ (List.mem_append_left _ (List.mem_append_right _ h))) (by decide +kernel))
set_option maxRecDepth 20000 in
theorem gL_law_X3_wouldSwap : GoodIn wsL_law (wsV RL 123 RX3 yX3_wouldSwap wsX3_wouldSwap) := goodIn_app (goodIn_of _ (by decide +kernel)) ggL_law_X3_wouldSwap
set_option maxRecDepth 20000 in
theorem ggL_law_X3_wouldSift : GoodIn wsL_law wsX3_wouldSift := goodIn_ca (goodIn_r _ [407, 16, 83, 84, 2, 85, 81, 82, 408, 250, 251, 15, 252, 33, 245, 246, 247, 248, 249, 253, 202, 203, 204, 44, 205, 206, 207, 208, 36, 40, 145, 35, 138, 139, 140, 209, 210, 211, 212, 37, 41, 141, 142, 143, 144, 38, 39, 130, 131, 132, 133, 134, 135, 136, 137, 213, 214, 215, 216, 217, 218, 219, 220, 221, 222, 223, 224, 225, 226, 227, 228, 229, 230, 231, 232, 233, 234, 235, 236, 126, 127, 128, 129, 46, 146, 147, 148, 149, 154, 155, 156, 157, 158, 159, 160, 254, 255, 256, 257, 528, 529, 530, 531, 532, 533, 534, 535, 536, 537, 538, 539, 540, 541, 542, 543, 544, 545, 546, 547, 548, 549, 550, 551, 552, 553, 554] (by decide +kernel) (by decide +kernel)) (goodIn_sub (fun _ h => List.mem_append_left _ (List.mem_append_left _ (List.mem_append_right _ h))) (by decide +kernel))
set_option maxRecDepth 20000 in
theorem gL_law_X3_wouldSift : GoodIn wsL_law (wsV RL 126 RX3 yX3_wouldSift wsX3_wouldSift) := goodIn_app (goodIn_of _ (by decide +kernel)) ggL_law_X3_wouldSift
set_option maxRecDepth 20000 in
theorem ggL_law_X3_leastSize : GoodIn wsL_law wsX3_leastSize := goodIn_ca (goodIn_r _ [412, 12, 20, 10, 78, 79, 2, 80, 81, 82, 413, 112, 113, 114, 115, 116, 117, 414, 415, 416, 22, 417, 418, 119, 120, 121, 59, 419, 420, 421, 19, 422, 423, 424, 297, 425, 51, 426, 427, 428, 429, 53, 430, 431, 432, 433, 54, 434, 170, 171, 172, 435, 436, 437, 438, 439, 87, 88, 89, 90, 440, 441, 442, 443, 444, 445, 446, 447, 528, 529, 530, 531, 532, 533, 534, 535, 536, 537, 558, 555, 556, 557] (by decide +kernel) (by decide +kernel)) (goodIn_sub (fun _ h => List.mem_append_left _ (List.mem_append_left _ (List.mem_append_right _ h))) (by decide +kernel))
set_option maxRecDepth 20000 in
theorem gL_law_X3_leastSize : GoodIn wsL_law (wsV RL 129 RX3 yX3_leastSize wsX3_leastSize) := goodIn_app (goodIn_of _ (by decide +kernel)) ggL_law_X3_leastSize
set_option maxRecDepth 20000 in
theorem ggL_law_X3_size : GoodIn wsL_law wsX3_size := goodIn_ca (goodIn_r _ [277, 16, 78, 79, 2, 80, 81, 82, 173, 174, 175, 15, 176, 177, 178, 34, 179, 180, 181, 42, 38, 39, 44, 138, 139, 140, 528, 529, 530, 531, 532, 533, 534, 535, 536, 537, 538, 539, 540, 541, 542, 543, 544, 545, 546, 547, 548, 549, 550, 551, 552, 553, 554] (by decide +kernel) (by decide +kernel)) (goodIn_sub (fun _ h => List.mem_append_left _ (List.mem_append_left _ (List.mem_append_right _ h))) (by decide +kernel))
set_option maxRecDepth 20000 in
theorem gL_law_X3_size : GoodIn wsL_law (wsV RL 42 RX3 yX3_size wsX3_size) := goodIn_app (goodIn_of _ (by decide +kernel)) ggL_law_X3_size
set_option maxRecDepth 20000 in
theorem ggL_law_L_first : GoodIn wsL_law wsL_first := goodIn_ca (goodIn_ca (goodIn_r _ [450, 185, 186, 187, 2, 188, 189, 190, 10, 77, 23, 78, 79, 80, 81, 82, 191, 192, 22, 193, 90, 91, 92, 93, 94, 16, 12, 95, 96, 97, 98, 99, 100, 101, 102, 59, 103, 104, 105, 106, 89, 107, 108, 109, 15, 110, 45, 33, 111, 112, 113, 114, 115, 116, 117, 118, 119, 120, 121, 122, 123, 124, 125, 126, 127, 128, 129, 36, 38, 39, 40, 46, 37, 41, 130, 131, 132, 133, 134, 135, 136, 137, 138, 139, 140, 141, 142, 143, 144, 35, 145, 146, 147, 148, 149, 150, 151, 152, 153, 34, 154, 155, 156, 157, 158, 159, 160, 161, 162, 163, 164, 165, 166, 167, 168, 169, 170, 171, 172, 173, 174, 175, 176, 177, 178, 179, 180, 181, 42, 44, 451, 452, 453, 454, 25, 83, 84, 85, 455, 456, 457, 458, 391, 87, 88, 316, 317, 318, 319, 320, 321, 322, 323, 324, 325, 326, 327, 328, 329, 330, 459, 378, 379, 380, 381, 528, 529, 530, 531, 532, 533, 534, 535, 536, 537, 558, 538, 539, 540, 541, 542, 543, 544, 545, 546, 547, 548, 549, 550, 551, 552, 553, 554] (by decide +kernel) (by decide +kernel)) (goodIn_sub (fun _ h => List.mem_append_left _ (List.mem_append_right _ h)) (by decide +kernel))) (goodIn_sub (fun _ h => List.mem_append_left _ (List.mem_append_left _ (List.mem_append_right _ h))) (by decide +kernel))
set_option maxRecDepth 20000 in
theorem gL_law_L_first : GoodIn wsL_law (va_wsS RL 132 yL_first wsL_first) := goodIn_app (goodIn_of _ (by decide +kernel)) ggL_law_L_first
set_option maxRecDepth 20000 in
theorem ggL_law_L_second : GoodIn wsL_law wsL_second := goodIn_ca (goodIn_r _ [462, 463, 464, 465, 2, 466, 10, 23, 77, 78, 79, 80, 81, 82, 83, 84, 85, 387, 388, 389, 22, 390, 90, 59, 391, 87, 88, 89, 103, 104, 105, 106, 91, 92, 93, 94, 16, 12, 95, 96, 97, 98, 99, 100, 101, 102, 107, 108, 109, 15, 110, 45, 33, 111, 112, 113, 114, 115, 116, 117, 118, 119, 120, 121, 122, 123, 124, 125, 126, 127, 128, 129, 36, 38, 39, 40, 46, 37, 41, 130, 131, 132, 133, 134, 135, 136, 137, 138, 139, 140, 141, 142, 143, 144, 35, 145, 146, 147, 148, 149, 150, 151, 152, 153, 34, 154, 155, 156, 157, 158, 159, 160, 161, 162, 163, 164, 165, 166, 167, 168, 169, 170, 171, 172, 173, 174, 175, 176, 177, 178, 179, 180, 181, 42, 44, 73, 74, 75, 76, 86, 467, 468, 469, 470, 381, 459, 378, 379, 380, 274, 275, 276, 277, 471, 472, 473, 474, 475, 393, 394, 395, 396, 397, 398, 399, 324, 325, 326, 327, 328, 329, 330, 476, 384, 385, 386, 528, 529, 530, 531, 532, 533, 534, 535, 536, 537, 558, 538, 539, 540, 541, 542, 543, 544, 545, 546, 547, 548, 549, 550, 551, 552, 553, 554] (by decide +kernel) (by decide +kernel)) (goodIn_sub (fun _ h => List.mem_append_left _ (List.mem_append_left _ (List.mem_append_right _ h))) (by decide +kernel))
set_option maxRecDepth 20000 in
theorem gL_law_L_second : GoodIn wsL_law (va_wsS RL 136 yL_second wsL_second) := goodIn_app (goodIn_of _ (by decide +kernel)) ggL_law_L_second
set_option maxRecDepth 20000 in
theorem ggL_law_L_third : GoodIn wsL_law wsL_third := goodIn_ca (goodIn_ca (goodIn_r _ [479, 480, 481, 482, 2, 483, 189, 190, 23, 10, 25, 78, 79, 80, 81, 82, 484, 485, 486, 165, 166, 167, 22, 168, 59, 169, 170, 171, 172, 487, 488, 489, 490, 491, 492, 493, 494, 495, 103, 104, 105, 106, 89, 91, 92, 93, 94, 16, 12, 95, 96, 97, 98, 99, 100, 101, 102, 107, 108, 109, 15, 110, 45, 33, 111, 112, 113, 114, 115, 116, 117, 118, 119, 120, 121, 122, 123, 124, 125, 126, 127, 128, 129, 36, 38, 39, 40, 46, 37, 41, 130, 131, 132, 133, 134, 135, 136, 137, 138, 139, 140, 141, 142, 143, 144, 35, 145, 146, 147, 148, 149, 150, 151, 152, 153, 34, 154, 155, 156, 157, 158, 159, 160, 161, 162, 163, 164, 173, 174, 175, 176, 177, 178, 179, 180, 181, 42, 44, 185, 186, 187, 188, 77, 191, 192, 193, 90, 459, 378, 379, 380, 381, 278, 279, 280, 281, 496, 497, 498, 499, 316, 317, 318, 319, 320, 321, 322, 323, 324, 325, 326, 327, 328, 329, 330, 475, 393, 394, 395, 83, 84, 85, 396, 397, 398, 399, 528, 529, 530, 531, 532, 533, 534, 535, 536, 537, 558, 538, 539, 540, 541, 542, 543, 544, 545, 546, 547, 548, 549, 550, 551, 552, 553, 554] (by decide +kernel) (by decide +kernel)) (goodIn_sub (fun _ h => List.mem_append_left _ (List.mem_append_right _ h)) (by decide +kernel))) (goodIn_sub (fun _ h => List.mem_append_left _ (List.mem_append_left _ (List.mem_append_right _ h))) (by decide +kernel))
set_option maxRecDepth 20000 in
theorem gL_law_L_third : GoodIn wsL_law (va_wsS RL 140 yL_third wsL_third) := goodIn_app (goodIn_of _ (by decide +kernel)) ggL_law_L_third
set_option maxRecDepth 20000 in
theorem ggL_law_L_fourth : GoodIn wsL_law wsL_fourth := goodIn_ca (goodIn_ca (goodIn_ca (goodIn_r _ [502, 316, 317, 318, 2, 319, 10, 78, 79, 80, 81, 82, 320, 321, 322, 22, 323, 59, 324, 325, 326, 327, 328, 329, 330, 503, 504, 505, 506, 507, 508, 23, 24, 16, 25, 165, 166, 167, 168, 169, 170, 171, 172, 347, 348, 349, 15, 350, 33, 130, 131, 132, 509, 510, 511, 512, 90, 495, 103, 104, 105, 106, 89, 513, 492, 493, 494, 91, 92, 93, 94, 12, 95, 96, 97, 98, 99, 100, 101, 102, 107, 108, 109, 110, 45, 111, 112, 113, 114, 115, 116, 117, 118, 119, 120, 121, 122, 123, 124, 125, 126, 127, 128, 129, 36, 38, 39, 40, 46, 37, 41, 133, 134, 135, 136, 137, 138, 139, 140, 141, 142, 143, 144, 35, 145, 146, 147, 148, 149, 150, 151, 152, 153, 34, 154, 155, 156, 157, 158, 159, 160, 161, 162, 163, 164, 173, 174, 175, 176, 177, 178, 179, 180, 181, 42, 44, 185, 186, 187, 188, 189, 190, 77, 191, 192, 193, 459, 378, 379, 380, 381, 528, 529, 530, 531, 532, 533, 534, 535, 536, 537, 558, 538, 539, 540, 541, 542, 543, 544, 545, 546, 547, 548, 549, 550, 551, 552, 553, 554] (by decide +kernel) (by decide +kernel)) (goodIn_sub (fun _ h => List.mem_append_left _ (List.mem_append_left _ (List.mem_append_right _ h))) (by decide +kernel))) (goodIn_sub (fun _ h => List.mem_append_right _ h) (by decide +kernel))) (goodIn_sub (fun _ h => List.mem_append_left _ (List.mem_append_right _ h)) (by decide +kernel))
set_option maxRecDepth 20000 in
theorem gL_law_L_fourth : GoodIn wsL_law (va_wsS RL 144 yL_fourth wsL_fourth) := goodIn_app (goodIn_of _ (by decide +kernel)) ggL_law_L_fourth
set_option maxRecDepth 20000 in
theorem ggL_law_X3_cheapest : GoodIn wsL_law wsX3_cheapest := goodIn_ca (goodIn_r _ [364, 10, 27, 78, 79, 2, 80, 81, 82, 365, 119, 120, 22, 121, 59, 528, 529, 530, 531, 532, 533, 534, 535, 536, 537, 558] (by decide +kernel) (by decide +kernel)) (goodIn_sub (fun _ h => List.mem_append_left _ (List.mem_append_left _ (List.mem_append_right _ h))) (by decide +kernel))
set_option maxRecDepth 20000 in
theorem gL_law_X3_cheapest : GoodIn wsL_law (wsV RL 148 RX3 yX3_cheapest wsX3_cheapest) := goodIn_app (goodIn_of _ (by decide +kernel)) ggL_law_X3_cheapest
set_option maxRecDepth 20000 in
theorem ggL_law_X3_model : GoodIn wsL_law wsX3_model := goodIn_ca (goodIn_ca (goodIn_r _ [369, 189, 190, 10, 78, 79, 2, 80, 81, 82, 370, 371, 372, 22, 373, 59, 324, 325, 326, 327, 328, 329, 330, 374, 375, 376, 90, 528, 529, 530, 531, 532, 533, 534, 535, 536, 537, 558] (by decide +kernel) (by decide +kernel)) (goodIn_sub (fun _ h => List.mem_append_left _ (List.mem_append_right _ h)) (by decide +kernel))) (goodIn_sub (fun _ h => List.mem_append_left _ (List.mem_append_left _ (List.mem_append_right _ h))) (by decide +kernel))
set_option maxRecDepth 20000 in
theorem gL_law_X3_model : GoodIn wsL_law (wsV RL 151 RX3 yX3_model wsX3_model) := goodIn_app (goodIn_of _ (by decide +kernel)) ggL_law_X3_model
set_option maxRecDepth 20000 in
theorem ggL_law_X3_models : GoodIn wsL_law wsX3_models := goodIn_ca (goodIn_r _ [319, 10, 78, 79, 2, 80, 81, 82, 320, 321, 322, 22, 323, 59, 324, 325, 326, 327, 328, 329, 330, 528, 529, 530, 531, 532, 533, 534, 535, 536, 537, 558] (by decide +kernel) (by decide +kernel)) (goodIn_sub (fun _ h => List.mem_append_left _ (List.mem_append_left _ (List.mem_append_right _ h))) (by decide +kernel))
set_option maxRecDepth 20000 in
theorem gL_law_X3_models : GoodIn wsL_law (wsV RL 15 RX3 yX3_models wsX3_models) := goodIn_app (goodIn_of _ (by decide +kernel)) ggL_law_X3_models
set_option maxRecDepth 20000 in
theorem ggL_law_X3_holds : GoodIn wsL_law wsX3_holds := goodIn_ca (goodIn_ca (goodIn_r _ [519, 189, 190, 10, 78, 79, 2, 80, 81, 82, 365, 119, 120, 22, 121, 59, 528, 529, 530, 531, 532, 533, 534, 535, 536, 537, 558] (by decide +kernel) (by decide +kernel)) (goodIn_sub (fun _ h => List.mem_append_left _ (List.mem_append_right _ h)) (by decide +kernel))) (goodIn_sub (fun _ h => List.mem_append_left _ (List.mem_append_left _ (List.mem_append_right _ h))) (by decide +kernel))
set_option maxRecDepth 20000 in
theorem gL_law_X3_holds : GoodIn wsL_law (wsV RL 21 RX3 yX3_holds wsX3_holds) := goodIn_app (goodIn_of _ (by decide +kernel)) ggL_law_X3_holds
set_option maxRecDepth 20000 in
theorem ggL_law_X3_total : GoodIn wsL_law wsX3_total := goodIn_r _ [273, 16, 161, 162, 163, 15, 164, 145, 528, 529, 530, 531, 532, 533, 534, 535, 536, 537, 538, 539, 540, 541, 542, 543, 544, 545, 546, 547, 548, 549, 550, 551, 552, 553, 554] (by decide +kernel) (by decide +kernel)
set_option maxRecDepth 20000 in
theorem gL_law_X3_total : GoodIn wsL_law (wsV RL 38 RX3 yX3_total wsX3_total) := goodIn_app (goodIn_of _ (by decide +kernel)) ggL_law_X3_total
set_option maxRecDepth 20000 in
theorem ggL_law_X3_settle : GoodIn wsL_law wsX3_settle := goodIn_r _ [523, 16, 28, 161, 162, 163, 15, 164, 145, 408, 250, 251, 252, 33, 266, 267, 268, 269, 35, 130, 131, 132, 524, 525, 526, 2, 527, 241, 242, 243, 244, 245, 246, 247, 248, 249, 253, 202, 203, 204, 44, 205, 206, 207, 208, 36, 40, 138, 139, 140, 209, 210, 211, 212, 37, 41, 141, 142, 143, 144, 38, 39, 133, 134, 135, 136, 137, 213, 214, 215, 216, 217, 218, 219, 220, 221, 222, 223, 224, 225, 226, 227, 228, 229, 230, 231, 232, 233, 234, 235, 236, 126, 127, 128, 129, 46, 146, 147, 148, 149, 154, 155, 156, 157, 158, 159, 160, 254, 255, 256, 257, 528, 529, 530, 531, 532, 533, 534, 535, 536, 537, 538, 539, 540, 541, 542, 543, 544, 545, 546, 547, 548, 549, 550, 551, 552, 553, 554] (by decide +kernel) (by decide +kernel)
set_option maxRecDepth 20000 in
theorem gL_law_X3_settle : GoodIn wsL_law (wsV RL 154 RX3 yX3_settle wsX3_settle) := goodIn_app (goodIn_of _ (by decide +kernel)) ggL_law_X3_settle
theorem dL_law_0 : decode cL_law 0 = .ok (.new 16, 3) := by decide +kernel
theorem dL_law_3 : decode cL_law 3 = .ok (.dup, 1) := by decide +kernel
theorem dL_law_4 : decode cL_law 4 = .ok (.invokespecial 100, 3) := by decide +kernel
theorem dL_law_7 : decode cL_law 7 = .ok (.astore_n 1, 1) := by decide +kernel
theorem dL_law_8 : decode cL_law 8 = .ok (.aload_n 1, 1) := by decide +kernel
theorem dL_law_9 : decode cL_law 9 = .ok (.iconst 0, 1) := by decide +kernel
theorem dL_law_10 : decode cL_law 10 = .ok (.aload_n 0, 1) := by decide +kernel
theorem dL_law_11 : decode cL_law 11 = .ok (.iconst 0, 1) := by decide +kernel
theorem dL_law_12 : decode cL_law 12 = .ok (.invokestatic 101, 3) := by decide +kernel
theorem dL_law_15 : decode cL_law 15 = .ok (.invokestatic 105, 3) := by decide +kernel
theorem dL_law_18 : decode cL_law 18 = .ok (.pop, 1) := by decide +kernel
theorem dL_law_19 : decode cL_law 19 = .ok (.aload_n 1, 1) := by decide +kernel
theorem dL_law_20 : decode cL_law 20 = .ok (.iconst 1, 1) := by decide +kernel
theorem dL_law_21 : decode cL_law 21 = .ok (.aload_n 0, 1) := by decide +kernel
theorem dL_law_22 : decode cL_law 22 = .ok (.iconst 1, 1) := by decide +kernel
theorem dL_law_23 : decode cL_law 23 = .ok (.invokestatic 101, 3) := by decide +kernel
theorem dL_law_26 : decode cL_law 26 = .ok (.iconst 3, 1) := by decide +kernel
theorem dL_law_27 : decode cL_law 27 = .ok (.imul, 1) := by decide +kernel
theorem dL_law_28 : decode cL_law 28 = .ok (.iconst 2, 1) := by decide +kernel
theorem dL_law_29 : decode cL_law 29 = .ok (.iadd, 1) := by decide +kernel
theorem dL_law_30 : decode cL_law 30 = .ok (.invokestatic 105, 3) := by decide +kernel
theorem dL_law_33 : decode cL_law 33 = .ok (.pop, 1) := by decide +kernel
theorem dL_law_34 : decode cL_law 34 = .ok (.aload_n 1, 1) := by decide +kernel
theorem dL_law_35 : decode cL_law 35 = .ok (.iconst 2, 1) := by decide +kernel
theorem dL_law_36 : decode cL_law 36 = .ok (.aload_n 0, 1) := by decide +kernel
theorem dL_law_37 : decode cL_law 37 = .ok (.iconst 2, 1) := by decide +kernel
theorem dL_law_38 : decode cL_law 38 = .ok (.invokestatic 101, 3) := by decide +kernel
theorem dL_law_41 : decode cL_law 41 = .ok (.iconst 5, 1) := by decide +kernel
theorem dL_law_42 : decode cL_law 42 = .ok (.imul, 1) := by decide +kernel
theorem dL_law_43 : decode cL_law 43 = .ok (.iconst 3, 1) := by decide +kernel
theorem dL_law_44 : decode cL_law 44 = .ok (.iadd, 1) := by decide +kernel
theorem dL_law_45 : decode cL_law 45 = .ok (.invokestatic 105, 3) := by decide +kernel
theorem dL_law_48 : decode cL_law 48 = .ok (.pop, 1) := by decide +kernel
theorem dL_law_49 : decode cL_law 49 = .ok (.iconst 0, 1) := by decide +kernel
theorem dL_law_50 : decode cL_law 50 = .ok (.istore_n 2, 1) := by decide +kernel
theorem dL_law_51 : decode cL_law 51 = .ok (.iload_n 2, 1) := by decide +kernel
theorem dL_law_52 : decode cL_law 52 = .ok (.bipush 6, 2) := by decide +kernel
theorem dL_law_54 : decode cL_law 54 = .ok (.if_icmp .ge 63, 3) := by decide +kernel
theorem dL_law_57 : decode cL_law 57 = .ok (.aload_n 0, 1) := by decide +kernel
theorem dL_law_58 : decode cL_law 58 = .ok (.iconst 3, 1) := by decide +kernel
theorem dL_law_59 : decode cL_law 59 = .ok (.iload_n 2, 1) := by decide +kernel
theorem dL_law_60 : decode cL_law 60 = .ok (.iadd, 1) := by decide +kernel
theorem dL_law_61 : decode cL_law 61 = .ok (.invokestatic 101, 3) := by decide +kernel
theorem dL_law_64 : decode cL_law 64 = .ok (.istore_n 3, 1) := by decide +kernel
theorem dL_law_65 : decode cL_law 65 = .ok (.iload_n 3, 1) := by decide +kernel
theorem dL_law_66 : decode cL_law 66 = .ok (.iconst 2, 1) := by decide +kernel
theorem dL_law_67 : decode cL_law 67 = .ok (.invokestatic 24, 3) := by decide +kernel
theorem dL_law_70 : decode cL_law 70 = .ok (.ifCond .ne 19, 3) := by decide +kernel
theorem dL_law_73 : decode cL_law 73 = .ok (.aload_n 1, 1) := by decide +kernel
theorem dL_law_74 : decode cL_law 74 = .ok (.iload_n 3, 1) := by decide +kernel
theorem dL_law_75 : decode cL_law 75 = .ok (.iconst 1, 1) := by decide +kernel
theorem dL_law_76 : decode cL_law 76 = .ok (.ishr, 1) := by decide +kernel
theorem dL_law_77 : decode cL_law 77 = .ok (.bipush 9, 2) := by decide +kernel
theorem dL_law_79 : decode cL_law 79 = .ok (.invokestatic 24, 3) := by decide +kernel
theorem dL_law_82 : decode cL_law 82 = .ok (.invokevirtual 109, 3) := by decide +kernel
theorem dL_law_85 : decode cL_law 85 = .ok (.pop, 1) := by decide +kernel
theorem dL_law_86 : decode cL_law 86 = .ok (.goto 16, 3) := by decide +kernel
theorem dL_law_89 : decode cL_law 89 = .ok (.aload_n 1, 1) := by decide +kernel
theorem dL_law_90 : decode cL_law 90 = .ok (.iload_n 3, 1) := by decide +kernel
theorem dL_law_91 : decode cL_law 91 = .ok (.iconst 1, 1) := by decide +kernel
theorem dL_law_92 : decode cL_law 92 = .ok (.ishr, 1) := by decide +kernel
theorem dL_law_93 : decode cL_law 93 = .ok (.bipush 10, 2) := by decide +kernel
theorem dL_law_95 : decode cL_law 95 = .ok (.invokestatic 24, 3) := by decide +kernel
theorem dL_law_98 : decode cL_law 98 = .ok (.invokevirtual 112, 3) := by decide +kernel
theorem dL_law_101 : decode cL_law 101 = .ok (.pop, 1) := by decide +kernel
theorem dL_law_102 : decode cL_law 102 = .ok (.aload_n 1, 1) := by decide +kernel
theorem dL_law_103 : decode cL_law 103 = .ok (.invokestatic 115, 3) := by decide +kernel
theorem dL_law_106 : decode cL_law 106 = .ok (.ifCond .ne 5, 3) := by decide +kernel
theorem dL_law_109 : decode cL_law 109 = .ok (.iconst 0, 1) := by decide +kernel
theorem dL_law_110 : decode cL_law 110 = .ok (.ireturn, 1) := by decide +kernel
theorem dL_law_111 : decode cL_law 111 = .ok (.iinc 2 1, 3) := by decide +kernel
theorem dL_law_114 : decode cL_law 114 = .ok (.goto (-63), 3) := by decide +kernel
theorem dL_law_117 : decode cL_law 117 = .ok (.aload_n 0, 1) := by decide +kernel
theorem dL_law_118 : decode cL_law 118 = .ok (.bipush 9, 2) := by decide +kernel
theorem dL_law_120 : decode cL_law 120 = .ok (.invokestatic 101, 3) := by decide +kernel
theorem dL_law_123 : decode cL_law 123 = .ok (.bipush 10, 2) := by decide +kernel
theorem dL_law_125 : decode cL_law 125 = .ok (.invokestatic 24, 3) := by decide +kernel
theorem dL_law_128 : decode cL_law 128 = .ok (.istore_n 2, 1) := by decide +kernel
theorem dL_law_129 : decode cL_law 129 = .ok (.aload_n 0, 1) := by decide +kernel
theorem dL_law_130 : decode cL_law 130 = .ok (.bipush 10, 2) := by decide +kernel
theorem dL_law_132 : decode cL_law 132 = .ok (.invokestatic 101, 3) := by decide +kernel
theorem dL_law_135 : decode cL_law 135 = .ok (.bipush 10, 2) := by decide +kernel
theorem dL_law_137 : decode cL_law 137 = .ok (.invokestatic 24, 3) := by decide +kernel
theorem dL_law_140 : decode cL_law 140 = .ok (.istore_n 3, 1) := by decide +kernel
theorem dL_law_141 : decode cL_law 141 = .ok (.aload_n 0, 1) := by decide +kernel
theorem dL_law_142 : decode cL_law 142 = .ok (.bipush 11, 2) := by decide +kernel
theorem dL_law_144 : decode cL_law 144 = .ok (.invokestatic 101, 3) := by decide +kernel
theorem dL_law_147 : decode cL_law 147 = .ok (.sipush 1024, 3) := by decide +kernel
theorem dL_law_150 : decode cL_law 150 = .ok (.invokestatic 24, 3) := by decide +kernel
theorem dL_law_153 : decode cL_law 153 = .ok (.istore 4, 2) := by decide +kernel
theorem dL_law_155 : decode cL_law 155 = .ok (.aload_n 1, 1) := by decide +kernel
theorem dL_law_156 : decode cL_law 156 = .ok (.invokevirtual 119, 3) := by decide +kernel
theorem dL_law_159 : decode cL_law 159 = .ok (.lstore 5, 2) := by decide +kernel
theorem dL_law_161 : decode cL_law 161 = .ok (.aload_n 1, 1) := by decide +kernel
theorem dL_law_162 : decode cL_law 162 = .ok (.aload_n 0, 1) := by decide +kernel
theorem dL_law_163 : decode cL_law 163 = .ok (.bipush 13, 2) := by decide +kernel
theorem dL_law_165 : decode cL_law 165 = .ok (.invokestatic 101, 3) := by decide +kernel
theorem dL_law_168 : decode cL_law 168 = .ok (.bipush 9, 2) := by decide +kernel
theorem dL_law_170 : decode cL_law 170 = .ok (.invokestatic 24, 3) := by decide +kernel
theorem dL_law_173 : decode cL_law 173 = .ok (.invokevirtual 123, 3) := by decide +kernel
theorem dL_law_176 : decode cL_law 176 = .ok (.iconst (-1), 1) := by decide +kernel
theorem dL_law_177 : decode cL_law 177 = .ok (.if_icmp .lt 34, 3) := by decide +kernel
theorem dL_law_180 : decode cL_law 180 = .ok (.aload_n 1, 1) := by decide +kernel
theorem dL_law_181 : decode cL_law 181 = .ok (.iload_n 3, 1) := by decide +kernel
theorem dL_law_182 : decode cL_law 182 = .ok (.invokevirtual 126, 3) := by decide +kernel
theorem dL_law_185 : decode cL_law 185 = .ok (.ifCond .lt 26, 3) := by decide +kernel
theorem dL_law_188 : decode cL_law 188 = .ok (.aload_n 1, 1) := by decide +kernel
theorem dL_law_189 : decode cL_law 189 = .ok (.iconst 0, 1) := by decide +kernel
theorem dL_law_190 : decode cL_law 190 = .ok (.invokevirtual 129, 3) := by decide +kernel
theorem dL_law_193 : decode cL_law 193 = .ok (.aload_n 1, 1) := by decide +kernel
theorem dL_law_194 : decode cL_law 194 = .ok (.iconst 0, 1) := by decide +kernel
theorem dL_law_195 : decode cL_law 195 = .ok (.invokevirtual 42, 3) := by decide +kernel
theorem dL_law_198 : decode cL_law 198 = .ok (.if_icmp .gt 13, 3) := by decide +kernel
theorem dL_law_201 : decode cL_law 201 = .ok (.aload_n 1, 1) := by decide +kernel
theorem dL_law_202 : decode cL_law 202 = .ok (.invokevirtual 119, 3) := by decide +kernel
theorem dL_law_205 : decode cL_law 205 = .ok (.lload 5, 2) := by decide +kernel
theorem dL_law_207 : decode cL_law 207 = .ok (.lcmp, 1) := by decide +kernel
theorem dL_law_208 : decode cL_law 208 = .ok (.ifCond .eq 5, 3) := by decide +kernel
theorem dL_law_211 : decode cL_law 211 = .ok (.iconst 0, 1) := by decide +kernel
theorem dL_law_212 : decode cL_law 212 = .ok (.ireturn, 1) := by decide +kernel
theorem dL_law_213 : decode cL_law 213 = .ok (.aload_n 1, 1) := by decide +kernel
theorem dL_law_214 : decode cL_law 214 = .ok (.aload_n 0, 1) := by decide +kernel
theorem dL_law_215 : decode cL_law 215 = .ok (.bipush 12, 2) := by decide +kernel
theorem dL_law_217 : decode cL_law 217 = .ok (.invokestatic 101, 3) := by decide +kernel
theorem dL_law_220 : decode cL_law 220 = .ok (.bipush 16, 2) := by decide +kernel
theorem dL_law_222 : decode cL_law 222 = .ok (.invokestatic 24, 3) := by decide +kernel
theorem dL_law_225 : decode cL_law 225 = .ok (.iload_n 2, 1) := by decide +kernel
theorem dL_law_226 : decode cL_law 226 = .ok (.iload_n 3, 1) := by decide +kernel
theorem dL_law_227 : decode cL_law 227 = .ok (.invokestatic 132, 3) := by decide +kernel
theorem dL_law_230 : decode cL_law 230 = .ok (.ifCond .eq 28, 3) := by decide +kernel
theorem dL_law_233 : decode cL_law 233 = .ok (.aload_n 1, 1) := by decide +kernel
theorem dL_law_234 : decode cL_law 234 = .ok (.iload_n 2, 1) := by decide +kernel
theorem dL_law_235 : decode cL_law 235 = .ok (.invokestatic 136, 3) := by decide +kernel
theorem dL_law_238 : decode cL_law 238 = .ok (.ifCond .eq 20, 3) := by decide +kernel
theorem dL_law_241 : decode cL_law 241 = .ok (.aload_n 1, 1) := by decide +kernel
theorem dL_law_242 : decode cL_law 242 = .ok (.iload 4, 2) := by decide +kernel
theorem dL_law_244 : decode cL_law 244 = .ok (.iload_n 2, 1) := by decide +kernel
theorem dL_law_245 : decode cL_law 245 = .ok (.invokestatic 140, 3) := by decide +kernel
theorem dL_law_248 : decode cL_law 248 = .ok (.ifCond .eq 10, 3) := by decide +kernel
theorem dL_law_251 : decode cL_law 251 = .ok (.aload_n 1, 1) := by decide +kernel
theorem dL_law_252 : decode cL_law 252 = .ok (.invokestatic 144, 3) := by decide +kernel
theorem dL_law_255 : decode cL_law 255 = .ok (.ifCond .ne 5, 3) := by decide +kernel
theorem dL_law_258 : decode cL_law 258 = .ok (.iconst 0, 1) := by decide +kernel
theorem dL_law_259 : decode cL_law 259 = .ok (.ireturn, 1) := by decide +kernel
theorem dL_law_260 : decode cL_law 260 = .ok (.aload_n 1, 1) := by decide +kernel
theorem dL_law_261 : decode cL_law 261 = .ok (.iconst 2, 1) := by decide +kernel
theorem dL_law_262 : decode cL_law 262 = .ok (.invokevirtual 148, 3) := by decide +kernel
theorem dL_law_265 : decode cL_law 265 = .ok (.istore 7, 2) := by decide +kernel
theorem dL_law_267 : decode cL_law 267 = .ok (.iload 7, 2) := by decide +kernel
theorem dL_law_269 : decode cL_law 269 = .ok (.aload_n 1, 1) := by decide +kernel
theorem dL_law_270 : decode cL_law 270 = .ok (.iconst 2, 1) := by decide +kernel
theorem dL_law_271 : decode cL_law 271 = .ok (.iconst 0, 1) := by decide +kernel
theorem dL_law_272 : decode cL_law 272 = .ok (.invokevirtual 151, 3) := by decide +kernel
theorem dL_law_275 : decode cL_law 275 = .ok (.if_icmp .ne 28, 3) := by decide +kernel
theorem dL_law_278 : decode cL_law 278 = .ok (.aload_n 1, 1) := by decide +kernel
theorem dL_law_279 : decode cL_law 279 = .ok (.iconst 2, 1) := by decide +kernel
theorem dL_law_280 : decode cL_law 280 = .ok (.invokevirtual 15, 3) := by decide +kernel
theorem dL_law_283 : decode cL_law 283 = .ok (.ifCond .le 13, 3) := by decide +kernel
theorem dL_law_286 : decode cL_law 286 = .ok (.aload_n 1, 1) := by decide +kernel
theorem dL_law_287 : decode cL_law 287 = .ok (.iconst 2, 1) := by decide +kernel
theorem dL_law_288 : decode cL_law 288 = .ok (.iload 7, 2) := by decide +kernel
theorem dL_law_290 : decode cL_law 290 = .ok (.invokevirtual 21, 3) := by decide +kernel
theorem dL_law_293 : decode cL_law 293 = .ok (.ifCond .eq 10, 3) := by decide +kernel
theorem dL_law_296 : decode cL_law 296 = .ok (.aload_n 1, 1) := by decide +kernel
theorem dL_law_297 : decode cL_law 297 = .ok (.invokestatic 115, 3) := by decide +kernel
theorem dL_law_300 : decode cL_law 300 = .ok (.ifCond .ne 5, 3) := by decide +kernel
theorem dL_law_303 : decode cL_law 303 = .ok (.iconst 0, 1) := by decide +kernel
theorem dL_law_304 : decode cL_law 304 = .ok (.ireturn, 1) := by decide +kernel
theorem dL_law_305 : decode cL_law 305 = .ok (.aload_n 1, 1) := by decide +kernel
theorem dL_law_306 : decode cL_law 306 = .ok (.iconst 0, 1) := by decide +kernel
theorem dL_law_307 : decode cL_law 307 = .ok (.invokevirtual 15, 3) := by decide +kernel
theorem dL_law_310 : decode cL_law 310 = .ok (.aload_n 1, 1) := by decide +kernel
theorem dL_law_311 : decode cL_law 311 = .ok (.iconst 1, 1) := by decide +kernel
theorem dL_law_312 : decode cL_law 312 = .ok (.invokevirtual 15, 3) := by decide +kernel
theorem dL_law_315 : decode cL_law 315 = .ok (.iadd, 1) := by decide +kernel
theorem dL_law_316 : decode cL_law 316 = .ok (.aload_n 1, 1) := by decide +kernel
theorem dL_law_317 : decode cL_law 317 = .ok (.iconst 2, 1) := by decide +kernel
theorem dL_law_318 : decode cL_law 318 = .ok (.invokevirtual 15, 3) := by decide +kernel
theorem dL_law_321 : decode cL_law 321 = .ok (.iadd, 1) := by decide +kernel
theorem dL_law_322 : decode cL_law 322 = .ok (.istore 8, 2) := by decide +kernel
theorem dL_law_324 : decode cL_law 324 = .ok (.aload_n 1, 1) := by decide +kernel
theorem dL_law_325 : decode cL_law 325 = .ok (.invokevirtual 38, 3) := by decide +kernel
theorem dL_law_328 : decode cL_law 328 = .ok (.istore 9, 2) := by decide +kernel
theorem dL_law_330 : decode cL_law 330 = .ok (.aload_n 1, 1) := by decide +kernel
theorem dL_law_331 : decode cL_law 331 = .ok (.invokevirtual 154, 3) := by decide +kernel
theorem dL_law_334 : decode cL_law 334 = .ok (.istore 10, 2) := by decide +kernel
theorem dL_law_336 : decode cL_law 336 = .ok (.iload 10, 2) := by decide +kernel
theorem dL_law_338 : decode cL_law 338 = .ok (.ifCond .lt 48, 3) := by decide +kernel
theorem dL_law_341 : decode cL_law 341 = .ok (.aload_n 1, 1) := by decide +kernel
theorem dL_law_342 : decode cL_law 342 = .ok (.invokevirtual 38, 3) := by decide +kernel
theorem dL_law_345 : decode cL_law 345 = .ok (.iload 9, 2) := by decide +kernel
theorem dL_law_347 : decode cL_law 347 = .ok (.iload 10, 2) := by decide +kernel
theorem dL_law_349 : decode cL_law 349 = .ok (.isub, 1) := by decide +kernel
theorem dL_law_350 : decode cL_law 350 = .ok (.if_icmp .ne 36, 3) := by decide +kernel
theorem dL_law_353 : decode cL_law 353 = .ok (.aload_n 1, 1) := by decide +kernel
theorem dL_law_354 : decode cL_law 354 = .ok (.invokestatic 115, 3) := by decide +kernel
theorem dL_law_357 : decode cL_law 357 = .ok (.ifCond .eq 29, 3) := by decide +kernel
theorem dL_law_360 : decode cL_law 360 = .ok (.aload_n 1, 1) := by decide +kernel
theorem dL_law_361 : decode cL_law 361 = .ok (.iconst 0, 1) := by decide +kernel
theorem dL_law_362 : decode cL_law 362 = .ok (.invokevirtual 15, 3) := by decide +kernel
theorem dL_law_365 : decode cL_law 365 = .ok (.aload_n 1, 1) := by decide +kernel
theorem dL_law_366 : decode cL_law 366 = .ok (.iconst 1, 1) := by decide +kernel
theorem dL_law_367 : decode cL_law 367 = .ok (.invokevirtual 15, 3) := by decide +kernel
theorem dL_law_370 : decode cL_law 370 = .ok (.iadd, 1) := by decide +kernel
theorem dL_law_371 : decode cL_law 371 = .ok (.aload_n 1, 1) := by decide +kernel
theorem dL_law_372 : decode cL_law 372 = .ok (.iconst 2, 1) := by decide +kernel
theorem dL_law_373 : decode cL_law 373 = .ok (.invokevirtual 15, 3) := by decide +kernel
theorem dL_law_376 : decode cL_law 376 = .ok (.iadd, 1) := by decide +kernel
theorem dL_law_377 : decode cL_law 377 = .ok (.iload 8, 2) := by decide +kernel
theorem dL_law_379 : decode cL_law 379 = .ok (.if_icmp .ne 7, 3) := by decide +kernel
theorem dL_law_382 : decode cL_law 382 = .ok (.iconst 1, 1) := by decide +kernel
theorem dL_law_383 : decode cL_law 383 = .ok (.goto 4, 3) := by decide +kernel
theorem dL_law_386 : decode cL_law 386 = .ok (.iconst 0, 1) := by decide +kernel
theorem dL_law_387 : decode cL_law 387 = .ok (.ireturn, 1) := by decide +kernel

