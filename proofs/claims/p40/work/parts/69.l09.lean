theorem dL_made_32 : decode cL_made 32 = .ok (.aload 4, 2) := by decide +kernel
theorem dL_made_34 : decode cL_made 34 = .ok (.iload 5, 2) := by decide +kernel
theorem dL_made_36 : decode cL_made 36 = .ok (.iload 5, 2) := by decide +kernel
theorem dL_made_38 : decode cL_made 38 = .ok (.iload_n 3, 1) := by decide +kernel
theorem dL_made_39 : decode cL_made 39 = .ok (.invokestatic 9, 3) := by decide +kernel
theorem dL_made_42 : decode cL_made 42 = .ok (.bastore, 1) := by decide +kernel
theorem dL_made_43 : decode cL_made 43 = .ok (.iinc 5 1, 3) := by decide +kernel
theorem dL_made_46 : decode cL_made 46 = .ok (.goto (-22), 3) := by decide +kernel
theorem dL_made_49 : decode cL_made 49 = .ok (.iconst 0, 1) := by decide +kernel
theorem dL_made_50 : decode cL_made 50 = .ok (.istore 5, 2) := by decide +kernel
theorem dL_made_52 : decode cL_made 52 = .ok (.iload 5, 2) := by decide +kernel
theorem dL_made_54 : decode cL_made 54 = .ok (.iconst 5, 1) := by decide +kernel
theorem dL_made_55 : decode cL_made 55 = .ok (.if_icmp .ge 141, 3) := by decide +kernel
theorem dL_made_58 : decode cL_made 58 = .ok (.iload_n 2, 1) := by decide +kernel
theorem dL_made_59 : decode cL_made 59 = .ok (.iload 5, 2) := by decide +kernel
theorem dL_made_61 : decode cL_made 61 = .ok (.iconst 2, 1) := by decide +kernel
theorem dL_made_62 : decode cL_made 62 = .ok (.iadd, 1) := by decide +kernel
theorem dL_made_63 : decode cL_made 63 = .ok (.ishr, 1) := by decide +kernel
theorem dL_made_64 : decode cL_made 64 = .ok (.iconst 3, 1) := by decide +kernel
theorem dL_made_65 : decode cL_made 65 = .ok (.iload 5, 2) := by decide +kernel
theorem dL_made_67 : decode cL_made 67 = .ok (.imul, 1) := by decide +kernel
theorem dL_made_68 : decode cL_made 68 = .ok (.iadd, 1) := by decide +kernel
theorem dL_made_69 : decode cL_made 69 = .ok (.bipush 10, 2) := by decide +kernel
theorem dL_made_71 : decode cL_made 71 = .ok (.invokestatic 24, 3) := by decide +kernel
theorem dL_made_74 : decode cL_made 74 = .ok (.istore 6, 2) := by decide +kernel
theorem dL_made_76 : decode cL_made 76 = .ok (.iload_n 2, 1) := by decide +kernel
theorem dL_made_77 : decode cL_made 77 = .ok (.iconst 2, 1) := by decide +kernel
theorem dL_made_78 : decode cL_made 78 = .ok (.iload 5, 2) := by decide +kernel
theorem dL_made_80 : decode cL_made 80 = .ok (.imul, 1) := by decide +kernel
theorem dL_made_81 : decode cL_made 81 = .ok (.ishr, 1) := by decide +kernel
theorem dL_made_82 : decode cL_made 82 = .ok (.iconst 5, 1) := by decide +kernel
theorem dL_made_83 : decode cL_made 83 = .ok (.iload 5, 2) := by decide +kernel
theorem dL_made_85 : decode cL_made 85 = .ok (.imul, 1) := by decide +kernel
theorem dL_made_86 : decode cL_made 86 = .ok (.iadd, 1) := by decide +kernel
theorem dL_made_87 : decode cL_made 87 = .ok (.bipush 16, 2) := by decide +kernel
theorem dL_made_89 : decode cL_made 89 = .ok (.invokestatic 24, 3) := by decide +kernel
theorem dL_made_92 : decode cL_made 92 = .ok (.istore 7, 2) := by decide +kernel
theorem dL_made_94 : decode cL_made 94 = .ok (.aload_n 0, 1) := by decide +kernel
theorem dL_made_95 : decode cL_made 95 = .ok (.bipush 11, 2) := by decide +kernel
theorem dL_made_97 : decode cL_made 97 = .ok (.iload 6, 2) := by decide +kernel
theorem dL_made_99 : decode cL_made 99 = .ok (.invokevirtual 28, 3) := by decide +kernel
theorem dL_made_102 : decode cL_made 102 = .ok (.pop, 1) := by decide +kernel
theorem dL_made_103 : decode cL_made 103 = .ok (.aload_n 0, 1) := by decide +kernel
theorem dL_made_104 : decode cL_made 104 = .ok (.iload_n 1, 1) := by decide +kernel
theorem dL_made_105 : decode cL_made 105 = .ok (.iload_n 1, 1) := by decide +kernel
theorem dL_made_106 : decode cL_made 106 = .ok (.bipush 11, 2) := by decide +kernel
theorem dL_made_108 : decode cL_made 108 = .ok (.iload 7, 2) := by decide +kernel
theorem dL_made_110 : decode cL_made 110 = .ok (.invokevirtual 31, 3) := by decide +kernel
theorem dL_made_113 : decode cL_made 113 = .ok (.pop, 1) := by decide +kernel
theorem dL_made_114 : decode cL_made 114 = .ok (.sipush 1024, 3) := by decide +kernel
theorem dL_made_117 : decode cL_made 117 = .ok (.newarray .boolean, 2) := by decide +kernel
theorem dL_made_119 : decode cL_made 119 = .ok (.astore 8, 2) := by decide +kernel
theorem dL_made_121 : decode cL_made 121 = .ok (.iconst 0, 1) := by decide +kernel
theorem dL_made_122 : decode cL_made 122 = .ok (.istore 9, 2) := by decide +kernel
theorem dL_made_124 : decode cL_made 124 = .ok (.iload 9, 2) := by decide +kernel
theorem dL_made_126 : decode cL_made 126 = .ok (.sipush 1024, 3) := by decide +kernel
theorem dL_made_129 : decode cL_made 129 = .ok (.if_icmp .ge 57, 3) := by decide +kernel
theorem dL_made_132 : decode cL_made 132 = .ok (.aload 8, 2) := by decide +kernel
theorem dL_made_134 : decode cL_made 134 = .ok (.iload 9, 2) := by decide +kernel
theorem dL_made_136 : decode cL_made 136 = .ok (.iload 7, 2) := by decide +kernel
theorem dL_made_138 : decode cL_made 138 = .ok (.aload 4, 2) := by decide +kernel
theorem dL_made_140 : decode cL_made 140 = .ok (.iload 9, 2) := by decide +kernel
theorem dL_made_142 : decode cL_made 142 = .ok (.baload, 1) := by decide +kernel
theorem dL_made_143 : decode cL_made 143 = .ok (.ifCond .eq 7, 3) := by decide +kernel
theorem dL_made_146 : decode cL_made 146 = .ok (.iconst 2, 1) := by decide +kernel
theorem dL_made_147 : decode cL_made 147 = .ok (.goto 4, 3) := by decide +kernel
theorem dL_made_150 : decode cL_made 150 = .ok (.iconst 0, 1) := by decide +kernel
theorem dL_made_151 : decode cL_made 151 = .ok (.iload 9, 2) := by decide +kernel
theorem dL_made_153 : decode cL_made 153 = .ok (.iload 6, 2) := by decide +kernel
theorem dL_made_155 : decode cL_made 155 = .ok (.invokestatic 9, 3) := by decide +kernel
theorem dL_made_158 : decode cL_made 158 = .ok (.ifCond .eq 7, 3) := by decide +kernel
theorem dL_made_161 : decode cL_made 161 = .ok (.iconst 1, 1) := by decide +kernel
theorem dL_made_162 : decode cL_made 162 = .ok (.goto 4, 3) := by decide +kernel
theorem dL_made_165 : decode cL_made 165 = .ok (.iconst 0, 1) := by decide +kernel
theorem dL_made_166 : decode cL_made 166 = .ok (.iadd, 1) := by decide +kernel
theorem dL_made_167 : decode cL_made 167 = .ok (.ishr, 1) := by decide +kernel
theorem dL_made_168 : decode cL_made 168 = .ok (.iconst 2, 1) := by decide +kernel
theorem dL_made_169 : decode cL_made 169 = .ok (.irem, 1) := by decide +kernel
theorem dL_made_170 : decode cL_made 170 = .ok (.iconst 1, 1) := by decide +kernel
theorem dL_made_171 : decode cL_made 171 = .ok (.if_icmp .ne 7, 3) := by decide +kernel
theorem dL_made_174 : decode cL_made 174 = .ok (.iconst 1, 1) := by decide +kernel
theorem dL_made_175 : decode cL_made 175 = .ok (.goto 4, 3) := by decide +kernel
theorem dL_made_178 : decode cL_made 178 = .ok (.iconst 0, 1) := by decide +kernel
theorem dL_made_179 : decode cL_made 179 = .ok (.bastore, 1) := by decide +kernel
theorem dL_made_180 : decode cL_made 180 = .ok (.iinc 9 1, 3) := by decide +kernel
theorem dL_made_183 : decode cL_made 183 = .ok (.goto (-59), 3) := by decide +kernel
theorem dL_made_186 : decode cL_made 186 = .ok (.aload 8, 2) := by decide +kernel
theorem dL_made_188 : decode cL_made 188 = .ok (.astore 4, 2) := by decide +kernel
theorem dL_made_190 : decode cL_made 190 = .ok (.iinc 5 1, 3) := by decide +kernel
theorem dL_made_193 : decode cL_made 193 = .ok (.goto (-141), 3) := by decide +kernel
theorem dL_made_196 : decode cL_made 196 = .ok (.aload 4, 2) := by decide +kernel
theorem dL_made_198 : decode cL_made 198 = .ok (.areturn, 1) := by decide +kernel
set_option maxRecDepth 20000 in
theorem ggL_isSound_X3_nodesAt : GoodIn wsL_isSound wsX3_nodesAt := goodIn_ca (goodIn_r _ [6, 7, 8, 9, 5, 10, 11, 12, 13, 14, 15, 16, 17, 18, 19, 20, 21, 132, 133, 134, 135, 136, 137, 138, 139, 140, 141, 142, 143, 144, 145, 146, 147, 148, 149, 150, 151, 152, 153, 154, 155, 156, 157, 158] (by decide +kernel) (by decide +kernel)) (goodIn_sub (fun _ h => List.mem_cons_of_mem _ (List.mem_append_right _ h)) (by decide +kernel))
set_option maxRecDepth 20000 in
theorem gL_isSound_X3_nodesAt : GoodIn wsL_isSound (wsV RL 35 RX3 yX3_nodesAt wsX3_nodesAt) := goodIn_app (goodIn_of _ (by decide +kernel)) ggL_isSound_X3_nodesAt
set_option maxRecDepth 20000 in
theorem ggL_isSound_X3_total : GoodIn wsL_isSound wsX3_total := goodIn_r _ [25, 7, 26, 27, 28, 16, 29, 30, 132, 133, 134, 135, 136, 137, 138, 139, 140, 141, 142, 143, 144, 145, 146, 147, 148, 149, 150, 151, 152, 153, 154, 155, 156, 157, 158] (by decide +kernel) (by decide +kernel)
set_option maxRecDepth 20000 in
theorem gL_isSound_X3_total : GoodIn wsL_isSound (wsV RL 38 RX3 yX3_total wsX3_total) := goodIn_app (goodIn_of _ (by decide +kernel)) ggL_isSound_X3_total
set_option maxRecDepth 20000 in
theorem ggL_isSound_X3_size : GoodIn wsL_isSound wsX3_size := goodIn_ca (goodIn_r _ [34, 7, 35, 36, 5, 37, 11, 12, 38, 39, 40, 16, 41, 42, 43, 44, 45, 46, 47, 48, 49, 50, 51, 52, 53, 54, 132, 133, 134, 135, 136, 137, 138, 139, 140, 141, 142, 143, 144, 145, 146, 147, 148, 149, 150, 151, 152, 153, 154, 155, 156, 157, 158] (by decide +kernel) (by decide +kernel)) (goodIn_sub (fun _ h => List.mem_cons_of_mem _ (List.mem_append_right _ h)) (by decide +kernel))
set_option maxRecDepth 20000 in
theorem gL_isSound_X3_size : GoodIn wsL_isSound (wsV RL 42 RX3 yX3_size wsX3_size) := goodIn_app (goodIn_of _ (by decide +kernel)) ggL_isSound_X3_size
set_option maxRecDepth 20000 in
theorem ggL_isSound_X3_support : GoodIn wsL_isSound wsX3_support := goodIn_ca (goodIn_r _ [58, 59, 35, 36, 5, 37, 11, 12, 132, 133, 134, 135, 136, 137, 138, 139, 140, 141] (by decide +kernel) (by decide +kernel)) (goodIn_sub (fun _ h => List.mem_cons_of_mem _ (List.mem_append_right _ h)) (by decide +kernel))
set_option maxRecDepth 20000 in
theorem gL_isSound_X3_support : GoodIn wsL_isSound (wsV RL 45 RX3 yX3_support wsX3_support) := goodIn_app (goodIn_of _ (by decide +kernel)) ggL_isSound_X3_support
set_option maxRecDepth 20000 in
theorem ggL_isSound_J6_bitCount_0f7a4 : GoodIn wsL_isSound wsJ6_bitCount_0f7a4 := goodIn_r _ [63, 64, 65, 66] (by decide +kernel) (by decide +kernel)
set_option maxRecDepth 20000 in
theorem gL_isSound_J6_bitCount_0f7a4 : GoodIn wsL_isSound (va_wsS RL 48 yJ6_bitCount_0f7a4 wsJ6_bitCount_0f7a4) := goodIn_app (goodIn_of _ (by decide +kernel)) ggL_isSound_J6_bitCount_0f7a4
set_option maxRecDepth 20000 in
theorem ggL_isSound_X3_shared : GoodIn wsL_isSound wsX3_shared := goodIn_ca (goodIn_r _ [70, 7, 35, 36, 5, 37, 11, 12, 38, 39, 40, 16, 41, 42, 43, 44, 45, 46, 47, 48, 49, 50, 51, 52, 53, 54, 132, 133, 134, 135, 136, 137, 138, 139, 140, 141, 142, 143, 144, 145, 146, 147, 148, 149, 150, 151, 152, 153, 154, 155, 156, 157, 158] (by decide +kernel) (by decide +kernel)) (goodIn_sub (fun _ h => List.mem_cons_of_mem _ (List.mem_append_right _ h)) (by decide +kernel))
set_option maxRecDepth 20000 in
theorem gL_isSound_X3_shared : GoodIn wsL_isSound (wsV RL 53 RX3 yX3_shared wsX3_shared) := goodIn_app (goodIn_of _ (by decide +kernel)) ggL_isSound_X3_shared
set_option maxRecDepth 20000 in
theorem ggL_isSound_X3_depth : GoodIn wsL_isSound wsX3_depth := goodIn_ca (goodIn_r _ [74, 7, 35, 36, 5, 37, 11, 12, 75, 76, 77, 16, 78, 79, 51, 80, 81, 82, 83, 44, 84, 39, 40, 41, 42, 43, 45, 46, 47, 48, 49, 50, 52, 53, 54, 85, 86, 87, 88, 89, 90, 91, 92, 93, 94, 95, 96, 97, 98, 99, 100, 132, 133, 134, 135, 136, 137, 138, 139, 140, 141, 142, 143, 144, 145, 146, 147, 148, 149, 150, 151, 152, 153, 154, 155, 156, 157, 158] (by decide +kernel) (by decide +kernel)) (goodIn_sub (fun _ h => List.mem_cons_of_mem _ (List.mem_append_right _ h)) (by decide +kernel))
set_option maxRecDepth 20000 in
theorem gL_isSound_X3_depth : GoodIn wsL_isSound (wsV RL 56 RX3 yX3_depth wsX3_depth) := goodIn_app (goodIn_of _ (by decide +kernel)) ggL_isSound_X3_depth
set_option maxRecDepth 20000 in
theorem ggL_isSound_X3_ways : GoodIn wsL_isSound wsX3_ways := goodIn_ca (goodIn_r _ [104, 7, 35, 36, 5, 37, 11, 12, 105, 106, 107, 16, 108, 79, 51, 44, 84, 39, 40, 41, 42, 43, 45, 46, 47, 48, 49, 50, 52, 53, 54, 85, 86, 87, 88, 89, 90, 91, 92, 93, 94, 95, 96, 97, 98, 99, 100, 132, 133, 134, 135, 136, 137, 138, 139, 140, 141, 142, 143, 144, 145, 146, 147, 148, 149, 150, 151, 152, 153, 154, 155, 156, 157, 158] (by decide +kernel) (by decide +kernel)) (goodIn_sub (fun _ h => List.mem_cons_of_mem _ (List.mem_append_right _ h)) (by decide +kernel))
set_option maxRecDepth 20000 in
theorem gL_isSound_X3_ways : GoodIn wsL_isSound (wsV RL 59 RX3 yX3_ways wsX3_ways) := goodIn_app (goodIn_of _ (by decide +kernel)) ggL_isSound_X3_ways
set_option maxRecDepth 20000 in
theorem ggL_isSound_X3_models : GoodIn wsL_isSound wsX3_models := goodIn_ca (goodIn_r _ [112, 113, 35, 36, 5, 37, 11, 12, 114, 115, 116, 117, 118, 119, 120, 121, 122, 123, 124, 125, 126, 132, 133, 134, 135, 136, 137, 138, 139, 140, 141, 159] (by decide +kernel) (by decide +kernel)) (goodIn_sub (fun _ h => List.mem_cons_of_mem _ (List.mem_append_right _ h)) (by decide +kernel))
set_option maxRecDepth 20000 in
theorem gL_isSound_X3_models : GoodIn wsL_isSound (wsV RL 15 RX3 yX3_models wsX3_models) := goodIn_app (goodIn_of _ (by decide +kernel)) ggL_isSound_X3_models
set_option maxRecDepth 20000 in
theorem ggL_isSound_X3_meanSize : GoodIn wsL_isSound wsX3_meanSize := goodIn_r _ [130, 7, 131, 38, 39, 40, 16, 41, 42, 43, 44, 45, 46, 47, 48, 49, 50, 51, 52, 53, 54, 132, 133, 134, 135, 136, 137, 138, 139, 140, 141, 142, 143, 144, 145, 146, 147, 148, 149, 150, 151, 152, 153, 154, 155, 156, 157, 158] (by decide +kernel) (by decide +kernel)
set_option maxRecDepth 20000 in
theorem gL_isSound_X3_meanSize : GoodIn wsL_isSound (wsV RL 62 RX3 yX3_meanSize wsX3_meanSize) := goodIn_app (goodIn_of _ (by decide +kernel)) ggL_isSound_X3_meanSize
theorem dL_isSound_0 : decode cL_isSound 0 = .ok (.iconst 0, 1) := by decide +kernel
theorem dL_isSound_1 : decode cL_isSound 1 = .ok (.istore_n 1, 1) := by decide +kernel
theorem dL_isSound_2 : decode cL_isSound 2 = .ok (.iconst 0, 1) := by decide +kernel
theorem dL_isSound_3 : decode cL_isSound 3 = .ok (.istore_n 2, 1) := by decide +kernel
theorem dL_isSound_4 : decode cL_isSound 4 = .ok (.iload_n 2, 1) := by decide +kernel
theorem dL_isSound_5 : decode cL_isSound 5 = .ok (.bipush 10, 2) := by decide +kernel
theorem dL_isSound_7 : decode cL_isSound 7 = .ok (.if_icmp .ge 17, 3) := by decide +kernel
theorem dL_isSound_10 : decode cL_isSound 10 = .ok (.iload_n 1, 1) := by decide +kernel
theorem dL_isSound_11 : decode cL_isSound 11 = .ok (.aload_n 0, 1) := by decide +kernel
theorem dL_isSound_12 : decode cL_isSound 12 = .ok (.iload_n 2, 1) := by decide +kernel
theorem dL_isSound_13 : decode cL_isSound 13 = .ok (.invokevirtual 35, 3) := by decide +kernel
theorem dL_isSound_16 : decode cL_isSound 16 = .ok (.iadd, 1) := by decide +kernel
theorem dL_isSound_17 : decode cL_isSound 17 = .ok (.istore_n 1, 1) := by decide +kernel
theorem dL_isSound_18 : decode cL_isSound 18 = .ok (.iinc 2 1, 3) := by decide +kernel
theorem dL_isSound_21 : decode cL_isSound 21 = .ok (.goto (-17), 3) := by decide +kernel
theorem dL_isSound_24 : decode cL_isSound 24 = .ok (.iload_n 1, 1) := by decide +kernel
theorem dL_isSound_25 : decode cL_isSound 25 = .ok (.aload_n 0, 1) := by decide +kernel
theorem dL_isSound_26 : decode cL_isSound 26 = .ok (.invokevirtual 38, 3) := by decide +kernel
theorem dL_isSound_29 : decode cL_isSound 29 = .ok (.if_icmp .ne 10, 3) := by decide +kernel
theorem dL_isSound_32 : decode cL_isSound 32 = .ok (.iload_n 1, 1) := by decide +kernel
theorem dL_isSound_33 : decode cL_isSound 33 = .ok (.sipush 400, 3) := by decide +kernel
theorem dL_isSound_36 : decode cL_isSound 36 = .ok (.if_icmp .le 5, 3) := by decide +kernel
theorem dL_isSound_39 : decode cL_isSound 39 = .ok (.iconst 0, 1) := by decide +kernel
theorem dL_isSound_40 : decode cL_isSound 40 = .ok (.ireturn, 1) := by decide +kernel
theorem dL_isSound_41 : decode cL_isSound 41 = .ok (.iconst 0, 1) := by decide +kernel
theorem dL_isSound_42 : decode cL_isSound 42 = .ok (.istore_n 2, 1) := by decide +kernel
theorem dL_isSound_43 : decode cL_isSound 43 = .ok (.iconst 0, 1) := by decide +kernel
theorem dL_isSound_44 : decode cL_isSound 44 = .ok (.istore_n 3, 1) := by decide +kernel
theorem dL_isSound_45 : decode cL_isSound 45 = .ok (.iload_n 3, 1) := by decide +kernel
theorem dL_isSound_46 : decode cL_isSound 46 = .ok (.bipush 12, 2) := by decide +kernel
theorem dL_isSound_48 : decode cL_isSound 48 = .ok (.if_icmp .ge 133, 3) := by decide +kernel
theorem dL_isSound_51 : decode cL_isSound 51 = .ok (.aload_n 0, 1) := by decide +kernel
theorem dL_isSound_52 : decode cL_isSound 52 = .ok (.iload_n 3, 1) := by decide +kernel
theorem dL_isSound_53 : decode cL_isSound 53 = .ok (.invokevirtual 42, 3) := by decide +kernel
theorem dL_isSound_56 : decode cL_isSound 56 = .ok (.istore 4, 2) := by decide +kernel
theorem dL_isSound_58 : decode cL_isSound 58 = .ok (.iload_n 2, 1) := by decide +kernel
theorem dL_isSound_59 : decode cL_isSound 59 = .ok (.iload 4, 2) := by decide +kernel
theorem dL_isSound_61 : decode cL_isSound 61 = .ok (.iadd, 1) := by decide +kernel
theorem dL_isSound_62 : decode cL_isSound 62 = .ok (.istore_n 2, 1) := by decide +kernel
theorem dL_isSound_63 : decode cL_isSound 63 = .ok (.aload_n 0, 1) := by decide +kernel
theorem dL_isSound_64 : decode cL_isSound 64 = .ok (.iload_n 3, 1) := by decide +kernel
theorem dL_isSound_65 : decode cL_isSound 65 = .ok (.invokevirtual 45, 3) := by decide +kernel
theorem dL_isSound_68 : decode cL_isSound 68 = .ok (.invokestatic 48, 3) := by decide +kernel
theorem dL_isSound_71 : decode cL_isSound 71 = .ok (.istore 5, 2) := by decide +kernel
theorem dL_isSound_73 : decode cL_isSound 73 = .ok (.iload 4, 2) := by decide +kernel
theorem dL_isSound_75 : decode cL_isSound 75 = .ok (.iload 5, 2) := by decide +kernel
theorem dL_isSound_77 : decode cL_isSound 77 = .ok (.if_icmp .lt 96, 3) := by decide +kernel
theorem dL_isSound_80 : decode cL_isSound 80 = .ok (.aload_n 0, 1) := by decide +kernel
theorem dL_isSound_81 : decode cL_isSound 81 = .ok (.iload_n 3, 1) := by decide +kernel
theorem dL_isSound_82 : decode cL_isSound 82 = .ok (.iload_n 3, 1) := by decide +kernel
theorem dL_isSound_83 : decode cL_isSound 83 = .ok (.invokevirtual 53, 3) := by decide +kernel
theorem dL_isSound_86 : decode cL_isSound 86 = .ok (.iload 4, 2) := by decide +kernel
theorem dL_isSound_88 : decode cL_isSound 88 = .ok (.if_icmp .ne 85, 3) := by decide +kernel
theorem dL_isSound_91 : decode cL_isSound 91 = .ok (.aload_n 0, 1) := by decide +kernel
theorem dL_isSound_92 : decode cL_isSound 92 = .ok (.iload_n 3, 1) := by decide +kernel
theorem dL_isSound_93 : decode cL_isSound 93 = .ok (.invokevirtual 56, 3) := by decide +kernel
theorem dL_isSound_96 : decode cL_isSound 96 = .ok (.iload 5, 2) := by decide +kernel
theorem dL_isSound_98 : decode cL_isSound 98 = .ok (.if_icmp .gt 75, 3) := by decide +kernel
theorem dL_isSound_101 : decode cL_isSound 101 = .ok (.aload_n 0, 1) := by decide +kernel
theorem dL_isSound_102 : decode cL_isSound 102 = .ok (.iload_n 3, 1) := by decide +kernel
theorem dL_isSound_103 : decode cL_isSound 103 = .ok (.invokevirtual 59, 3) := by decide +kernel
theorem dL_isSound_106 : decode cL_isSound 106 = .ok (.aload_n 0, 1) := by decide +kernel
theorem dL_isSound_107 : decode cL_isSound 107 = .ok (.iload_n 3, 1) := by decide +kernel
theorem dL_isSound_108 : decode cL_isSound 108 = .ok (.invokevirtual 15, 3) := by decide +kernel
theorem dL_isSound_111 : decode cL_isSound 111 = .ok (.if_icmp .gt 62, 3) := by decide +kernel
theorem dL_isSound_114 : decode cL_isSound 114 = .ok (.aload_n 0, 1) := by decide +kernel
theorem dL_isSound_115 : decode cL_isSound 115 = .ok (.iload_n 3, 1) := by decide +kernel
theorem dL_isSound_116 : decode cL_isSound 116 = .ok (.invokevirtual 59, 3) := by decide +kernel
theorem dL_isSound_119 : decode cL_isSound 119 = .ok (.ifCond .ne 7, 3) := by decide +kernel
theorem dL_isSound_122 : decode cL_isSound 122 = .ok (.iconst 1, 1) := by decide +kernel
theorem dL_isSound_123 : decode cL_isSound 123 = .ok (.goto 4, 3) := by decide +kernel
theorem dL_isSound_126 : decode cL_isSound 126 = .ok (.iconst 0, 1) := by decide +kernel
theorem dL_isSound_127 : decode cL_isSound 127 = .ok (.aload_n 0, 1) := by decide +kernel
theorem dL_isSound_128 : decode cL_isSound 128 = .ok (.iload_n 3, 1) := by decide +kernel
theorem dL_isSound_129 : decode cL_isSound 129 = .ok (.invokevirtual 15, 3) := by decide +kernel
theorem dL_isSound_132 : decode cL_isSound 132 = .ok (.ifCond .ne 7, 3) := by decide +kernel
theorem dL_isSound_135 : decode cL_isSound 135 = .ok (.iconst 1, 1) := by decide +kernel
theorem dL_isSound_136 : decode cL_isSound 136 = .ok (.goto 4, 3) := by decide +kernel
theorem dL_isSound_139 : decode cL_isSound 139 = .ok (.iconst 0, 1) := by decide +kernel
theorem dL_isSound_140 : decode cL_isSound 140 = .ok (.if_icmp .ne 33, 3) := by decide +kernel
theorem dL_isSound_143 : decode cL_isSound 143 = .ok (.iload 4, 2) := by decide +kernel
theorem dL_isSound_145 : decode cL_isSound 145 = .ok (.ifCond .ne 7, 3) := by decide +kernel
theorem dL_isSound_148 : decode cL_isSound 148 = .ok (.iconst 1, 1) := by decide +kernel
theorem dL_isSound_149 : decode cL_isSound 149 = .ok (.goto 4, 3) := by decide +kernel
theorem dL_isSound_152 : decode cL_isSound 152 = .ok (.iconst 0, 1) := by decide +kernel
theorem dL_isSound_153 : decode cL_isSound 153 = .ok (.aload_n 0, 1) := by decide +kernel
theorem dL_isSound_154 : decode cL_isSound 154 = .ok (.iload_n 3, 1) := by decide +kernel
theorem dL_isSound_155 : decode cL_isSound 155 = .ok (.invokevirtual 15, 3) := by decide +kernel
theorem dL_isSound_158 : decode cL_isSound 158 = .ok (.sipush 1024, 3) := by decide +kernel
theorem dL_isSound_161 : decode cL_isSound 161 = .ok (.irem, 1) := by decide +kernel
theorem dL_isSound_162 : decode cL_isSound 162 = .ok (.ifCond .ne 7, 3) := by decide +kernel
theorem dL_isSound_165 : decode cL_isSound 165 = .ok (.iconst 1, 1) := by decide +kernel
theorem dL_isSound_166 : decode cL_isSound 166 = .ok (.goto 4, 3) := by decide +kernel
theorem dL_isSound_169 : decode cL_isSound 169 = .ok (.iconst 0, 1) := by decide +kernel
theorem dL_isSound_170 : decode cL_isSound 170 = .ok (.if_icmp .eq 5, 3) := by decide +kernel
theorem dL_isSound_173 : decode cL_isSound 173 = .ok (.iconst 0, 1) := by decide +kernel
theorem dL_isSound_174 : decode cL_isSound 174 = .ok (.ireturn, 1) := by decide +kernel
theorem dL_isSound_175 : decode cL_isSound 175 = .ok (.iinc 3 1, 3) := by decide +kernel
theorem dL_isSound_178 : decode cL_isSound 178 = .ok (.goto (-133), 3) := by decide +kernel
theorem dL_isSound_181 : decode cL_isSound 181 = .ok (.iload_n 2, 1) := by decide +kernel
theorem dL_isSound_182 : decode cL_isSound 182 = .ok (.iload_n 1, 1) := by decide +kernel
theorem dL_isSound_183 : decode cL_isSound 183 = .ok (.if_icmp .lt 21, 3) := by decide +kernel
theorem dL_isSound_186 : decode cL_isSound 186 = .ok (.aload_n 0, 1) := by decide +kernel
theorem dL_isSound_187 : decode cL_isSound 187 = .ok (.invokevirtual 62, 3) := by decide +kernel
theorem dL_isSound_190 : decode cL_isSound 190 = .ok (.iload_n 2, 1) := by decide +kernel
theorem dL_isSound_191 : decode cL_isSound 191 = .ok (.i2d, 1) := by decide +kernel
theorem dL_isSound_192 : decode cL_isSound 192 = .ok (.ldc2_w 66, 3) := by decide +kernel
theorem dL_isSound_195 : decode cL_isSound 195 = .ok (.ddiv, 1) := by decide +kernel
theorem dL_isSound_196 : decode cL_isSound 196 = .ok (.dcmp .l, 1) := by decide +kernel
theorem dL_isSound_197 : decode cL_isSound 197 = .ok (.ifCond .ne 7, 3) := by decide +kernel
theorem dL_isSound_200 : decode cL_isSound 200 = .ok (.iconst 1, 1) := by decide +kernel
theorem dL_isSound_201 : decode cL_isSound 201 = .ok (.goto 4, 3) := by decide +kernel
theorem dL_isSound_204 : decode cL_isSound 204 = .ok (.iconst 0, 1) := by decide +kernel
theorem dL_isSound_205 : decode cL_isSound 205 = .ok (.ireturn, 1) := by decide +kernel
set_option maxRecDepth 20000 in
theorem ggL_first_X3_apply : GoodIn wsL_first wsX3_apply := goodIn_ca (goodIn_ca (goodIn_r _ [5, 6, 7, 8, 9, 10, 11, 12, 4, 13, 14, 15, 16, 17, 18, 19, 20, 21, 22, 23, 24, 25, 26, 27, 28, 29, 30, 31, 32, 33, 34, 35, 36, 37, 38, 39, 40, 41, 42, 43, 44, 45, 46, 47, 48, 49, 50, 51, 52, 53, 54, 55, 56, 57, 58, 59, 60, 61, 62, 63, 64, 65, 66, 67, 68, 69, 70, 71, 72, 73, 74, 75, 76, 77, 78, 79, 80, 81, 82, 83, 84, 85, 86, 87, 88, 89, 90, 91, 92, 93, 94, 95, 96, 97, 98, 99, 100, 101, 102, 103, 104, 105, 106, 107, 108, 109, 110, 111, 112, 113, 114, 115, 116, 117, 118, 119, 120, 121, 122, 123, 124, 125, 126, 127, 128, 129, 165, 166, 167, 168, 169, 170, 171, 172, 173, 174, 175, 176, 177, 178, 179, 180, 181, 182, 183, 184, 185, 186, 187, 188, 189, 190, 191, 192] (by decide +kernel) (by decide +kernel)) (goodIn_sub (fun _ h => List.mem_cons_of_mem _ (List.mem_append_left _ (List.mem_append_right _ h))) (by decide +kernel))) (goodIn_sub (fun _ h => List.mem_cons_of_mem _ (List.mem_append_right _ h)) (by decide +kernel))
set_option maxRecDepth 20000 in
theorem gL_first_X3_apply : GoodIn wsL_first (wsV RL 31 RX3 yX3_apply wsX3_apply) := goodIn_app (goodIn_of _ (by decide +kernel)) ggL_first_X3_apply
set_option maxRecDepth 20000 in
theorem ggL_first_X3_exchange : GoodIn wsL_first wsX3_exchange := goodIn_ca (goodIn_r _ [133, 10, 8, 134, 11, 12, 4, 13, 14, 15, 135, 136, 137, 138, 139, 140, 18, 141, 35, 20, 36, 37, 38, 39, 40, 142, 143, 144, 21, 22, 23, 24, 25, 26, 27, 28, 29, 30, 31, 32, 33, 34, 41, 42, 43, 44, 45, 46, 47, 48, 49, 50, 51, 52, 53, 54, 55, 56, 57, 58, 59, 60, 61, 62, 63, 64, 65, 66, 67, 68, 69, 70, 71, 72, 73, 74, 75, 76, 77, 78, 79, 80, 81, 82, 83, 84, 85, 86, 87, 88, 89, 90, 91, 92, 93, 94, 95, 96, 97, 98, 99, 100, 101, 102, 103, 104, 105, 106, 107, 108, 109, 110, 111, 112, 113, 114, 115, 116, 117, 118, 119, 120, 121, 122, 123, 124, 125, 126, 127, 128, 129, 165, 166, 167, 168, 169, 170, 171, 172, 173, 174, 175, 176, 177, 178, 179, 180, 181, 182, 183, 184, 185, 186, 187, 188, 189, 190, 191, 192] (by decide +kernel) (by decide +kernel)) (goodIn_sub (fun _ h => List.mem_cons_of_mem _ (List.mem_append_right _ h)) (by decide +kernel))
set_option maxRecDepth 20000 in
theorem gL_first_X3_exchange : GoodIn wsL_first (wsV RL 68 RX3 yX3_exchange wsX3_exchange) := goodIn_app (goodIn_of _ (by decide +kernel)) ggL_first_X3_exchange
set_option maxRecDepth 20000 in
theorem ggL_first_X3_models : GoodIn wsL_first wsX3_models := goodIn_ca (goodIn_r _ [148, 8, 11, 12, 4, 13, 14, 15, 149, 150, 151, 18, 152, 35, 153, 154, 155, 156, 157, 158, 159, 165, 166, 167, 168, 169, 170, 171, 172, 173, 174, 175] (by decide +kernel) (by decide +kernel)) (goodIn_sub (fun _ h => List.mem_cons_of_mem _ (List.mem_append_right _ h)) (by decide +kernel))
set_option maxRecDepth 20000 in
theorem gL_first_X3_models : GoodIn wsL_first (wsV RL 15 RX3 yX3_models wsX3_models) := goodIn_app (goodIn_of _ (by decide +kernel)) ggL_first_X3_models
set_option maxRecDepth 20000 in
theorem ggL_first_X3_compare : GoodIn wsL_first wsX3_compare := goodIn_ca (goodIn_r _ [163, 8, 9, 164, 11, 12, 4, 13, 14, 15, 165, 166, 167, 168, 169, 170, 171, 172, 173, 174, 175] (by decide +kernel) (by decide +kernel)) (goodIn_sub (fun _ h => List.mem_cons_of_mem _ (List.mem_append_right _ h)) (by decide +kernel))
set_option maxRecDepth 20000 in
theorem gL_first_X3_compare : GoodIn wsL_first (wsV RL 71 RX3 yX3_compare wsX3_compare) := goodIn_app (goodIn_of _ (by decide +kernel)) ggL_first_X3_compare
theorem dL_first_0 : decode cL_first 0 = .ok (.aload_n 0, 1) := by decide +kernel
theorem dL_first_1 : decode cL_first 1 = .ok (.iconst 3, 1) := by decide +kernel
theorem dL_first_2 : decode cL_first 2 = .ok (.iconst 0, 1) := by decide +kernel
theorem dL_first_3 : decode cL_first 3 = .ok (.iconst 1, 1) := by decide +kernel
theorem dL_first_4 : decode cL_first 4 = .ok (.iload_n 1, 1) := by decide +kernel
theorem dL_first_5 : decode cL_first 5 = .ok (.invokevirtual 31, 3) := by decide +kernel
theorem dL_first_8 : decode cL_first 8 = .ok (.ifCond .lt 39, 3) := by decide +kernel
theorem dL_first_11 : decode cL_first 11 = .ok (.aload_n 0, 1) := by decide +kernel
theorem dL_first_12 : decode cL_first 12 = .ok (.iconst 4, 1) := by decide +kernel
theorem dL_first_13 : decode cL_first 13 = .ok (.iconst 0, 1) := by decide +kernel
theorem dL_first_14 : decode cL_first 14 = .ok (.iconst 1, 1) := by decide +kernel
theorem dL_first_15 : decode cL_first 15 = .ok (.bipush 15, 2) := by decide +kernel
theorem dL_first_17 : decode cL_first 17 = .ok (.iload_n 1, 1) := by decide +kernel
theorem dL_first_18 : decode cL_first 18 = .ok (.isub, 1) := by decide +kernel
theorem dL_first_19 : decode cL_first 19 = .ok (.invokevirtual 31, 3) := by decide +kernel
theorem dL_first_22 : decode cL_first 22 = .ok (.ifCond .lt 25, 3) := by decide +kernel
theorem dL_first_25 : decode cL_first 25 = .ok (.aload_n 0, 1) := by decide +kernel
theorem dL_first_26 : decode cL_first 26 = .ok (.iconst 5, 1) := by decide +kernel
theorem dL_first_27 : decode cL_first 27 = .ok (.iconst 0, 1) := by decide +kernel
theorem dL_first_28 : decode cL_first 28 = .ok (.iload_n 2, 1) := by decide +kernel
theorem dL_first_29 : decode cL_first 29 = .ok (.iload_n 3, 1) := by decide +kernel
theorem dL_first_30 : decode cL_first 30 = .ok (.invokevirtual 68, 3) := by decide +kernel
theorem dL_first_33 : decode cL_first 33 = .ok (.ifCond .lt 14, 3) := by decide +kernel
theorem dL_first_36 : decode cL_first 36 = .ok (.aload_n 0, 1) := by decide +kernel
theorem dL_first_37 : decode cL_first 37 = .ok (.iconst 5, 1) := by decide +kernel
theorem dL_first_38 : decode cL_first 38 = .ok (.iconst 5, 1) := by decide +kernel
theorem dL_first_39 : decode cL_first 39 = .ok (.iload_n 3, 1) := by decide +kernel
theorem dL_first_40 : decode cL_first 40 = .ok (.iload_n 2, 1) := by decide +kernel
theorem dL_first_41 : decode cL_first 41 = .ok (.invokevirtual 68, 3) := by decide +kernel
theorem dL_first_44 : decode cL_first 44 = .ok (.ifCond .ge 5, 3) := by decide +kernel
theorem dL_first_47 : decode cL_first 47 = .ok (.iconst 2, 1) := by decide +kernel
theorem dL_first_48 : decode cL_first 48 = .ok (.ireturn, 1) := by decide +kernel
theorem dL_first_49 : decode cL_first 49 = .ok (.aload_n 0, 1) := by decide +kernel
theorem dL_first_50 : decode cL_first 50 = .ok (.iconst 3, 1) := by decide +kernel
theorem dL_first_51 : decode cL_first 51 = .ok (.invokevirtual 15, 3) := by decide +kernel
theorem dL_first_54 : decode cL_first 54 = .ok (.aload_n 0, 1) := by decide +kernel
theorem dL_first_55 : decode cL_first 55 = .ok (.iconst 4, 1) := by decide +kernel
theorem dL_first_56 : decode cL_first 56 = .ok (.invokevirtual 15, 3) := by decide +kernel
theorem dL_first_59 : decode cL_first 59 = .ok (.iadd, 1) := by decide +kernel
theorem dL_first_60 : decode cL_first 60 = .ok (.sipush 1024, 3) := by decide +kernel
theorem dL_first_63 : decode cL_first 63 = .ok (.if_icmp .ne 26, 3) := by decide +kernel
theorem dL_first_66 : decode cL_first 66 = .ok (.aload_n 0, 1) := by decide +kernel
theorem dL_first_67 : decode cL_first 67 = .ok (.iconst 3, 1) := by decide +kernel
theorem dL_first_68 : decode cL_first 68 = .ok (.iconst 4, 1) := by decide +kernel
theorem dL_first_69 : decode cL_first 69 = .ok (.invokevirtual 71, 3) := by decide +kernel
theorem dL_first_72 : decode cL_first 72 = .ok (.iconst 4, 1) := by decide +kernel
theorem dL_first_73 : decode cL_first 73 = .ok (.if_icmp .ge 16, 3) := by decide +kernel
theorem dL_first_76 : decode cL_first 76 = .ok (.aload_n 0, 1) := by decide +kernel
theorem dL_first_77 : decode cL_first 77 = .ok (.iconst 5, 1) := by decide +kernel
theorem dL_first_78 : decode cL_first 78 = .ok (.iconst 0, 1) := by decide +kernel
theorem dL_first_79 : decode cL_first 79 = .ok (.invokevirtual 71, 3) := by decide +kernel
theorem dL_first_82 : decode cL_first 82 = .ok (.ifCond .ne 7, 3) := by decide +kernel
theorem dL_first_85 : decode cL_first 85 = .ok (.iconst 1, 1) := by decide +kernel
theorem dL_first_86 : decode cL_first 86 = .ok (.goto 4, 3) := by decide +kernel
theorem dL_first_89 : decode cL_first 89 = .ok (.iconst 0, 1) := by decide +kernel
theorem dL_first_90 : decode cL_first 90 = .ok (.ireturn, 1) := by decide +kernel
set_option maxRecDepth 20000 in
theorem ggL_second_X3_put : GoodIn wsL_second wsX3_put := goodIn_ca (goodIn_r _ [5, 6, 7, 8, 9, 10, 4, 11, 12, 13, 14, 15, 16, 17, 18, 19, 20, 21, 22, 23, 24, 25, 26, 27, 28, 29, 30, 31, 32, 33, 34, 35, 36, 37, 38, 39, 40, 41, 42, 43, 44, 45, 46, 47, 48, 49, 50, 51, 52, 53, 54, 55, 56, 57, 58, 59, 60, 61, 62, 63, 64, 65, 66, 67, 68, 69, 70, 71, 72, 73, 74, 75, 76, 77, 78, 79, 80, 81, 82, 83, 84, 85, 86, 87, 88, 89, 90, 91, 92, 93, 94, 95, 96, 97, 98, 99, 100, 101, 102, 103, 104, 105, 106, 107, 108, 109, 110, 111, 112, 113, 114, 115, 116, 117, 118, 119, 120, 121, 122, 123, 124, 125, 126, 127, 128, 129, 130, 131, 132, 133, 134, 176, 177, 178, 179, 180, 181, 182, 183, 184, 185, 186, 187, 188, 189, 190, 191, 192, 193, 194, 195, 196, 197, 198, 199, 200, 201, 202, 203] (by decide +kernel) (by decide +kernel)) (goodIn_sub (fun _ h => List.mem_cons_of_mem _ (List.mem_append_right _ h)) (by decide +kernel))
set_option maxRecDepth 20000 in
theorem gL_second_X3_put : GoodIn wsL_second (wsV RL 74 RX3 yX3_put wsX3_put) := goodIn_app (goodIn_of _ (by decide +kernel)) ggL_second_X3_put
set_option maxRecDepth 20000 in
theorem ggL_second_X3_variable : GoodIn wsL_second wsX3_variable := goodIn_ca (goodIn_r _ [138, 7, 8, 9, 10, 4, 11, 12, 13, 14, 15, 16, 139, 25, 20, 26, 27, 22, 32, 33, 34, 35, 36, 6, 37, 38, 39, 40, 41, 42, 43, 44, 45, 23, 28, 29, 30, 31, 46, 47, 48, 49, 50, 51, 52, 53, 54, 55, 56, 57, 58, 59, 60, 61, 62, 63, 64, 65, 66, 67, 68, 69, 70, 71, 72, 73, 74, 75, 76, 77, 78, 79, 80, 81, 82, 83, 84, 85, 86, 87, 88, 89, 90, 91, 92, 93, 94, 95, 96, 97, 98, 99, 100, 101, 102, 103, 104, 105, 106, 107, 108, 109, 110, 111, 112, 113, 114, 115, 116, 117, 118, 119, 120, 121, 122, 123, 124, 125, 126, 127, 128, 129, 130, 131, 132, 133, 134, 176, 177, 178, 179, 180, 181, 182, 183, 184, 185, 186, 187, 188, 189, 190, 191, 192, 193, 194, 195, 196, 197, 198, 199, 200, 201, 202, 203] (by decide +kernel) (by decide +kernel)) (goodIn_sub (fun _ h => List.mem_cons_of_mem _ (List.mem_append_right _ h)) (by decide +kernel))
set_option maxRecDepth 20000 in
theorem gL_second_X3_variable : GoodIn wsL_second (wsV RL 28 RX3 yX3_variable wsX3_variable) := goodIn_app (goodIn_of _ (by decide +kernel)) ggL_second_X3_variable
set_option maxRecDepth 20000 in
theorem ggL_second_X3_choose : GoodIn wsL_second wsX3_choose := goodIn_ca (goodIn_r _ [143, 6, 8, 7, 144, 9, 10, 4, 11, 12, 13, 32, 33, 34, 35, 36, 37, 38, 39, 40, 20, 41, 42, 43, 44, 45, 23, 28, 29, 30, 31, 27, 46, 47, 48, 49, 50, 51, 52, 53, 54, 55, 56, 57, 58, 59, 60, 61, 62, 63, 64, 65, 66, 67, 68, 69, 70, 71, 72, 73, 74, 75, 76, 77, 78, 79, 80, 81, 82, 83, 84, 85, 86, 87, 88, 89, 90, 91, 92, 93, 94, 95, 96, 97, 98, 99, 100, 101, 102, 103, 104, 105, 106, 107, 108, 109, 110, 111, 112, 113, 114, 115, 116, 117, 118, 119, 120, 121, 122, 123, 124, 125, 126, 127, 128, 129, 130, 131, 132, 133, 134, 176, 177, 178, 179, 180, 181, 182, 183, 184, 185, 186, 187, 188, 189, 190, 191, 192, 193, 194, 195, 196, 197, 198, 199, 200, 201, 202, 203] (by decide +kernel) (by decide +kernel)) (goodIn_sub (fun _ h => List.mem_cons_of_mem _ (List.mem_append_right _ h)) (by decide +kernel))
set_option maxRecDepth 20000 in
theorem gL_second_X3_choose : GoodIn wsL_second (wsV RL 78 RX3 yX3_choose wsX3_choose) := goodIn_app (goodIn_of _ (by decide +kernel)) ggL_second_X3_choose
set_option maxRecDepth 20000 in
theorem ggL_second_X3_compare : GoodIn wsL_second wsX3_compare := goodIn_ca (goodIn_r _ [148, 6, 8, 144, 9, 10, 4, 11, 12, 13, 176, 177, 178, 179, 180, 181, 182, 183, 184, 185, 186] (by decide +kernel) (by decide +kernel)) (goodIn_sub (fun _ h => List.mem_cons_of_mem _ (List.mem_append_right _ h)) (by decide +kernel))
set_option maxRecDepth 20000 in
theorem gL_second_X3_compare : GoodIn wsL_second (wsV RL 71 RX3 yX3_compare wsX3_compare) := goodIn_app (goodIn_of _ (by decide +kernel)) ggL_second_X3_compare
set_option maxRecDepth 20000 in
theorem ggL_second_X3_size : GoodIn wsL_second wsX3_size := goodIn_ca (goodIn_r _ [152, 36, 9, 10, 4, 11, 12, 13, 124, 125, 126, 49, 127, 128, 129, 104, 130, 131, 132, 133, 73, 74, 134, 87, 88, 89, 176, 177, 178, 179, 180, 181, 182, 183, 184, 185, 187, 188, 189, 190, 191, 192, 193, 194, 195, 196, 197, 198, 199, 200, 201, 202, 203] (by decide +kernel) (by decide +kernel)) (goodIn_sub (fun _ h => List.mem_cons_of_mem _ (List.mem_append_right _ h)) (by decide +kernel))
set_option maxRecDepth 20000 in
theorem gL_second_X3_size : GoodIn wsL_second (wsV RL 42 RX3 yX3_size wsX3_size) := goodIn_app (goodIn_of _ (by decide +kernel)) ggL_second_X3_size
set_option maxRecDepth 20000 in
theorem ggL_second_X3_compose : GoodIn wsL_second wsX3_compose := goodIn_ca (goodIn_r _ [156, 6, 8, 7, 144, 9, 10, 4, 11, 12, 13, 14, 15, 16, 17, 18, 19, 20, 21, 22, 23, 24, 25, 26, 27, 28, 29, 30, 31, 32, 33, 34, 35, 36, 37, 38, 39, 40, 41, 42, 43, 44, 45, 46, 47, 48, 49, 50, 51, 52, 53, 54, 55, 56, 57, 58, 59, 60, 61, 62, 63, 64, 65, 66, 67, 68, 69, 70, 71, 72, 73, 74, 75, 76, 77, 78, 79, 80, 81, 82, 83, 84, 85, 86, 87, 88, 89, 90, 91, 92, 93, 94, 95, 96, 97, 98, 99, 100, 101, 102, 103, 104, 105, 106, 107, 108, 109, 110, 111, 112, 113, 114, 115, 116, 117, 118, 119, 120, 121, 122, 123, 124, 125, 126, 127, 128, 129, 130, 131, 132, 133, 134, 176, 177, 178, 179, 180, 181, 182, 183, 184, 185, 186, 187, 188, 189, 190, 191, 192, 193, 194, 195, 196, 197, 198, 199, 200, 201, 202, 203] (by decide +kernel) (by decide +kernel)) (goodIn_sub (fun _ h => List.mem_cons_of_mem _ (List.mem_append_right _ h)) (by decide +kernel))
set_option maxRecDepth 20000 in
theorem gL_second_X3_compose : GoodIn wsL_second (wsV RL 81 RX3 yX3_compose wsX3_compose) := goodIn_app (goodIn_of _ (by decide +kernel)) ggL_second_X3_compose
set_option maxRecDepth 20000 in
theorem ggL_second_X3_influence : GoodIn wsL_second wsX3_influence := goodIn_ca (goodIn_r _ [160, 6, 9, 10, 4, 11, 12, 13, 14, 15, 16, 161, 162, 163, 20, 164, 23, 28, 29, 30, 31, 27, 165, 166, 167, 168, 169, 170, 171, 176, 177, 178, 179, 180, 181, 182, 183, 184, 185, 186] (by decide +kernel) (by decide +kernel)) (goodIn_sub (fun _ h => List.mem_cons_of_mem _ (List.mem_append_right _ h)) (by decide +kernel))
set_option maxRecDepth 20000 in
theorem gL_second_X3_influence : GoodIn wsL_second (wsV RL 84 RX3 yX3_influence wsX3_influence) := goodIn_app (goodIn_of _ (by decide +kernel)) ggL_second_X3_influence
set_option maxRecDepth 20000 in
theorem ggL_second_X3_trend : GoodIn wsL_second wsX3_trend := goodIn_ca (goodIn_r _ [175, 6, 144, 9, 10, 4, 11, 12, 13, 14, 15, 16, 17, 18, 19, 20, 21, 22, 23, 24, 25, 26, 27, 28, 29, 30, 31, 176, 177, 178, 179, 180, 181, 182, 183, 184, 185, 186] (by decide +kernel) (by decide +kernel)) (goodIn_sub (fun _ h => List.mem_cons_of_mem _ (List.mem_append_right _ h)) (by decide +kernel))
set_option maxRecDepth 20000 in
theorem gL_second_X3_trend : GoodIn wsL_second (wsV RL 87 RX3 yX3_trend wsX3_trend) := goodIn_app (goodIn_of _ (by decide +kernel)) ggL_second_X3_trend
theorem dL_second_0 : decode cL_second 0 = .ok (.aload_n 0, 1) := by decide +kernel
theorem dL_second_1 : decode cL_second 1 = .ok (.bipush 6, 2) := by decide +kernel
theorem dL_second_3 : decode cL_second 3 = .ok (.iconst 0, 1) := by decide +kernel
theorem dL_second_4 : decode cL_second 4 = .ok (.iload_n 1, 1) := by decide +kernel
theorem dL_second_5 : decode cL_second 5 = .ok (.iconst 0, 1) := by decide +kernel
theorem dL_second_6 : decode cL_second 6 = .ok (.invokevirtual 74, 3) := by decide +kernel
theorem dL_second_9 : decode cL_second 9 = .ok (.ifCond .lt 40, 3) := by decide +kernel
theorem dL_second_12 : decode cL_second 12 = .ok (.aload_n 0, 1) := by decide +kernel
theorem dL_second_13 : decode cL_second 13 = .ok (.bipush 7, 2) := by decide +kernel
theorem dL_second_15 : decode cL_second 15 = .ok (.iconst 0, 1) := by decide +kernel
theorem dL_second_16 : decode cL_second 16 = .ok (.iload_n 1, 1) := by decide +kernel
theorem dL_second_17 : decode cL_second 17 = .ok (.iconst 1, 1) := by decide +kernel
theorem dL_second_18 : decode cL_second 18 = .ok (.invokevirtual 74, 3) := by decide +kernel
theorem dL_second_21 : decode cL_second 21 = .ok (.ifCond .lt 28, 3) := by decide +kernel
theorem dL_second_24 : decode cL_second 24 = .ok (.aload_n 0, 1) := by decide +kernel
theorem dL_second_25 : decode cL_second 25 = .ok (.bipush 8, 2) := by decide +kernel
theorem dL_second_27 : decode cL_second 27 = .ok (.iload_n 1, 1) := by decide +kernel
theorem dL_second_28 : decode cL_second 28 = .ok (.invokevirtual 28, 3) := by decide +kernel
theorem dL_second_31 : decode cL_second 31 = .ok (.ifCond .lt 18, 3) := by decide +kernel
theorem dL_second_34 : decode cL_second 34 = .ok (.aload_n 0, 1) := by decide +kernel
theorem dL_second_35 : decode cL_second 35 = .ok (.bipush 9, 2) := by decide +kernel
theorem dL_second_37 : decode cL_second 37 = .ok (.bipush 8, 2) := by decide +kernel
theorem dL_second_39 : decode cL_second 39 = .ok (.bipush 7, 2) := by decide +kernel
theorem dL_second_41 : decode cL_second 41 = .ok (.bipush 6, 2) := by decide +kernel
theorem dL_second_43 : decode cL_second 43 = .ok (.invokevirtual 78, 3) := by decide +kernel
theorem dL_second_46 : decode cL_second 46 = .ok (.ifCond .ge 5, 3) := by decide +kernel
theorem dL_second_49 : decode cL_second 49 = .ok (.iconst 2, 1) := by decide +kernel
theorem dL_second_50 : decode cL_second 50 = .ok (.ireturn, 1) := by decide +kernel
theorem dL_second_51 : decode cL_second 51 = .ok (.aload_n 0, 1) := by decide +kernel
theorem dL_second_52 : decode cL_second 52 = .ok (.bipush 9, 2) := by decide +kernel
theorem dL_second_54 : decode cL_second 54 = .ok (.iconst 0, 1) := by decide +kernel
theorem dL_second_55 : decode cL_second 55 = .ok (.invokevirtual 71, 3) := by decide +kernel
theorem dL_second_58 : decode cL_second 58 = .ok (.ifCond .ne 17, 3) := by decide +kernel
theorem dL_second_61 : decode cL_second 61 = .ok (.aload_n 0, 1) := by decide +kernel
theorem dL_second_62 : decode cL_second 62 = .ok (.bipush 8, 2) := by decide +kernel
theorem dL_second_64 : decode cL_second 64 = .ok (.invokevirtual 42, 3) := by decide +kernel
theorem dL_second_67 : decode cL_second 67 = .ok (.iconst 1, 1) := by decide +kernel
theorem dL_second_68 : decode cL_second 68 = .ok (.if_icmp .ne 7, 3) := by decide +kernel
theorem dL_second_71 : decode cL_second 71 = .ok (.iconst 1, 1) := by decide +kernel
theorem dL_second_72 : decode cL_second 72 = .ok (.goto 4, 3) := by decide +kernel
theorem dL_second_75 : decode cL_second 75 = .ok (.iconst 0, 1) := by decide +kernel
theorem dL_second_76 : decode cL_second 76 = .ok (.istore_n 2, 1) := by decide +kernel
theorem dL_second_77 : decode cL_second 77 = .ok (.aload_n 0, 1) := by decide +kernel
theorem dL_second_78 : decode cL_second 78 = .ok (.bipush 9, 2) := by decide +kernel
theorem dL_second_80 : decode cL_second 80 = .ok (.iconst 0, 1) := by decide +kernel
theorem dL_second_81 : decode cL_second 81 = .ok (.iload_n 1, 1) := by decide +kernel
theorem dL_second_82 : decode cL_second 82 = .ok (.bipush 8, 2) := by decide +kernel
theorem dL_second_84 : decode cL_second 84 = .ok (.invokevirtual 81, 3) := by decide +kernel
theorem dL_second_87 : decode cL_second 87 = .ok (.ifCond .ge 5, 3) := by decide +kernel
theorem dL_second_90 : decode cL_second 90 = .ok (.iconst 2, 1) := by decide +kernel
theorem dL_second_91 : decode cL_second 91 = .ok (.ireturn, 1) := by decide +kernel
theorem dL_second_92 : decode cL_second 92 = .ok (.iload_n 2, 1) := by decide +kernel
theorem dL_second_93 : decode cL_second 93 = .ok (.aload_n 0, 1) := by decide +kernel
theorem dL_second_94 : decode cL_second 94 = .ok (.bipush 9, 2) := by decide +kernel
theorem dL_second_96 : decode cL_second 96 = .ok (.iconst 0, 1) := by decide +kernel
theorem dL_second_97 : decode cL_second 97 = .ok (.invokevirtual 71, 3) := by decide +kernel
theorem dL_second_100 : decode cL_second 100 = .ok (.ifCond .ne 40, 3) := by decide +kernel
theorem dL_second_103 : decode cL_second 103 = .ok (.aload_n 0, 1) := by decide +kernel
theorem dL_second_104 : decode cL_second 104 = .ok (.iconst 0, 1) := by decide +kernel
theorem dL_second_105 : decode cL_second 105 = .ok (.iload_n 1, 1) := by decide +kernel
theorem dL_second_106 : decode cL_second 106 = .ok (.invokevirtual 84, 3) := by decide +kernel
theorem dL_second_109 : decode cL_second 109 = .ok (.ifCond .eq 7, 3) := by decide +kernel
theorem dL_second_112 : decode cL_second 112 = .ok (.iconst 1, 1) := by decide +kernel
theorem dL_second_113 : decode cL_second 113 = .ok (.goto 4, 3) := by decide +kernel
theorem dL_second_116 : decode cL_second 116 = .ok (.iconst 0, 1) := by decide +kernel
theorem dL_second_117 : decode cL_second 117 = .ok (.aload_n 0, 1) := by decide +kernel
theorem dL_second_118 : decode cL_second 118 = .ok (.bipush 6, 2) := by decide +kernel
theorem dL_second_120 : decode cL_second 120 = .ok (.bipush 7, 2) := by decide +kernel
theorem dL_second_122 : decode cL_second 122 = .ok (.invokevirtual 71, 3) := by decide +kernel
theorem dL_second_125 : decode cL_second 125 = .ok (.ifCond .eq 7, 3) := by decide +kernel
theorem dL_second_128 : decode cL_second 128 = .ok (.iconst 1, 1) := by decide +kernel
theorem dL_second_129 : decode cL_second 129 = .ok (.goto 4, 3) := by decide +kernel
theorem dL_second_132 : decode cL_second 132 = .ok (.iconst 0, 1) := by decide +kernel
theorem dL_second_133 : decode cL_second 133 = .ok (.if_icmp .ne 7, 3) := by decide +kernel
theorem dL_second_136 : decode cL_second 136 = .ok (.iconst 1, 1) := by decide +kernel
theorem dL_second_137 : decode cL_second 137 = .ok (.goto 4, 3) := by decide +kernel
theorem dL_second_140 : decode cL_second 140 = .ok (.iconst 0, 1) := by decide +kernel
theorem dL_second_141 : decode cL_second 141 = .ok (.iand, 1) := by decide +kernel
theorem dL_second_142 : decode cL_second 142 = .ok (.istore_n 2, 1) := by decide +kernel
theorem dL_second_143 : decode cL_second 143 = .ok (.iload_n 2, 1) := by decide +kernel
theorem dL_second_144 : decode cL_second 144 = .ok (.ifCond .eq 42, 3) := by decide +kernel
theorem dL_second_147 : decode cL_second 147 = .ok (.aload_n 0, 1) := by decide +kernel
theorem dL_second_148 : decode cL_second 148 = .ok (.iconst 0, 1) := by decide +kernel
theorem dL_second_149 : decode cL_second 149 = .ok (.iload_n 1, 1) := by decide +kernel
theorem dL_second_150 : decode cL_second 150 = .ok (.invokevirtual 87, 3) := by decide +kernel
theorem dL_second_153 : decode cL_second 153 = .ok (.iconst 1, 1) := by decide +kernel
theorem dL_second_154 : decode cL_second 154 = .ok (.if_icmp .ne 7, 3) := by decide +kernel
theorem dL_second_157 : decode cL_second 157 = .ok (.iconst 1, 1) := by decide +kernel
theorem dL_second_158 : decode cL_second 158 = .ok (.goto 4, 3) := by decide +kernel
theorem dL_second_161 : decode cL_second 161 = .ok (.iconst 0, 1) := by decide +kernel
theorem dL_second_162 : decode cL_second 162 = .ok (.aload_n 0, 1) := by decide +kernel
theorem dL_second_163 : decode cL_second 163 = .ok (.bipush 6, 2) := by decide +kernel
theorem dL_second_165 : decode cL_second 165 = .ok (.bipush 7, 2) := by decide +kernel
theorem dL_second_167 : decode cL_second 167 = .ok (.invokevirtual 71, 3) := by decide +kernel
theorem dL_second_170 : decode cL_second 170 = .ok (.iconst 1, 1) := by decide +kernel
theorem dL_second_171 : decode cL_second 171 = .ok (.if_icmp .ne 7, 3) := by decide +kernel
theorem dL_second_174 : decode cL_second 174 = .ok (.iconst 1, 1) := by decide +kernel
theorem dL_second_175 : decode cL_second 175 = .ok (.goto 4, 3) := by decide +kernel
theorem dL_second_178 : decode cL_second 178 = .ok (.iconst 0, 1) := by decide +kernel
theorem dL_second_179 : decode cL_second 179 = .ok (.if_icmp .ne 7, 3) := by decide +kernel
theorem dL_second_182 : decode cL_second 182 = .ok (.iconst 1, 1) := by decide +kernel
theorem dL_second_183 : decode cL_second 183 = .ok (.goto 4, 3) := by decide +kernel
theorem dL_second_186 : decode cL_second 186 = .ok (.iconst 0, 1) := by decide +kernel
theorem dL_second_187 : decode cL_second 187 = .ok (.ireturn, 1) := by decide +kernel
set_option maxRecDepth 20000 in
theorem ggL_third_X3_quantify : GoodIn wsL_third wsX3_quantify := goodIn_ca (goodIn_ca (goodIn_r _ [5, 6, 7, 8, 9, 10, 11, 12, 4, 13, 14, 15, 16, 17, 18, 19, 20, 21, 22, 23, 24, 25, 26, 27, 28, 29, 30, 31, 32, 33, 34, 35, 36, 37, 38, 39, 40, 41, 42, 43, 44, 45, 46, 47, 48, 49, 50, 51, 52, 53, 54, 55, 56, 57, 58, 59, 60, 61, 62, 63, 64, 65, 66, 67, 68, 69, 70, 71, 72, 73, 74, 75, 76, 77, 78, 79, 80, 81, 82, 83, 84, 85, 86, 87, 88, 89, 90, 91, 92, 93, 94, 95, 96, 97, 98, 99, 100, 101, 102, 103, 104, 105, 106, 107, 108, 109, 110, 111, 112, 113, 114, 115, 116, 117, 118, 119, 120, 121, 122, 123, 124, 125, 126, 127, 128, 129, 130, 131, 132, 133, 134, 135, 136, 137, 186, 187, 188, 189, 190, 191, 192, 193, 194, 195, 196, 197, 198, 199, 200, 201, 202, 203, 204, 205, 206, 207, 208, 209, 210, 211, 212, 213] (by decide +kernel) (by decide +kernel)) (goodIn_sub (fun _ h => List.mem_cons_of_mem _ (List.mem_append_left _ (List.mem_append_right _ h))) (by decide +kernel))) (goodIn_sub (fun _ h => List.mem_cons_of_mem _ (List.mem_append_right _ h)) (by decide +kernel))
set_option maxRecDepth 20000 in
theorem gL_third_X3_quantify : GoodIn wsL_third (wsV RL 90 RX3 yX3_quantify wsX3_quantify) := goodIn_app (goodIn_of _ (by decide +kernel)) ggL_third_X3_quantify
set_option maxRecDepth 20000 in
theorem ggL_third_X3_apply : GoodIn wsL_third wsX3_apply := goodIn_ca (goodIn_ca (goodIn_r _ [141, 6, 7, 9, 142, 8, 11, 12, 4, 13, 14, 15, 143, 144, 22, 145, 146, 43, 44, 45, 46, 47, 48, 49, 50, 51, 52, 53, 54, 55, 56, 24, 38, 39, 40, 41, 42, 57, 58, 59, 60, 61, 62, 63, 64, 65, 66, 67, 68, 69, 70, 71, 72, 73, 74, 75, 76, 77, 78, 79, 80, 81, 82, 83, 84, 85, 86, 87, 88, 89, 90, 91, 92, 93, 94, 95, 96, 97, 98, 99, 100, 101, 102, 103, 104, 105, 106, 107, 108, 109, 110, 111, 112, 113, 114, 115, 116, 117, 118, 119, 120, 121, 122, 123, 124, 125, 126, 19, 20, 21, 23, 25, 26, 27, 28, 127, 128, 129, 130, 131, 132, 133, 134, 135, 136, 137, 186, 187, 188, 189, 190, 191, 192, 193, 194, 195, 196, 197, 198, 199, 200, 201, 202, 203, 204, 205, 206, 207, 208, 209, 210, 211, 212, 213] (by decide +kernel) (by decide +kernel)) (goodIn_sub (fun _ h => List.mem_cons_of_mem _ (List.mem_append_left _ (List.mem_append_right _ h))) (by decide +kernel))) (goodIn_sub (fun _ h => List.mem_cons_of_mem _ (List.mem_append_right _ h)) (by decide +kernel))
set_option maxRecDepth 20000 in
theorem gL_third_X3_apply : GoodIn wsL_third (wsV RL 31 RX3 yX3_apply wsX3_apply) := goodIn_app (goodIn_of _ (by decide +kernel)) ggL_third_X3_apply
set_option maxRecDepth 20000 in
theorem ggL_third_X3_compare : GoodIn wsL_third wsX3_compare := goodIn_ca (goodIn_r _ [150, 9, 142, 151, 11, 12, 4, 13, 14, 15, 186, 187, 188, 189, 190, 191, 192, 193, 194, 195, 196] (by decide +kernel) (by decide +kernel)) (goodIn_sub (fun _ h => List.mem_cons_of_mem _ (List.mem_append_right _ h)) (by decide +kernel))
set_option maxRecDepth 20000 in
theorem gL_third_X3_compare : GoodIn wsL_third (wsV RL 71 RX3 yX3_compare wsX3_compare) := goodIn_app (goodIn_of _ (by decide +kernel)) ggL_third_X3_compare
set_option maxRecDepth 20000 in
theorem ggL_third_X3_support : GoodIn wsL_third wsX3_support := goodIn_ca (goodIn_r _ [155, 48, 11, 12, 4, 13, 14, 15, 186, 187, 188, 189, 190, 191, 192, 193, 194, 195] (by decide +kernel) (by decide +kernel)) (goodIn_sub (fun _ h => List.mem_cons_of_mem _ (List.mem_append_right _ h)) (by decide +kernel))
set_option maxRecDepth 20000 in
theorem gL_third_X3_support : GoodIn wsL_third (wsV RL 45 RX3 yX3_support wsX3_support) := goodIn_app (goodIn_of _ (by decide +kernel)) ggL_third_X3_support
set_option maxRecDepth 20000 in
theorem ggL_third_X3_meet : GoodIn wsL_third wsX3_meet := goodIn_ca (goodIn_ca (goodIn_r _ [159, 9, 142, 8, 10, 11, 12, 4, 13, 14, 15, 16, 17, 18, 6, 7, 29, 30, 31, 22, 32, 33, 34, 35, 36, 24, 37, 20, 21, 23, 25, 26, 27, 28, 38, 39, 40, 41, 42, 43, 44, 45, 46, 47, 48, 49, 50, 51, 52, 53, 54, 55, 56, 57, 58, 59, 60, 61, 62, 63, 64, 65, 66, 67, 68, 69, 70, 71, 72, 73, 74, 75, 76, 77, 78, 79, 80, 81, 82, 83, 84, 85, 86, 87, 88, 89, 90, 91, 92, 93, 94, 95, 96, 97, 98, 99, 100, 101, 102, 103, 104, 105, 106, 107, 108, 109, 110, 111, 112, 113, 114, 115, 116, 117, 118, 119, 120, 121, 122, 123, 124, 125, 126, 19, 127, 128, 129, 130, 131, 132, 133, 134, 135, 136, 137, 186, 187, 188, 189, 190, 191, 192, 193, 194, 195, 196, 197, 198, 199, 200, 201, 202, 203, 204, 205, 206, 207, 208, 209, 210, 211, 212, 213] (by decide +kernel) (by decide +kernel)) (goodIn_sub (fun _ h => List.mem_cons_of_mem _ (List.mem_append_right _ h)) (by decide +kernel))) (goodIn_sub (fun _ h => List.mem_cons_of_mem _ (List.mem_append_left _ (List.mem_append_right _ h))) (by decide +kernel))
set_option maxRecDepth 20000 in
theorem gL_third_X3_meet : GoodIn wsL_third (wsV RL 93 RX3 yX3_meet wsX3_meet) := goodIn_app (goodIn_of _ (by decide +kernel)) ggL_third_X3_meet
set_option maxRecDepth 20000 in
theorem ggL_third_X3_models : GoodIn wsL_third wsX3_models := goodIn_ca (goodIn_r _ [163, 9, 11, 12, 4, 13, 14, 15, 164, 165, 166, 22, 167, 24, 168, 169, 170, 171, 172, 173, 174, 186, 187, 188, 189, 190, 191, 192, 193, 194, 195, 196] (by decide +kernel) (by decide +kernel)) (goodIn_sub (fun _ h => List.mem_cons_of_mem _ (List.mem_append_right _ h)) (by decide +kernel))
set_option maxRecDepth 20000 in
theorem gL_third_X3_models : GoodIn wsL_third (wsV RL 15 RX3 yX3_models wsX3_models) := goodIn_app (goodIn_of _ (by decide +kernel)) ggL_third_X3_models
set_option maxRecDepth 20000 in
theorem ggL_third_X3_influence : GoodIn wsL_third wsX3_influence := goodIn_ca (goodIn_r _ [178, 9, 11, 12, 4, 13, 14, 15, 179, 180, 181, 182, 183, 184, 22, 185, 24, 38, 39, 40, 41, 42, 168, 169, 170, 171, 172, 173, 174, 186, 187, 188, 189, 190, 191, 192, 193, 194, 195, 196] (by decide +kernel) (by decide +kernel)) (goodIn_sub (fun _ h => List.mem_cons_of_mem _ (List.mem_append_right _ h)) (by decide +kernel))
set_option maxRecDepth 20000 in
theorem gL_third_X3_influence : GoodIn wsL_third (wsV RL 84 RX3 yX3_influence wsX3_influence) := goodIn_app (goodIn_of _ (by decide +kernel)) ggL_third_X3_influence
