theorem dX3_digest_174 : decode cX3_digest 174 = .ok (.goto (-40), 3) := by decide +kernel
theorem dX3_digest_177 : decode cX3_digest 177 = .ok (.iinc 3 1, 3) := by decide +kernel
theorem dX3_digest_180 : decode cX3_digest 180 = .ok (.goto (-55), 3) := by decide +kernel
theorem dX3_digest_183 : decode cX3_digest 183 = .ok (.lload_n 1, 1) := by decide +kernel
theorem dX3_digest_184 : decode cX3_digest 184 = .ok (.lreturn, 1) := by decide +kernel
set_option maxRecDepth 20000 in
theorem ggX3_digestOfSlot_X3_models : GoodIn wsX3_digestOfSlot wsX3_models := goodIn_ca (goodIn_r _ [6, 7, 8, 9, 5, 10, 11, 12, 13, 14, 15, 16, 17, 18, 19, 20, 21, 22, 23, 24, 25, 115, 116, 117, 118, 119, 120, 121, 122, 123, 124, 125] (by decide +kernel) (by decide +kernel)) (goodIn_sub (fun _ h => List.mem_cons_of_mem _ (List.mem_append_left _ (List.mem_append_right _ h))) (by decide +kernel))
set_option maxRecDepth 20000 in
theorem gX3_digestOfSlot_X3_models : GoodIn wsX3_digestOfSlot (wsV RX3 238 RX3 yX3_models wsX3_models) := goodIn_app (goodIn_of _ (by decide +kernel)) ggX3_digestOfSlot_X3_models
set_option maxRecDepth 20000 in
theorem ggX3_digestOfSlot_X3_support : GoodIn wsX3_digestOfSlot wsX3_support := goodIn_ca (goodIn_r _ [29, 30, 8, 9, 5, 10, 11, 12, 115, 116, 117, 118, 119, 120, 121, 122, 123, 124] (by decide +kernel) (by decide +kernel)) (goodIn_sub (fun _ h => List.mem_cons_of_mem _ (List.mem_append_left _ (List.mem_append_right _ h))) (by decide +kernel))
set_option maxRecDepth 20000 in
theorem gX3_digestOfSlot_X3_support : GoodIn wsX3_digestOfSlot (wsV RX3 241 RX3 yX3_support wsX3_support) := goodIn_app (goodIn_of _ (by decide +kernel)) ggX3_digestOfSlot_X3_support
set_option maxRecDepth 20000 in
theorem ggX3_digestOfSlot_X3_size : GoodIn wsX3_digestOfSlot wsX3_size := goodIn_ca (goodIn_r _ [34, 35, 8, 9, 5, 10, 11, 12, 36, 37, 38, 39, 40, 41, 42, 43, 44, 45, 46, 47, 48, 49, 50, 51, 52, 53, 115, 116, 117, 118, 119, 120, 121, 122, 123, 124, 126, 127, 128, 129, 130, 131, 132, 133, 134, 135, 136, 137, 138, 139, 140, 141, 142] (by decide +kernel) (by decide +kernel)) (goodIn_sub (fun _ h => List.mem_cons_of_mem _ (List.mem_append_left _ (List.mem_append_right _ h))) (by decide +kernel))
set_option maxRecDepth 20000 in
theorem gX3_digestOfSlot_X3_size : GoodIn wsX3_digestOfSlot (wsV RX3 244 RX3 yX3_size wsX3_size) := goodIn_app (goodIn_of _ (by decide +kernel)) ggX3_digestOfSlot_X3_size
set_option maxRecDepth 20000 in
theorem ggX3_digestOfSlot_X3_ways : GoodIn wsX3_digestOfSlot wsX3_ways := goodIn_ca (goodIn_r _ [57, 35, 8, 9, 5, 10, 11, 12, 58, 59, 60, 39, 61, 62, 50, 43, 63, 37, 38, 40, 41, 42, 44, 45, 46, 47, 48, 49, 51, 52, 53, 64, 65, 66, 67, 68, 69, 70, 71, 72, 73, 74, 75, 76, 77, 78, 79, 115, 116, 117, 118, 119, 120, 121, 122, 123, 124, 126, 127, 128, 129, 130, 131, 132, 133, 134, 135, 136, 137, 138, 139, 140, 141, 142] (by decide +kernel) (by decide +kernel)) (goodIn_sub (fun _ h => List.mem_cons_of_mem _ (List.mem_append_left _ (List.mem_append_right _ h))) (by decide +kernel))
set_option maxRecDepth 20000 in
theorem gX3_digestOfSlot_X3_ways : GoodIn wsX3_digestOfSlot (wsV RX3 247 RX3 yX3_ways wsX3_ways) := goodIn_app (goodIn_of _ (by decide +kernel)) ggX3_digestOfSlot_X3_ways
set_option maxRecDepth 20000 in
theorem ggX3_digestOfSlot_X3_depth : GoodIn wsX3_digestOfSlot wsX3_depth := goodIn_ca (goodIn_r _ [83, 35, 8, 9, 5, 10, 11, 12, 84, 85, 86, 39, 87, 62, 50, 88, 89, 90, 91, 43, 63, 37, 38, 40, 41, 42, 44, 45, 46, 47, 48, 49, 51, 52, 53, 64, 65, 66, 67, 68, 69, 70, 71, 72, 73, 74, 75, 76, 77, 78, 79, 115, 116, 117, 118, 119, 120, 121, 122, 123, 124, 126, 127, 128, 129, 130, 131, 132, 133, 134, 135, 136, 137, 138, 139, 140, 141, 142] (by decide +kernel) (by decide +kernel)) (goodIn_sub (fun _ h => List.mem_cons_of_mem _ (List.mem_append_left _ (List.mem_append_right _ h))) (by decide +kernel))
set_option maxRecDepth 20000 in
theorem gX3_digestOfSlot_X3_depth : GoodIn wsX3_digestOfSlot (wsV RX3 250 RX3 yX3_depth wsX3_depth) := goodIn_app (goodIn_of _ (by decide +kernel)) ggX3_digestOfSlot_X3_depth
set_option maxRecDepth 20000 in
theorem ggX3_digestOfSlot_X3_cheapest : GoodIn wsX3_digestOfSlot wsX3_cheapest := goodIn_ca (goodIn_r _ [95, 7, 96, 8, 9, 5, 10, 11, 12, 97, 98, 99, 16, 100, 18, 115, 116, 117, 118, 119, 120, 121, 122, 123, 124, 125] (by decide +kernel) (by decide +kernel)) (goodIn_sub (fun _ h => List.mem_cons_of_mem _ (List.mem_append_left _ (List.mem_append_right _ h))) (by decide +kernel))
set_option maxRecDepth 20000 in
theorem gX3_digestOfSlot_X3_cheapest : GoodIn wsX3_digestOfSlot (wsV RX3 253 RX3 yX3_cheapest wsX3_cheapest) := goodIn_app (goodIn_of _ (by decide +kernel)) ggX3_digestOfSlot_X3_cheapest
set_option maxRecDepth 20000 in
theorem ggX3_digestOfSlot_X3_model : GoodIn wsX3_digestOfSlot wsX3_model := goodIn_ca (goodIn_ca (goodIn_r _ [104, 105, 106, 7, 8, 9, 5, 10, 11, 12, 107, 108, 109, 16, 110, 18, 19, 20, 21, 22, 23, 24, 25, 111, 112, 113, 114, 115, 116, 117, 118, 119, 120, 121, 122, 123, 124, 125] (by decide +kernel) (by decide +kernel)) (goodIn_sub (fun _ h => List.mem_cons_of_mem _ (List.mem_append_right _ h)) (by decide +kernel))) (goodIn_sub (fun _ h => List.mem_cons_of_mem _ (List.mem_append_left _ (List.mem_append_right _ h))) (by decide +kernel))
set_option maxRecDepth 20000 in
theorem gX3_digestOfSlot_X3_model : GoodIn wsX3_digestOfSlot (wsV RX3 256 RX3 yX3_model wsX3_model) := goodIn_app (goodIn_of _ (by decide +kernel)) ggX3_digestOfSlot_X3_model
theorem dX3_digestOfSlot_0 : decode cX3_digestOfSlot 0 = .ok (.lload_n 1, 1) := by decide +kernel
theorem dX3_digestOfSlot_1 : decode cX3_digestOfSlot 1 = .ok (.lstore 4, 2) := by decide +kernel
theorem dX3_digestOfSlot_3 : decode cX3_digestOfSlot 3 = .ok (.lload 4, 2) := by decide +kernel
theorem dX3_digestOfSlot_5 : decode cX3_digestOfSlot 5 = .ok (.ldc2_w 211, 3) := by decide +kernel
theorem dX3_digestOfSlot_8 : decode cX3_digestOfSlot 8 = .ok (.lmul, 1) := by decide +kernel
theorem dX3_digestOfSlot_9 : decode cX3_digestOfSlot 9 = .ok (.aload_n 0, 1) := by decide +kernel
theorem dX3_digestOfSlot_10 : decode cX3_digestOfSlot 10 = .ok (.iload_n 3, 1) := by decide +kernel
theorem dX3_digestOfSlot_11 : decode cX3_digestOfSlot 11 = .ok (.invokevirtual 238, 3) := by decide +kernel
theorem dX3_digestOfSlot_14 : decode cX3_digestOfSlot 14 = .ok (.i2l, 1) := by decide +kernel
theorem dX3_digestOfSlot_15 : decode cX3_digestOfSlot 15 = .ok (.ladd, 1) := by decide +kernel
theorem dX3_digestOfSlot_16 : decode cX3_digestOfSlot 16 = .ok (.lstore 4, 2) := by decide +kernel
theorem dX3_digestOfSlot_18 : decode cX3_digestOfSlot 18 = .ok (.lload 4, 2) := by decide +kernel
theorem dX3_digestOfSlot_20 : decode cX3_digestOfSlot 20 = .ok (.ldc2_w 211, 3) := by decide +kernel
theorem dX3_digestOfSlot_23 : decode cX3_digestOfSlot 23 = .ok (.lmul, 1) := by decide +kernel
theorem dX3_digestOfSlot_24 : decode cX3_digestOfSlot 24 = .ok (.aload_n 0, 1) := by decide +kernel
theorem dX3_digestOfSlot_25 : decode cX3_digestOfSlot 25 = .ok (.iload_n 3, 1) := by decide +kernel
theorem dX3_digestOfSlot_26 : decode cX3_digestOfSlot 26 = .ok (.invokevirtual 241, 3) := by decide +kernel
theorem dX3_digestOfSlot_29 : decode cX3_digestOfSlot 29 = .ok (.i2l, 1) := by decide +kernel
theorem dX3_digestOfSlot_30 : decode cX3_digestOfSlot 30 = .ok (.ladd, 1) := by decide +kernel
theorem dX3_digestOfSlot_31 : decode cX3_digestOfSlot 31 = .ok (.lstore 4, 2) := by decide +kernel
theorem dX3_digestOfSlot_33 : decode cX3_digestOfSlot 33 = .ok (.lload 4, 2) := by decide +kernel
theorem dX3_digestOfSlot_35 : decode cX3_digestOfSlot 35 = .ok (.ldc2_w 211, 3) := by decide +kernel
theorem dX3_digestOfSlot_38 : decode cX3_digestOfSlot 38 = .ok (.lmul, 1) := by decide +kernel
theorem dX3_digestOfSlot_39 : decode cX3_digestOfSlot 39 = .ok (.aload_n 0, 1) := by decide +kernel
theorem dX3_digestOfSlot_40 : decode cX3_digestOfSlot 40 = .ok (.iload_n 3, 1) := by decide +kernel
theorem dX3_digestOfSlot_41 : decode cX3_digestOfSlot 41 = .ok (.invokevirtual 244, 3) := by decide +kernel
theorem dX3_digestOfSlot_44 : decode cX3_digestOfSlot 44 = .ok (.i2l, 1) := by decide +kernel
theorem dX3_digestOfSlot_45 : decode cX3_digestOfSlot 45 = .ok (.ladd, 1) := by decide +kernel
theorem dX3_digestOfSlot_46 : decode cX3_digestOfSlot 46 = .ok (.lstore 4, 2) := by decide +kernel
theorem dX3_digestOfSlot_48 : decode cX3_digestOfSlot 48 = .ok (.lload 4, 2) := by decide +kernel
theorem dX3_digestOfSlot_50 : decode cX3_digestOfSlot 50 = .ok (.ldc2_w 211, 3) := by decide +kernel
theorem dX3_digestOfSlot_53 : decode cX3_digestOfSlot 53 = .ok (.lmul, 1) := by decide +kernel
theorem dX3_digestOfSlot_54 : decode cX3_digestOfSlot 54 = .ok (.aload_n 0, 1) := by decide +kernel
theorem dX3_digestOfSlot_55 : decode cX3_digestOfSlot 55 = .ok (.iload_n 3, 1) := by decide +kernel
theorem dX3_digestOfSlot_56 : decode cX3_digestOfSlot 56 = .ok (.invokevirtual 247, 3) := by decide +kernel
theorem dX3_digestOfSlot_59 : decode cX3_digestOfSlot 59 = .ok (.i2l, 1) := by decide +kernel
theorem dX3_digestOfSlot_60 : decode cX3_digestOfSlot 60 = .ok (.ladd, 1) := by decide +kernel
theorem dX3_digestOfSlot_61 : decode cX3_digestOfSlot 61 = .ok (.lstore 4, 2) := by decide +kernel
theorem dX3_digestOfSlot_63 : decode cX3_digestOfSlot 63 = .ok (.lload 4, 2) := by decide +kernel
theorem dX3_digestOfSlot_65 : decode cX3_digestOfSlot 65 = .ok (.ldc2_w 211, 3) := by decide +kernel
theorem dX3_digestOfSlot_68 : decode cX3_digestOfSlot 68 = .ok (.lmul, 1) := by decide +kernel
theorem dX3_digestOfSlot_69 : decode cX3_digestOfSlot 69 = .ok (.aload_n 0, 1) := by decide +kernel
theorem dX3_digestOfSlot_70 : decode cX3_digestOfSlot 70 = .ok (.iload_n 3, 1) := by decide +kernel
theorem dX3_digestOfSlot_71 : decode cX3_digestOfSlot 71 = .ok (.invokevirtual 250, 3) := by decide +kernel
theorem dX3_digestOfSlot_74 : decode cX3_digestOfSlot 74 = .ok (.i2l, 1) := by decide +kernel
theorem dX3_digestOfSlot_75 : decode cX3_digestOfSlot 75 = .ok (.ladd, 1) := by decide +kernel
theorem dX3_digestOfSlot_76 : decode cX3_digestOfSlot 76 = .ok (.lstore 4, 2) := by decide +kernel
theorem dX3_digestOfSlot_78 : decode cX3_digestOfSlot 78 = .ok (.lload 4, 2) := by decide +kernel
theorem dX3_digestOfSlot_80 : decode cX3_digestOfSlot 80 = .ok (.ldc2_w 211, 3) := by decide +kernel
theorem dX3_digestOfSlot_83 : decode cX3_digestOfSlot 83 = .ok (.lmul, 1) := by decide +kernel
theorem dX3_digestOfSlot_84 : decode cX3_digestOfSlot 84 = .ok (.aload_n 0, 1) := by decide +kernel
theorem dX3_digestOfSlot_85 : decode cX3_digestOfSlot 85 = .ok (.iload_n 3, 1) := by decide +kernel
theorem dX3_digestOfSlot_86 : decode cX3_digestOfSlot 86 = .ok (.invokevirtual 253, 3) := by decide +kernel
theorem dX3_digestOfSlot_89 : decode cX3_digestOfSlot 89 = .ok (.i2l, 1) := by decide +kernel
theorem dX3_digestOfSlot_90 : decode cX3_digestOfSlot 90 = .ok (.ladd, 1) := by decide +kernel
theorem dX3_digestOfSlot_91 : decode cX3_digestOfSlot 91 = .ok (.lstore 4, 2) := by decide +kernel
theorem dX3_digestOfSlot_93 : decode cX3_digestOfSlot 93 = .ok (.lload 4, 2) := by decide +kernel
theorem dX3_digestOfSlot_95 : decode cX3_digestOfSlot 95 = .ok (.ldc2_w 211, 3) := by decide +kernel
theorem dX3_digestOfSlot_98 : decode cX3_digestOfSlot 98 = .ok (.lmul, 1) := by decide +kernel
theorem dX3_digestOfSlot_99 : decode cX3_digestOfSlot 99 = .ok (.aload_n 0, 1) := by decide +kernel
theorem dX3_digestOfSlot_100 : decode cX3_digestOfSlot 100 = .ok (.iload_n 3, 1) := by decide +kernel
theorem dX3_digestOfSlot_101 : decode cX3_digestOfSlot 101 = .ok (.iconst 0, 1) := by decide +kernel
theorem dX3_digestOfSlot_102 : decode cX3_digestOfSlot 102 = .ok (.invokevirtual 256, 3) := by decide +kernel
theorem dX3_digestOfSlot_105 : decode cX3_digestOfSlot 105 = .ok (.i2l, 1) := by decide +kernel
theorem dX3_digestOfSlot_106 : decode cX3_digestOfSlot 106 = .ok (.ladd, 1) := by decide +kernel
theorem dX3_digestOfSlot_107 : decode cX3_digestOfSlot 107 = .ok (.lstore 4, 2) := by decide +kernel
theorem dX3_digestOfSlot_109 : decode cX3_digestOfSlot 109 = .ok (.lload 4, 2) := by decide +kernel
theorem dX3_digestOfSlot_111 : decode cX3_digestOfSlot 111 = .ok (.ldc2_w 211, 3) := by decide +kernel
theorem dX3_digestOfSlot_114 : decode cX3_digestOfSlot 114 = .ok (.lmul, 1) := by decide +kernel
theorem dX3_digestOfSlot_115 : decode cX3_digestOfSlot 115 = .ok (.aload_n 0, 1) := by decide +kernel
theorem dX3_digestOfSlot_116 : decode cX3_digestOfSlot 116 = .ok (.iload_n 3, 1) := by decide +kernel
theorem dX3_digestOfSlot_117 : decode cX3_digestOfSlot 117 = .ok (.bipush 7, 2) := by decide +kernel
theorem dX3_digestOfSlot_119 : decode cX3_digestOfSlot 119 = .ok (.invokevirtual 256, 3) := by decide +kernel
theorem dX3_digestOfSlot_122 : decode cX3_digestOfSlot 122 = .ok (.i2l, 1) := by decide +kernel
theorem dX3_digestOfSlot_123 : decode cX3_digestOfSlot 123 = .ok (.ladd, 1) := by decide +kernel
theorem dX3_digestOfSlot_124 : decode cX3_digestOfSlot 124 = .ok (.lstore 4, 2) := by decide +kernel
theorem dX3_digestOfSlot_126 : decode cX3_digestOfSlot 126 = .ok (.lload 4, 2) := by decide +kernel
theorem dX3_digestOfSlot_128 : decode cX3_digestOfSlot 128 = .ok (.ldc2_w 211, 3) := by decide +kernel
theorem dX3_digestOfSlot_131 : decode cX3_digestOfSlot 131 = .ok (.lmul, 1) := by decide +kernel
theorem dX3_digestOfSlot_132 : decode cX3_digestOfSlot 132 = .ok (.aload_n 0, 1) := by decide +kernel
theorem dX3_digestOfSlot_133 : decode cX3_digestOfSlot 133 = .ok (.iload_n 3, 1) := by decide +kernel
theorem dX3_digestOfSlot_134 : decode cX3_digestOfSlot 134 = .ok (.bipush 100, 2) := by decide +kernel
theorem dX3_digestOfSlot_136 : decode cX3_digestOfSlot 136 = .ok (.invokevirtual 256, 3) := by decide +kernel
theorem dX3_digestOfSlot_139 : decode cX3_digestOfSlot 139 = .ok (.i2l, 1) := by decide +kernel
theorem dX3_digestOfSlot_140 : decode cX3_digestOfSlot 140 = .ok (.ladd, 1) := by decide +kernel
theorem dX3_digestOfSlot_141 : decode cX3_digestOfSlot 141 = .ok (.lstore 4, 2) := by decide +kernel
theorem dX3_digestOfSlot_143 : decode cX3_digestOfSlot 143 = .ok (.lload 4, 2) := by decide +kernel
theorem dX3_digestOfSlot_145 : decode cX3_digestOfSlot 145 = .ok (.lreturn, 1) := by decide +kernel
set_option maxRecDepth 20000 in
theorem ggX3_place_X2_dependsOn : GoodIn wsX3_place wsX2_dependsOn := goodIn_r _ [9, 10, 11, 12, 8, 13, 14, 15, 16, 17, 18, 19, 119] (by decide +kernel) (by decide +kernel)
set_option maxRecDepth 20000 in
theorem gX3_place_X2_dependsOn : GoodIn wsX3_place (wsV RX3 259 RX2 yX2_dependsOn wsX2_dependsOn) := goodIn_app (goodIn_of _ (by decide +kernel)) ggX3_place_X2_dependsOn
set_option maxRecDepth 20000 in
theorem ggX3_place_X0_build : GoodIn wsX3_place wsX0_build := goodIn_r _ [24, 25, 26, 27, 28, 29, 30, 31, 32, 33, 34, 35, 36, 8, 37, 14, 38, 39, 40, 23, 41, 42, 43, 44, 45, 46, 47, 48, 49, 50, 51, 52, 53, 54, 55, 56, 57, 58, 59, 60, 61, 62, 63, 64, 65, 66, 67, 68, 69, 70, 71, 72, 73, 120, 121, 122, 123, 124, 125, 126, 127, 128, 129, 130, 131, 132, 133, 134, 135, 136, 119] (by decide +kernel) (by decide +kernel)
set_option maxRecDepth 20000 in
theorem gX3_place_X0_build : GoodIn wsX3_place (wsV RX3 262 RX0 yX0_build wsX0_build) := goodIn_app (goodIn_of _ (by decide +kernel)) ggX3_place_X0_build
set_option maxRecDepth 20000 in
theorem ggX3_place_X0_setRoot : GoodIn wsX3_place wsX0_setRoot := goodIn_r _ [77, 78, 70, 71, 72, 23, 73, 52, 61, 62, 63, 79, 80, 81, 49, 50, 47, 48, 82, 83, 84, 85, 51, 46, 68, 69, 53, 54, 55, 56, 57, 58, 59, 60, 120, 121, 122, 123, 124, 125, 126, 127, 128, 129, 130, 131, 132, 133, 134, 135, 136] (by decide +kernel) (by decide +kernel)
set_option maxRecDepth 20000 in
theorem gX3_place_X0_setRoot : GoodIn wsX3_place (wsV RX3 266 RX0 yX0_setRoot wsX0_setRoot) := goodIn_app (goodIn_of _ (by decide +kernel)) ggX3_place_X0_setRoot
set_option maxRecDepth 20000 in
theorem ggX3_place_X0_count : GoodIn wsX3_place wsX0_count := goodIn_r _ [89, 69, 120, 121, 122, 123, 124, 125, 126, 127, 128, 129, 130, 131, 132, 133, 134, 135, 136] (by decide +kernel) (by decide +kernel)
set_option maxRecDepth 20000 in
theorem gX3_place_X0_count : GoodIn wsX3_place (wsV RX3 167 RX0 yX0_count wsX0_count) := goodIn_app (goodIn_of _ (by decide +kernel)) ggX3_place_X0_count
set_option maxRecDepth 20000 in
theorem ggX3_place_X2_copy : GoodIn wsX3_place wsX2_copy := goodIn_r _ [93, 14, 94, 95, 96, 97, 119] (by decide +kernel) (by decide +kernel)
set_option maxRecDepth 20000 in
theorem gX3_place_X2_copy : GoodIn wsX3_place (wsV RX3 98 RX2 yX2_copy wsX2_copy) := goodIn_app (goodIn_of _ (by decide +kernel)) ggX3_place_X2_copy
set_option maxRecDepth 20000 in
theorem ggX3_place_X0_countFrom : GoodIn wsX3_place wsX0_countFrom := goodIn_r _ [101, 102, 103, 78, 104, 105, 23, 106, 107, 47, 48, 108, 61, 62, 63, 120, 121, 122, 123, 124, 125, 126, 127, 128, 129, 130, 131, 132, 133, 134, 135, 136] (by decide +kernel) (by decide +kernel)
set_option maxRecDepth 20000 in
theorem gX3_place_X0_countFrom : GoodIn wsX3_place (wsV RX3 163 RX0 yX0_countFrom wsX0_countFrom) := goodIn_app (goodIn_of _ (by decide +kernel)) ggX3_place_X0_countFrom
theorem dX3_place_0 : decode cX3_place 0 = .ok (.aload_n 0, 1) := by decide +kernel
theorem dX3_place_1 : decode cX3_place 1 = .ok (.getfield 34, 3) := by decide +kernel
theorem dX3_place_4 : decode cX3_place 4 = .ok (.invokevirtual 259, 3) := by decide +kernel
theorem dX3_place_7 : decode cX3_place 7 = .ok (.istore_n 2, 1) := by decide +kernel
theorem dX3_place_8 : decode cX3_place 8 = .ok (.aload_n 0, 1) := by decide +kernel
theorem dX3_place_9 : decode cX3_place 9 = .ok (.getfield 22, 3) := by decide +kernel
theorem dX3_place_12 : decode cX3_place 12 = .ok (.iload_n 1, 1) := by decide +kernel
theorem dX3_place_13 : decode cX3_place 13 = .ok (.aload_n 0, 1) := by decide +kernel
theorem dX3_place_14 : decode cX3_place 14 = .ok (.getfield 22, 3) := by decide +kernel
theorem dX3_place_17 : decode cX3_place 17 = .ok (.aload_n 0, 1) := by decide +kernel
theorem dX3_place_18 : decode cX3_place 18 = .ok (.getfield 34, 3) := by decide +kernel
theorem dX3_place_21 : decode cX3_place 21 = .ok (.iload_n 2, 1) := by decide +kernel
theorem dX3_place_22 : decode cX3_place 22 = .ok (.invokevirtual 262, 3) := by decide +kernel
theorem dX3_place_25 : decode cX3_place 25 = .ok (.invokevirtual 266, 3) := by decide +kernel
theorem dX3_place_28 : decode cX3_place 28 = .ok (.aload_n 0, 1) := by decide +kernel
theorem dX3_place_29 : decode cX3_place 29 = .ok (.getfield 22, 3) := by decide +kernel
theorem dX3_place_32 : decode cX3_place 32 = .ok (.invokevirtual 167, 3) := by decide +kernel
theorem dX3_place_35 : decode cX3_place 35 = .ok (.sipush 400, 3) := by decide +kernel
theorem dX3_place_38 : decode cX3_place 38 = .ok (.if_icmp .le 32, 3) := by decide +kernel
theorem dX3_place_41 : decode cX3_place 41 = .ok (.aload_n 0, 1) := by decide +kernel
theorem dX3_place_42 : decode cX3_place 42 = .ok (.getfield 22, 3) := by decide +kernel
theorem dX3_place_45 : decode cX3_place 45 = .ok (.iload_n 1, 1) := by decide +kernel
theorem dX3_place_46 : decode cX3_place 46 = .ok (.aload_n 0, 1) := by decide +kernel
theorem dX3_place_47 : decode cX3_place 47 = .ok (.getfield 22, 3) := by decide +kernel
theorem dX3_place_50 : decode cX3_place 50 = .ok (.aload_n 0, 1) := by decide +kernel
theorem dX3_place_51 : decode cX3_place 51 = .ok (.getfield 11, 3) := by decide +kernel
theorem dX3_place_54 : decode cX3_place 54 = .ok (.iload_n 1, 1) := by decide +kernel
theorem dX3_place_55 : decode cX3_place 55 = .ok (.aaload, 1) := by decide +kernel
theorem dX3_place_56 : decode cX3_place 56 = .ok (.aload_n 0, 1) := by decide +kernel
theorem dX3_place_57 : decode cX3_place 57 = .ok (.getfield 15, 3) := by decide +kernel
theorem dX3_place_60 : decode cX3_place 60 = .ok (.iload_n 1, 1) := by decide +kernel
theorem dX3_place_61 : decode cX3_place 61 = .ok (.iaload, 1) := by decide +kernel
theorem dX3_place_62 : decode cX3_place 62 = .ok (.invokevirtual 262, 3) := by decide +kernel
theorem dX3_place_65 : decode cX3_place 65 = .ok (.invokevirtual 266, 3) := by decide +kernel
theorem dX3_place_68 : decode cX3_place 68 = .ok (.iconst (-1), 1) := by decide +kernel
theorem dX3_place_69 : decode cX3_place 69 = .ok (.ireturn, 1) := by decide +kernel
theorem dX3_place_70 : decode cX3_place 70 = .ok (.aload_n 0, 1) := by decide +kernel
theorem dX3_place_71 : decode cX3_place 71 = .ok (.getfield 11, 3) := by decide +kernel
theorem dX3_place_74 : decode cX3_place 74 = .ok (.iload_n 1, 1) := by decide +kernel
theorem dX3_place_75 : decode cX3_place 75 = .ok (.aaload, 1) := by decide +kernel
theorem dX3_place_76 : decode cX3_place 76 = .ok (.aload_n 0, 1) := by decide +kernel
theorem dX3_place_77 : decode cX3_place 77 = .ok (.getfield 34, 3) := by decide +kernel
theorem dX3_place_80 : decode cX3_place 80 = .ok (.invokevirtual 98, 3) := by decide +kernel
theorem dX3_place_83 : decode cX3_place 83 = .ok (.aload_n 0, 1) := by decide +kernel
theorem dX3_place_84 : decode cX3_place 84 = .ok (.getfield 15, 3) := by decide +kernel
theorem dX3_place_87 : decode cX3_place 87 = .ok (.iload_n 1, 1) := by decide +kernel
theorem dX3_place_88 : decode cX3_place 88 = .ok (.iload_n 2, 1) := by decide +kernel
theorem dX3_place_89 : decode cX3_place 89 = .ok (.iastore, 1) := by decide +kernel
theorem dX3_place_90 : decode cX3_place 90 = .ok (.aload_n 0, 1) := by decide +kernel
theorem dX3_place_91 : decode cX3_place 91 = .ok (.getfield 22, 3) := by decide +kernel
theorem dX3_place_94 : decode cX3_place 94 = .ok (.iload_n 1, 1) := by decide +kernel
theorem dX3_place_95 : decode cX3_place 95 = .ok (.iload_n 1, 1) := by decide +kernel
theorem dX3_place_96 : decode cX3_place 96 = .ok (.invokevirtual 163, 3) := by decide +kernel
theorem dX3_place_99 : decode cX3_place 99 = .ok (.ireturn, 1) := by decide +kernel
set_option maxRecDepth 20000 in
theorem ggX3_siftOne_X0_lift : GoodIn wsX3_siftOne wsX0_lift := goodIn_r _ [6, 7, 8, 9, 5, 10, 11, 12, 13, 14, 15, 16, 17, 18, 19, 20, 21, 22, 23, 24, 25, 26, 27, 28, 29, 30, 31, 32, 33, 34, 35, 36, 37, 38, 39, 40, 41, 42, 43, 44, 45, 46, 47, 48, 49, 50, 51, 52, 53, 54, 55, 56, 57, 58, 59, 60, 61, 62, 63, 64, 65, 66, 67, 68, 69, 70, 71, 72, 73, 74, 75, 76, 77, 78, 79, 80, 81, 82, 83, 84, 85, 86, 87, 102, 103, 104, 105, 106, 107, 108, 109, 110, 111, 112, 113, 114, 115, 116, 117, 118] (by decide +kernel) (by decide +kernel)
set_option maxRecDepth 20000 in
theorem gX3_siftOne_X0_lift : GoodIn wsX3_siftOne (wsV RX3 201 RX0 yX0_lift wsX0_lift) := goodIn_app (goodIn_of _ (by decide +kernel)) ggX3_siftOne_X0_lift
set_option maxRecDepth 20000 in
theorem ggX3_siftOne_X0_walk : GoodIn wsX3_siftOne wsX0_walk := goodIn_r _ [91, 23, 12, 13, 14, 5, 15, 16, 11, 17, 18, 19, 20, 21, 22, 24, 25, 26, 27, 28, 29, 30, 31, 32, 33, 34, 35, 36, 37, 38, 39, 40, 41, 42, 43, 44, 45, 46, 47, 48, 49, 50, 51, 52, 53, 54, 55, 56, 57, 58, 59, 60, 61, 62, 63, 64, 65, 66, 67, 68, 69, 70, 71, 72, 73, 74, 75, 76, 77, 78, 79, 80, 81, 82, 83, 84, 85, 86, 87, 102, 103, 104, 105, 106, 107, 108, 109, 110, 111, 112, 113, 114, 115, 116, 117, 118] (by decide +kernel) (by decide +kernel)
set_option maxRecDepth 20000 in
theorem gX3_siftOne_X0_walk : GoodIn wsX3_siftOne (wsV RX3 204 RX0 yX0_walk wsX0_walk) := goodIn_app (goodIn_of _ (by decide +kernel)) ggX3_siftOne_X0_walk
theorem dX3_siftOne_0 : decode cX3_siftOne 0 = .ok (.aload_n 0, 1) := by decide +kernel
theorem dX3_siftOne_1 : decode cX3_siftOne 1 = .ok (.getfield 22, 3) := by decide +kernel
theorem dX3_siftOne_4 : decode cX3_siftOne 4 = .ok (.iload_n 1, 1) := by decide +kernel
theorem dX3_siftOne_5 : decode cX3_siftOne 5 = .ok (.iconst 0, 1) := by decide +kernel
theorem dX3_siftOne_6 : decode cX3_siftOne 6 = .ok (.invokevirtual 201, 3) := by decide +kernel
theorem dX3_siftOne_9 : decode cX3_siftOne 9 = .ok (.aload_n 0, 1) := by decide +kernel
theorem dX3_siftOne_10 : decode cX3_siftOne 10 = .ok (.getfield 22, 3) := by decide +kernel
theorem dX3_siftOne_13 : decode cX3_siftOne 13 = .ok (.invokevirtual 204, 3) := by decide +kernel
theorem dX3_siftOne_16 : decode cX3_siftOne 16 = .ok (.istore_n 2, 1) := by decide +kernel
theorem dX3_siftOne_17 : decode cX3_siftOne 17 = .ok (.aload_n 0, 1) := by decide +kernel
theorem dX3_siftOne_18 : decode cX3_siftOne 18 = .ok (.getfield 22, 3) := by decide +kernel
theorem dX3_siftOne_21 : decode cX3_siftOne 21 = .ok (.iload_n 1, 1) := by decide +kernel
theorem dX3_siftOne_22 : decode cX3_siftOne 22 = .ok (.iload_n 2, 1) := by decide +kernel
theorem dX3_siftOne_23 : decode cX3_siftOne 23 = .ok (.invokevirtual 201, 3) := by decide +kernel
theorem dX3_siftOne_26 : decode cX3_siftOne 26 = .ok (.iload_n 2, 1) := by decide +kernel
theorem dX3_siftOne_27 : decode cX3_siftOne 27 = .ok (.ireturn, 1) := by decide +kernel
theorem dX3_heaviest_0 : decode cX3_heaviest 0 = .ok (.iconst 0, 1) := by decide +kernel
theorem dX3_heaviest_1 : decode cX3_heaviest 1 = .ok (.istore_n 1, 1) := by decide +kernel
theorem dX3_heaviest_2 : decode cX3_heaviest 2 = .ok (.iconst 1, 1) := by decide +kernel
theorem dX3_heaviest_3 : decode cX3_heaviest 3 = .ok (.istore_n 2, 1) := by decide +kernel
theorem dX3_heaviest_4 : decode cX3_heaviest 4 = .ok (.iload_n 2, 1) := by decide +kernel
theorem dX3_heaviest_5 : decode cX3_heaviest 5 = .ok (.bipush 10, 2) := by decide +kernel
theorem dX3_heaviest_7 : decode cX3_heaviest 7 = .ok (.if_icmp .ge 26, 3) := by decide +kernel
theorem dX3_heaviest_10 : decode cX3_heaviest 10 = .ok (.aload_n 0, 1) := by decide +kernel
theorem dX3_heaviest_11 : decode cX3_heaviest 11 = .ok (.getfield 50, 3) := by decide +kernel
theorem dX3_heaviest_14 : decode cX3_heaviest 14 = .ok (.iload_n 2, 1) := by decide +kernel
theorem dX3_heaviest_15 : decode cX3_heaviest 15 = .ok (.iaload, 1) := by decide +kernel
theorem dX3_heaviest_16 : decode cX3_heaviest 16 = .ok (.aload_n 0, 1) := by decide +kernel
theorem dX3_heaviest_17 : decode cX3_heaviest 17 = .ok (.getfield 50, 3) := by decide +kernel
theorem dX3_heaviest_20 : decode cX3_heaviest 20 = .ok (.iload_n 1, 1) := by decide +kernel
theorem dX3_heaviest_21 : decode cX3_heaviest 21 = .ok (.iaload, 1) := by decide +kernel
theorem dX3_heaviest_22 : decode cX3_heaviest 22 = .ok (.if_icmp .le 5, 3) := by decide +kernel
theorem dX3_heaviest_25 : decode cX3_heaviest 25 = .ok (.iload_n 2, 1) := by decide +kernel
theorem dX3_heaviest_26 : decode cX3_heaviest 26 = .ok (.istore_n 1, 1) := by decide +kernel
theorem dX3_heaviest_27 : decode cX3_heaviest 27 = .ok (.iinc 2 1, 3) := by decide +kernel
theorem dX3_heaviest_30 : decode cX3_heaviest 30 = .ok (.goto (-26), 3) := by decide +kernel
theorem dX3_heaviest_33 : decode cX3_heaviest 33 = .ok (.iload_n 1, 1) := by decide +kernel
theorem dX3_heaviest_34 : decode cX3_heaviest 34 = .ok (.ireturn, 1) := by decide +kernel
theorem dX3_checkSlot_0 : decode cX3_checkSlot 0 = .ok (.iload_n 0, 1) := by decide +kernel
theorem dX3_checkSlot_1 : decode cX3_checkSlot 1 = .ok (.ifCond .lt 9, 3) := by decide +kernel
theorem dX3_checkSlot_4 : decode cX3_checkSlot 4 = .ok (.iload_n 0, 1) := by decide +kernel
theorem dX3_checkSlot_5 : decode cX3_checkSlot 5 = .ok (.bipush 12, 2) := by decide +kernel
theorem dX3_checkSlot_7 : decode cX3_checkSlot 7 = .ok (.if_icmp .lt 14, 3) := by decide +kernel
theorem dX3_checkSlot_10 : decode cX3_checkSlot 10 = .ok (.new 269, 3) := by decide +kernel
theorem dX3_checkSlot_13 : decode cX3_checkSlot 13 = .ok (.dup, 1) := by decide +kernel
theorem dX3_checkSlot_14 : decode cX3_checkSlot 14 = .ok (.ldc_w 271, 3) := by decide +kernel
theorem dX3_checkSlot_17 : decode cX3_checkSlot 17 = .ok (.invokespecial 273, 3) := by decide +kernel
theorem dX3_checkSlot_20 : decode cX3_checkSlot 20 = .ok (.athrow, 1) := by decide +kernel
theorem dX3_checkSlot_21 : decode cX3_checkSlot 21 = .ok (.return_, 1) := by decide +kernel
theorem dX3_checkVariable_0 : decode cX3_checkVariable 0 = .ok (.iload_n 0, 1) := by decide +kernel
theorem dX3_checkVariable_1 : decode cX3_checkVariable 1 = .ok (.ifCond .lt 9, 3) := by decide +kernel
theorem dX3_checkVariable_4 : decode cX3_checkVariable 4 = .ok (.iload_n 0, 1) := by decide +kernel
theorem dX3_checkVariable_5 : decode cX3_checkVariable 5 = .ok (.bipush 10, 2) := by decide +kernel
theorem dX3_checkVariable_7 : decode cX3_checkVariable 7 = .ok (.if_icmp .lt 14, 3) := by decide +kernel
theorem dX3_checkVariable_10 : decode cX3_checkVariable 10 = .ok (.new 269, 3) := by decide +kernel
theorem dX3_checkVariable_13 : decode cX3_checkVariable 13 = .ok (.dup, 1) := by decide +kernel
theorem dX3_checkVariable_14 : decode cX3_checkVariable 14 = .ok (.ldc_w 274, 3) := by decide +kernel
theorem dX3_checkVariable_17 : decode cX3_checkVariable 17 = .ok (.invokespecial 273, 3) := by decide +kernel
theorem dX3_checkVariable_20 : decode cX3_checkVariable 20 = .ok (.athrow, 1) := by decide +kernel
theorem dX3_checkVariable_21 : decode cX3_checkVariable 21 = .ok (.return_, 1) := by decide +kernel
theorem dX3_checkLevel_0 : decode cX3_checkLevel 0 = .ok (.iload_n 0, 1) := by decide +kernel
theorem dX3_checkLevel_1 : decode cX3_checkLevel 1 = .ok (.ifCond .lt 8, 3) := by decide +kernel
theorem dX3_checkLevel_4 : decode cX3_checkLevel 4 = .ok (.iload_n 0, 1) := by decide +kernel
theorem dX3_checkLevel_5 : decode cX3_checkLevel 5 = .ok (.iload_n 1, 1) := by decide +kernel
theorem dX3_checkLevel_6 : decode cX3_checkLevel 6 = .ok (.if_icmp .lt 14, 3) := by decide +kernel
theorem dX3_checkLevel_9 : decode cX3_checkLevel 9 = .ok (.new 269, 3) := by decide +kernel
theorem dX3_checkLevel_12 : decode cX3_checkLevel 12 = .ok (.dup, 1) := by decide +kernel
theorem dX3_checkLevel_13 : decode cX3_checkLevel 13 = .ok (.ldc_w 276, 3) := by decide +kernel
theorem dX3_checkLevel_16 : decode cX3_checkLevel 16 = .ok (.invokespecial 273, 3) := by decide +kernel
theorem dX3_checkLevel_19 : decode cX3_checkLevel 19 = .ok (.athrow, 1) := by decide +kernel
theorem dX3_checkLevel_20 : decode cX3_checkLevel 20 = .ok (.return_, 1) := by decide +kernel
theorem dX3_checkSet_0 : decode cX3_checkSet 0 = .ok (.iload_n 0, 1) := by decide +kernel
theorem dX3_checkSet_1 : decode cX3_checkSet 1 = .ok (.ifCond .lt 10, 3) := by decide +kernel
theorem dX3_checkSet_4 : decode cX3_checkSet 4 = .ok (.iload_n 0, 1) := by decide +kernel
theorem dX3_checkSet_5 : decode cX3_checkSet 5 = .ok (.sipush 1024, 3) := by decide +kernel
theorem dX3_checkSet_8 : decode cX3_checkSet 8 = .ok (.if_icmp .lt 14, 3) := by decide +kernel
theorem dX3_checkSet_11 : decode cX3_checkSet 11 = .ok (.new 76, 3) := by decide +kernel
theorem dX3_checkSet_14 : decode cX3_checkSet 14 = .ok (.dup, 1) := by decide +kernel
theorem dX3_checkSet_15 : decode cX3_checkSet 15 = .ok (.ldc_w 278, 3) := by decide +kernel
theorem dX3_checkSet_18 : decode cX3_checkSet 18 = .ok (.invokespecial 80, 3) := by decide +kernel
theorem dX3_checkSet_21 : decode cX3_checkSet 21 = .ok (.athrow, 1) := by decide +kernel
theorem dX3_checkSet_22 : decode cX3_checkSet 22 = .ok (.return_, 1) := by decide +kernel
theorem dJ6_bitCount_0f7a4_0 : decode cJ6_bitCount_0f7a4 0 = .ok (.iload_n 0, 1) := by decide +kernel
theorem dJ6_bitCount_0f7a4_1 : decode cJ6_bitCount_0f7a4 1 = .ok (.iload_n 0, 1) := by decide +kernel
theorem dJ6_bitCount_0f7a4_2 : decode cJ6_bitCount_0f7a4 2 = .ok (.iconst 1, 1) := by decide +kernel
theorem dJ6_bitCount_0f7a4_3 : decode cJ6_bitCount_0f7a4 3 = .ok (.iushr, 1) := by decide +kernel
theorem dJ6_bitCount_0f7a4_4 : decode cJ6_bitCount_0f7a4 4 = .ok (.ldc_w 265, 3) := by decide +kernel
theorem dJ6_bitCount_0f7a4_7 : decode cJ6_bitCount_0f7a4 7 = .ok (.iand, 1) := by decide +kernel
theorem dJ6_bitCount_0f7a4_8 : decode cJ6_bitCount_0f7a4 8 = .ok (.isub, 1) := by decide +kernel
theorem dJ6_bitCount_0f7a4_9 : decode cJ6_bitCount_0f7a4 9 = .ok (.istore_n 0, 1) := by decide +kernel
theorem dJ6_bitCount_0f7a4_10 : decode cJ6_bitCount_0f7a4 10 = .ok (.iload_n 0, 1) := by decide +kernel
theorem dJ6_bitCount_0f7a4_11 : decode cJ6_bitCount_0f7a4 11 = .ok (.ldc_w 266, 3) := by decide +kernel
theorem dJ6_bitCount_0f7a4_14 : decode cJ6_bitCount_0f7a4 14 = .ok (.iand, 1) := by decide +kernel
theorem dJ6_bitCount_0f7a4_15 : decode cJ6_bitCount_0f7a4 15 = .ok (.iload_n 0, 1) := by decide +kernel
theorem dJ6_bitCount_0f7a4_16 : decode cJ6_bitCount_0f7a4 16 = .ok (.iconst 2, 1) := by decide +kernel
theorem dJ6_bitCount_0f7a4_17 : decode cJ6_bitCount_0f7a4 17 = .ok (.iushr, 1) := by decide +kernel
theorem dJ6_bitCount_0f7a4_18 : decode cJ6_bitCount_0f7a4 18 = .ok (.ldc_w 266, 3) := by decide +kernel
theorem dJ6_bitCount_0f7a4_21 : decode cJ6_bitCount_0f7a4 21 = .ok (.iand, 1) := by decide +kernel
theorem dJ6_bitCount_0f7a4_22 : decode cJ6_bitCount_0f7a4 22 = .ok (.iadd, 1) := by decide +kernel
theorem dJ6_bitCount_0f7a4_23 : decode cJ6_bitCount_0f7a4 23 = .ok (.istore_n 0, 1) := by decide +kernel
theorem dJ6_bitCount_0f7a4_24 : decode cJ6_bitCount_0f7a4 24 = .ok (.iload_n 0, 1) := by decide +kernel
theorem dJ6_bitCount_0f7a4_25 : decode cJ6_bitCount_0f7a4 25 = .ok (.iload_n 0, 1) := by decide +kernel
theorem dJ6_bitCount_0f7a4_26 : decode cJ6_bitCount_0f7a4 26 = .ok (.iconst 4, 1) := by decide +kernel
theorem dJ6_bitCount_0f7a4_27 : decode cJ6_bitCount_0f7a4 27 = .ok (.iushr, 1) := by decide +kernel
theorem dJ6_bitCount_0f7a4_28 : decode cJ6_bitCount_0f7a4 28 = .ok (.iadd, 1) := by decide +kernel
theorem dJ6_bitCount_0f7a4_29 : decode cJ6_bitCount_0f7a4 29 = .ok (.ldc_w 267, 3) := by decide +kernel
theorem dJ6_bitCount_0f7a4_32 : decode cJ6_bitCount_0f7a4 32 = .ok (.iand, 1) := by decide +kernel
theorem dJ6_bitCount_0f7a4_33 : decode cJ6_bitCount_0f7a4 33 = .ok (.istore_n 0, 1) := by decide +kernel
theorem dJ6_bitCount_0f7a4_34 : decode cJ6_bitCount_0f7a4 34 = .ok (.iload_n 0, 1) := by decide +kernel
theorem dJ6_bitCount_0f7a4_35 : decode cJ6_bitCount_0f7a4 35 = .ok (.iload_n 0, 1) := by decide +kernel
theorem dJ6_bitCount_0f7a4_36 : decode cJ6_bitCount_0f7a4 36 = .ok (.bipush 8, 2) := by decide +kernel
theorem dJ6_bitCount_0f7a4_38 : decode cJ6_bitCount_0f7a4 38 = .ok (.iushr, 1) := by decide +kernel
theorem dJ6_bitCount_0f7a4_39 : decode cJ6_bitCount_0f7a4 39 = .ok (.iadd, 1) := by decide +kernel
theorem dJ6_bitCount_0f7a4_40 : decode cJ6_bitCount_0f7a4 40 = .ok (.istore_n 0, 1) := by decide +kernel
theorem dJ6_bitCount_0f7a4_41 : decode cJ6_bitCount_0f7a4 41 = .ok (.iload_n 0, 1) := by decide +kernel
theorem dJ6_bitCount_0f7a4_42 : decode cJ6_bitCount_0f7a4 42 = .ok (.iload_n 0, 1) := by decide +kernel
theorem dJ6_bitCount_0f7a4_43 : decode cJ6_bitCount_0f7a4 43 = .ok (.bipush 16, 2) := by decide +kernel
theorem dJ6_bitCount_0f7a4_45 : decode cJ6_bitCount_0f7a4 45 = .ok (.iushr, 1) := by decide +kernel
theorem dJ6_bitCount_0f7a4_46 : decode cJ6_bitCount_0f7a4 46 = .ok (.iadd, 1) := by decide +kernel
theorem dJ6_bitCount_0f7a4_47 : decode cJ6_bitCount_0f7a4 47 = .ok (.istore_n 0, 1) := by decide +kernel
theorem dJ6_bitCount_0f7a4_48 : decode cJ6_bitCount_0f7a4 48 = .ok (.iload_n 0, 1) := by decide +kernel
theorem dJ6_bitCount_0f7a4_49 : decode cJ6_bitCount_0f7a4 49 = .ok (.bipush 63, 2) := by decide +kernel
theorem dJ6_bitCount_0f7a4_51 : decode cJ6_bitCount_0f7a4 51 = .ok (.iand, 1) := by decide +kernel
theorem dJ6_bitCount_0f7a4_52 : decode cJ6_bitCount_0f7a4 52 = .ok (.ireturn, 1) := by decide +kernel
theorem dJ13_bitCount_95d88_0 : decode cJ13_bitCount_95d88 0 = .ok (.lload_n 0, 1) := by decide +kernel
theorem dJ13_bitCount_95d88_1 : decode cJ13_bitCount_95d88 1 = .ok (.lload_n 0, 1) := by decide +kernel
theorem dJ13_bitCount_95d88_2 : decode cJ13_bitCount_95d88 2 = .ok (.iconst 1, 1) := by decide +kernel
theorem dJ13_bitCount_95d88_3 : decode cJ13_bitCount_95d88 3 = .ok (.lushr, 1) := by decide +kernel
theorem dJ13_bitCount_95d88_4 : decode cJ13_bitCount_95d88 4 = .ok (.ldc2_w 314, 3) := by decide +kernel
theorem dJ13_bitCount_95d88_7 : decode cJ13_bitCount_95d88 7 = .ok (.land, 1) := by decide +kernel
theorem dJ13_bitCount_95d88_8 : decode cJ13_bitCount_95d88 8 = .ok (.lsub, 1) := by decide +kernel
theorem dJ13_bitCount_95d88_9 : decode cJ13_bitCount_95d88 9 = .ok (.lstore_n 0, 1) := by decide +kernel
theorem dJ13_bitCount_95d88_10 : decode cJ13_bitCount_95d88 10 = .ok (.lload_n 0, 1) := by decide +kernel
theorem dJ13_bitCount_95d88_11 : decode cJ13_bitCount_95d88 11 = .ok (.ldc2_w 316, 3) := by decide +kernel
theorem dJ13_bitCount_95d88_14 : decode cJ13_bitCount_95d88 14 = .ok (.land, 1) := by decide +kernel
theorem dJ13_bitCount_95d88_15 : decode cJ13_bitCount_95d88 15 = .ok (.lload_n 0, 1) := by decide +kernel
theorem dJ13_bitCount_95d88_16 : decode cJ13_bitCount_95d88 16 = .ok (.iconst 2, 1) := by decide +kernel
theorem dJ13_bitCount_95d88_17 : decode cJ13_bitCount_95d88 17 = .ok (.lushr, 1) := by decide +kernel
theorem dJ13_bitCount_95d88_18 : decode cJ13_bitCount_95d88 18 = .ok (.ldc2_w 316, 3) := by decide +kernel
theorem dJ13_bitCount_95d88_21 : decode cJ13_bitCount_95d88 21 = .ok (.land, 1) := by decide +kernel
theorem dJ13_bitCount_95d88_22 : decode cJ13_bitCount_95d88 22 = .ok (.ladd, 1) := by decide +kernel
theorem dJ13_bitCount_95d88_23 : decode cJ13_bitCount_95d88 23 = .ok (.lstore_n 0, 1) := by decide +kernel
theorem dJ13_bitCount_95d88_24 : decode cJ13_bitCount_95d88 24 = .ok (.lload_n 0, 1) := by decide +kernel
theorem dJ13_bitCount_95d88_25 : decode cJ13_bitCount_95d88 25 = .ok (.lload_n 0, 1) := by decide +kernel
theorem dJ13_bitCount_95d88_26 : decode cJ13_bitCount_95d88 26 = .ok (.iconst 4, 1) := by decide +kernel
theorem dJ13_bitCount_95d88_27 : decode cJ13_bitCount_95d88 27 = .ok (.lushr, 1) := by decide +kernel
theorem dJ13_bitCount_95d88_28 : decode cJ13_bitCount_95d88 28 = .ok (.ladd, 1) := by decide +kernel
theorem dJ13_bitCount_95d88_29 : decode cJ13_bitCount_95d88 29 = .ok (.ldc2_w 318, 3) := by decide +kernel
theorem dJ13_bitCount_95d88_32 : decode cJ13_bitCount_95d88 32 = .ok (.land, 1) := by decide +kernel
theorem dJ13_bitCount_95d88_33 : decode cJ13_bitCount_95d88 33 = .ok (.lstore_n 0, 1) := by decide +kernel
theorem dJ13_bitCount_95d88_34 : decode cJ13_bitCount_95d88 34 = .ok (.lload_n 0, 1) := by decide +kernel
theorem dJ13_bitCount_95d88_35 : decode cJ13_bitCount_95d88 35 = .ok (.lload_n 0, 1) := by decide +kernel
theorem dJ13_bitCount_95d88_36 : decode cJ13_bitCount_95d88 36 = .ok (.bipush 8, 2) := by decide +kernel
theorem dJ13_bitCount_95d88_38 : decode cJ13_bitCount_95d88 38 = .ok (.lushr, 1) := by decide +kernel
theorem dJ13_bitCount_95d88_39 : decode cJ13_bitCount_95d88 39 = .ok (.ladd, 1) := by decide +kernel
theorem dJ13_bitCount_95d88_40 : decode cJ13_bitCount_95d88 40 = .ok (.lstore_n 0, 1) := by decide +kernel
theorem dJ13_bitCount_95d88_41 : decode cJ13_bitCount_95d88 41 = .ok (.lload_n 0, 1) := by decide +kernel
theorem dJ13_bitCount_95d88_42 : decode cJ13_bitCount_95d88 42 = .ok (.lload_n 0, 1) := by decide +kernel
theorem dJ13_bitCount_95d88_43 : decode cJ13_bitCount_95d88 43 = .ok (.bipush 16, 2) := by decide +kernel
theorem dJ13_bitCount_95d88_45 : decode cJ13_bitCount_95d88 45 = .ok (.lushr, 1) := by decide +kernel
theorem dJ13_bitCount_95d88_46 : decode cJ13_bitCount_95d88 46 = .ok (.ladd, 1) := by decide +kernel
theorem dJ13_bitCount_95d88_47 : decode cJ13_bitCount_95d88 47 = .ok (.lstore_n 0, 1) := by decide +kernel
theorem dJ13_bitCount_95d88_48 : decode cJ13_bitCount_95d88 48 = .ok (.lload_n 0, 1) := by decide +kernel
theorem dJ13_bitCount_95d88_49 : decode cJ13_bitCount_95d88 49 = .ok (.lload_n 0, 1) := by decide +kernel
theorem dJ13_bitCount_95d88_50 : decode cJ13_bitCount_95d88 50 = .ok (.bipush 32, 2) := by decide +kernel
theorem dJ13_bitCount_95d88_52 : decode cJ13_bitCount_95d88 52 = .ok (.lushr, 1) := by decide +kernel
theorem dJ13_bitCount_95d88_53 : decode cJ13_bitCount_95d88 53 = .ok (.ladd, 1) := by decide +kernel
theorem dJ13_bitCount_95d88_54 : decode cJ13_bitCount_95d88 54 = .ok (.lstore_n 0, 1) := by decide +kernel
theorem dJ13_bitCount_95d88_55 : decode cJ13_bitCount_95d88 55 = .ok (.lload_n 0, 1) := by decide +kernel
theorem dJ13_bitCount_95d88_56 : decode cJ13_bitCount_95d88 56 = .ok (.l2i, 1) := by decide +kernel
theorem dJ13_bitCount_95d88_57 : decode cJ13_bitCount_95d88 57 = .ok (.bipush 127, 2) := by decide +kernel
theorem dJ13_bitCount_95d88_59 : decode cJ13_bitCount_95d88 59 = .ok (.iand, 1) := by decide +kernel
theorem dJ13_bitCount_95d88_60 : decode cJ13_bitCount_95d88 60 = .ok (.ireturn, 1) := by decide +kernel
theorem dJ9_max_7cf53_0 : decode cJ9_max_7cf53 0 = .ok (.iload_n 0, 1) := by decide +kernel
theorem dJ9_max_7cf53_1 : decode cJ9_max_7cf53 1 = .ok (.iload_n 1, 1) := by decide +kernel
theorem dJ9_max_7cf53_2 : decode cJ9_max_7cf53 2 = .ok (.if_icmp .lt 7, 3) := by decide +kernel
theorem dJ9_max_7cf53_5 : decode cJ9_max_7cf53 5 = .ok (.iload_n 0, 1) := by decide +kernel
theorem dJ9_max_7cf53_6 : decode cJ9_max_7cf53 6 = .ok (.goto 4, 3) := by decide +kernel
theorem dJ9_max_7cf53_9 : decode cJ9_max_7cf53 9 = .ok (.iload_n 1, 1) := by decide +kernel
theorem dJ9_max_7cf53_10 : decode cJ9_max_7cf53 10 = .ok (.ireturn, 1) := by decide +kernel
theorem dJ9_min_7cf53_0 : decode cJ9_min_7cf53 0 = .ok (.iload_n 0, 1) := by decide +kernel
theorem dJ9_min_7cf53_1 : decode cJ9_min_7cf53 1 = .ok (.iload_n 1, 1) := by decide +kernel
theorem dJ9_min_7cf53_2 : decode cJ9_min_7cf53 2 = .ok (.if_icmp .gt 7, 3) := by decide +kernel
theorem dJ9_min_7cf53_5 : decode cJ9_min_7cf53 5 = .ok (.iload_n 0, 1) := by decide +kernel
theorem dJ9_min_7cf53_6 : decode cJ9_min_7cf53 6 = .ok (.goto 4, 3) := by decide +kernel
theorem dJ9_min_7cf53_9 : decode cJ9_min_7cf53 9 = .ok (.iload_n 1, 1) := by decide +kernel
theorem dJ9_min_7cf53_10 : decode cJ9_min_7cf53 10 = .ok (.ireturn, 1) := by decide +kernel
theorem dL_below_0 : decode cL_below 0 = .ok (.iload_n 0, 1) := by decide +kernel
theorem dL_below_1 : decode cL_below 1 = .ok (.ldc 7, 2) := by decide +kernel
theorem dL_below_3 : decode cL_below 3 = .ok (.iand, 1) := by decide +kernel
theorem dL_below_4 : decode cL_below 4 = .ok (.iload_n 1, 1) := by decide +kernel
theorem dL_below_5 : decode cL_below 5 = .ok (.irem, 1) := by decide +kernel
theorem dL_below_6 : decode cL_below 6 = .ok (.ireturn, 1) := by decide +kernel
theorem dL_cell_0 : decode cL_cell 0 = .ok (.iload_n 1, 1) := by decide +kernel
theorem dL_cell_1 : decode cL_cell 1 = .ok (.aload_n 0, 1) := by decide +kernel
theorem dL_cell_2 : decode cL_cell 2 = .ok (.arraylength, 1) := by decide +kernel
theorem dL_cell_3 : decode cL_cell 3 = .ok (.if_icmp .ge 9, 3) := by decide +kernel
theorem dL_cell_6 : decode cL_cell 6 = .ok (.aload_n 0, 1) := by decide +kernel
theorem dL_cell_7 : decode cL_cell 7 = .ok (.iload_n 1, 1) := by decide +kernel
theorem dL_cell_8 : decode cL_cell 8 = .ok (.iaload, 1) := by decide +kernel
theorem dL_cell_9 : decode cL_cell 9 = .ok (.goto 9, 3) := by decide +kernel
theorem dL_cell_12 : decode cL_cell 12 = .ok (.ldc 8, 2) := by decide +kernel
theorem dL_cell_14 : decode cL_cell 14 = .ok (.iload_n 1, 1) := by decide +kernel
theorem dL_cell_15 : decode cL_cell 15 = .ok (.iconst 3, 1) := by decide +kernel
theorem dL_cell_16 : decode cL_cell 16 = .ok (.iadd, 1) := by decide +kernel
theorem dL_cell_17 : decode cL_cell 17 = .ok (.imul, 1) := by decide +kernel
theorem dL_cell_18 : decode cL_cell 18 = .ok (.ireturn, 1) := by decide +kernel
theorem dL_has_0 : decode cL_has 0 = .ok (.iload_n 0, 1) := by decide +kernel
theorem dL_has_1 : decode cL_has 1 = .ok (.iload_n 1, 1) := by decide +kernel
theorem dL_has_2 : decode cL_has 2 = .ok (.ishr, 1) := by decide +kernel
theorem dL_has_3 : decode cL_has 3 = .ok (.iconst 1, 1) := by decide +kernel
theorem dL_has_4 : decode cL_has 4 = .ok (.iand, 1) := by decide +kernel
theorem dL_has_5 : decode cL_has 5 = .ok (.iconst 1, 1) := by decide +kernel
theorem dL_has_6 : decode cL_has 6 = .ok (.if_icmp .ne 7, 3) := by decide +kernel
theorem dL_has_9 : decode cL_has 9 = .ok (.iconst 1, 1) := by decide +kernel
theorem dL_has_10 : decode cL_has 10 = .ok (.goto 4, 3) := by decide +kernel
theorem dL_has_13 : decode cL_has 13 = .ok (.iconst 0, 1) := by decide +kernel
theorem dL_has_14 : decode cL_has 14 = .ok (.ireturn, 1) := by decide +kernel
set_option maxRecDepth 20000 in
theorem ggL_made_L_below : GoodIn wsL_made wsL_below := goodIn_r _ [5, 6] (by decide +kernel) (by decide +kernel)
set_option maxRecDepth 20000 in
theorem gL_made_L_below : GoodIn wsL_made (va_wsS RL 24 yL_below wsL_below) := goodIn_app (goodIn_of _ (by decide +kernel)) ggL_made_L_below
set_option maxRecDepth 20000 in
theorem ggL_made_X3_variable : GoodIn wsL_made wsX3_variable := goodIn_ca (goodIn_r _ [11, 12, 13, 14, 15, 10, 16, 17, 18, 19, 20, 21, 22, 23, 24, 25, 26, 27, 28, 29, 30, 31, 32, 33, 34, 35, 36, 37, 38, 39, 40, 41, 42, 43, 44, 45, 46, 47, 48, 49, 50, 51, 52, 53, 54, 55, 56, 57, 58, 59, 60, 61, 62, 63, 64, 65, 66, 67, 68, 69, 70, 71, 72, 73, 74, 75, 76, 77, 78, 79, 80, 81, 82, 83, 84, 85, 86, 87, 88, 89, 90, 91, 92, 93, 94, 95, 96, 97, 98, 99, 100, 101, 102, 103, 104, 105, 106, 107, 108, 109, 110, 111, 112, 113, 114, 115, 116, 117, 118, 119, 120, 121, 122, 123, 124, 125, 126, 127, 128, 129, 130, 131, 132, 133, 134, 135, 136, 149, 150, 151, 152, 153, 154, 155, 156, 157, 158, 159, 160, 161, 162, 163, 164, 165, 166, 167, 168, 169, 170, 171, 172, 173, 174, 175, 176] (by decide +kernel) (by decide +kernel)) (goodIn_sub (fun _ h => List.mem_cons_of_mem _ (List.mem_append_left _ (List.mem_append_right _ h))) (by decide +kernel))
set_option maxRecDepth 20000 in
theorem gL_made_X3_variable : GoodIn wsL_made (wsV RL 28 RX3 yX3_variable wsX3_variable) := goodIn_app (goodIn_of _ (by decide +kernel)) ggL_made_X3_variable
set_option maxRecDepth 20000 in
theorem ggL_made_L_has : GoodIn wsL_made wsL_has := goodIn_r _ [139] (by decide +kernel) (by decide +kernel)
set_option maxRecDepth 20000 in
theorem gL_made_L_has : GoodIn wsL_made (va_wsS RL 9 yL_has wsL_has) := goodIn_app (goodIn_of _ (by decide +kernel)) ggL_made_L_has
set_option maxRecDepth 20000 in
theorem ggL_made_X3_apply : GoodIn wsL_made wsX3_apply := goodIn_ca (goodIn_ca (goodIn_r _ [143, 144, 145, 33, 13, 12, 14, 15, 10, 16, 17, 18, 146, 147, 24, 148, 27, 28, 29, 30, 31, 32, 34, 35, 36, 37, 38, 39, 40, 41, 42, 43, 44, 45, 46, 47, 26, 48, 49, 50, 51, 52, 53, 54, 55, 56, 57, 58, 59, 60, 61, 62, 63, 64, 65, 66, 67, 68, 69, 70, 71, 72, 73, 74, 75, 76, 77, 78, 79, 80, 81, 82, 83, 84, 85, 86, 87, 88, 89, 90, 91, 92, 93, 94, 95, 96, 97, 98, 99, 100, 101, 102, 103, 104, 105, 106, 107, 108, 109, 110, 111, 112, 113, 114, 115, 116, 117, 118, 119, 120, 121, 122, 123, 124, 125, 126, 127, 128, 129, 130, 131, 132, 133, 134, 135, 136, 149, 150, 151, 152, 153, 154, 155, 156, 157, 158, 159, 160, 161, 162, 163, 164, 165, 166, 167, 168, 169, 170, 171, 172, 173, 174, 175, 176] (by decide +kernel) (by decide +kernel)) (goodIn_sub (fun _ h => List.mem_cons_of_mem _ (List.mem_append_right _ h)) (by decide +kernel))) (goodIn_sub (fun _ h => List.mem_cons_of_mem _ (List.mem_append_left _ (List.mem_append_right _ h))) (by decide +kernel))
set_option maxRecDepth 20000 in
theorem gL_made_X3_apply : GoodIn wsL_made (wsV RL 31 RX3 yX3_apply wsX3_apply) := goodIn_app (goodIn_of _ (by decide +kernel)) ggL_made_X3_apply
theorem dL_made_0 : decode cL_made 0 = .ok (.iload_n 2, 1) := by decide +kernel
theorem dL_made_1 : decode cL_made 1 = .ok (.bipush 10, 2) := by decide +kernel
theorem dL_made_3 : decode cL_made 3 = .ok (.invokestatic 24, 3) := by decide +kernel
theorem dL_made_6 : decode cL_made 6 = .ok (.istore_n 3, 1) := by decide +kernel
theorem dL_made_7 : decode cL_made 7 = .ok (.aload_n 0, 1) := by decide +kernel
theorem dL_made_8 : decode cL_made 8 = .ok (.iload_n 1, 1) := by decide +kernel
theorem dL_made_9 : decode cL_made 9 = .ok (.iload_n 3, 1) := by decide +kernel
theorem dL_made_10 : decode cL_made 10 = .ok (.invokevirtual 28, 3) := by decide +kernel
theorem dL_made_13 : decode cL_made 13 = .ok (.pop, 1) := by decide +kernel
theorem dL_made_14 : decode cL_made 14 = .ok (.sipush 1024, 3) := by decide +kernel
theorem dL_made_17 : decode cL_made 17 = .ok (.newarray .boolean, 2) := by decide +kernel
theorem dL_made_19 : decode cL_made 19 = .ok (.astore 4, 2) := by decide +kernel
theorem dL_made_21 : decode cL_made 21 = .ok (.iconst 0, 1) := by decide +kernel
theorem dL_made_22 : decode cL_made 22 = .ok (.istore 5, 2) := by decide +kernel
theorem dL_made_24 : decode cL_made 24 = .ok (.iload 5, 2) := by decide +kernel
theorem dL_made_26 : decode cL_made 26 = .ok (.sipush 1024, 3) := by decide +kernel
theorem dL_made_29 : decode cL_made 29 = .ok (.if_icmp .ge 20, 3) := by decide +kernel
