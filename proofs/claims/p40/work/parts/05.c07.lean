theorem dX3_size_5 : decode cX3_size 5 = .ok (.getfield 22, 3) := by decide +kernel
theorem dX3_size_8 : decode cX3_size 8 = .ok (.iload_n 1, 1) := by decide +kernel
theorem dX3_size_9 : decode cX3_size 9 = .ok (.iload_n 1, 1) := by decide +kernel
theorem dX3_size_10 : decode cX3_size 10 = .ok (.invokevirtual 163, 3) := by decide +kernel
theorem dX3_size_13 : decode cX3_size 13 = .ok (.ireturn, 1) := by decide +kernel
set_option maxRecDepth 20000 in
theorem ggX3_total_X0_count : GoodIn wsX3_total wsX0_count := goodIn_r _ [6, 7, 18, 19, 20, 21, 22, 23, 24, 25, 26, 27, 28, 29, 30, 31, 32, 33, 34] (by decide +kernel) (by decide +kernel)
set_option maxRecDepth 20000 in
theorem gX3_total_X0_count : GoodIn wsX3_total (wsV RX3 167 RX0 yX0_count wsX0_count) := goodIn_app (goodIn_of _ (by decide +kernel)) ggX3_total_X0_count
theorem dX3_total_0 : decode cX3_total 0 = .ok (.aload_n 0, 1) := by decide +kernel
theorem dX3_total_1 : decode cX3_total 1 = .ok (.getfield 22, 3) := by decide +kernel
theorem dX3_total_4 : decode cX3_total 4 = .ok (.invokevirtual 167, 3) := by decide +kernel
theorem dX3_total_7 : decode cX3_total 7 = .ok (.ireturn, 1) := by decide +kernel
set_option maxRecDepth 20000 in
theorem ggX3_nodesAt_X3_checkLevel : GoodIn wsX3_nodesAt wsX3_checkLevel := goodIn_ca (goodIn_r _ [5, 6, 7] (by decide +kernel) (by decide +kernel)) (goodIn_sub (fun _ h => List.mem_cons_of_mem _ (List.mem_append_right _ h)) (by decide +kernel))
set_option maxRecDepth 20000 in
theorem gX3_nodesAt_X3_checkLevel : GoodIn wsX3_nodesAt (va_wsS RX3 168 yX3_checkLevel wsX3_checkLevel) := goodIn_app (goodIn_of _ (by decide +kernel)) ggX3_nodesAt_X3_checkLevel
set_option maxRecDepth 20000 in
theorem ggX3_nodesAt_X0_countAt : GoodIn wsX3_nodesAt wsX0_countAt := goodIn_r _ [12, 13, 14, 15, 11, 16, 27, 28, 29, 30, 31, 32, 33, 34, 35, 36, 37, 38, 39, 40, 41, 42, 43] (by decide +kernel) (by decide +kernel)
set_option maxRecDepth 20000 in
theorem gX3_nodesAt_X0_countAt : GoodIn wsX3_nodesAt (wsV RX3 172 RX0 yX0_countAt wsX0_countAt) := goodIn_app (goodIn_of _ (by decide +kernel)) ggX3_nodesAt_X0_countAt
theorem dX3_nodesAt_0 : decode cX3_nodesAt 0 = .ok (.iload_n 1, 1) := by decide +kernel
theorem dX3_nodesAt_1 : decode cX3_nodesAt 1 = .ok (.bipush 10, 2) := by decide +kernel
theorem dX3_nodesAt_3 : decode cX3_nodesAt 3 = .ok (.invokestatic 168, 3) := by decide +kernel
theorem dX3_nodesAt_6 : decode cX3_nodesAt 6 = .ok (.aload_n 0, 1) := by decide +kernel
theorem dX3_nodesAt_7 : decode cX3_nodesAt 7 = .ok (.getfield 22, 3) := by decide +kernel
theorem dX3_nodesAt_10 : decode cX3_nodesAt 10 = .ok (.iload_n 1, 1) := by decide +kernel
theorem dX3_nodesAt_11 : decode cX3_nodesAt 11 = .ok (.invokevirtual 172, 3) := by decide +kernel
theorem dX3_nodesAt_14 : decode cX3_nodesAt 14 = .ok (.ireturn, 1) := by decide +kernel
set_option maxRecDepth 20000 in
theorem ggX3_shared_X3_checkSlot : GoodIn wsX3_shared wsX3_checkSlot := goodIn_ca (goodIn_r _ [5, 6, 7] (by decide +kernel) (by decide +kernel)) (goodIn_sub (fun _ h => List.mem_cons_of_mem _ (List.mem_append_right _ h)) (by decide +kernel))
set_option maxRecDepth 20000 in
theorem gX3_shared_X3_checkSlot : GoodIn wsX3_shared (va_wsS RX3 53 yX3_checkSlot wsX3_checkSlot) := goodIn_app (goodIn_of _ (by decide +kernel)) ggX3_shared_X3_checkSlot
set_option maxRecDepth 20000 in
theorem ggX3_shared_X0_countFrom : GoodIn wsX3_shared wsX0_countFrom := goodIn_r _ [12, 13, 14, 15, 16, 17, 11, 18, 19, 20, 21, 22, 23, 24, 25, 36, 37, 38, 39, 40, 41, 42, 43, 44, 45, 46, 47, 48, 49, 50, 51, 52] (by decide +kernel) (by decide +kernel)
set_option maxRecDepth 20000 in
theorem gX3_shared_X0_countFrom : GoodIn wsX3_shared (wsV RX3 163 RX0 yX0_countFrom wsX0_countFrom) := goodIn_app (goodIn_of _ (by decide +kernel)) ggX3_shared_X0_countFrom
theorem dX3_shared_0 : decode cX3_shared 0 = .ok (.iload_n 1, 1) := by decide +kernel
theorem dX3_shared_1 : decode cX3_shared 1 = .ok (.invokestatic 53, 3) := by decide +kernel
theorem dX3_shared_4 : decode cX3_shared 4 = .ok (.iload_n 2, 1) := by decide +kernel
theorem dX3_shared_5 : decode cX3_shared 5 = .ok (.invokestatic 53, 3) := by decide +kernel
theorem dX3_shared_8 : decode cX3_shared 8 = .ok (.aload_n 0, 1) := by decide +kernel
theorem dX3_shared_9 : decode cX3_shared 9 = .ok (.getfield 22, 3) := by decide +kernel
theorem dX3_shared_12 : decode cX3_shared 12 = .ok (.iload_n 1, 1) := by decide +kernel
theorem dX3_shared_13 : decode cX3_shared 13 = .ok (.iload_n 1, 1) := by decide +kernel
theorem dX3_shared_14 : decode cX3_shared 14 = .ok (.invokevirtual 163, 3) := by decide +kernel
theorem dX3_shared_17 : decode cX3_shared 17 = .ok (.aload_n 0, 1) := by decide +kernel
theorem dX3_shared_18 : decode cX3_shared 18 = .ok (.getfield 22, 3) := by decide +kernel
theorem dX3_shared_21 : decode cX3_shared 21 = .ok (.iload_n 2, 1) := by decide +kernel
theorem dX3_shared_22 : decode cX3_shared 22 = .ok (.iload_n 2, 1) := by decide +kernel
theorem dX3_shared_23 : decode cX3_shared 23 = .ok (.invokevirtual 163, 3) := by decide +kernel
theorem dX3_shared_26 : decode cX3_shared 26 = .ok (.iadd, 1) := by decide +kernel
theorem dX3_shared_27 : decode cX3_shared 27 = .ok (.aload_n 0, 1) := by decide +kernel
theorem dX3_shared_28 : decode cX3_shared 28 = .ok (.getfield 22, 3) := by decide +kernel
theorem dX3_shared_31 : decode cX3_shared 31 = .ok (.iload_n 1, 1) := by decide +kernel
theorem dX3_shared_32 : decode cX3_shared 32 = .ok (.iload_n 2, 1) := by decide +kernel
theorem dX3_shared_33 : decode cX3_shared 33 = .ok (.invokevirtual 163, 3) := by decide +kernel
theorem dX3_shared_36 : decode cX3_shared 36 = .ok (.isub, 1) := by decide +kernel
theorem dX3_shared_37 : decode cX3_shared 37 = .ok (.ireturn, 1) := by decide +kernel
set_option maxRecDepth 20000 in
theorem ggX3_ways_X3_checkSlot : GoodIn wsX3_ways wsX3_checkSlot := goodIn_ca (goodIn_r _ [5, 6, 7] (by decide +kernel) (by decide +kernel)) (goodIn_sub (fun _ h => List.mem_cons_of_mem _ (List.mem_append_right _ h)) (by decide +kernel))
set_option maxRecDepth 20000 in
theorem gX3_ways_X3_checkSlot : GoodIn wsX3_ways (va_wsS RX3 53 yX3_checkSlot wsX3_checkSlot) := goodIn_app (goodIn_of _ (by decide +kernel)) ggX3_ways_X3_checkSlot
set_option maxRecDepth 20000 in
theorem ggX3_ways_X0_pathsToOne : GoodIn wsX3_ways wsX0_pathsToOne := goodIn_r _ [12, 13, 14, 15, 16, 17, 18, 11, 19, 20, 21, 22, 23, 24, 25, 26, 27, 28, 29, 30, 31, 32, 33, 34, 35, 36, 37, 38, 39, 40, 41, 42, 43, 44, 45, 46, 57, 58, 59, 60, 61, 62, 63, 64, 65, 66, 67, 68, 69, 70, 71, 72, 73] (by decide +kernel) (by decide +kernel)
set_option maxRecDepth 20000 in
theorem gX3_ways_X0_pathsToOne : GoodIn wsX3_ways (wsV RX3 175 RX0 yX0_pathsToOne wsX0_pathsToOne) := goodIn_app (goodIn_of _ (by decide +kernel)) ggX3_ways_X0_pathsToOne
theorem dX3_ways_0 : decode cX3_ways 0 = .ok (.iload_n 1, 1) := by decide +kernel
theorem dX3_ways_1 : decode cX3_ways 1 = .ok (.invokestatic 53, 3) := by decide +kernel
theorem dX3_ways_4 : decode cX3_ways 4 = .ok (.aload_n 0, 1) := by decide +kernel
theorem dX3_ways_5 : decode cX3_ways 5 = .ok (.getfield 22, 3) := by decide +kernel
theorem dX3_ways_8 : decode cX3_ways 8 = .ok (.iload_n 1, 1) := by decide +kernel
theorem dX3_ways_9 : decode cX3_ways 9 = .ok (.invokevirtual 175, 3) := by decide +kernel
theorem dX3_ways_12 : decode cX3_ways 12 = .ok (.ireturn, 1) := by decide +kernel
set_option maxRecDepth 20000 in
theorem ggX3_depth_X3_checkSlot : GoodIn wsX3_depth wsX3_checkSlot := goodIn_ca (goodIn_r _ [5, 6, 7] (by decide +kernel) (by decide +kernel)) (goodIn_sub (fun _ h => List.mem_cons_of_mem _ (List.mem_append_right _ h)) (by decide +kernel))
set_option maxRecDepth 20000 in
theorem gX3_depth_X3_checkSlot : GoodIn wsX3_depth (va_wsS RX3 53 yX3_checkSlot wsX3_checkSlot) := goodIn_app (goodIn_of _ (by decide +kernel)) ggX3_depth_X3_checkSlot
set_option maxRecDepth 20000 in
theorem ggX3_depth_X0_longestPath : GoodIn wsX3_depth wsX0_longestPath := goodIn_r _ [12, 13, 14, 15, 16, 17, 18, 19, 20, 21, 22, 11, 23, 24, 25, 26, 27, 28, 29, 30, 31, 32, 33, 34, 35, 36, 37, 38, 39, 40, 41, 42, 43, 44, 45, 46, 47, 48, 49, 50, 61, 62, 63, 64, 65, 66, 67, 68, 69, 70, 71, 72, 73, 74, 75, 76, 77] (by decide +kernel) (by decide +kernel)
set_option maxRecDepth 20000 in
theorem gX3_depth_X0_longestPath : GoodIn wsX3_depth (wsV RX3 178 RX0 yX0_longestPath wsX0_longestPath) := goodIn_app (goodIn_of _ (by decide +kernel)) ggX3_depth_X0_longestPath
theorem dX3_depth_0 : decode cX3_depth 0 = .ok (.iload_n 1, 1) := by decide +kernel
theorem dX3_depth_1 : decode cX3_depth 1 = .ok (.invokestatic 53, 3) := by decide +kernel
theorem dX3_depth_4 : decode cX3_depth 4 = .ok (.aload_n 0, 1) := by decide +kernel
theorem dX3_depth_5 : decode cX3_depth 5 = .ok (.getfield 22, 3) := by decide +kernel
theorem dX3_depth_8 : decode cX3_depth 8 = .ok (.iload_n 1, 1) := by decide +kernel
theorem dX3_depth_9 : decode cX3_depth 9 = .ok (.invokevirtual 178, 3) := by decide +kernel
theorem dX3_depth_12 : decode cX3_depth 12 = .ok (.ireturn, 1) := by decide +kernel
set_option maxRecDepth 20000 in
theorem ggX3_leastSize_X3_checkSlot : GoodIn wsX3_leastSize wsX3_checkSlot := goodIn_ca (goodIn_r _ [7, 8, 9] (by decide +kernel) (by decide +kernel)) (goodIn_sub (fun _ h => List.mem_cons_of_mem _ (List.mem_append_right _ h)) (by decide +kernel))
set_option maxRecDepth 20000 in
theorem gX3_leastSize_X3_checkSlot : GoodIn wsX3_leastSize (va_wsS RX3 53 yX3_checkSlot wsX3_checkSlot) := goodIn_app (goodIn_of _ (by decide +kernel)) ggX3_leastSize_X3_checkSlot
set_option maxRecDepth 20000 in
theorem ggX3_leastSize_J6_bitCount_0f7a4 : GoodIn wsX3_leastSize wsJ6_bitCount_0f7a4 := goodIn_r _ [13, 14, 15, 16] (by decide +kernel) (by decide +kernel)
set_option maxRecDepth 20000 in
theorem gX3_leastSize_J6_bitCount_0f7a4 : GoodIn wsX3_leastSize (va_wsS RX3 131 yJ6_bitCount_0f7a4 wsJ6_bitCount_0f7a4) := goodIn_app (goodIn_of _ (by decide +kernel)) ggX3_leastSize_J6_bitCount_0f7a4
set_option maxRecDepth 20000 in
theorem ggX3_leastSize_X2_packed : GoodIn wsX3_leastSize wsX2_packed := goodIn_r _ [21, 22, 23, 24, 20, 25, 26, 78] (by decide +kernel) (by decide +kernel)
set_option maxRecDepth 20000 in
theorem gX3_leastSize_X2_packed : GoodIn wsX3_leastSize (wsV RX3 181 RX2 yX2_packed wsX2_packed) := goodIn_app (goodIn_of _ (by decide +kernel)) ggX3_leastSize_X2_packed
set_option maxRecDepth 20000 in
theorem ggX3_leastSize_X1_leastNodes : GoodIn wsX3_leastSize wsX1_leastNodes := goodIn_r _ [31, 32, 33, 34, 35, 36, 37, 38, 39, 30, 40, 41, 42, 43, 44, 45, 46, 47, 48, 49, 50, 51, 52, 53, 54, 55, 56, 20, 57, 58, 59, 60, 61, 62, 63, 64, 65, 66, 67, 79, 80, 81] (by decide +kernel) (by decide +kernel)
set_option maxRecDepth 20000 in
theorem gX3_leastSize_X1_leastNodes : GoodIn wsX3_leastSize (wsV RX3 185 RX1 yX1_leastNodes wsX1_leastNodes) := goodIn_app (goodIn_of _ (by decide +kernel)) ggX3_leastSize_X1_leastNodes
theorem dX3_leastSize_0 : decode cX3_leastSize 0 = .ok (.iload_n 1, 1) := by decide +kernel
theorem dX3_leastSize_1 : decode cX3_leastSize 1 = .ok (.invokestatic 53, 3) := by decide +kernel
theorem dX3_leastSize_4 : decode cX3_leastSize 4 = .ok (.aload_n 0, 1) := by decide +kernel
theorem dX3_leastSize_5 : decode cX3_leastSize 5 = .ok (.getfield 15, 3) := by decide +kernel
theorem dX3_leastSize_8 : decode cX3_leastSize 8 = .ok (.iload_n 1, 1) := by decide +kernel
theorem dX3_leastSize_9 : decode cX3_leastSize 9 = .ok (.iaload, 1) := by decide +kernel
theorem dX3_leastSize_10 : decode cX3_leastSize 10 = .ok (.istore_n 2, 1) := by decide +kernel
theorem dX3_leastSize_11 : decode cX3_leastSize 11 = .ok (.iload_n 2, 1) := by decide +kernel
theorem dX3_leastSize_12 : decode cX3_leastSize 12 = .ok (.invokestatic 131, 3) := by decide +kernel
theorem dX3_leastSize_15 : decode cX3_leastSize 15 = .ok (.istore_n 3, 1) := by decide +kernel
theorem dX3_leastSize_16 : decode cX3_leastSize 16 = .ok (.iload_n 3, 1) := by decide +kernel
theorem dX3_leastSize_17 : decode cX3_leastSize 17 = .ok (.bipush 6, 2) := by decide +kernel
theorem dX3_leastSize_19 : decode cX3_leastSize 19 = .ok (.if_icmp .le 7, 3) := by decide +kernel
theorem dX3_leastSize_22 : decode cX3_leastSize 22 = .ok (.iconst (-1), 1) := by decide +kernel
theorem dX3_leastSize_23 : decode cX3_leastSize 23 = .ok (.goto 21, 3) := by decide +kernel
theorem dX3_leastSize_26 : decode cX3_leastSize 26 = .ok (.aload_n 0, 1) := by decide +kernel
theorem dX3_leastSize_27 : decode cX3_leastSize 27 = .ok (.getfield 29, 3) := by decide +kernel
theorem dX3_leastSize_30 : decode cX3_leastSize 30 = .ok (.aload_n 0, 1) := by decide +kernel
theorem dX3_leastSize_31 : decode cX3_leastSize 31 = .ok (.getfield 11, 3) := by decide +kernel
theorem dX3_leastSize_34 : decode cX3_leastSize 34 = .ok (.iload_n 1, 1) := by decide +kernel
theorem dX3_leastSize_35 : decode cX3_leastSize 35 = .ok (.aaload, 1) := by decide +kernel
theorem dX3_leastSize_36 : decode cX3_leastSize 36 = .ok (.iload_n 2, 1) := by decide +kernel
theorem dX3_leastSize_37 : decode cX3_leastSize 37 = .ok (.invokevirtual 181, 3) := by decide +kernel
theorem dX3_leastSize_40 : decode cX3_leastSize 40 = .ok (.iload_n 3, 1) := by decide +kernel
theorem dX3_leastSize_41 : decode cX3_leastSize 41 = .ok (.invokevirtual 185, 3) := by decide +kernel
theorem dX3_leastSize_44 : decode cX3_leastSize 44 = .ok (.ireturn, 1) := by decide +kernel
set_option maxRecDepth 20000 in
theorem ggX3_variableAt_X3_checkLevel : GoodIn wsX3_variableAt wsX3_checkLevel := goodIn_ca (goodIn_r _ [5, 6, 7] (by decide +kernel) (by decide +kernel)) (goodIn_sub (fun _ h => List.mem_cons_of_mem _ (List.mem_append_right _ h)) (by decide +kernel))
set_option maxRecDepth 20000 in
theorem gX3_variableAt_X3_checkLevel : GoodIn wsX3_variableAt (va_wsS RX3 168 yX3_checkLevel wsX3_checkLevel) := goodIn_app (goodIn_of _ (by decide +kernel)) ggX3_variableAt_X3_checkLevel
set_option maxRecDepth 20000 in
theorem ggX3_variableAt_X0_variableOf : GoodIn wsX3_variableAt wsX0_variableOf := goodIn_r _ [12, 13, 14, 15, 11, 16, 27, 28, 29, 30, 31, 32, 33, 34, 35, 36, 37, 38, 39, 40, 41, 42, 43] (by decide +kernel) (by decide +kernel)
set_option maxRecDepth 20000 in
theorem gX3_variableAt_X0_variableOf : GoodIn wsX3_variableAt (wsV RX3 119 RX0 yX0_variableOf wsX0_variableOf) := goodIn_app (goodIn_of _ (by decide +kernel)) ggX3_variableAt_X0_variableOf
theorem dX3_variableAt_0 : decode cX3_variableAt 0 = .ok (.iload_n 1, 1) := by decide +kernel
theorem dX3_variableAt_1 : decode cX3_variableAt 1 = .ok (.bipush 10, 2) := by decide +kernel
theorem dX3_variableAt_3 : decode cX3_variableAt 3 = .ok (.invokestatic 168, 3) := by decide +kernel
theorem dX3_variableAt_6 : decode cX3_variableAt 6 = .ok (.aload_n 0, 1) := by decide +kernel
theorem dX3_variableAt_7 : decode cX3_variableAt 7 = .ok (.getfield 22, 3) := by decide +kernel
theorem dX3_variableAt_10 : decode cX3_variableAt 10 = .ok (.iload_n 1, 1) := by decide +kernel
theorem dX3_variableAt_11 : decode cX3_variableAt 11 = .ok (.invokevirtual 119, 3) := by decide +kernel
theorem dX3_variableAt_14 : decode cX3_variableAt 14 = .ok (.ireturn, 1) := by decide +kernel
set_option maxRecDepth 20000 in
theorem ggX3_swap_X3_checkLevel : GoodIn wsX3_swap wsX3_checkLevel := goodIn_ca (goodIn_r _ [5, 6, 7] (by decide +kernel) (by decide +kernel)) (goodIn_sub (fun _ h => List.mem_cons_of_mem _ (List.mem_append_right _ h)) (by decide +kernel))
set_option maxRecDepth 20000 in
theorem gX3_swap_X3_checkLevel : GoodIn wsX3_swap (va_wsS RX3 168 yX3_checkLevel wsX3_checkLevel) := goodIn_app (goodIn_of _ (by decide +kernel)) ggX3_swap_X3_checkLevel
set_option maxRecDepth 20000 in
theorem ggX3_swap_X0_exchangeAt : GoodIn wsX3_swap wsX0_exchangeAt := goodIn_r _ [12, 13, 14, 15, 16, 17, 11, 18, 19, 20, 21, 22, 23, 24, 25, 26, 27, 28, 29, 30, 31, 32, 33, 34, 35, 36, 37, 38, 39, 40, 41, 42, 43, 44, 45, 46, 47, 48, 49, 50, 51, 52, 53, 54, 55, 56, 57, 58, 59, 60, 61, 62, 63, 64, 65, 66, 67, 68, 69, 70, 71, 72, 73, 74, 75, 76, 77, 78, 79, 80, 81, 82, 83, 84, 85, 100, 101, 102, 103, 104, 105, 106, 107, 108, 109, 110, 111, 112, 113, 114, 115, 116] (by decide +kernel) (by decide +kernel)
set_option maxRecDepth 20000 in
theorem gX3_swap_X0_exchangeAt : GoodIn wsX3_swap (wsV RX3 189 RX0 yX0_exchangeAt wsX0_exchangeAt) := goodIn_app (goodIn_of _ (by decide +kernel)) ggX3_swap_X0_exchangeAt
set_option maxRecDepth 20000 in
theorem ggX3_swap_X0_count : GoodIn wsX3_swap wsX0_count := goodIn_r _ [89, 21, 100, 101, 102, 103, 104, 105, 106, 107, 108, 109, 110, 111, 112, 113, 114, 115, 116] (by decide +kernel) (by decide +kernel)
set_option maxRecDepth 20000 in
theorem gX3_swap_X0_count : GoodIn wsX3_swap (wsV RX3 167 RX0 yX0_count wsX0_count) := goodIn_app (goodIn_of _ (by decide +kernel)) ggX3_swap_X0_count
theorem dX3_swap_0 : decode cX3_swap 0 = .ok (.iload_n 1, 1) := by decide +kernel
theorem dX3_swap_1 : decode cX3_swap 1 = .ok (.bipush 9, 2) := by decide +kernel
theorem dX3_swap_3 : decode cX3_swap 3 = .ok (.invokestatic 168, 3) := by decide +kernel
theorem dX3_swap_6 : decode cX3_swap 6 = .ok (.aload_n 0, 1) := by decide +kernel
theorem dX3_swap_7 : decode cX3_swap 7 = .ok (.getfield 22, 3) := by decide +kernel
theorem dX3_swap_10 : decode cX3_swap 10 = .ok (.iload_n 1, 1) := by decide +kernel
theorem dX3_swap_11 : decode cX3_swap 11 = .ok (.invokevirtual 189, 3) := by decide +kernel
theorem dX3_swap_14 : decode cX3_swap 14 = .ok (.aload_n 0, 1) := by decide +kernel
theorem dX3_swap_15 : decode cX3_swap 15 = .ok (.getfield 22, 3) := by decide +kernel
theorem dX3_swap_18 : decode cX3_swap 18 = .ok (.invokevirtual 167, 3) := by decide +kernel
theorem dX3_swap_21 : decode cX3_swap 21 = .ok (.sipush 400, 3) := by decide +kernel
theorem dX3_swap_24 : decode cX3_swap 24 = .ok (.if_icmp .le 13, 3) := by decide +kernel
theorem dX3_swap_27 : decode cX3_swap 27 = .ok (.aload_n 0, 1) := by decide +kernel
theorem dX3_swap_28 : decode cX3_swap 28 = .ok (.getfield 22, 3) := by decide +kernel
theorem dX3_swap_31 : decode cX3_swap 31 = .ok (.iload_n 1, 1) := by decide +kernel
theorem dX3_swap_32 : decode cX3_swap 32 = .ok (.invokevirtual 189, 3) := by decide +kernel
theorem dX3_swap_35 : decode cX3_swap 35 = .ok (.iconst (-1), 1) := by decide +kernel
theorem dX3_swap_36 : decode cX3_swap 36 = .ok (.ireturn, 1) := by decide +kernel
theorem dX3_swap_37 : decode cX3_swap 37 = .ok (.aload_n 0, 1) := by decide +kernel
theorem dX3_swap_38 : decode cX3_swap 38 = .ok (.getfield 22, 3) := by decide +kernel
theorem dX3_swap_41 : decode cX3_swap 41 = .ok (.invokevirtual 167, 3) := by decide +kernel
theorem dX3_swap_44 : decode cX3_swap 44 = .ok (.ireturn, 1) := by decide +kernel
set_option maxRecDepth 20000 in
theorem ggX3_sift_X3_checkVariable : GoodIn wsX3_sift wsX3_checkVariable := goodIn_ca (goodIn_r _ [4, 5, 6] (by decide +kernel) (by decide +kernel)) (goodIn_sub (fun _ h => List.mem_cons_of_mem _ (List.mem_append_right _ h)) (by decide +kernel))
set_option maxRecDepth 20000 in
theorem gX3_sift_X3_checkVariable : GoodIn wsX3_sift (va_wsS RX3 65 yX3_checkVariable wsX3_checkVariable) := goodIn_app (goodIn_of _ (by decide +kernel)) ggX3_sift_X3_checkVariable
set_option maxRecDepth 20000 in
theorem ggX3_sift_X3_siftOne : GoodIn wsX3_sift wsX3_siftOne := goodIn_r _ [10, 11, 12, 13, 14, 15, 16, 17, 18, 19, 20, 21, 22, 23, 24, 25, 26, 27, 28, 29, 30, 31, 32, 33, 34, 35, 36, 37, 38, 39, 40, 41, 42, 43, 44, 45, 46, 47, 48, 49, 50, 51, 52, 53, 54, 55, 56, 57, 58, 59, 60, 61, 62, 63, 64, 65, 66, 67, 68, 69, 70, 71, 72, 73, 74, 75, 76, 77, 78, 79, 80, 81, 82, 83, 84, 85, 86, 87, 88, 89, 90, 91, 92, 93, 94, 95, 96, 97, 98, 99, 100, 101, 102, 103, 104, 105, 106, 107, 108, 109, 110, 111, 112, 113, 114, 115, 116, 117, 118, 119, 120, 121, 122, 123, 124, 125, 126, 127, 128] (by decide +kernel) (by decide +kernel)
set_option maxRecDepth 20000 in
theorem gX3_sift_X3_siftOne : GoodIn wsX3_sift (wsV RX3 192 RX3 yX3_siftOne wsX3_siftOne) := goodIn_app (goodIn_of _ (by decide +kernel)) ggX3_sift_X3_siftOne
theorem dX3_sift_0 : decode cX3_sift 0 = .ok (.iload_n 1, 1) := by decide +kernel
theorem dX3_sift_1 : decode cX3_sift 1 = .ok (.invokestatic 65, 3) := by decide +kernel
theorem dX3_sift_4 : decode cX3_sift 4 = .ok (.aload_n 0, 1) := by decide +kernel
theorem dX3_sift_5 : decode cX3_sift 5 = .ok (.iload_n 1, 1) := by decide +kernel
theorem dX3_sift_6 : decode cX3_sift 6 = .ok (.invokevirtual 192, 3) := by decide +kernel
theorem dX3_sift_9 : decode cX3_sift 9 = .ok (.ireturn, 1) := by decide +kernel
set_option maxRecDepth 20000 in
theorem ggX3_settle_X0_count : GoodIn wsX3_settle wsX0_count := goodIn_r _ [7, 8, 121, 122, 123, 124, 125, 126, 127, 128, 129, 130, 131, 132, 133, 134, 135, 136, 137] (by decide +kernel) (by decide +kernel)
set_option maxRecDepth 20000 in
theorem gX3_settle_X0_count : GoodIn wsX3_settle (wsV RX3 167 RX0 yX0_count wsX0_count) := goodIn_app (goodIn_of _ (by decide +kernel)) ggX3_settle_X0_count
set_option maxRecDepth 20000 in
theorem ggX3_settle_X0_levelOf : GoodIn wsX3_settle wsX0_levelOf := goodIn_r _ [12, 13, 121, 122, 123, 124, 125, 126, 127, 128, 129, 130, 131, 132, 133, 134, 135, 136, 137] (by decide +kernel) (by decide +kernel)
set_option maxRecDepth 20000 in
theorem gX3_settle_X0_levelOf : GoodIn wsX3_settle (wsV RX3 195 RX0 yX0_levelOf wsX0_levelOf) := goodIn_app (goodIn_of _ (by decide +kernel)) ggX3_settle_X0_levelOf
set_option maxRecDepth 20000 in
theorem ggX3_settle_X0_countAt : GoodIn wsX3_settle wsX0_countAt := goodIn_r _ [17, 18, 19, 20, 6, 21, 121, 122, 123, 124, 125, 126, 127, 128, 129, 130, 131, 132, 133, 134, 135, 136, 137] (by decide +kernel) (by decide +kernel)
set_option maxRecDepth 20000 in
theorem gX3_settle_X0_countAt : GoodIn wsX3_settle (wsV RX3 172 RX0 yX0_countAt wsX0_countAt) := goodIn_app (goodIn_of _ (by decide +kernel)) ggX3_settle_X0_countAt
set_option maxRecDepth 20000 in
theorem ggX3_settle_X3_heaviest : GoodIn wsX3_settle wsX3_heaviest := goodIn_r _ [26, 2, 111, 112, 113, 114, 115, 116, 117, 118, 119, 120] (by decide +kernel) (by decide +kernel)
set_option maxRecDepth 20000 in
theorem gX3_settle_X3_heaviest : GoodIn wsX3_settle (wsV RX3 198 RX3 yX3_heaviest wsX3_heaviest) := goodIn_app (goodIn_of _ (by decide +kernel)) ggX3_settle_X3_heaviest
set_option maxRecDepth 20000 in
theorem ggX3_settle_X3_siftOne : GoodIn wsX3_settle wsX3_siftOne := goodIn_r _ [30, 1, 31, 32, 33, 6, 34, 35, 10, 11, 12, 13, 36, 37, 38, 39, 40, 41, 42, 43, 44, 45, 46, 8, 18, 47, 48, 49, 50, 51, 52, 53, 54, 55, 56, 57, 58, 59, 60, 61, 19, 20, 21, 62, 63, 64, 65, 66, 67, 68, 69, 70, 71, 72, 73, 74, 75, 76, 77, 78, 79, 80, 81, 82, 83, 84, 85, 86, 87, 88, 89, 90, 91, 92, 93, 94, 95, 96, 97, 98, 99, 100, 101, 102, 103, 104, 105, 106, 107, 108, 109, 110, 111, 112, 113, 114, 115, 116, 117, 118, 119, 120, 121, 122, 123, 124, 125, 126, 127, 128, 129, 130, 131, 132, 133, 134, 135, 136, 137] (by decide +kernel) (by decide +kernel)
set_option maxRecDepth 20000 in
theorem gX3_settle_X3_siftOne : GoodIn wsX3_settle (wsV RX3 192 RX3 yX3_siftOne wsX3_siftOne) := goodIn_app (goodIn_of _ (by decide +kernel)) ggX3_settle_X3_siftOne
theorem dX3_settle_0 : decode cX3_settle 0 = .ok (.aload_n 0, 1) := by decide +kernel
theorem dX3_settle_1 : decode cX3_settle 1 = .ok (.getfield 22, 3) := by decide +kernel
theorem dX3_settle_4 : decode cX3_settle 4 = .ok (.invokevirtual 167, 3) := by decide +kernel
theorem dX3_settle_7 : decode cX3_settle 7 = .ok (.istore_n 1, 1) := by decide +kernel
theorem dX3_settle_8 : decode cX3_settle 8 = .ok (.iconst 0, 1) := by decide +kernel
theorem dX3_settle_9 : decode cX3_settle 9 = .ok (.istore_n 2, 1) := by decide +kernel
theorem dX3_settle_10 : decode cX3_settle 10 = .ok (.iload_n 2, 1) := by decide +kernel
theorem dX3_settle_11 : decode cX3_settle 11 = .ok (.bipush 10, 2) := by decide +kernel
theorem dX3_settle_13 : decode cX3_settle 13 = .ok (.if_icmp .ge 30, 3) := by decide +kernel
theorem dX3_settle_16 : decode cX3_settle 16 = .ok (.aload_n 0, 1) := by decide +kernel
theorem dX3_settle_17 : decode cX3_settle 17 = .ok (.getfield 50, 3) := by decide +kernel
theorem dX3_settle_20 : decode cX3_settle 20 = .ok (.iload_n 2, 1) := by decide +kernel
theorem dX3_settle_21 : decode cX3_settle 21 = .ok (.aload_n 0, 1) := by decide +kernel
theorem dX3_settle_22 : decode cX3_settle 22 = .ok (.getfield 22, 3) := by decide +kernel
theorem dX3_settle_25 : decode cX3_settle 25 = .ok (.aload_n 0, 1) := by decide +kernel
theorem dX3_settle_26 : decode cX3_settle 26 = .ok (.getfield 22, 3) := by decide +kernel
theorem dX3_settle_29 : decode cX3_settle 29 = .ok (.iload_n 2, 1) := by decide +kernel
theorem dX3_settle_30 : decode cX3_settle 30 = .ok (.invokevirtual 195, 3) := by decide +kernel
theorem dX3_settle_33 : decode cX3_settle 33 = .ok (.invokevirtual 172, 3) := by decide +kernel
theorem dX3_settle_36 : decode cX3_settle 36 = .ok (.iastore, 1) := by decide +kernel
theorem dX3_settle_37 : decode cX3_settle 37 = .ok (.iinc 2 1, 3) := by decide +kernel
theorem dX3_settle_40 : decode cX3_settle 40 = .ok (.goto (-30), 3) := by decide +kernel
theorem dX3_settle_43 : decode cX3_settle 43 = .ok (.iconst 0, 1) := by decide +kernel
theorem dX3_settle_44 : decode cX3_settle 44 = .ok (.istore_n 2, 1) := by decide +kernel
theorem dX3_settle_45 : decode cX3_settle 45 = .ok (.iload_n 2, 1) := by decide +kernel
theorem dX3_settle_46 : decode cX3_settle 46 = .ok (.bipush 10, 2) := by decide +kernel
theorem dX3_settle_48 : decode cX3_settle 48 = .ok (.if_icmp .ge 27, 3) := by decide +kernel
theorem dX3_settle_51 : decode cX3_settle 51 = .ok (.aload_n 0, 1) := by decide +kernel
theorem dX3_settle_52 : decode cX3_settle 52 = .ok (.invokevirtual 198, 3) := by decide +kernel
theorem dX3_settle_55 : decode cX3_settle 55 = .ok (.istore_n 3, 1) := by decide +kernel
theorem dX3_settle_56 : decode cX3_settle 56 = .ok (.aload_n 0, 1) := by decide +kernel
theorem dX3_settle_57 : decode cX3_settle 57 = .ok (.getfield 50, 3) := by decide +kernel
theorem dX3_settle_60 : decode cX3_settle 60 = .ok (.iload_n 3, 1) := by decide +kernel
theorem dX3_settle_61 : decode cX3_settle 61 = .ok (.iconst (-1), 1) := by decide +kernel
theorem dX3_settle_62 : decode cX3_settle 62 = .ok (.iastore, 1) := by decide +kernel
theorem dX3_settle_63 : decode cX3_settle 63 = .ok (.aload_n 0, 1) := by decide +kernel
theorem dX3_settle_64 : decode cX3_settle 64 = .ok (.iload_n 3, 1) := by decide +kernel
theorem dX3_settle_65 : decode cX3_settle 65 = .ok (.invokevirtual 192, 3) := by decide +kernel
theorem dX3_settle_68 : decode cX3_settle 68 = .ok (.pop, 1) := by decide +kernel
theorem dX3_settle_69 : decode cX3_settle 69 = .ok (.iinc 2 1, 3) := by decide +kernel
theorem dX3_settle_72 : decode cX3_settle 72 = .ok (.goto (-27), 3) := by decide +kernel
theorem dX3_settle_75 : decode cX3_settle 75 = .ok (.iload_n 1, 1) := by decide +kernel
theorem dX3_settle_76 : decode cX3_settle 76 = .ok (.aload_n 0, 1) := by decide +kernel
theorem dX3_settle_77 : decode cX3_settle 77 = .ok (.getfield 22, 3) := by decide +kernel
theorem dX3_settle_80 : decode cX3_settle 80 = .ok (.invokevirtual 167, 3) := by decide +kernel
theorem dX3_settle_83 : decode cX3_settle 83 = .ok (.isub, 1) := by decide +kernel
theorem dX3_settle_84 : decode cX3_settle 84 = .ok (.ireturn, 1) := by decide +kernel
set_option maxRecDepth 20000 in
theorem ggX3_wouldSwap_X3_checkLevel : GoodIn wsX3_wouldSwap wsX3_checkLevel := goodIn_ca (goodIn_r _ [5, 6, 7] (by decide +kernel) (by decide +kernel)) (goodIn_sub (fun _ h => List.mem_cons_of_mem _ (List.mem_append_right _ h)) (by decide +kernel))
set_option maxRecDepth 20000 in
theorem gX3_wouldSwap_X3_checkLevel : GoodIn wsX3_wouldSwap (va_wsS RX3 168 yX3_checkLevel wsX3_checkLevel) := goodIn_app (goodIn_of _ (by decide +kernel)) ggX3_wouldSwap_X3_checkLevel
set_option maxRecDepth 20000 in
theorem ggX3_wouldSwap_X0_exchangeAt : GoodIn wsX3_wouldSwap wsX0_exchangeAt := goodIn_r _ [12, 13, 14, 15, 16, 17, 11, 18, 19, 20, 21, 22, 23, 24, 25, 26, 27, 28, 29, 30, 31, 32, 33, 34, 35, 36, 37, 38, 39, 40, 41, 42, 43, 44, 45, 46, 47, 48, 49, 50, 51, 52, 53, 54, 55, 56, 57, 58, 59, 60, 61, 62, 63, 64, 65, 66, 67, 68, 69, 70, 71, 72, 73, 74, 75, 76, 77, 78, 79, 80, 81, 82, 83, 84, 85, 100, 101, 102, 103, 104, 105, 106, 107, 108, 109, 110, 111, 112, 113, 114, 115, 116] (by decide +kernel) (by decide +kernel)
set_option maxRecDepth 20000 in
theorem gX3_wouldSwap_X0_exchangeAt : GoodIn wsX3_wouldSwap (wsV RX3 189 RX0 yX0_exchangeAt wsX0_exchangeAt) := goodIn_app (goodIn_of _ (by decide +kernel)) ggX3_wouldSwap_X0_exchangeAt
set_option maxRecDepth 20000 in
theorem ggX3_wouldSwap_X0_count : GoodIn wsX3_wouldSwap wsX0_count := goodIn_r _ [89, 21, 100, 101, 102, 103, 104, 105, 106, 107, 108, 109, 110, 111, 112, 113, 114, 115, 116] (by decide +kernel) (by decide +kernel)
set_option maxRecDepth 20000 in
theorem gX3_wouldSwap_X0_count : GoodIn wsX3_wouldSwap (wsV RX3 167 RX0 yX0_count wsX0_count) := goodIn_app (goodIn_of _ (by decide +kernel)) ggX3_wouldSwap_X0_count
theorem dX3_wouldSwap_0 : decode cX3_wouldSwap 0 = .ok (.iload_n 1, 1) := by decide +kernel
theorem dX3_wouldSwap_1 : decode cX3_wouldSwap 1 = .ok (.bipush 9, 2) := by decide +kernel
theorem dX3_wouldSwap_3 : decode cX3_wouldSwap 3 = .ok (.invokestatic 168, 3) := by decide +kernel
theorem dX3_wouldSwap_6 : decode cX3_wouldSwap 6 = .ok (.aload_n 0, 1) := by decide +kernel
theorem dX3_wouldSwap_7 : decode cX3_wouldSwap 7 = .ok (.getfield 22, 3) := by decide +kernel
theorem dX3_wouldSwap_10 : decode cX3_wouldSwap 10 = .ok (.iload_n 1, 1) := by decide +kernel
theorem dX3_wouldSwap_11 : decode cX3_wouldSwap 11 = .ok (.invokevirtual 189, 3) := by decide +kernel
theorem dX3_wouldSwap_14 : decode cX3_wouldSwap 14 = .ok (.aload_n 0, 1) := by decide +kernel
theorem dX3_wouldSwap_15 : decode cX3_wouldSwap 15 = .ok (.getfield 22, 3) := by decide +kernel
theorem dX3_wouldSwap_18 : decode cX3_wouldSwap 18 = .ok (.invokevirtual 167, 3) := by decide +kernel
theorem dX3_wouldSwap_21 : decode cX3_wouldSwap 21 = .ok (.istore_n 2, 1) := by decide +kernel
theorem dX3_wouldSwap_22 : decode cX3_wouldSwap 22 = .ok (.aload_n 0, 1) := by decide +kernel
theorem dX3_wouldSwap_23 : decode cX3_wouldSwap 23 = .ok (.getfield 22, 3) := by decide +kernel
theorem dX3_wouldSwap_26 : decode cX3_wouldSwap 26 = .ok (.iload_n 1, 1) := by decide +kernel
theorem dX3_wouldSwap_27 : decode cX3_wouldSwap 27 = .ok (.invokevirtual 189, 3) := by decide +kernel
theorem dX3_wouldSwap_30 : decode cX3_wouldSwap 30 = .ok (.iload_n 2, 1) := by decide +kernel
theorem dX3_wouldSwap_31 : decode cX3_wouldSwap 31 = .ok (.sipush 400, 3) := by decide +kernel
theorem dX3_wouldSwap_34 : decode cX3_wouldSwap 34 = .ok (.if_icmp .le 7, 3) := by decide +kernel
theorem dX3_wouldSwap_37 : decode cX3_wouldSwap 37 = .ok (.iconst (-1), 1) := by decide +kernel
theorem dX3_wouldSwap_38 : decode cX3_wouldSwap 38 = .ok (.goto 4, 3) := by decide +kernel
theorem dX3_wouldSwap_41 : decode cX3_wouldSwap 41 = .ok (.iload_n 2, 1) := by decide +kernel
theorem dX3_wouldSwap_42 : decode cX3_wouldSwap 42 = .ok (.ireturn, 1) := by decide +kernel
set_option maxRecDepth 20000 in
theorem ggX3_wouldSift_X3_checkVariable : GoodIn wsX3_wouldSift wsX3_checkVariable := goodIn_ca (goodIn_r _ [5, 6, 7] (by decide +kernel) (by decide +kernel)) (goodIn_sub (fun _ h => List.mem_cons_of_mem _ (List.mem_append_right _ h)) (by decide +kernel))
set_option maxRecDepth 20000 in
theorem gX3_wouldSift_X3_checkVariable : GoodIn wsX3_wouldSift (va_wsS RX3 65 yX3_checkVariable wsX3_checkVariable) := goodIn_app (goodIn_of _ (by decide +kernel)) ggX3_wouldSift_X3_checkVariable
set_option maxRecDepth 20000 in
theorem ggX3_wouldSift_X0_levelOf : GoodIn wsX3_wouldSift wsX0_levelOf := goodIn_r _ [12, 13, 109, 110, 111, 112, 113, 114, 115, 116, 117, 118, 119, 120, 121, 122, 123, 124, 125] (by decide +kernel) (by decide +kernel)
set_option maxRecDepth 20000 in
theorem gX3_wouldSift_X0_levelOf : GoodIn wsX3_wouldSift (wsV RX3 195 RX0 yX0_levelOf wsX0_levelOf) := goodIn_app (goodIn_of _ (by decide +kernel)) ggX3_wouldSift_X0_levelOf
set_option maxRecDepth 20000 in
theorem ggX3_wouldSift_X0_lift : GoodIn wsX3_wouldSift wsX0_lift := goodIn_r _ [17, 18, 9, 10, 11, 12, 13, 19, 20, 21, 22, 23, 24, 25, 26, 27, 28, 29, 30, 31, 32, 33, 34, 35, 36, 37, 38, 39, 40, 41, 42, 43, 44, 45, 46, 47, 48, 49, 50, 51, 52, 53, 54, 55, 56, 57, 58, 59, 60, 61, 62, 63, 64, 65, 66, 67, 68, 69, 70, 71, 72, 73, 74, 75, 76, 77, 78, 79, 80, 81, 82, 83, 84, 85, 86, 87, 88, 89, 90, 91, 92, 93, 94, 109, 110, 111, 112, 113, 114, 115, 116, 117, 118, 119, 120, 121, 122, 123, 124, 125] (by decide +kernel) (by decide +kernel)
set_option maxRecDepth 20000 in
theorem gX3_wouldSift_X0_lift : GoodIn wsX3_wouldSift (wsV RX3 201 RX0 yX0_lift wsX0_lift) := goodIn_app (goodIn_of _ (by decide +kernel)) ggX3_wouldSift_X0_lift
set_option maxRecDepth 20000 in
theorem ggX3_wouldSift_X0_walk : GoodIn wsX3_wouldSift wsX0_walk := goodIn_r _ [98, 30, 19, 20, 21, 11, 22, 23, 13, 24, 25, 26, 27, 28, 29, 31, 32, 33, 34, 35, 36, 37, 38, 39, 40, 41, 42, 43, 44, 45, 46, 47, 48, 49, 50, 51, 52, 53, 54, 55, 56, 57, 58, 59, 60, 61, 62, 63, 64, 65, 66, 67, 68, 69, 70, 71, 72, 73, 74, 75, 76, 77, 78, 79, 80, 81, 82, 83, 84, 85, 86, 87, 88, 89, 90, 91, 92, 93, 94, 109, 110, 111, 112, 113, 114, 115, 116, 117, 118, 119, 120, 121, 122, 123, 124, 125] (by decide +kernel) (by decide +kernel)
set_option maxRecDepth 20000 in
theorem gX3_wouldSift_X0_walk : GoodIn wsX3_wouldSift (wsV RX3 204 RX0 yX0_walk wsX0_walk) := goodIn_app (goodIn_of _ (by decide +kernel)) ggX3_wouldSift_X0_walk
theorem dX3_wouldSift_0 : decode cX3_wouldSift 0 = .ok (.iload_n 1, 1) := by decide +kernel
theorem dX3_wouldSift_1 : decode cX3_wouldSift 1 = .ok (.invokestatic 65, 3) := by decide +kernel
theorem dX3_wouldSift_4 : decode cX3_wouldSift 4 = .ok (.aload_n 0, 1) := by decide +kernel
theorem dX3_wouldSift_5 : decode cX3_wouldSift 5 = .ok (.getfield 22, 3) := by decide +kernel
theorem dX3_wouldSift_8 : decode cX3_wouldSift 8 = .ok (.iload_n 1, 1) := by decide +kernel
theorem dX3_wouldSift_9 : decode cX3_wouldSift 9 = .ok (.invokevirtual 195, 3) := by decide +kernel
theorem dX3_wouldSift_12 : decode cX3_wouldSift 12 = .ok (.istore_n 2, 1) := by decide +kernel
theorem dX3_wouldSift_13 : decode cX3_wouldSift 13 = .ok (.aload_n 0, 1) := by decide +kernel
theorem dX3_wouldSift_14 : decode cX3_wouldSift 14 = .ok (.getfield 22, 3) := by decide +kernel
theorem dX3_wouldSift_17 : decode cX3_wouldSift 17 = .ok (.iload_n 1, 1) := by decide +kernel
theorem dX3_wouldSift_18 : decode cX3_wouldSift 18 = .ok (.iconst 0, 1) := by decide +kernel
theorem dX3_wouldSift_19 : decode cX3_wouldSift 19 = .ok (.invokevirtual 201, 3) := by decide +kernel
theorem dX3_wouldSift_22 : decode cX3_wouldSift 22 = .ok (.aload_n 0, 1) := by decide +kernel
theorem dX3_wouldSift_23 : decode cX3_wouldSift 23 = .ok (.getfield 22, 3) := by decide +kernel
theorem dX3_wouldSift_26 : decode cX3_wouldSift 26 = .ok (.invokevirtual 204, 3) := by decide +kernel
theorem dX3_wouldSift_29 : decode cX3_wouldSift 29 = .ok (.istore_n 3, 1) := by decide +kernel
theorem dX3_wouldSift_30 : decode cX3_wouldSift 30 = .ok (.aload_n 0, 1) := by decide +kernel
theorem dX3_wouldSift_31 : decode cX3_wouldSift 31 = .ok (.getfield 22, 3) := by decide +kernel
theorem dX3_wouldSift_34 : decode cX3_wouldSift 34 = .ok (.iload_n 1, 1) := by decide +kernel
theorem dX3_wouldSift_35 : decode cX3_wouldSift 35 = .ok (.iload_n 2, 1) := by decide +kernel
theorem dX3_wouldSift_36 : decode cX3_wouldSift 36 = .ok (.invokevirtual 201, 3) := by decide +kernel
theorem dX3_wouldSift_39 : decode cX3_wouldSift 39 = .ok (.iload_n 3, 1) := by decide +kernel
theorem dX3_wouldSift_40 : decode cX3_wouldSift 40 = .ok (.ireturn, 1) := by decide +kernel
set_option maxRecDepth 20000 in
theorem ggX3_meanSize_X0_countFrom : GoodIn wsX3_meanSize wsX0_countFrom := goodIn_r _ [7, 8, 9, 10, 11, 12, 6, 13, 14, 15, 16, 17, 18, 19, 20, 31, 32, 33, 34, 35, 36, 37, 38, 39, 40, 41, 42, 43, 44, 45, 46, 47] (by decide +kernel) (by decide +kernel)
set_option maxRecDepth 20000 in
theorem gX3_meanSize_X0_countFrom : GoodIn wsX3_meanSize (wsV RX3 163 RX0 yX0_countFrom wsX0_countFrom) := goodIn_app (goodIn_of _ (by decide +kernel)) ggX3_meanSize_X0_countFrom
theorem dX3_meanSize_0 : decode cX3_meanSize 0 = .ok (.iconst 0, 1) := by decide +kernel
theorem dX3_meanSize_1 : decode cX3_meanSize 1 = .ok (.istore_n 1, 1) := by decide +kernel
theorem dX3_meanSize_2 : decode cX3_meanSize 2 = .ok (.iconst 0, 1) := by decide +kernel
theorem dX3_meanSize_3 : decode cX3_meanSize 3 = .ok (.istore_n 2, 1) := by decide +kernel
theorem dX3_meanSize_4 : decode cX3_meanSize 4 = .ok (.iload_n 2, 1) := by decide +kernel
theorem dX3_meanSize_5 : decode cX3_meanSize 5 = .ok (.bipush 12, 2) := by decide +kernel
theorem dX3_meanSize_7 : decode cX3_meanSize 7 = .ok (.if_icmp .ge 21, 3) := by decide +kernel
theorem dX3_meanSize_10 : decode cX3_meanSize 10 = .ok (.iload_n 1, 1) := by decide +kernel
theorem dX3_meanSize_11 : decode cX3_meanSize 11 = .ok (.aload_n 0, 1) := by decide +kernel
theorem dX3_meanSize_12 : decode cX3_meanSize 12 = .ok (.getfield 22, 3) := by decide +kernel
theorem dX3_meanSize_15 : decode cX3_meanSize 15 = .ok (.iload_n 2, 1) := by decide +kernel
theorem dX3_meanSize_16 : decode cX3_meanSize 16 = .ok (.iload_n 2, 1) := by decide +kernel
theorem dX3_meanSize_17 : decode cX3_meanSize 17 = .ok (.invokevirtual 163, 3) := by decide +kernel
theorem dX3_meanSize_20 : decode cX3_meanSize 20 = .ok (.iadd, 1) := by decide +kernel
theorem dX3_meanSize_21 : decode cX3_meanSize 21 = .ok (.istore_n 1, 1) := by decide +kernel
theorem dX3_meanSize_22 : decode cX3_meanSize 22 = .ok (.iinc 2 1, 3) := by decide +kernel
theorem dX3_meanSize_25 : decode cX3_meanSize 25 = .ok (.goto (-21), 3) := by decide +kernel
theorem dX3_meanSize_28 : decode cX3_meanSize 28 = .ok (.iload_n 1, 1) := by decide +kernel
theorem dX3_meanSize_29 : decode cX3_meanSize 29 = .ok (.i2d, 1) := by decide +kernel
theorem dX3_meanSize_30 : decode cX3_meanSize 30 = .ok (.ldc2_w 207, 3) := by decide +kernel
theorem dX3_meanSize_33 : decode cX3_meanSize 33 = .ok (.ddiv, 1) := by decide +kernel
theorem dX3_meanSize_34 : decode cX3_meanSize 34 = .ok (.dreturn, 1) := by decide +kernel
set_option maxRecDepth 20000 in
theorem ggX3_digest_X3_total : GoodIn wsX3_digest wsX3_total := goodIn_r _ [7, 8, 9, 10, 11, 12, 13, 14, 190, 191, 192, 193, 194, 195, 196, 197, 198, 199, 200, 201, 202, 203, 204, 205, 206, 207, 208, 209, 210, 211, 212, 213, 214, 215, 216] (by decide +kernel) (by decide +kernel)
set_option maxRecDepth 20000 in
theorem gX3_digest_X3_total : GoodIn wsX3_digest (wsV RX3 213 RX3 yX3_total wsX3_total) := goodIn_app (goodIn_of _ (by decide +kernel)) ggX3_digest_X3_total
set_option maxRecDepth 20000 in
theorem ggX3_digest_X3_variableAt : GoodIn wsX3_digest wsX3_variableAt := goodIn_ca (goodIn_r _ [18, 8, 19, 20, 6, 21, 22, 23, 24, 25, 26, 12, 27, 28, 29, 30, 31, 190, 191, 192, 193, 194, 195, 196, 197, 198, 199, 200, 201, 202, 203, 204, 205, 206, 207, 208, 209, 210, 211, 212, 213, 214, 215, 216] (by decide +kernel) (by decide +kernel)) (goodIn_sub (fun _ h => List.mem_cons_of_mem _ (List.mem_append_left _ (List.mem_append_right _ h))) (by decide +kernel))
set_option maxRecDepth 20000 in
theorem gX3_digest_X3_variableAt : GoodIn wsX3_digest (wsV RX3 216 RX3 yX3_variableAt wsX3_variableAt) := goodIn_app (goodIn_of _ (by decide +kernel)) ggX3_digest_X3_variableAt
set_option maxRecDepth 20000 in
theorem ggX3_digest_X3_nodesAt : GoodIn wsX3_digest wsX3_nodesAt := goodIn_ca (goodIn_r _ [35, 8, 19, 20, 6, 21, 22, 23, 36, 37, 38, 12, 39, 40, 29, 30, 31, 190, 191, 192, 193, 194, 195, 196, 197, 198, 199, 200, 201, 202, 203, 204, 205, 206, 207, 208, 209, 210, 211, 212, 213, 214, 215, 216] (by decide +kernel) (by decide +kernel)) (goodIn_sub (fun _ h => List.mem_cons_of_mem _ (List.mem_append_left _ (List.mem_append_right _ h))) (by decide +kernel))
set_option maxRecDepth 20000 in
theorem gX3_digest_X3_nodesAt : GoodIn wsX3_digest (wsV RX3 219 RX3 yX3_nodesAt wsX3_nodesAt) := goodIn_app (goodIn_of _ (by decide +kernel)) ggX3_digest_X3_nodesAt
set_option maxRecDepth 20000 in
theorem ggX3_digest_X3_digestOfSlot : GoodIn wsX3_digest wsX3_digestOfSlot := goodIn_ca (goodIn_ca (goodIn_r _ [44, 2, 45, 46, 47, 6, 48, 49, 50, 51, 52, 22, 23, 53, 54, 55, 56, 57, 58, 59, 60, 61, 62, 63, 64, 65, 66, 67, 68, 69, 70, 71, 72, 73, 74, 8, 75, 76, 77, 12, 78, 79, 80, 81, 82, 83, 84, 85, 86, 87, 88, 89, 90, 91, 92, 93, 94, 95, 96, 97, 98, 99, 100, 101, 102, 103, 104, 105, 106, 107, 108, 109, 110, 111, 112, 113, 114, 115, 116, 117, 118, 119, 120, 121, 122, 123, 124, 125, 126, 127, 128, 129, 130, 131, 132, 133, 134, 135, 136, 137, 138, 139, 140, 141, 142, 143, 144, 145, 146, 147, 148, 149, 150, 151, 152, 190, 191, 192, 193, 194, 195, 196, 197, 198, 199, 217, 200, 201, 202, 203, 204, 205, 206, 207, 208, 209, 210, 211, 212, 213, 214, 215, 216] (by decide +kernel) (by decide +kernel)) (goodIn_sub (fun _ h => List.mem_cons_of_mem _ (List.mem_append_left _ (List.mem_append_right _ h))) (by decide +kernel))) (goodIn_sub (fun _ h => List.mem_cons_of_mem _ (List.mem_append_right _ h)) (by decide +kernel))
set_option maxRecDepth 20000 in
theorem gX3_digest_X3_digestOfSlot : GoodIn wsX3_digest (wsV RX3 222 RX3 yX3_digestOfSlot wsX3_digestOfSlot) := goodIn_app (goodIn_of _ (by decide +kernel)) ggX3_digest_X3_digestOfSlot
set_option maxRecDepth 20000 in
theorem ggX3_digest_X3_compare : GoodIn wsX3_digest wsX3_compare := goodIn_ca (goodIn_r _ [156, 49, 157, 158, 50, 51, 6, 52, 22, 23, 190, 191, 192, 193, 194, 195, 196, 197, 198, 199, 217] (by decide +kernel) (by decide +kernel)) (goodIn_sub (fun _ h => List.mem_cons_of_mem _ (List.mem_append_left _ (List.mem_append_right _ h))) (by decide +kernel))
set_option maxRecDepth 20000 in
theorem gX3_digest_X3_compare : GoodIn wsX3_digest (wsV RX3 226 RX3 yX3_compare wsX3_compare) := goodIn_app (goodIn_of _ (by decide +kernel)) ggX3_digest_X3_compare
set_option maxRecDepth 20000 in
theorem ggX3_digest_X3_shared : GoodIn wsX3_digest wsX3_shared := goodIn_ca (goodIn_r _ [162, 8, 50, 51, 6, 52, 22, 23, 75, 76, 77, 12, 78, 79, 80, 81, 82, 83, 84, 85, 86, 87, 88, 89, 90, 91, 190, 191, 192, 193, 194, 195, 196, 197, 198, 199, 200, 201, 202, 203, 204, 205, 206, 207, 208, 209, 210, 211, 212, 213, 214, 215, 216] (by decide +kernel) (by decide +kernel)) (goodIn_sub (fun _ h => List.mem_cons_of_mem _ (List.mem_append_left _ (List.mem_append_right _ h))) (by decide +kernel))
set_option maxRecDepth 20000 in
theorem gX3_digest_X3_shared : GoodIn wsX3_digest (wsV RX3 229 RX3 yX3_shared wsX3_shared) := goodIn_app (goodIn_of _ (by decide +kernel)) ggX3_digest_X3_shared
set_option maxRecDepth 20000 in
theorem ggX3_digest_X3_trend : GoodIn wsX3_digest wsX3_trend := goodIn_ca (goodIn_r _ [166, 49, 158, 50, 51, 6, 52, 22, 23, 167, 168, 169, 170, 171, 172, 56, 173, 152, 58, 174, 175, 176, 177, 178, 179, 180, 181, 190, 191, 192, 193, 194, 195, 196, 197, 198, 199, 217] (by decide +kernel) (by decide +kernel)) (goodIn_sub (fun _ h => List.mem_cons_of_mem _ (List.mem_append_left _ (List.mem_append_right _ h))) (by decide +kernel))
set_option maxRecDepth 20000 in
theorem gX3_digest_X3_trend : GoodIn wsX3_digest (wsV RX3 232 RX3 yX3_trend wsX3_trend) := goodIn_app (goodIn_of _ (by decide +kernel)) ggX3_digest_X3_trend
set_option maxRecDepth 20000 in
theorem ggX3_digest_X3_influence : GoodIn wsX3_digest wsX3_influence := goodIn_ca (goodIn_r _ [185, 49, 50, 51, 6, 52, 22, 23, 167, 168, 169, 186, 187, 188, 56, 189, 58, 178, 179, 180, 181, 177, 59, 60, 61, 62, 63, 64, 65, 190, 191, 192, 193, 194, 195, 196, 197, 198, 199, 217] (by decide +kernel) (by decide +kernel)) (goodIn_sub (fun _ h => List.mem_cons_of_mem _ (List.mem_append_left _ (List.mem_append_right _ h))) (by decide +kernel))
set_option maxRecDepth 20000 in
theorem gX3_digest_X3_influence : GoodIn wsX3_digest (wsV RX3 235 RX3 yX3_influence wsX3_influence) := goodIn_app (goodIn_of _ (by decide +kernel)) ggX3_digest_X3_influence
theorem dX3_digest_0 : decode cX3_digest 0 = .ok (.ldc2_w 209, 3) := by decide +kernel
theorem dX3_digest_3 : decode cX3_digest 3 = .ok (.lstore_n 1, 1) := by decide +kernel
theorem dX3_digest_4 : decode cX3_digest 4 = .ok (.lload_n 1, 1) := by decide +kernel
theorem dX3_digest_5 : decode cX3_digest 5 = .ok (.ldc2_w 211, 3) := by decide +kernel
theorem dX3_digest_8 : decode cX3_digest 8 = .ok (.lmul, 1) := by decide +kernel
theorem dX3_digest_9 : decode cX3_digest 9 = .ok (.aload_n 0, 1) := by decide +kernel
theorem dX3_digest_10 : decode cX3_digest 10 = .ok (.invokevirtual 213, 3) := by decide +kernel
theorem dX3_digest_13 : decode cX3_digest 13 = .ok (.i2l, 1) := by decide +kernel
theorem dX3_digest_14 : decode cX3_digest 14 = .ok (.ladd, 1) := by decide +kernel
theorem dX3_digest_15 : decode cX3_digest 15 = .ok (.lstore_n 1, 1) := by decide +kernel
theorem dX3_digest_16 : decode cX3_digest 16 = .ok (.iconst 0, 1) := by decide +kernel
theorem dX3_digest_17 : decode cX3_digest 17 = .ok (.istore_n 3, 1) := by decide +kernel
theorem dX3_digest_18 : decode cX3_digest 18 = .ok (.iload_n 3, 1) := by decide +kernel
theorem dX3_digest_19 : decode cX3_digest 19 = .ok (.bipush 10, 2) := by decide +kernel
theorem dX3_digest_21 : decode cX3_digest 21 = .ok (.if_icmp .ge 35, 3) := by decide +kernel
theorem dX3_digest_24 : decode cX3_digest 24 = .ok (.lload_n 1, 1) := by decide +kernel
theorem dX3_digest_25 : decode cX3_digest 25 = .ok (.ldc2_w 211, 3) := by decide +kernel
theorem dX3_digest_28 : decode cX3_digest 28 = .ok (.lmul, 1) := by decide +kernel
theorem dX3_digest_29 : decode cX3_digest 29 = .ok (.aload_n 0, 1) := by decide +kernel
theorem dX3_digest_30 : decode cX3_digest 30 = .ok (.iload_n 3, 1) := by decide +kernel
theorem dX3_digest_31 : decode cX3_digest 31 = .ok (.invokevirtual 216, 3) := by decide +kernel
theorem dX3_digest_34 : decode cX3_digest 34 = .ok (.i2l, 1) := by decide +kernel
theorem dX3_digest_35 : decode cX3_digest 35 = .ok (.ladd, 1) := by decide +kernel
theorem dX3_digest_36 : decode cX3_digest 36 = .ok (.lstore_n 1, 1) := by decide +kernel
theorem dX3_digest_37 : decode cX3_digest 37 = .ok (.lload_n 1, 1) := by decide +kernel
theorem dX3_digest_38 : decode cX3_digest 38 = .ok (.ldc2_w 211, 3) := by decide +kernel
theorem dX3_digest_41 : decode cX3_digest 41 = .ok (.lmul, 1) := by decide +kernel
theorem dX3_digest_42 : decode cX3_digest 42 = .ok (.aload_n 0, 1) := by decide +kernel
theorem dX3_digest_43 : decode cX3_digest 43 = .ok (.iload_n 3, 1) := by decide +kernel
theorem dX3_digest_44 : decode cX3_digest 44 = .ok (.invokevirtual 219, 3) := by decide +kernel
theorem dX3_digest_47 : decode cX3_digest 47 = .ok (.i2l, 1) := by decide +kernel
theorem dX3_digest_48 : decode cX3_digest 48 = .ok (.ladd, 1) := by decide +kernel
theorem dX3_digest_49 : decode cX3_digest 49 = .ok (.lstore_n 1, 1) := by decide +kernel
theorem dX3_digest_50 : decode cX3_digest 50 = .ok (.iinc 3 1, 3) := by decide +kernel
theorem dX3_digest_53 : decode cX3_digest 53 = .ok (.goto (-35), 3) := by decide +kernel
theorem dX3_digest_56 : decode cX3_digest 56 = .ok (.iconst 0, 1) := by decide +kernel
theorem dX3_digest_57 : decode cX3_digest 57 = .ok (.istore_n 3, 1) := by decide +kernel
theorem dX3_digest_58 : decode cX3_digest 58 = .ok (.iload_n 3, 1) := by decide +kernel
theorem dX3_digest_59 : decode cX3_digest 59 = .ok (.bipush 12, 2) := by decide +kernel
theorem dX3_digest_61 : decode cX3_digest 61 = .ok (.if_icmp .ge 16, 3) := by decide +kernel
theorem dX3_digest_64 : decode cX3_digest 64 = .ok (.aload_n 0, 1) := by decide +kernel
theorem dX3_digest_65 : decode cX3_digest 65 = .ok (.lload_n 1, 1) := by decide +kernel
theorem dX3_digest_66 : decode cX3_digest 66 = .ok (.iload_n 3, 1) := by decide +kernel
theorem dX3_digest_67 : decode cX3_digest 67 = .ok (.invokevirtual 222, 3) := by decide +kernel
theorem dX3_digest_70 : decode cX3_digest 70 = .ok (.lstore_n 1, 1) := by decide +kernel
theorem dX3_digest_71 : decode cX3_digest 71 = .ok (.iinc 3 1, 3) := by decide +kernel
theorem dX3_digest_74 : decode cX3_digest 74 = .ok (.goto (-16), 3) := by decide +kernel
theorem dX3_digest_77 : decode cX3_digest 77 = .ok (.iconst 0, 1) := by decide +kernel
theorem dX3_digest_78 : decode cX3_digest 78 = .ok (.istore_n 3, 1) := by decide +kernel
theorem dX3_digest_79 : decode cX3_digest 79 = .ok (.iload_n 3, 1) := by decide +kernel
theorem dX3_digest_80 : decode cX3_digest 80 = .ok (.bipush 11, 2) := by decide +kernel
theorem dX3_digest_82 : decode cX3_digest 82 = .ok (.if_icmp .ge 41, 3) := by decide +kernel
theorem dX3_digest_85 : decode cX3_digest 85 = .ok (.lload_n 1, 1) := by decide +kernel
theorem dX3_digest_86 : decode cX3_digest 86 = .ok (.ldc2_w 211, 3) := by decide +kernel
theorem dX3_digest_89 : decode cX3_digest 89 = .ok (.lmul, 1) := by decide +kernel
theorem dX3_digest_90 : decode cX3_digest 90 = .ok (.aload_n 0, 1) := by decide +kernel
theorem dX3_digest_91 : decode cX3_digest 91 = .ok (.iload_n 3, 1) := by decide +kernel
theorem dX3_digest_92 : decode cX3_digest 92 = .ok (.iload_n 3, 1) := by decide +kernel
theorem dX3_digest_93 : decode cX3_digest 93 = .ok (.iconst 1, 1) := by decide +kernel
theorem dX3_digest_94 : decode cX3_digest 94 = .ok (.iadd, 1) := by decide +kernel
theorem dX3_digest_95 : decode cX3_digest 95 = .ok (.invokevirtual 226, 3) := by decide +kernel
theorem dX3_digest_98 : decode cX3_digest 98 = .ok (.i2l, 1) := by decide +kernel
theorem dX3_digest_99 : decode cX3_digest 99 = .ok (.ladd, 1) := by decide +kernel
theorem dX3_digest_100 : decode cX3_digest 100 = .ok (.lstore_n 1, 1) := by decide +kernel
theorem dX3_digest_101 : decode cX3_digest 101 = .ok (.lload_n 1, 1) := by decide +kernel
theorem dX3_digest_102 : decode cX3_digest 102 = .ok (.ldc2_w 211, 3) := by decide +kernel
theorem dX3_digest_105 : decode cX3_digest 105 = .ok (.lmul, 1) := by decide +kernel
theorem dX3_digest_106 : decode cX3_digest 106 = .ok (.aload_n 0, 1) := by decide +kernel
theorem dX3_digest_107 : decode cX3_digest 107 = .ok (.iload_n 3, 1) := by decide +kernel
theorem dX3_digest_108 : decode cX3_digest 108 = .ok (.iload_n 3, 1) := by decide +kernel
theorem dX3_digest_109 : decode cX3_digest 109 = .ok (.iconst 1, 1) := by decide +kernel
theorem dX3_digest_110 : decode cX3_digest 110 = .ok (.iadd, 1) := by decide +kernel
theorem dX3_digest_111 : decode cX3_digest 111 = .ok (.invokevirtual 229, 3) := by decide +kernel
theorem dX3_digest_114 : decode cX3_digest 114 = .ok (.i2l, 1) := by decide +kernel
theorem dX3_digest_115 : decode cX3_digest 115 = .ok (.ladd, 1) := by decide +kernel
theorem dX3_digest_116 : decode cX3_digest 116 = .ok (.lstore_n 1, 1) := by decide +kernel
theorem dX3_digest_117 : decode cX3_digest 117 = .ok (.iinc 3 1, 3) := by decide +kernel
theorem dX3_digest_120 : decode cX3_digest 120 = .ok (.goto (-41), 3) := by decide +kernel
theorem dX3_digest_123 : decode cX3_digest 123 = .ok (.iconst 0, 1) := by decide +kernel
theorem dX3_digest_124 : decode cX3_digest 124 = .ok (.istore_n 3, 1) := by decide +kernel
theorem dX3_digest_125 : decode cX3_digest 125 = .ok (.iload_n 3, 1) := by decide +kernel
theorem dX3_digest_126 : decode cX3_digest 126 = .ok (.bipush 12, 2) := by decide +kernel
theorem dX3_digest_128 : decode cX3_digest 128 = .ok (.if_icmp .ge 55, 3) := by decide +kernel
theorem dX3_digest_131 : decode cX3_digest 131 = .ok (.iconst 0, 1) := by decide +kernel
theorem dX3_digest_132 : decode cX3_digest 132 = .ok (.istore 4, 2) := by decide +kernel
theorem dX3_digest_134 : decode cX3_digest 134 = .ok (.iload 4, 2) := by decide +kernel
theorem dX3_digest_136 : decode cX3_digest 136 = .ok (.bipush 10, 2) := by decide +kernel
theorem dX3_digest_138 : decode cX3_digest 138 = .ok (.if_icmp .ge 39, 3) := by decide +kernel
theorem dX3_digest_141 : decode cX3_digest 141 = .ok (.lload_n 1, 1) := by decide +kernel
theorem dX3_digest_142 : decode cX3_digest 142 = .ok (.ldc2_w 211, 3) := by decide +kernel
theorem dX3_digest_145 : decode cX3_digest 145 = .ok (.lmul, 1) := by decide +kernel
theorem dX3_digest_146 : decode cX3_digest 146 = .ok (.aload_n 0, 1) := by decide +kernel
theorem dX3_digest_147 : decode cX3_digest 147 = .ok (.iload_n 3, 1) := by decide +kernel
theorem dX3_digest_148 : decode cX3_digest 148 = .ok (.iload 4, 2) := by decide +kernel
theorem dX3_digest_150 : decode cX3_digest 150 = .ok (.invokevirtual 232, 3) := by decide +kernel
theorem dX3_digest_153 : decode cX3_digest 153 = .ok (.i2l, 1) := by decide +kernel
theorem dX3_digest_154 : decode cX3_digest 154 = .ok (.ladd, 1) := by decide +kernel
theorem dX3_digest_155 : decode cX3_digest 155 = .ok (.lstore_n 1, 1) := by decide +kernel
theorem dX3_digest_156 : decode cX3_digest 156 = .ok (.lload_n 1, 1) := by decide +kernel
theorem dX3_digest_157 : decode cX3_digest 157 = .ok (.ldc2_w 211, 3) := by decide +kernel
theorem dX3_digest_160 : decode cX3_digest 160 = .ok (.lmul, 1) := by decide +kernel
theorem dX3_digest_161 : decode cX3_digest 161 = .ok (.aload_n 0, 1) := by decide +kernel
theorem dX3_digest_162 : decode cX3_digest 162 = .ok (.iload_n 3, 1) := by decide +kernel
theorem dX3_digest_163 : decode cX3_digest 163 = .ok (.iload 4, 2) := by decide +kernel
theorem dX3_digest_165 : decode cX3_digest 165 = .ok (.invokevirtual 235, 3) := by decide +kernel
theorem dX3_digest_168 : decode cX3_digest 168 = .ok (.i2l, 1) := by decide +kernel
theorem dX3_digest_169 : decode cX3_digest 169 = .ok (.ladd, 1) := by decide +kernel
theorem dX3_digest_170 : decode cX3_digest 170 = .ok (.lstore_n 1, 1) := by decide +kernel
theorem dX3_digest_171 : decode cX3_digest 171 = .ok (.iinc 4 1, 3) := by decide +kernel
