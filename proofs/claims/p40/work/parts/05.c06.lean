theorem dX3_meet_50 : decode cX3_meet 50 = .ok (.getfield 34, 3) := by decide +kernel
theorem dX3_meet_53 : decode cX3_meet 53 = .ok (.getfield 68, 3) := by decide +kernel
theorem dX3_meet_56 : decode cX3_meet 56 = .ok (.iload 7, 2) := by decide +kernel
theorem dX3_meet_58 : decode cX3_meet 58 = .ok (.aload 5, 2) := by decide +kernel
theorem dX3_meet_60 : decode cX3_meet 60 = .ok (.iload 7, 2) := by decide +kernel
theorem dX3_meet_62 : decode cX3_meet 62 = .ok (.laload, 1) := by decide +kernel
theorem dX3_meet_63 : decode cX3_meet 63 = .ok (.aload 6, 2) := by decide +kernel
theorem dX3_meet_65 : decode cX3_meet 65 = .ok (.iload 7, 2) := by decide +kernel
theorem dX3_meet_67 : decode cX3_meet 67 = .ok (.laload, 1) := by decide +kernel
theorem dX3_meet_68 : decode cX3_meet 68 = .ok (.land, 1) := by decide +kernel
theorem dX3_meet_69 : decode cX3_meet 69 = .ok (.lastore, 1) := by decide +kernel
theorem dX3_meet_70 : decode cX3_meet 70 = .ok (.iinc 7 1, 3) := by decide +kernel
theorem dX3_meet_73 : decode cX3_meet 73 = .ok (.goto (-31), 3) := by decide +kernel
theorem dX3_meet_76 : decode cX3_meet 76 = .ok (.aload_n 0, 1) := by decide +kernel
theorem dX3_meet_77 : decode cX3_meet 77 = .ok (.getfield 34, 3) := by decide +kernel
theorem dX3_meet_80 : decode cX3_meet 80 = .ok (.iload 4, 2) := by decide +kernel
theorem dX3_meet_82 : decode cX3_meet 82 = .ok (.iconst 0, 1) := by decide +kernel
theorem dX3_meet_83 : decode cX3_meet 83 = .ok (.aload_n 0, 1) := by decide +kernel
theorem dX3_meet_84 : decode cX3_meet 84 = .ok (.getfield 41, 3) := by decide +kernel
theorem dX3_meet_87 : decode cX3_meet 87 = .ok (.invokevirtual 102, 3) := by decide +kernel
theorem dX3_meet_90 : decode cX3_meet 90 = .ok (.aload_n 0, 1) := by decide +kernel
theorem dX3_meet_91 : decode cX3_meet 91 = .ok (.iload_n 1, 1) := by decide +kernel
theorem dX3_meet_92 : decode cX3_meet 92 = .ok (.invokevirtual 61, 3) := by decide +kernel
theorem dX3_meet_95 : decode cX3_meet 95 = .ok (.ireturn, 1) := by decide +kernel
set_option maxRecDepth 20000 in
theorem ggX3_exchange_X3_checkSlot : GoodIn wsX3_exchange wsX3_checkSlot := goodIn_ca (goodIn_r _ [7, 8, 9] (by decide +kernel) (by decide +kernel)) (goodIn_sub (fun _ h => List.mem_cons_of_mem _ (List.mem_append_right _ h)) (by decide +kernel))
set_option maxRecDepth 20000 in
theorem gX3_exchange_X3_checkSlot : GoodIn wsX3_exchange (va_wsS RX3 53 yX3_checkSlot wsX3_checkSlot) := goodIn_app (goodIn_of _ (by decide +kernel)) ggX3_exchange_X3_checkSlot
set_option maxRecDepth 20000 in
theorem ggX3_exchange_X3_checkVariable : GoodIn wsX3_exchange wsX3_checkVariable := goodIn_ca (goodIn_r _ [12, 8, 9] (by decide +kernel) (by decide +kernel)) (goodIn_sub (fun _ h => List.mem_cons_of_mem _ (List.mem_append_right _ h)) (by decide +kernel))
set_option maxRecDepth 20000 in
theorem gX3_exchange_X3_checkVariable : GoodIn wsX3_exchange (va_wsS RX3 65 yX3_checkVariable wsX3_checkVariable) := goodIn_app (goodIn_of _ (by decide +kernel)) ggX3_exchange_X3_checkVariable
set_option maxRecDepth 20000 in
theorem ggX3_exchange_X2_crossed : GoodIn wsX3_exchange wsX2_crossed := goodIn_r _ [17, 18, 19, 20, 21, 22, 16, 23, 24, 25, 26, 27, 141] (by decide +kernel) (by decide +kernel)
set_option maxRecDepth 20000 in
theorem gX3_exchange_X2_crossed : GoodIn wsX3_exchange (wsV RX3 106 RX2 yX2_crossed wsX2_crossed) := goodIn_app (goodIn_of _ (by decide +kernel)) ggX3_exchange_X2_crossed
set_option maxRecDepth 20000 in
theorem ggX3_exchange_X3_place : GoodIn wsX3_exchange wsX3_place := goodIn_r _ [31, 1, 32, 2, 33, 34, 35, 36, 16, 37, 38, 39, 40, 41, 18, 20, 21, 22, 23, 24, 42, 43, 44, 45, 46, 47, 48, 49, 50, 51, 52, 53, 54, 55, 56, 57, 58, 59, 60, 61, 62, 63, 64, 65, 66, 67, 68, 69, 70, 71, 72, 73, 74, 75, 76, 77, 78, 79, 80, 81, 82, 83, 84, 85, 86, 87, 88, 89, 90, 91, 92, 93, 94, 95, 96, 97, 98, 99, 100, 101, 102, 103, 104, 105, 106, 107, 108, 109, 110, 111, 112, 113, 114, 115, 116, 117, 118, 119, 120, 121, 122, 123, 124, 125, 126, 127, 128, 129, 130, 131, 132, 133, 134, 135, 136, 137, 138, 139, 140, 141, 142, 143, 144, 145, 146, 147, 148, 149, 150, 151, 152, 153, 154, 155, 156, 157, 158] (by decide +kernel) (by decide +kernel)
set_option maxRecDepth 20000 in
theorem gX3_exchange_X3_place : GoodIn wsX3_exchange (wsV RX3 61 RX3 yX3_place wsX3_place) := goodIn_app (goodIn_of _ (by decide +kernel)) ggX3_exchange_X3_place
theorem dX3_exchange_0 : decode cX3_exchange 0 = .ok (.iload_n 1, 1) := by decide +kernel
theorem dX3_exchange_1 : decode cX3_exchange 1 = .ok (.invokestatic 53, 3) := by decide +kernel
theorem dX3_exchange_4 : decode cX3_exchange 4 = .ok (.iload_n 2, 1) := by decide +kernel
theorem dX3_exchange_5 : decode cX3_exchange 5 = .ok (.invokestatic 53, 3) := by decide +kernel
theorem dX3_exchange_8 : decode cX3_exchange 8 = .ok (.iload_n 3, 1) := by decide +kernel
theorem dX3_exchange_9 : decode cX3_exchange 9 = .ok (.invokestatic 65, 3) := by decide +kernel
theorem dX3_exchange_12 : decode cX3_exchange 12 = .ok (.iload 4, 2) := by decide +kernel
theorem dX3_exchange_14 : decode cX3_exchange 14 = .ok (.invokestatic 65, 3) := by decide +kernel
theorem dX3_exchange_17 : decode cX3_exchange 17 = .ok (.aload_n 0, 1) := by decide +kernel
theorem dX3_exchange_18 : decode cX3_exchange 18 = .ok (.getfield 34, 3) := by decide +kernel
theorem dX3_exchange_21 : decode cX3_exchange 21 = .ok (.aload_n 0, 1) := by decide +kernel
theorem dX3_exchange_22 : decode cX3_exchange 22 = .ok (.getfield 11, 3) := by decide +kernel
theorem dX3_exchange_25 : decode cX3_exchange 25 = .ok (.iload_n 2, 1) := by decide +kernel
theorem dX3_exchange_26 : decode cX3_exchange 26 = .ok (.aaload, 1) := by decide +kernel
theorem dX3_exchange_27 : decode cX3_exchange 27 = .ok (.iload_n 3, 1) := by decide +kernel
theorem dX3_exchange_28 : decode cX3_exchange 28 = .ok (.iload 4, 2) := by decide +kernel
theorem dX3_exchange_30 : decode cX3_exchange 30 = .ok (.aload_n 0, 1) := by decide +kernel
theorem dX3_exchange_31 : decode cX3_exchange 31 = .ok (.getfield 41, 3) := by decide +kernel
theorem dX3_exchange_34 : decode cX3_exchange 34 = .ok (.invokevirtual 106, 3) := by decide +kernel
theorem dX3_exchange_37 : decode cX3_exchange 37 = .ok (.aload_n 0, 1) := by decide +kernel
theorem dX3_exchange_38 : decode cX3_exchange 38 = .ok (.iload_n 1, 1) := by decide +kernel
theorem dX3_exchange_39 : decode cX3_exchange 39 = .ok (.invokevirtual 61, 3) := by decide +kernel
theorem dX3_exchange_42 : decode cX3_exchange 42 = .ok (.ireturn, 1) := by decide +kernel
set_option maxRecDepth 20000 in
theorem ggX3_press_X3_checkSlot : GoodIn wsX3_press wsX3_checkSlot := goodIn_ca (goodIn_r _ [11, 12, 13] (by decide +kernel) (by decide +kernel)) (goodIn_sub (fun _ h => List.mem_cons_of_mem _ (List.mem_append_right _ h)) (by decide +kernel))
set_option maxRecDepth 20000 in
theorem gX3_press_X3_checkSlot : GoodIn wsX3_press (va_wsS RX3 53 yX3_checkSlot wsX3_checkSlot) := goodIn_app (goodIn_of _ (by decide +kernel)) ggX3_press_X3_checkSlot
set_option maxRecDepth 20000 in
theorem ggX3_press_X2_count : GoodIn wsX3_press wsX2_count := goodIn_r _ [18, 19, 20, 21, 22, 23, 24, 25, 26, 158] (by decide +kernel) (by decide +kernel)
set_option maxRecDepth 20000 in
theorem gX3_press_X2_count : GoodIn wsX3_press (wsV RX3 110 RX2 yX2_count wsX2_count) := goodIn_app (goodIn_of _ (by decide +kernel)) ggX3_press_X2_count
set_option maxRecDepth 20000 in
theorem ggX3_press_X2_copy : GoodIn wsX3_press wsX2_copy := goodIn_r _ [30, 19, 31, 32, 33, 34, 158] (by decide +kernel) (by decide +kernel)
set_option maxRecDepth 20000 in
theorem gX3_press_X2_copy : GoodIn wsX3_press (wsV RX3 98 RX2 yX2_copy wsX2_copy) := goodIn_app (goodIn_of _ (by decide +kernel)) ggX3_press_X2_copy
set_option maxRecDepth 20000 in
theorem ggX3_press_X0_variableOf : GoodIn wsX3_press wsX0_variableOf := goodIn_r _ [39, 40, 41, 42, 38, 43, 159, 160, 161, 162, 163, 164, 165, 166, 167, 168, 169, 170, 171, 172, 173, 174, 175] (by decide +kernel) (by decide +kernel)
set_option maxRecDepth 20000 in
theorem gX3_press_X0_variableOf : GoodIn wsX3_press (wsV RX3 119 RX0 yX0_variableOf wsX0_variableOf) := goodIn_app (goodIn_of _ (by decide +kernel)) ggX3_press_X0_variableOf
set_option maxRecDepth 20000 in
theorem ggX3_press_X2_lean : GoodIn wsX3_press wsX2_lean := goodIn_r _ [47, 19, 48, 49, 28, 29, 17, 30, 31, 32, 33, 34, 50, 51, 52, 53, 54, 158] (by decide +kernel) (by decide +kernel)
set_option maxRecDepth 20000 in
theorem gX3_press_X2_lean : GoodIn wsX3_press (wsV RX3 122 RX2 yX2_lean wsX2_lean) := goodIn_app (goodIn_of _ (by decide +kernel)) ggX3_press_X2_lean
set_option maxRecDepth 20000 in
theorem ggX3_press_X2_fold : GoodIn wsX3_press wsX2_fold := goodIn_r _ [58, 19, 49, 28, 29, 17, 30, 31, 32, 33, 34, 50, 51, 52, 53, 54, 158] (by decide +kernel) (by decide +kernel)
set_option maxRecDepth 20000 in
theorem gX3_press_X2_fold : GoodIn wsX3_press (wsV RX3 126 RX2 yX2_fold wsX2_fold) := goodIn_app (goodIn_of _ (by decide +kernel)) ggX3_press_X2_fold
set_option maxRecDepth 20000 in
theorem ggX3_press_X3_place : GoodIn wsX3_press wsX3_place := goodIn_r _ [62, 4, 6, 3, 63, 64, 65, 66, 17, 67, 68, 69, 70, 71, 19, 50, 51, 52, 53, 54, 72, 73, 74, 38, 75, 76, 40, 77, 78, 79, 80, 81, 82, 83, 84, 85, 86, 87, 88, 89, 90, 91, 92, 93, 94, 95, 96, 97, 98, 99, 100, 101, 102, 41, 42, 43, 103, 104, 105, 106, 107, 108, 109, 110, 111, 112, 113, 114, 115, 116, 117, 118, 119, 120, 121, 122, 123, 124, 125, 126, 127, 128, 129, 130, 131, 132, 133, 134, 135, 136, 27, 28, 29, 30, 31, 32, 33, 34, 137, 138, 139, 140, 141, 142, 143, 144, 145, 146, 147, 148, 149, 150, 151, 152, 153, 154, 155, 156, 157, 158, 159, 160, 161, 162, 163, 164, 165, 166, 167, 168, 169, 170, 171, 172, 173, 174, 175] (by decide +kernel) (by decide +kernel)
set_option maxRecDepth 20000 in
theorem gX3_press_X3_place : GoodIn wsX3_press (wsV RX3 61 RX3 yX3_place wsX3_place) := goodIn_app (goodIn_of _ (by decide +kernel)) ggX3_press_X3_place
theorem dX3_press_0 : decode cX3_press 0 = .ok (.iload_n 1, 1) := by decide +kernel
theorem dX3_press_1 : decode cX3_press 1 = .ok (.invokestatic 53, 3) := by decide +kernel
theorem dX3_press_4 : decode cX3_press 4 = .ok (.iload_n 2, 1) := by decide +kernel
theorem dX3_press_5 : decode cX3_press 5 = .ok (.invokestatic 53, 3) := by decide +kernel
theorem dX3_press_8 : decode cX3_press 8 = .ok (.iload_n 3, 1) := by decide +kernel
theorem dX3_press_9 : decode cX3_press 9 = .ok (.invokestatic 53, 3) := by decide +kernel
theorem dX3_press_12 : decode cX3_press 12 = .ok (.aload_n 0, 1) := by decide +kernel
theorem dX3_press_13 : decode cX3_press 13 = .ok (.getfield 11, 3) := by decide +kernel
theorem dX3_press_16 : decode cX3_press 16 = .ok (.iload_n 3, 1) := by decide +kernel
theorem dX3_press_17 : decode cX3_press 17 = .ok (.aaload, 1) := by decide +kernel
theorem dX3_press_18 : decode cX3_press 18 = .ok (.invokevirtual 110, 3) := by decide +kernel
theorem dX3_press_21 : decode cX3_press 21 = .ok (.ifCond .ne 13, 3) := by decide +kernel
theorem dX3_press_24 : decode cX3_press 24 = .ok (.new 114, 3) := by decide +kernel
theorem dX3_press_27 : decode cX3_press 27 = .ok (.dup, 1) := by decide +kernel
theorem dX3_press_28 : decode cX3_press 28 = .ok (.ldc 116, 2) := by decide +kernel
theorem dX3_press_30 : decode cX3_press 30 = .ok (.invokespecial 118, 3) := by decide +kernel
theorem dX3_press_33 : decode cX3_press 33 = .ok (.athrow, 1) := by decide +kernel
theorem dX3_press_34 : decode cX3_press 34 = .ok (.aload_n 0, 1) := by decide +kernel
theorem dX3_press_35 : decode cX3_press 35 = .ok (.getfield 34, 3) := by decide +kernel
theorem dX3_press_38 : decode cX3_press 38 = .ok (.aload_n 0, 1) := by decide +kernel
theorem dX3_press_39 : decode cX3_press 39 = .ok (.getfield 11, 3) := by decide +kernel
theorem dX3_press_42 : decode cX3_press 42 = .ok (.iload_n 2, 1) := by decide +kernel
theorem dX3_press_43 : decode cX3_press 43 = .ok (.aaload, 1) := by decide +kernel
theorem dX3_press_44 : decode cX3_press 44 = .ok (.invokevirtual 98, 3) := by decide +kernel
theorem dX3_press_47 : decode cX3_press 47 = .ok (.aload_n 0, 1) := by decide +kernel
theorem dX3_press_48 : decode cX3_press 48 = .ok (.getfield 38, 3) := by decide +kernel
theorem dX3_press_51 : decode cX3_press 51 = .ok (.aload_n 0, 1) := by decide +kernel
theorem dX3_press_52 : decode cX3_press 52 = .ok (.getfield 11, 3) := by decide +kernel
theorem dX3_press_55 : decode cX3_press 55 = .ok (.iload_n 3, 1) := by decide +kernel
theorem dX3_press_56 : decode cX3_press 56 = .ok (.aaload, 1) := by decide +kernel
theorem dX3_press_57 : decode cX3_press 57 = .ok (.invokevirtual 98, 3) := by decide +kernel
theorem dX3_press_60 : decode cX3_press 60 = .ok (.bipush 9, 2) := by decide +kernel
theorem dX3_press_62 : decode cX3_press 62 = .ok (.istore 4, 2) := by decide +kernel
theorem dX3_press_64 : decode cX3_press 64 = .ok (.iload 4, 2) := by decide +kernel
theorem dX3_press_66 : decode cX3_press 66 = .ok (.ifCond .lt 51, 3) := by decide +kernel
theorem dX3_press_69 : decode cX3_press 69 = .ok (.aload_n 0, 1) := by decide +kernel
theorem dX3_press_70 : decode cX3_press 70 = .ok (.getfield 22, 3) := by decide +kernel
theorem dX3_press_73 : decode cX3_press 73 = .ok (.iload 4, 2) := by decide +kernel
theorem dX3_press_75 : decode cX3_press 75 = .ok (.invokevirtual 119, 3) := by decide +kernel
theorem dX3_press_78 : decode cX3_press 78 = .ok (.istore 5, 2) := by decide +kernel
theorem dX3_press_80 : decode cX3_press 80 = .ok (.aload_n 0, 1) := by decide +kernel
theorem dX3_press_81 : decode cX3_press 81 = .ok (.getfield 34, 3) := by decide +kernel
theorem dX3_press_84 : decode cX3_press 84 = .ok (.aload_n 0, 1) := by decide +kernel
theorem dX3_press_85 : decode cX3_press 85 = .ok (.getfield 38, 3) := by decide +kernel
theorem dX3_press_88 : decode cX3_press 88 = .ok (.iload 5, 2) := by decide +kernel
theorem dX3_press_90 : decode cX3_press 90 = .ok (.aload_n 0, 1) := by decide +kernel
theorem dX3_press_91 : decode cX3_press 91 = .ok (.getfield 41, 3) := by decide +kernel
theorem dX3_press_94 : decode cX3_press 94 = .ok (.invokevirtual 122, 3) := by decide +kernel
theorem dX3_press_97 : decode cX3_press 97 = .ok (.aload_n 0, 1) := by decide +kernel
theorem dX3_press_98 : decode cX3_press 98 = .ok (.getfield 38, 3) := by decide +kernel
theorem dX3_press_101 : decode cX3_press 101 = .ok (.iload 5, 2) := by decide +kernel
theorem dX3_press_103 : decode cX3_press 103 = .ok (.iconst 0, 1) := by decide +kernel
theorem dX3_press_104 : decode cX3_press 104 = .ok (.aload_n 0, 1) := by decide +kernel
theorem dX3_press_105 : decode cX3_press 105 = .ok (.getfield 41, 3) := by decide +kernel
theorem dX3_press_108 : decode cX3_press 108 = .ok (.invokevirtual 126, 3) := by decide +kernel
theorem dX3_press_111 : decode cX3_press 111 = .ok (.iinc 4 (-1), 3) := by decide +kernel
theorem dX3_press_114 : decode cX3_press 114 = .ok (.goto (-50), 3) := by decide +kernel
theorem dX3_press_117 : decode cX3_press 117 = .ok (.aload_n 0, 1) := by decide +kernel
theorem dX3_press_118 : decode cX3_press 118 = .ok (.iload_n 1, 1) := by decide +kernel
theorem dX3_press_119 : decode cX3_press 119 = .ok (.invokevirtual 61, 3) := by decide +kernel
theorem dX3_press_122 : decode cX3_press 122 = .ok (.ireturn, 1) := by decide +kernel
set_option maxRecDepth 20000 in
theorem ggX3_holds_X3_checkSlot : GoodIn wsX3_holds wsX3_checkSlot := goodIn_ca (goodIn_r _ [7, 8, 9] (by decide +kernel) (by decide +kernel)) (goodIn_sub (fun _ h => List.mem_cons_of_mem _ (List.mem_append_right _ h)) (by decide +kernel))
set_option maxRecDepth 20000 in
theorem gX3_holds_X3_checkSlot : GoodIn wsX3_holds (va_wsS RX3 53 yX3_checkSlot wsX3_checkSlot) := goodIn_app (goodIn_of _ (by decide +kernel)) ggX3_holds_X3_checkSlot
set_option maxRecDepth 20000 in
theorem ggX3_holds_X2_tells : GoodIn wsX3_holds wsX2_tells := goodIn_r _ [14, 15, 26] (by decide +kernel) (by decide +kernel)
set_option maxRecDepth 20000 in
theorem gX3_holds_X2_tells : GoodIn wsX3_holds (wsV RX3 145 RX2 yX2_tells wsX2_tells) := goodIn_app (goodIn_of _ (by decide +kernel)) ggX3_holds_X2_tells
theorem dX3_holds_0 : decode cX3_holds 0 = .ok (.iload_n 1, 1) := by decide +kernel
theorem dX3_holds_1 : decode cX3_holds 1 = .ok (.invokestatic 53, 3) := by decide +kernel
theorem dX3_holds_4 : decode cX3_holds 4 = .ok (.iload_n 2, 1) := by decide +kernel
theorem dX3_holds_5 : decode cX3_holds 5 = .ok (.ifCond .lt 10, 3) := by decide +kernel
theorem dX3_holds_8 : decode cX3_holds 8 = .ok (.iload_n 2, 1) := by decide +kernel
theorem dX3_holds_9 : decode cX3_holds 9 = .ok (.sipush 1024, 3) := by decide +kernel
theorem dX3_holds_12 : decode cX3_holds 12 = .ok (.if_icmp .lt 13, 3) := by decide +kernel
theorem dX3_holds_15 : decode cX3_holds 15 = .ok (.new 76, 3) := by decide +kernel
theorem dX3_holds_18 : decode cX3_holds 18 = .ok (.dup, 1) := by decide +kernel
theorem dX3_holds_19 : decode cX3_holds 19 = .ok (.ldc 143, 2) := by decide +kernel
theorem dX3_holds_21 : decode cX3_holds 21 = .ok (.invokespecial 80, 3) := by decide +kernel
theorem dX3_holds_24 : decode cX3_holds 24 = .ok (.athrow, 1) := by decide +kernel
theorem dX3_holds_25 : decode cX3_holds 25 = .ok (.aload_n 0, 1) := by decide +kernel
theorem dX3_holds_26 : decode cX3_holds 26 = .ok (.getfield 11, 3) := by decide +kernel
theorem dX3_holds_29 : decode cX3_holds 29 = .ok (.iload_n 1, 1) := by decide +kernel
theorem dX3_holds_30 : decode cX3_holds 30 = .ok (.aaload, 1) := by decide +kernel
theorem dX3_holds_31 : decode cX3_holds 31 = .ok (.iload_n 2, 1) := by decide +kernel
theorem dX3_holds_32 : decode cX3_holds 32 = .ok (.invokevirtual 145, 3) := by decide +kernel
theorem dX3_holds_35 : decode cX3_holds 35 = .ok (.ireturn, 1) := by decide +kernel
set_option maxRecDepth 20000 in
theorem ggX3_models_X3_checkSlot : GoodIn wsX3_models wsX3_checkSlot := goodIn_ca (goodIn_r _ [5, 6, 7] (by decide +kernel) (by decide +kernel)) (goodIn_sub (fun _ h => List.mem_cons_of_mem _ (List.mem_append_right _ h)) (by decide +kernel))
set_option maxRecDepth 20000 in
theorem gX3_models_X3_checkSlot : GoodIn wsX3_models (va_wsS RX3 53 yX3_checkSlot wsX3_checkSlot) := goodIn_app (goodIn_of _ (by decide +kernel)) ggX3_models_X3_checkSlot
set_option maxRecDepth 20000 in
theorem ggX3_models_X2_count : GoodIn wsX3_models wsX2_count := goodIn_r _ [12, 13, 14, 15, 16, 17, 18, 19, 20, 31] (by decide +kernel) (by decide +kernel)
set_option maxRecDepth 20000 in
theorem gX3_models_X2_count : GoodIn wsX3_models (wsV RX3 110 RX2 yX2_count wsX2_count) := goodIn_app (goodIn_of _ (by decide +kernel)) ggX3_models_X2_count
theorem dX3_models_0 : decode cX3_models 0 = .ok (.iload_n 1, 1) := by decide +kernel
theorem dX3_models_1 : decode cX3_models 1 = .ok (.invokestatic 53, 3) := by decide +kernel
theorem dX3_models_4 : decode cX3_models 4 = .ok (.aload_n 0, 1) := by decide +kernel
theorem dX3_models_5 : decode cX3_models 5 = .ok (.getfield 11, 3) := by decide +kernel
theorem dX3_models_8 : decode cX3_models 8 = .ok (.iload_n 1, 1) := by decide +kernel
theorem dX3_models_9 : decode cX3_models 9 = .ok (.aaload, 1) := by decide +kernel
theorem dX3_models_10 : decode cX3_models 10 = .ok (.invokevirtual 110, 3) := by decide +kernel
theorem dX3_models_13 : decode cX3_models 13 = .ok (.ireturn, 1) := by decide +kernel
set_option maxRecDepth 20000 in
theorem ggX3_model_X3_checkSlot : GoodIn wsX3_model wsX3_checkSlot := goodIn_ca (goodIn_r _ [7, 8, 9] (by decide +kernel) (by decide +kernel)) (goodIn_sub (fun _ h => List.mem_cons_of_mem _ (List.mem_append_right _ h)) (by decide +kernel))
set_option maxRecDepth 20000 in
theorem gX3_model_X3_checkSlot : GoodIn wsX3_model (va_wsS RX3 53 yX3_checkSlot wsX3_checkSlot) := goodIn_app (goodIn_of _ (by decide +kernel)) ggX3_model_X3_checkSlot
set_option maxRecDepth 20000 in
theorem ggX3_model_X2_nth : GoodIn wsX3_model wsX2_nth := goodIn_r _ [14, 15, 16, 17, 18, 19, 20, 21, 22, 23, 24, 13, 25, 26, 37] (by decide +kernel) (by decide +kernel)
set_option maxRecDepth 20000 in
theorem gX3_model_X2_nth : GoodIn wsX3_model (wsV RX3 151 RX2 yX2_nth wsX2_nth) := goodIn_app (goodIn_of _ (by decide +kernel)) ggX3_model_X2_nth
theorem dX3_model_0 : decode cX3_model 0 = .ok (.iload_n 1, 1) := by decide +kernel
theorem dX3_model_1 : decode cX3_model 1 = .ok (.invokestatic 53, 3) := by decide +kernel
theorem dX3_model_4 : decode cX3_model 4 = .ok (.iload_n 2, 1) := by decide +kernel
theorem dX3_model_5 : decode cX3_model 5 = .ok (.ifCond .ge 13, 3) := by decide +kernel
theorem dX3_model_8 : decode cX3_model 8 = .ok (.new 76, 3) := by decide +kernel
theorem dX3_model_11 : decode cX3_model 11 = .ok (.dup, 1) := by decide +kernel
theorem dX3_model_12 : decode cX3_model 12 = .ok (.ldc 149, 2) := by decide +kernel
theorem dX3_model_14 : decode cX3_model 14 = .ok (.invokespecial 80, 3) := by decide +kernel
theorem dX3_model_17 : decode cX3_model 17 = .ok (.athrow, 1) := by decide +kernel
theorem dX3_model_18 : decode cX3_model 18 = .ok (.aload_n 0, 1) := by decide +kernel
theorem dX3_model_19 : decode cX3_model 19 = .ok (.getfield 11, 3) := by decide +kernel
theorem dX3_model_22 : decode cX3_model 22 = .ok (.iload_n 1, 1) := by decide +kernel
theorem dX3_model_23 : decode cX3_model 23 = .ok (.aaload, 1) := by decide +kernel
theorem dX3_model_24 : decode cX3_model 24 = .ok (.iload_n 2, 1) := by decide +kernel
theorem dX3_model_25 : decode cX3_model 25 = .ok (.invokevirtual 151, 3) := by decide +kernel
theorem dX3_model_28 : decode cX3_model 28 = .ok (.ireturn, 1) := by decide +kernel
set_option maxRecDepth 20000 in
theorem ggX3_support_X3_checkSlot : GoodIn wsX3_support wsX3_checkSlot := goodIn_ca (goodIn_r _ [5, 6, 7] (by decide +kernel) (by decide +kernel)) (goodIn_sub (fun _ h => List.mem_cons_of_mem _ (List.mem_append_right _ h)) (by decide +kernel))
set_option maxRecDepth 20000 in
theorem gX3_support_X3_checkSlot : GoodIn wsX3_support (va_wsS RX3 53 yX3_checkSlot wsX3_checkSlot) := goodIn_app (goodIn_of _ (by decide +kernel)) ggX3_support_X3_checkSlot
theorem dX3_support_0 : decode cX3_support 0 = .ok (.iload_n 1, 1) := by decide +kernel
theorem dX3_support_1 : decode cX3_support 1 = .ok (.invokestatic 53, 3) := by decide +kernel
theorem dX3_support_4 : decode cX3_support 4 = .ok (.aload_n 0, 1) := by decide +kernel
theorem dX3_support_5 : decode cX3_support 5 = .ok (.getfield 15, 3) := by decide +kernel
theorem dX3_support_8 : decode cX3_support 8 = .ok (.iload_n 1, 1) := by decide +kernel
theorem dX3_support_9 : decode cX3_support 9 = .ok (.iaload, 1) := by decide +kernel
theorem dX3_support_10 : decode cX3_support 10 = .ok (.ireturn, 1) := by decide +kernel
set_option maxRecDepth 20000 in
theorem ggX3_compare_X3_checkSlot : GoodIn wsX3_compare wsX3_checkSlot := goodIn_ca (goodIn_r _ [7, 8, 9] (by decide +kernel) (by decide +kernel)) (goodIn_sub (fun _ h => List.mem_cons_of_mem _ (List.mem_append_right _ h)) (by decide +kernel))
set_option maxRecDepth 20000 in
theorem gX3_compare_X3_checkSlot : GoodIn wsX3_compare (va_wsS RX3 53 yX3_checkSlot wsX3_checkSlot) := goodIn_app (goodIn_of _ (by decide +kernel)) ggX3_compare_X3_checkSlot
theorem dX3_compare_0 : decode cX3_compare 0 = .ok (.iload_n 1, 1) := by decide +kernel
theorem dX3_compare_1 : decode cX3_compare 1 = .ok (.invokestatic 53, 3) := by decide +kernel
theorem dX3_compare_4 : decode cX3_compare 4 = .ok (.iload_n 2, 1) := by decide +kernel
theorem dX3_compare_5 : decode cX3_compare 5 = .ok (.invokestatic 53, 3) := by decide +kernel
theorem dX3_compare_8 : decode cX3_compare 8 = .ok (.aload_n 0, 1) := by decide +kernel
theorem dX3_compare_9 : decode cX3_compare 9 = .ok (.getfield 11, 3) := by decide +kernel
theorem dX3_compare_12 : decode cX3_compare 12 = .ok (.iload_n 1, 1) := by decide +kernel
theorem dX3_compare_13 : decode cX3_compare 13 = .ok (.aaload, 1) := by decide +kernel
theorem dX3_compare_14 : decode cX3_compare 14 = .ok (.getfield 68, 3) := by decide +kernel
theorem dX3_compare_17 : decode cX3_compare 17 = .ok (.astore_n 3, 1) := by decide +kernel
theorem dX3_compare_18 : decode cX3_compare 18 = .ok (.aload_n 0, 1) := by decide +kernel
theorem dX3_compare_19 : decode cX3_compare 19 = .ok (.getfield 11, 3) := by decide +kernel
theorem dX3_compare_22 : decode cX3_compare 22 = .ok (.iload_n 2, 1) := by decide +kernel
theorem dX3_compare_23 : decode cX3_compare 23 = .ok (.aaload, 1) := by decide +kernel
theorem dX3_compare_24 : decode cX3_compare 24 = .ok (.getfield 68, 3) := by decide +kernel
theorem dX3_compare_27 : decode cX3_compare 27 = .ok (.astore 4, 2) := by decide +kernel
theorem dX3_compare_29 : decode cX3_compare 29 = .ok (.lconst 0, 1) := by decide +kernel
theorem dX3_compare_30 : decode cX3_compare 30 = .ok (.lstore 5, 2) := by decide +kernel
theorem dX3_compare_32 : decode cX3_compare 32 = .ok (.lconst 0, 1) := by decide +kernel
theorem dX3_compare_33 : decode cX3_compare 33 = .ok (.lstore 7, 2) := by decide +kernel
theorem dX3_compare_35 : decode cX3_compare 35 = .ok (.lconst 0, 1) := by decide +kernel
theorem dX3_compare_36 : decode cX3_compare 36 = .ok (.lstore 9, 2) := by decide +kernel
theorem dX3_compare_38 : decode cX3_compare 38 = .ok (.iconst 0, 1) := by decide +kernel
theorem dX3_compare_39 : decode cX3_compare 39 = .ok (.istore 11, 2) := by decide +kernel
theorem dX3_compare_41 : decode cX3_compare 41 = .ok (.iload 11, 2) := by decide +kernel
theorem dX3_compare_43 : decode cX3_compare 43 = .ok (.bipush 16, 2) := by decide +kernel
theorem dX3_compare_45 : decode cX3_compare 45 = .ok (.if_icmp .ge 62, 3) := by decide +kernel
theorem dX3_compare_48 : decode cX3_compare 48 = .ok (.lload 5, 2) := by decide +kernel
theorem dX3_compare_50 : decode cX3_compare 50 = .ok (.aload_n 3, 1) := by decide +kernel
theorem dX3_compare_51 : decode cX3_compare 51 = .ok (.iload 11, 2) := by decide +kernel
theorem dX3_compare_53 : decode cX3_compare 53 = .ok (.laload, 1) := by decide +kernel
theorem dX3_compare_54 : decode cX3_compare 54 = .ok (.aload 4, 2) := by decide +kernel
theorem dX3_compare_56 : decode cX3_compare 56 = .ok (.iload 11, 2) := by decide +kernel
theorem dX3_compare_58 : decode cX3_compare 58 = .ok (.laload, 1) := by decide +kernel
theorem dX3_compare_59 : decode cX3_compare 59 = .ok (.ldc2_w 87, 3) := by decide +kernel
theorem dX3_compare_62 : decode cX3_compare 62 = .ok (.lxor, 1) := by decide +kernel
theorem dX3_compare_63 : decode cX3_compare 63 = .ok (.land, 1) := by decide +kernel
theorem dX3_compare_64 : decode cX3_compare 64 = .ok (.lor, 1) := by decide +kernel
theorem dX3_compare_65 : decode cX3_compare 65 = .ok (.lstore 5, 2) := by decide +kernel
theorem dX3_compare_67 : decode cX3_compare 67 = .ok (.lload 7, 2) := by decide +kernel
theorem dX3_compare_69 : decode cX3_compare 69 = .ok (.aload 4, 2) := by decide +kernel
theorem dX3_compare_71 : decode cX3_compare 71 = .ok (.iload 11, 2) := by decide +kernel
theorem dX3_compare_73 : decode cX3_compare 73 = .ok (.laload, 1) := by decide +kernel
theorem dX3_compare_74 : decode cX3_compare 74 = .ok (.aload_n 3, 1) := by decide +kernel
theorem dX3_compare_75 : decode cX3_compare 75 = .ok (.iload 11, 2) := by decide +kernel
theorem dX3_compare_77 : decode cX3_compare 77 = .ok (.laload, 1) := by decide +kernel
theorem dX3_compare_78 : decode cX3_compare 78 = .ok (.ldc2_w 87, 3) := by decide +kernel
theorem dX3_compare_81 : decode cX3_compare 81 = .ok (.lxor, 1) := by decide +kernel
theorem dX3_compare_82 : decode cX3_compare 82 = .ok (.land, 1) := by decide +kernel
theorem dX3_compare_83 : decode cX3_compare 83 = .ok (.lor, 1) := by decide +kernel
theorem dX3_compare_84 : decode cX3_compare 84 = .ok (.lstore 7, 2) := by decide +kernel
theorem dX3_compare_86 : decode cX3_compare 86 = .ok (.lload 9, 2) := by decide +kernel
theorem dX3_compare_88 : decode cX3_compare 88 = .ok (.aload_n 3, 1) := by decide +kernel
theorem dX3_compare_89 : decode cX3_compare 89 = .ok (.iload 11, 2) := by decide +kernel
theorem dX3_compare_91 : decode cX3_compare 91 = .ok (.laload, 1) := by decide +kernel
theorem dX3_compare_92 : decode cX3_compare 92 = .ok (.aload 4, 2) := by decide +kernel
theorem dX3_compare_94 : decode cX3_compare 94 = .ok (.iload 11, 2) := by decide +kernel
theorem dX3_compare_96 : decode cX3_compare 96 = .ok (.laload, 1) := by decide +kernel
theorem dX3_compare_97 : decode cX3_compare 97 = .ok (.land, 1) := by decide +kernel
theorem dX3_compare_98 : decode cX3_compare 98 = .ok (.lor, 1) := by decide +kernel
theorem dX3_compare_99 : decode cX3_compare 99 = .ok (.lstore 9, 2) := by decide +kernel
theorem dX3_compare_101 : decode cX3_compare 101 = .ok (.iinc 11 1, 3) := by decide +kernel
theorem dX3_compare_104 : decode cX3_compare 104 = .ok (.goto (-63), 3) := by decide +kernel
theorem dX3_compare_107 : decode cX3_compare 107 = .ok (.lload 5, 2) := by decide +kernel
theorem dX3_compare_109 : decode cX3_compare 109 = .ok (.lconst 0, 1) := by decide +kernel
theorem dX3_compare_110 : decode cX3_compare 110 = .ok (.lcmp, 1) := by decide +kernel
theorem dX3_compare_111 : decode cX3_compare 111 = .ok (.ifCond .ne 16, 3) := by decide +kernel
theorem dX3_compare_114 : decode cX3_compare 114 = .ok (.lload 7, 2) := by decide +kernel
theorem dX3_compare_116 : decode cX3_compare 116 = .ok (.lconst 0, 1) := by decide +kernel
theorem dX3_compare_117 : decode cX3_compare 117 = .ok (.lcmp, 1) := by decide +kernel
theorem dX3_compare_118 : decode cX3_compare 118 = .ok (.ifCond .ne 7, 3) := by decide +kernel
theorem dX3_compare_121 : decode cX3_compare 121 = .ok (.iconst 0, 1) := by decide +kernel
theorem dX3_compare_122 : decode cX3_compare 122 = .ok (.goto 4, 3) := by decide +kernel
theorem dX3_compare_125 : decode cX3_compare 125 = .ok (.iconst 1, 1) := by decide +kernel
theorem dX3_compare_126 : decode cX3_compare 126 = .ok (.ireturn, 1) := by decide +kernel
theorem dX3_compare_127 : decode cX3_compare 127 = .ok (.lload 7, 2) := by decide +kernel
theorem dX3_compare_129 : decode cX3_compare 129 = .ok (.lconst 0, 1) := by decide +kernel
theorem dX3_compare_130 : decode cX3_compare 130 = .ok (.lcmp, 1) := by decide +kernel
theorem dX3_compare_131 : decode cX3_compare 131 = .ok (.ifCond .ne 5, 3) := by decide +kernel
theorem dX3_compare_134 : decode cX3_compare 134 = .ok (.iconst 2, 1) := by decide +kernel
theorem dX3_compare_135 : decode cX3_compare 135 = .ok (.ireturn, 1) := by decide +kernel
theorem dX3_compare_136 : decode cX3_compare 136 = .ok (.lload 9, 2) := by decide +kernel
theorem dX3_compare_138 : decode cX3_compare 138 = .ok (.lconst 0, 1) := by decide +kernel
theorem dX3_compare_139 : decode cX3_compare 139 = .ok (.lcmp, 1) := by decide +kernel
theorem dX3_compare_140 : decode cX3_compare 140 = .ok (.ifCond .ne 7, 3) := by decide +kernel
theorem dX3_compare_143 : decode cX3_compare 143 = .ok (.iconst 3, 1) := by decide +kernel
theorem dX3_compare_144 : decode cX3_compare 144 = .ok (.goto 4, 3) := by decide +kernel
theorem dX3_compare_147 : decode cX3_compare 147 = .ok (.iconst 4, 1) := by decide +kernel
theorem dX3_compare_148 : decode cX3_compare 148 = .ok (.ireturn, 1) := by decide +kernel
set_option maxRecDepth 20000 in
theorem ggX3_trend_X3_checkSlot : GoodIn wsX3_trend wsX3_checkSlot := goodIn_ca (goodIn_r _ [6, 7, 8] (by decide +kernel) (by decide +kernel)) (goodIn_sub (fun _ h => List.mem_cons_of_mem _ (List.mem_append_right _ h)) (by decide +kernel))
set_option maxRecDepth 20000 in
theorem gX3_trend_X3_checkSlot : GoodIn wsX3_trend (va_wsS RX3 53 yX3_checkSlot wsX3_checkSlot) := goodIn_app (goodIn_of _ (by decide +kernel)) ggX3_trend_X3_checkSlot
set_option maxRecDepth 20000 in
theorem ggX3_trend_X3_checkVariable : GoodIn wsX3_trend wsX3_checkVariable := goodIn_ca (goodIn_r _ [11, 7, 8] (by decide +kernel) (by decide +kernel)) (goodIn_sub (fun _ h => List.mem_cons_of_mem _ (List.mem_append_right _ h)) (by decide +kernel))
set_option maxRecDepth 20000 in
theorem gX3_trend_X3_checkVariable : GoodIn wsX3_trend (va_wsS RX3 65 yX3_checkVariable wsX3_checkVariable) := goodIn_app (goodIn_of _ (by decide +kernel)) ggX3_trend_X3_checkVariable
set_option maxRecDepth 20000 in
theorem ggX3_trend_X2_wordWith : GoodIn wsX3_trend wsX2_wordWith := goodIn_r _ [16, 17, 18, 19, 20, 15, 21, 22, 23, 24, 25, 26, 37] (by decide +kernel) (by decide +kernel)
set_option maxRecDepth 20000 in
theorem gX3_trend_X2_wordWith : GoodIn wsX3_trend (wsV RX3 89 RX2 yX2_wordWith wsX2_wordWith) := goodIn_app (goodIn_of _ (by decide +kernel)) ggX3_trend_X2_wordWith
theorem dX3_trend_0 : decode cX3_trend 0 = .ok (.iload_n 1, 1) := by decide +kernel
theorem dX3_trend_1 : decode cX3_trend 1 = .ok (.invokestatic 53, 3) := by decide +kernel
theorem dX3_trend_4 : decode cX3_trend 4 = .ok (.iload_n 2, 1) := by decide +kernel
theorem dX3_trend_5 : decode cX3_trend 5 = .ok (.invokestatic 65, 3) := by decide +kernel
theorem dX3_trend_8 : decode cX3_trend 8 = .ok (.aload_n 0, 1) := by decide +kernel
theorem dX3_trend_9 : decode cX3_trend 9 = .ok (.getfield 11, 3) := by decide +kernel
theorem dX3_trend_12 : decode cX3_trend 12 = .ok (.iload_n 1, 1) := by decide +kernel
theorem dX3_trend_13 : decode cX3_trend 13 = .ok (.aaload, 1) := by decide +kernel
theorem dX3_trend_14 : decode cX3_trend 14 = .ok (.astore_n 3, 1) := by decide +kernel
theorem dX3_trend_15 : decode cX3_trend 15 = .ok (.lconst 0, 1) := by decide +kernel
theorem dX3_trend_16 : decode cX3_trend 16 = .ok (.lstore 4, 2) := by decide +kernel
theorem dX3_trend_18 : decode cX3_trend 18 = .ok (.lconst 0, 1) := by decide +kernel
theorem dX3_trend_19 : decode cX3_trend 19 = .ok (.lstore 6, 2) := by decide +kernel
theorem dX3_trend_21 : decode cX3_trend 21 = .ok (.iconst 0, 1) := by decide +kernel
theorem dX3_trend_22 : decode cX3_trend 22 = .ok (.istore 8, 2) := by decide +kernel
theorem dX3_trend_24 : decode cX3_trend 24 = .ok (.iload 8, 2) := by decide +kernel
theorem dX3_trend_26 : decode cX3_trend 26 = .ok (.bipush 16, 2) := by decide +kernel
theorem dX3_trend_28 : decode cX3_trend 28 = .ok (.if_icmp .ge 57, 3) := by decide +kernel
theorem dX3_trend_31 : decode cX3_trend 31 = .ok (.aload_n 3, 1) := by decide +kernel
theorem dX3_trend_32 : decode cX3_trend 32 = .ok (.iload_n 2, 1) := by decide +kernel
theorem dX3_trend_33 : decode cX3_trend 33 = .ok (.iconst 0, 1) := by decide +kernel
theorem dX3_trend_34 : decode cX3_trend 34 = .ok (.iload 8, 2) := by decide +kernel
theorem dX3_trend_36 : decode cX3_trend 36 = .ok (.invokevirtual 89, 3) := by decide +kernel
theorem dX3_trend_39 : decode cX3_trend 39 = .ok (.lstore 9, 2) := by decide +kernel
theorem dX3_trend_41 : decode cX3_trend 41 = .ok (.aload_n 3, 1) := by decide +kernel
theorem dX3_trend_42 : decode cX3_trend 42 = .ok (.iload_n 2, 1) := by decide +kernel
theorem dX3_trend_43 : decode cX3_trend 43 = .ok (.iconst 1, 1) := by decide +kernel
theorem dX3_trend_44 : decode cX3_trend 44 = .ok (.iload 8, 2) := by decide +kernel
theorem dX3_trend_46 : decode cX3_trend 46 = .ok (.invokevirtual 89, 3) := by decide +kernel
theorem dX3_trend_49 : decode cX3_trend 49 = .ok (.lstore 11, 2) := by decide +kernel
theorem dX3_trend_51 : decode cX3_trend 51 = .ok (.lload 4, 2) := by decide +kernel
theorem dX3_trend_53 : decode cX3_trend 53 = .ok (.lload 9, 2) := by decide +kernel
theorem dX3_trend_55 : decode cX3_trend 55 = .ok (.ldc2_w 87, 3) := by decide +kernel
theorem dX3_trend_58 : decode cX3_trend 58 = .ok (.lxor, 1) := by decide +kernel
theorem dX3_trend_59 : decode cX3_trend 59 = .ok (.lload 11, 2) := by decide +kernel
theorem dX3_trend_61 : decode cX3_trend 61 = .ok (.land, 1) := by decide +kernel
theorem dX3_trend_62 : decode cX3_trend 62 = .ok (.lor, 1) := by decide +kernel
theorem dX3_trend_63 : decode cX3_trend 63 = .ok (.lstore 4, 2) := by decide +kernel
theorem dX3_trend_65 : decode cX3_trend 65 = .ok (.lload 6, 2) := by decide +kernel
theorem dX3_trend_67 : decode cX3_trend 67 = .ok (.lload 9, 2) := by decide +kernel
theorem dX3_trend_69 : decode cX3_trend 69 = .ok (.lload 11, 2) := by decide +kernel
theorem dX3_trend_71 : decode cX3_trend 71 = .ok (.ldc2_w 87, 3) := by decide +kernel
theorem dX3_trend_74 : decode cX3_trend 74 = .ok (.lxor, 1) := by decide +kernel
theorem dX3_trend_75 : decode cX3_trend 75 = .ok (.land, 1) := by decide +kernel
theorem dX3_trend_76 : decode cX3_trend 76 = .ok (.lor, 1) := by decide +kernel
theorem dX3_trend_77 : decode cX3_trend 77 = .ok (.lstore 6, 2) := by decide +kernel
theorem dX3_trend_79 : decode cX3_trend 79 = .ok (.iinc 8 1, 3) := by decide +kernel
theorem dX3_trend_82 : decode cX3_trend 82 = .ok (.goto (-58), 3) := by decide +kernel
theorem dX3_trend_85 : decode cX3_trend 85 = .ok (.lload 4, 2) := by decide +kernel
theorem dX3_trend_87 : decode cX3_trend 87 = .ok (.lconst 0, 1) := by decide +kernel
theorem dX3_trend_88 : decode cX3_trend 88 = .ok (.lcmp, 1) := by decide +kernel
theorem dX3_trend_89 : decode cX3_trend 89 = .ok (.ifCond .eq 7, 3) := by decide +kernel
theorem dX3_trend_92 : decode cX3_trend 92 = .ok (.iconst 1, 1) := by decide +kernel
theorem dX3_trend_93 : decode cX3_trend 93 = .ok (.goto 4, 3) := by decide +kernel
theorem dX3_trend_96 : decode cX3_trend 96 = .ok (.iconst 0, 1) := by decide +kernel
theorem dX3_trend_97 : decode cX3_trend 97 = .ok (.lload 6, 2) := by decide +kernel
theorem dX3_trend_99 : decode cX3_trend 99 = .ok (.lconst 0, 1) := by decide +kernel
theorem dX3_trend_100 : decode cX3_trend 100 = .ok (.lcmp, 1) := by decide +kernel
theorem dX3_trend_101 : decode cX3_trend 101 = .ok (.ifCond .eq 7, 3) := by decide +kernel
theorem dX3_trend_104 : decode cX3_trend 104 = .ok (.iconst 2, 1) := by decide +kernel
theorem dX3_trend_105 : decode cX3_trend 105 = .ok (.goto 4, 3) := by decide +kernel
theorem dX3_trend_108 : decode cX3_trend 108 = .ok (.iconst 0, 1) := by decide +kernel
theorem dX3_trend_109 : decode cX3_trend 109 = .ok (.iadd, 1) := by decide +kernel
theorem dX3_trend_110 : decode cX3_trend 110 = .ok (.ireturn, 1) := by decide +kernel
set_option maxRecDepth 20000 in
theorem ggX3_influence_X3_checkSlot : GoodIn wsX3_influence wsX3_checkSlot := goodIn_ca (goodIn_r _ [5, 6, 7] (by decide +kernel) (by decide +kernel)) (goodIn_sub (fun _ h => List.mem_cons_of_mem _ (List.mem_append_right _ h)) (by decide +kernel))
set_option maxRecDepth 20000 in
theorem gX3_influence_X3_checkSlot : GoodIn wsX3_influence (va_wsS RX3 53 yX3_checkSlot wsX3_checkSlot) := goodIn_app (goodIn_of _ (by decide +kernel)) ggX3_influence_X3_checkSlot
set_option maxRecDepth 20000 in
theorem ggX3_influence_X3_checkVariable : GoodIn wsX3_influence wsX3_checkVariable := goodIn_ca (goodIn_r _ [10, 6, 7] (by decide +kernel) (by decide +kernel)) (goodIn_sub (fun _ h => List.mem_cons_of_mem _ (List.mem_append_right _ h)) (by decide +kernel))
set_option maxRecDepth 20000 in
theorem gX3_influence_X3_checkVariable : GoodIn wsX3_influence (va_wsS RX3 65 yX3_checkVariable wsX3_checkVariable) := goodIn_app (goodIn_of _ (by decide +kernel)) ggX3_influence_X3_checkVariable
set_option maxRecDepth 20000 in
theorem ggX3_influence_X2_changes : GoodIn wsX3_influence wsX2_changes := goodIn_r _ [15, 16, 17, 18, 19, 14, 20, 21, 22, 23, 24, 25, 26, 27, 28, 39] (by decide +kernel) (by decide +kernel)
set_option maxRecDepth 20000 in
theorem gX3_influence_X2_changes : GoodIn wsX3_influence (wsV RX3 158 RX2 yX2_changes wsX2_changes) := goodIn_app (goodIn_of _ (by decide +kernel)) ggX3_influence_X2_changes
theorem dX3_influence_0 : decode cX3_influence 0 = .ok (.iload_n 1, 1) := by decide +kernel
theorem dX3_influence_1 : decode cX3_influence 1 = .ok (.invokestatic 53, 3) := by decide +kernel
theorem dX3_influence_4 : decode cX3_influence 4 = .ok (.iload_n 2, 1) := by decide +kernel
theorem dX3_influence_5 : decode cX3_influence 5 = .ok (.invokestatic 65, 3) := by decide +kernel
theorem dX3_influence_8 : decode cX3_influence 8 = .ok (.aload_n 0, 1) := by decide +kernel
theorem dX3_influence_9 : decode cX3_influence 9 = .ok (.getfield 11, 3) := by decide +kernel
theorem dX3_influence_12 : decode cX3_influence 12 = .ok (.iload_n 1, 1) := by decide +kernel
theorem dX3_influence_13 : decode cX3_influence 13 = .ok (.aaload, 1) := by decide +kernel
theorem dX3_influence_14 : decode cX3_influence 14 = .ok (.iload_n 2, 1) := by decide +kernel
theorem dX3_influence_15 : decode cX3_influence 15 = .ok (.invokevirtual 158, 3) := by decide +kernel
theorem dX3_influence_18 : decode cX3_influence 18 = .ok (.ireturn, 1) := by decide +kernel
set_option maxRecDepth 20000 in
theorem ggX3_cheapest_X3_checkSlot : GoodIn wsX3_cheapest wsX3_checkSlot := goodIn_ca (goodIn_r _ [6, 7, 8] (by decide +kernel) (by decide +kernel)) (goodIn_sub (fun _ h => List.mem_cons_of_mem _ (List.mem_append_right _ h)) (by decide +kernel))
set_option maxRecDepth 20000 in
theorem gX3_cheapest_X3_checkSlot : GoodIn wsX3_cheapest (va_wsS RX3 53 yX3_checkSlot wsX3_checkSlot) := goodIn_app (goodIn_of _ (by decide +kernel)) ggX3_cheapest_X3_checkSlot
set_option maxRecDepth 20000 in
theorem ggX3_cheapest_X2_tells : GoodIn wsX3_cheapest wsX2_tells := goodIn_r _ [13, 14, 25] (by decide +kernel) (by decide +kernel)
set_option maxRecDepth 20000 in
theorem gX3_cheapest_X2_tells : GoodIn wsX3_cheapest (wsV RX3 145 RX2 yX2_tells wsX2_tells) := goodIn_app (goodIn_of _ (by decide +kernel)) ggX3_cheapest_X2_tells
theorem dX3_cheapest_0 : decode cX3_cheapest 0 = .ok (.iload_n 1, 1) := by decide +kernel
theorem dX3_cheapest_1 : decode cX3_cheapest 1 = .ok (.invokestatic 53, 3) := by decide +kernel
theorem dX3_cheapest_4 : decode cX3_cheapest 4 = .ok (.aload_n 0, 1) := by decide +kernel
theorem dX3_cheapest_5 : decode cX3_cheapest 5 = .ok (.getfield 11, 3) := by decide +kernel
theorem dX3_cheapest_8 : decode cX3_cheapest 8 = .ok (.iload_n 1, 1) := by decide +kernel
theorem dX3_cheapest_9 : decode cX3_cheapest 9 = .ok (.aaload, 1) := by decide +kernel
theorem dX3_cheapest_10 : decode cX3_cheapest 10 = .ok (.astore_n 2, 1) := by decide +kernel
theorem dX3_cheapest_11 : decode cX3_cheapest 11 = .ok (.iconst (-1), 1) := by decide +kernel
theorem dX3_cheapest_12 : decode cX3_cheapest 12 = .ok (.istore_n 3, 1) := by decide +kernel
theorem dX3_cheapest_13 : decode cX3_cheapest 13 = .ok (.sipush 991, 3) := by decide +kernel
theorem dX3_cheapest_16 : decode cX3_cheapest 16 = .ok (.istore 4, 2) := by decide +kernel
theorem dX3_cheapest_18 : decode cX3_cheapest 18 = .ok (.iconst 0, 1) := by decide +kernel
theorem dX3_cheapest_19 : decode cX3_cheapest 19 = .ok (.istore 5, 2) := by decide +kernel
theorem dX3_cheapest_21 : decode cX3_cheapest 21 = .ok (.iload 5, 2) := by decide +kernel
theorem dX3_cheapest_23 : decode cX3_cheapest 23 = .ok (.sipush 1024, 3) := by decide +kernel
theorem dX3_cheapest_26 : decode cX3_cheapest 26 = .ok (.if_icmp .ge 42, 3) := by decide +kernel
theorem dX3_cheapest_29 : decode cX3_cheapest 29 = .ok (.aload_n 0, 1) := by decide +kernel
theorem dX3_cheapest_30 : decode cX3_cheapest 30 = .ok (.getfield 47, 3) := by decide +kernel
theorem dX3_cheapest_33 : decode cX3_cheapest 33 = .ok (.iload 5, 2) := by decide +kernel
theorem dX3_cheapest_35 : decode cX3_cheapest 35 = .ok (.iaload, 1) := by decide +kernel
theorem dX3_cheapest_36 : decode cX3_cheapest 36 = .ok (.iload 4, 2) := by decide +kernel
theorem dX3_cheapest_38 : decode cX3_cheapest 38 = .ok (.if_icmp .ge 24, 3) := by decide +kernel
theorem dX3_cheapest_41 : decode cX3_cheapest 41 = .ok (.aload_n 2, 1) := by decide +kernel
theorem dX3_cheapest_42 : decode cX3_cheapest 42 = .ok (.iload 5, 2) := by decide +kernel
theorem dX3_cheapest_44 : decode cX3_cheapest 44 = .ok (.invokevirtual 145, 3) := by decide +kernel
theorem dX3_cheapest_47 : decode cX3_cheapest 47 = .ok (.ifCond .eq 15, 3) := by decide +kernel
theorem dX3_cheapest_50 : decode cX3_cheapest 50 = .ok (.aload_n 0, 1) := by decide +kernel
theorem dX3_cheapest_51 : decode cX3_cheapest 51 = .ok (.getfield 47, 3) := by decide +kernel
theorem dX3_cheapest_54 : decode cX3_cheapest 54 = .ok (.iload 5, 2) := by decide +kernel
theorem dX3_cheapest_56 : decode cX3_cheapest 56 = .ok (.iaload, 1) := by decide +kernel
theorem dX3_cheapest_57 : decode cX3_cheapest 57 = .ok (.istore 4, 2) := by decide +kernel
theorem dX3_cheapest_59 : decode cX3_cheapest 59 = .ok (.iload 5, 2) := by decide +kernel
theorem dX3_cheapest_61 : decode cX3_cheapest 61 = .ok (.istore_n 3, 1) := by decide +kernel
theorem dX3_cheapest_62 : decode cX3_cheapest 62 = .ok (.iinc 5 1, 3) := by decide +kernel
theorem dX3_cheapest_65 : decode cX3_cheapest 65 = .ok (.goto (-44), 3) := by decide +kernel
theorem dX3_cheapest_68 : decode cX3_cheapest 68 = .ok (.iload_n 3, 1) := by decide +kernel
theorem dX3_cheapest_69 : decode cX3_cheapest 69 = .ok (.ireturn, 1) := by decide +kernel
set_option maxRecDepth 20000 in
theorem ggX3_size_X3_checkSlot : GoodIn wsX3_size wsX3_checkSlot := goodIn_ca (goodIn_r _ [5, 6, 7] (by decide +kernel) (by decide +kernel)) (goodIn_sub (fun _ h => List.mem_cons_of_mem _ (List.mem_append_right _ h)) (by decide +kernel))
set_option maxRecDepth 20000 in
theorem gX3_size_X3_checkSlot : GoodIn wsX3_size (va_wsS RX3 53 yX3_checkSlot wsX3_checkSlot) := goodIn_app (goodIn_of _ (by decide +kernel)) ggX3_size_X3_checkSlot
set_option maxRecDepth 20000 in
theorem ggX3_size_X0_countFrom : GoodIn wsX3_size wsX0_countFrom := goodIn_r _ [12, 13, 14, 15, 16, 17, 11, 18, 19, 20, 21, 22, 23, 24, 25, 36, 37, 38, 39, 40, 41, 42, 43, 44, 45, 46, 47, 48, 49, 50, 51, 52] (by decide +kernel) (by decide +kernel)
set_option maxRecDepth 20000 in
theorem gX3_size_X0_countFrom : GoodIn wsX3_size (wsV RX3 163 RX0 yX0_countFrom wsX0_countFrom) := goodIn_app (goodIn_of _ (by decide +kernel)) ggX3_size_X0_countFrom
theorem dX3_size_0 : decode cX3_size 0 = .ok (.iload_n 1, 1) := by decide +kernel
theorem dX3_size_1 : decode cX3_size 1 = .ok (.invokestatic 53, 3) := by decide +kernel
theorem dX3_size_4 : decode cX3_size 4 = .ok (.aload_n 0, 1) := by decide +kernel
