theorem dX2_packed_18 : decode cX2_packed 18 = .ok (.invokevirtual 55, 3) := by decide +kernel
theorem dX2_packed_21 : decode cX2_packed 21 = .ok (.ifCond .eq 10, 3) := by decide +kernel
theorem dX2_packed_24 : decode cX2_packed 24 = .ok (.lload_n 2, 1) := by decide +kernel
theorem dX2_packed_25 : decode cX2_packed 25 = .ok (.lconst 1, 1) := by decide +kernel
theorem dX2_packed_26 : decode cX2_packed 26 = .ok (.iload 5, 2) := by decide +kernel
theorem dX2_packed_28 : decode cX2_packed 28 = .ok (.lshl, 1) := by decide +kernel
theorem dX2_packed_29 : decode cX2_packed 29 = .ok (.lor, 1) := by decide +kernel
theorem dX2_packed_30 : decode cX2_packed 30 = .ok (.lstore_n 2, 1) := by decide +kernel
theorem dX2_packed_31 : decode cX2_packed 31 = .ok (.iload 4, 2) := by decide +kernel
theorem dX2_packed_33 : decode cX2_packed 33 = .ok (.iload_n 1, 1) := by decide +kernel
theorem dX2_packed_34 : decode cX2_packed 34 = .ok (.isub, 1) := by decide +kernel
theorem dX2_packed_35 : decode cX2_packed 35 = .ok (.iload_n 1, 1) := by decide +kernel
theorem dX2_packed_36 : decode cX2_packed 36 = .ok (.iand, 1) := by decide +kernel
theorem dX2_packed_37 : decode cX2_packed 37 = .ok (.istore 4, 2) := by decide +kernel
theorem dX2_packed_39 : decode cX2_packed 39 = .ok (.iinc 5 1, 3) := by decide +kernel
theorem dX2_packed_42 : decode cX2_packed 42 = .ok (.goto (-34), 3) := by decide +kernel
theorem dX2_packed_45 : decode cX2_packed 45 = .ok (.lload_n 2, 1) := by decide +kernel
theorem dX2_packed_46 : decode cX2_packed 46 = .ok (.lreturn, 1) := by decide +kernel
set_option maxRecDepth 20000 in
theorem ggX3_init_X0_init : GoodIn wsX3_init wsX0_init := goodIn_r _ [26, 27, 2, 3, 6, 28, 29, 30, 31, 32, 33, 34, 35, 36, 37, 38, 39, 40, 41, 65, 66, 67, 68, 69, 70, 71, 72, 73, 74, 75, 76, 77, 78, 79, 80, 81] (by decide +kernel) (by decide +kernel)
set_option maxRecDepth 20000 in
theorem gX3_init_X0_init : GoodIn wsX3_init (wsX0_init) := ggX3_init_X0_init
set_option maxRecDepth 20000 in
theorem ggX3_init_X1_init : GoodIn wsX3_init wsX1_init := goodIn_r _ [44, 45, 2, 3, 6, 46, 47, 48, 49, 82, 83, 84] (by decide +kernel) (by decide +kernel)
set_option maxRecDepth 20000 in
theorem gX3_init_X1_init : GoodIn wsX3_init (wsX1_init) := ggX3_init_X1_init
set_option maxRecDepth 20000 in
theorem ggX3_init_X2_init : GoodIn wsX3_init wsX2_init := goodIn_r _ [52, 53, 2, 3, 47, 54, 85] (by decide +kernel) (by decide +kernel)
set_option maxRecDepth 20000 in
theorem gX3_init_X2_init : GoodIn wsX3_init (wsX2_init) := ggX3_init_X2_init
theorem dX3_init_0 : decode cX3_init 0 = .ok (.aload_n 0, 1) := by decide +kernel
theorem dX3_init_1 : decode cX3_init 1 = .ok (.invokespecial 3, 3) := by decide +kernel
theorem dX3_init_4 : decode cX3_init 4 = .ok (.aload_n 0, 1) := by decide +kernel
theorem dX3_init_5 : decode cX3_init 5 = .ok (.bipush 12, 2) := by decide +kernel
theorem dX3_init_7 : decode cX3_init 7 = .ok (.anewarray 9, 3) := by decide +kernel
theorem dX3_init_10 : decode cX3_init 10 = .ok (.putfield 11, 3) := by decide +kernel
theorem dX3_init_13 : decode cX3_init 13 = .ok (.aload_n 0, 1) := by decide +kernel
theorem dX3_init_14 : decode cX3_init 14 = .ok (.bipush 12, 2) := by decide +kernel
theorem dX3_init_16 : decode cX3_init 16 = .ok (.newarray .int, 2) := by decide +kernel
theorem dX3_init_18 : decode cX3_init 18 = .ok (.putfield 15, 3) := by decide +kernel
theorem dX3_init_21 : decode cX3_init 21 = .ok (.aload_n 0, 1) := by decide +kernel
theorem dX3_init_22 : decode cX3_init 22 = .ok (.new 19, 3) := by decide +kernel
theorem dX3_init_25 : decode cX3_init 25 = .ok (.dup, 1) := by decide +kernel
theorem dX3_init_26 : decode cX3_init 26 = .ok (.invokespecial 21, 3) := by decide +kernel
theorem dX3_init_29 : decode cX3_init 29 = .ok (.putfield 22, 3) := by decide +kernel
theorem dX3_init_32 : decode cX3_init 32 = .ok (.aload_n 0, 1) := by decide +kernel
theorem dX3_init_33 : decode cX3_init 33 = .ok (.new 26, 3) := by decide +kernel
theorem dX3_init_36 : decode cX3_init 36 = .ok (.dup, 1) := by decide +kernel
theorem dX3_init_37 : decode cX3_init 37 = .ok (.invokespecial 28, 3) := by decide +kernel
theorem dX3_init_40 : decode cX3_init 40 = .ok (.putfield 29, 3) := by decide +kernel
theorem dX3_init_43 : decode cX3_init 43 = .ok (.aload_n 0, 1) := by decide +kernel
theorem dX3_init_44 : decode cX3_init 44 = .ok (.new 9, 3) := by decide +kernel
theorem dX3_init_47 : decode cX3_init 47 = .ok (.dup, 1) := by decide +kernel
theorem dX3_init_48 : decode cX3_init 48 = .ok (.invokespecial 33, 3) := by decide +kernel
theorem dX3_init_51 : decode cX3_init 51 = .ok (.putfield 34, 3) := by decide +kernel
theorem dX3_init_54 : decode cX3_init 54 = .ok (.aload_n 0, 1) := by decide +kernel
theorem dX3_init_55 : decode cX3_init 55 = .ok (.new 9, 3) := by decide +kernel
theorem dX3_init_58 : decode cX3_init 58 = .ok (.dup, 1) := by decide +kernel
theorem dX3_init_59 : decode cX3_init 59 = .ok (.invokespecial 33, 3) := by decide +kernel
theorem dX3_init_62 : decode cX3_init 62 = .ok (.putfield 38, 3) := by decide +kernel
theorem dX3_init_65 : decode cX3_init 65 = .ok (.aload_n 0, 1) := by decide +kernel
theorem dX3_init_66 : decode cX3_init 66 = .ok (.new 9, 3) := by decide +kernel
theorem dX3_init_69 : decode cX3_init 69 = .ok (.dup, 1) := by decide +kernel
theorem dX3_init_70 : decode cX3_init 70 = .ok (.invokespecial 33, 3) := by decide +kernel
theorem dX3_init_73 : decode cX3_init 73 = .ok (.putfield 41, 3) := by decide +kernel
theorem dX3_init_76 : decode cX3_init 76 = .ok (.aload_n 0, 1) := by decide +kernel
theorem dX3_init_77 : decode cX3_init 77 = .ok (.bipush 10, 2) := by decide +kernel
theorem dX3_init_79 : decode cX3_init 79 = .ok (.newarray .int, 2) := by decide +kernel
theorem dX3_init_81 : decode cX3_init 81 = .ok (.putfield 44, 3) := by decide +kernel
theorem dX3_init_84 : decode cX3_init 84 = .ok (.aload_n 0, 1) := by decide +kernel
theorem dX3_init_85 : decode cX3_init 85 = .ok (.sipush 1024, 3) := by decide +kernel
theorem dX3_init_88 : decode cX3_init 88 = .ok (.newarray .int, 2) := by decide +kernel
theorem dX3_init_90 : decode cX3_init 90 = .ok (.putfield 47, 3) := by decide +kernel
theorem dX3_init_93 : decode cX3_init 93 = .ok (.aload_n 0, 1) := by decide +kernel
theorem dX3_init_94 : decode cX3_init 94 = .ok (.bipush 10, 2) := by decide +kernel
theorem dX3_init_96 : decode cX3_init 96 = .ok (.newarray .int, 2) := by decide +kernel
theorem dX3_init_98 : decode cX3_init 98 = .ok (.putfield 50, 3) := by decide +kernel
theorem dX3_init_101 : decode cX3_init 101 = .ok (.iconst 0, 1) := by decide +kernel
theorem dX3_init_102 : decode cX3_init 102 = .ok (.istore_n 1, 1) := by decide +kernel
theorem dX3_init_103 : decode cX3_init 103 = .ok (.iload_n 1, 1) := by decide +kernel
theorem dX3_init_104 : decode cX3_init 104 = .ok (.bipush 12, 2) := by decide +kernel
theorem dX3_init_106 : decode cX3_init 106 = .ok (.if_icmp .ge 22, 3) := by decide +kernel
theorem dX3_init_109 : decode cX3_init 109 = .ok (.aload_n 0, 1) := by decide +kernel
theorem dX3_init_110 : decode cX3_init 110 = .ok (.getfield 11, 3) := by decide +kernel
theorem dX3_init_113 : decode cX3_init 113 = .ok (.iload_n 1, 1) := by decide +kernel
theorem dX3_init_114 : decode cX3_init 114 = .ok (.new 9, 3) := by decide +kernel
theorem dX3_init_117 : decode cX3_init 117 = .ok (.dup, 1) := by decide +kernel
theorem dX3_init_118 : decode cX3_init 118 = .ok (.invokespecial 33, 3) := by decide +kernel
theorem dX3_init_121 : decode cX3_init 121 = .ok (.aastore, 1) := by decide +kernel
theorem dX3_init_122 : decode cX3_init 122 = .ok (.iinc 1 1, 3) := by decide +kernel
theorem dX3_init_125 : decode cX3_init 125 = .ok (.goto (-22), 3) := by decide +kernel
theorem dX3_init_128 : decode cX3_init 128 = .ok (.return_, 1) := by decide +kernel
set_option maxRecDepth 20000 in
theorem ggX3_variable_X3_checkSlot : GoodIn wsX3_variable wsX3_checkSlot := goodIn_ca (goodIn_r _ [6, 7, 8] (by decide +kernel) (by decide +kernel)) (goodIn_sub (fun _ h => List.mem_cons_of_mem _ (List.mem_append_right _ h)) (by decide +kernel))
set_option maxRecDepth 20000 in
theorem gX3_variable_X3_checkSlot : GoodIn wsX3_variable (va_wsS RX3 53 yX3_checkSlot wsX3_checkSlot) := goodIn_app (goodIn_of _ (by decide +kernel)) ggX3_variable_X3_checkSlot
set_option maxRecDepth 20000 in
theorem ggX3_variable_X3_checkVariable : GoodIn wsX3_variable wsX3_checkVariable := goodIn_ca (goodIn_r _ [11, 7, 8] (by decide +kernel) (by decide +kernel)) (goodIn_sub (fun _ h => List.mem_cons_of_mem _ (List.mem_append_right _ h)) (by decide +kernel))
set_option maxRecDepth 20000 in
theorem gX3_variable_X3_checkVariable : GoodIn wsX3_variable (va_wsS RX3 65 yX3_checkVariable wsX3_checkVariable) := goodIn_app (goodIn_of _ (by decide +kernel)) ggX3_variable_X3_checkVariable
set_option maxRecDepth 20000 in
theorem ggX3_variable_X2_wordOfVariable : GoodIn wsX3_variable wsX2_wordOfVariable := goodIn_r _ [15, 16, 17] (by decide +kernel) (by decide +kernel)
set_option maxRecDepth 20000 in
theorem gX3_variable_X2_wordOfVariable : GoodIn wsX3_variable (va_wsS RX3 72 yX2_wordOfVariable wsX2_wordOfVariable) := goodIn_app (goodIn_of _ (by decide +kernel)) ggX3_variable_X2_wordOfVariable
set_option maxRecDepth 20000 in
theorem ggX3_variable_X3_place : GoodIn wsX3_variable wsX3_place := goodIn_r _ [21, 1, 22, 23, 24, 25, 26, 27, 14, 28, 29, 30, 31, 32, 33, 34, 35, 36, 37, 16, 38, 39, 40, 41, 42, 43, 44, 45, 46, 47, 48, 49, 50, 51, 52, 53, 54, 55, 56, 57, 58, 59, 60, 61, 62, 63, 64, 65, 66, 67, 68, 69, 70, 71, 72, 73, 74, 75, 76, 77, 78, 79, 80, 81, 82, 83, 84, 85, 86, 87, 88, 89, 90, 91, 92, 93, 94, 95, 96, 97, 98, 99, 100, 101, 102, 103, 104, 105, 106, 107, 108, 109, 110, 111, 112, 113, 114, 115, 116, 117, 118, 119, 120, 121, 122, 123, 124, 125, 126, 127, 128, 129, 130, 131, 132, 133, 134, 135, 136, 137, 138, 139, 140, 141, 142, 143, 144, 145, 146, 147, 148, 149, 150, 151, 152, 153, 154] (by decide +kernel) (by decide +kernel)
set_option maxRecDepth 20000 in
theorem gX3_variable_X3_place : GoodIn wsX3_variable (wsV RX3 61 RX3 yX3_place wsX3_place) := goodIn_app (goodIn_of _ (by decide +kernel)) ggX3_variable_X3_place
theorem dX3_variable_0 : decode cX3_variable 0 = .ok (.iload_n 1, 1) := by decide +kernel
theorem dX3_variable_1 : decode cX3_variable 1 = .ok (.invokestatic 53, 3) := by decide +kernel
theorem dX3_variable_4 : decode cX3_variable 4 = .ok (.iload_n 2, 1) := by decide +kernel
theorem dX3_variable_5 : decode cX3_variable 5 = .ok (.invokestatic 65, 3) := by decide +kernel
theorem dX3_variable_8 : decode cX3_variable 8 = .ok (.iconst 0, 1) := by decide +kernel
theorem dX3_variable_9 : decode cX3_variable 9 = .ok (.istore_n 3, 1) := by decide +kernel
theorem dX3_variable_10 : decode cX3_variable 10 = .ok (.iload_n 3, 1) := by decide +kernel
theorem dX3_variable_11 : decode cX3_variable 11 = .ok (.bipush 16, 2) := by decide +kernel
theorem dX3_variable_13 : decode cX3_variable 13 = .ok (.if_icmp .ge 23, 3) := by decide +kernel
theorem dX3_variable_16 : decode cX3_variable 16 = .ok (.aload_n 0, 1) := by decide +kernel
theorem dX3_variable_17 : decode cX3_variable 17 = .ok (.getfield 34, 3) := by decide +kernel
theorem dX3_variable_20 : decode cX3_variable 20 = .ok (.getfield 68, 3) := by decide +kernel
theorem dX3_variable_23 : decode cX3_variable 23 = .ok (.iload_n 3, 1) := by decide +kernel
theorem dX3_variable_24 : decode cX3_variable 24 = .ok (.iload_n 2, 1) := by decide +kernel
theorem dX3_variable_25 : decode cX3_variable 25 = .ok (.iload_n 3, 1) := by decide +kernel
theorem dX3_variable_26 : decode cX3_variable 26 = .ok (.invokestatic 72, 3) := by decide +kernel
theorem dX3_variable_29 : decode cX3_variable 29 = .ok (.lastore, 1) := by decide +kernel
theorem dX3_variable_30 : decode cX3_variable 30 = .ok (.iinc 3 1, 3) := by decide +kernel
theorem dX3_variable_33 : decode cX3_variable 33 = .ok (.goto (-23), 3) := by decide +kernel
theorem dX3_variable_36 : decode cX3_variable 36 = .ok (.aload_n 0, 1) := by decide +kernel
theorem dX3_variable_37 : decode cX3_variable 37 = .ok (.iload_n 1, 1) := by decide +kernel
theorem dX3_variable_38 : decode cX3_variable 38 = .ok (.invokevirtual 61, 3) := by decide +kernel
theorem dX3_variable_41 : decode cX3_variable 41 = .ok (.ireturn, 1) := by decide +kernel
set_option maxRecDepth 20000 in
theorem ggX3_apply_X3_checkSlot : GoodIn wsX3_apply wsX3_checkSlot := goodIn_ca (goodIn_r _ [9, 10, 11] (by decide +kernel) (by decide +kernel)) (goodIn_sub (fun _ h => List.mem_cons_of_mem _ (List.mem_append_right _ h)) (by decide +kernel))
set_option maxRecDepth 20000 in
theorem gX3_apply_X3_checkSlot : GoodIn wsX3_apply (va_wsS RX3 53 yX3_checkSlot wsX3_checkSlot) := goodIn_app (goodIn_of _ (by decide +kernel)) ggX3_apply_X3_checkSlot
set_option maxRecDepth 20000 in
theorem ggX3_apply_X2_wordByTable : GoodIn wsX3_apply wsX2_wordByTable := goodIn_r _ [15, 16] (by decide +kernel) (by decide +kernel)
set_option maxRecDepth 20000 in
theorem gX3_apply_X2_wordByTable : GoodIn wsX3_apply (va_wsS RX3 83 yX2_wordByTable wsX2_wordByTable) := goodIn_app (goodIn_of _ (by decide +kernel)) ggX3_apply_X2_wordByTable
set_option maxRecDepth 20000 in
theorem ggX3_apply_X3_place : GoodIn wsX3_apply wsX3_place := goodIn_r _ [20, 5, 21, 3, 22, 23, 24, 25, 14, 26, 27, 28, 29, 30, 31, 32, 33, 34, 35, 36, 37, 38, 39, 40, 41, 42, 43, 44, 45, 46, 47, 48, 49, 50, 51, 52, 53, 54, 55, 56, 57, 58, 59, 60, 61, 62, 63, 64, 65, 66, 67, 68, 69, 70, 71, 72, 73, 74, 75, 76, 77, 78, 79, 80, 81, 82, 83, 84, 85, 86, 87, 88, 89, 90, 91, 92, 93, 94, 95, 96, 97, 98, 99, 100, 101, 102, 103, 104, 105, 106, 107, 108, 109, 110, 111, 112, 113, 114, 115, 116, 117, 118, 119, 120, 121, 122, 123, 124, 125, 126, 127, 128, 129, 130, 131, 132, 133, 134, 135, 136, 137, 138, 139, 140, 141, 142, 143, 144, 145, 146, 147, 148, 149, 150, 151, 152, 153] (by decide +kernel) (by decide +kernel)
set_option maxRecDepth 20000 in
theorem gX3_apply_X3_place : GoodIn wsX3_apply (wsV RX3 61 RX3 yX3_place wsX3_place) := goodIn_app (goodIn_of _ (by decide +kernel)) ggX3_apply_X3_place
theorem dX3_apply_0 : decode cX3_apply 0 = .ok (.iload_n 1, 1) := by decide +kernel
theorem dX3_apply_1 : decode cX3_apply 1 = .ok (.invokestatic 53, 3) := by decide +kernel
theorem dX3_apply_4 : decode cX3_apply 4 = .ok (.iload_n 2, 1) := by decide +kernel
theorem dX3_apply_5 : decode cX3_apply 5 = .ok (.invokestatic 53, 3) := by decide +kernel
theorem dX3_apply_8 : decode cX3_apply 8 = .ok (.iload_n 3, 1) := by decide +kernel
theorem dX3_apply_9 : decode cX3_apply 9 = .ok (.invokestatic 53, 3) := by decide +kernel
theorem dX3_apply_12 : decode cX3_apply 12 = .ok (.iload 4, 2) := by decide +kernel
theorem dX3_apply_14 : decode cX3_apply 14 = .ok (.ifCond .lt 10, 3) := by decide +kernel
theorem dX3_apply_17 : decode cX3_apply 17 = .ok (.iload 4, 2) := by decide +kernel
theorem dX3_apply_19 : decode cX3_apply 19 = .ok (.bipush 15, 2) := by decide +kernel
theorem dX3_apply_21 : decode cX3_apply 21 = .ok (.if_icmp .le 13, 3) := by decide +kernel
theorem dX3_apply_24 : decode cX3_apply 24 = .ok (.new 76, 3) := by decide +kernel
theorem dX3_apply_27 : decode cX3_apply 27 = .ok (.dup, 1) := by decide +kernel
theorem dX3_apply_28 : decode cX3_apply 28 = .ok (.ldc 78, 2) := by decide +kernel
theorem dX3_apply_30 : decode cX3_apply 30 = .ok (.invokespecial 80, 3) := by decide +kernel
theorem dX3_apply_33 : decode cX3_apply 33 = .ok (.athrow, 1) := by decide +kernel
theorem dX3_apply_34 : decode cX3_apply 34 = .ok (.aload_n 0, 1) := by decide +kernel
theorem dX3_apply_35 : decode cX3_apply 35 = .ok (.getfield 11, 3) := by decide +kernel
theorem dX3_apply_38 : decode cX3_apply 38 = .ok (.iload_n 2, 1) := by decide +kernel
theorem dX3_apply_39 : decode cX3_apply 39 = .ok (.aaload, 1) := by decide +kernel
theorem dX3_apply_40 : decode cX3_apply 40 = .ok (.getfield 68, 3) := by decide +kernel
theorem dX3_apply_43 : decode cX3_apply 43 = .ok (.astore 5, 2) := by decide +kernel
theorem dX3_apply_45 : decode cX3_apply 45 = .ok (.aload_n 0, 1) := by decide +kernel
theorem dX3_apply_46 : decode cX3_apply 46 = .ok (.getfield 11, 3) := by decide +kernel
theorem dX3_apply_49 : decode cX3_apply 49 = .ok (.iload_n 3, 1) := by decide +kernel
theorem dX3_apply_50 : decode cX3_apply 50 = .ok (.aaload, 1) := by decide +kernel
theorem dX3_apply_51 : decode cX3_apply 51 = .ok (.getfield 68, 3) := by decide +kernel
theorem dX3_apply_54 : decode cX3_apply 54 = .ok (.astore 6, 2) := by decide +kernel
theorem dX3_apply_56 : decode cX3_apply 56 = .ok (.iconst 0, 1) := by decide +kernel
theorem dX3_apply_57 : decode cX3_apply 57 = .ok (.istore 7, 2) := by decide +kernel
theorem dX3_apply_59 : decode cX3_apply 59 = .ok (.iload 7, 2) := by decide +kernel
theorem dX3_apply_61 : decode cX3_apply 61 = .ok (.bipush 16, 2) := by decide +kernel
theorem dX3_apply_63 : decode cX3_apply 63 = .ok (.if_icmp .ge 34, 3) := by decide +kernel
theorem dX3_apply_66 : decode cX3_apply 66 = .ok (.aload_n 0, 1) := by decide +kernel
theorem dX3_apply_67 : decode cX3_apply 67 = .ok (.getfield 34, 3) := by decide +kernel
theorem dX3_apply_70 : decode cX3_apply 70 = .ok (.getfield 68, 3) := by decide +kernel
theorem dX3_apply_73 : decode cX3_apply 73 = .ok (.iload 7, 2) := by decide +kernel
theorem dX3_apply_75 : decode cX3_apply 75 = .ok (.aload 5, 2) := by decide +kernel
theorem dX3_apply_77 : decode cX3_apply 77 = .ok (.iload 7, 2) := by decide +kernel
theorem dX3_apply_79 : decode cX3_apply 79 = .ok (.laload, 1) := by decide +kernel
theorem dX3_apply_80 : decode cX3_apply 80 = .ok (.aload 6, 2) := by decide +kernel
theorem dX3_apply_82 : decode cX3_apply 82 = .ok (.iload 7, 2) := by decide +kernel
theorem dX3_apply_84 : decode cX3_apply 84 = .ok (.laload, 1) := by decide +kernel
theorem dX3_apply_85 : decode cX3_apply 85 = .ok (.iload 4, 2) := by decide +kernel
theorem dX3_apply_87 : decode cX3_apply 87 = .ok (.invokestatic 83, 3) := by decide +kernel
theorem dX3_apply_90 : decode cX3_apply 90 = .ok (.lastore, 1) := by decide +kernel
theorem dX3_apply_91 : decode cX3_apply 91 = .ok (.iinc 7 1, 3) := by decide +kernel
theorem dX3_apply_94 : decode cX3_apply 94 = .ok (.goto (-35), 3) := by decide +kernel
theorem dX3_apply_97 : decode cX3_apply 97 = .ok (.aload_n 0, 1) := by decide +kernel
theorem dX3_apply_98 : decode cX3_apply 98 = .ok (.iload_n 1, 1) := by decide +kernel
theorem dX3_apply_99 : decode cX3_apply 99 = .ok (.invokevirtual 61, 3) := by decide +kernel
theorem dX3_apply_102 : decode cX3_apply 102 = .ok (.ireturn, 1) := by decide +kernel
set_option maxRecDepth 20000 in
theorem ggX3_choose_X3_checkSlot : GoodIn wsX3_choose wsX3_checkSlot := goodIn_ca (goodIn_r _ [8, 9, 10] (by decide +kernel) (by decide +kernel)) (goodIn_sub (fun _ h => List.mem_cons_of_mem _ (List.mem_append_right _ h)) (by decide +kernel))
set_option maxRecDepth 20000 in
theorem gX3_choose_X3_checkSlot : GoodIn wsX3_choose (va_wsS RX3 53 yX3_checkSlot wsX3_checkSlot) := goodIn_app (goodIn_of _ (by decide +kernel)) ggX3_choose_X3_checkSlot
set_option maxRecDepth 20000 in
theorem ggX3_choose_X3_place : GoodIn wsX3_choose wsX3_place := goodIn_r _ [14, 3, 15, 1, 16, 17, 18, 19, 20, 21, 22, 23, 24, 25, 26, 27, 28, 29, 30, 31, 32, 33, 34, 35, 36, 37, 38, 39, 40, 41, 42, 43, 44, 45, 46, 47, 48, 49, 50, 51, 52, 53, 54, 55, 56, 57, 58, 59, 60, 61, 62, 63, 64, 65, 66, 67, 68, 69, 70, 71, 72, 73, 74, 75, 76, 77, 78, 79, 80, 81, 82, 83, 84, 85, 86, 87, 88, 89, 90, 91, 92, 93, 94, 95, 96, 97, 98, 99, 100, 101, 102, 103, 104, 105, 106, 107, 108, 109, 110, 111, 112, 113, 114, 115, 116, 117, 118, 119, 120, 121, 122, 123, 124, 125, 126, 127, 128, 129, 130, 131, 132, 133, 134, 135, 136, 137, 138, 139, 140, 141, 142, 143, 144, 145, 146, 147, 148] (by decide +kernel) (by decide +kernel)
set_option maxRecDepth 20000 in
theorem gX3_choose_X3_place : GoodIn wsX3_choose (wsV RX3 61 RX3 yX3_place wsX3_place) := goodIn_app (goodIn_of _ (by decide +kernel)) ggX3_choose_X3_place
theorem dX3_choose_0 : decode cX3_choose 0 = .ok (.iload_n 1, 1) := by decide +kernel
theorem dX3_choose_1 : decode cX3_choose 1 = .ok (.invokestatic 53, 3) := by decide +kernel
theorem dX3_choose_4 : decode cX3_choose 4 = .ok (.iload_n 2, 1) := by decide +kernel
theorem dX3_choose_5 : decode cX3_choose 5 = .ok (.invokestatic 53, 3) := by decide +kernel
theorem dX3_choose_8 : decode cX3_choose 8 = .ok (.iload_n 3, 1) := by decide +kernel
theorem dX3_choose_9 : decode cX3_choose 9 = .ok (.invokestatic 53, 3) := by decide +kernel
theorem dX3_choose_12 : decode cX3_choose 12 = .ok (.iload 4, 2) := by decide +kernel
theorem dX3_choose_14 : decode cX3_choose 14 = .ok (.invokestatic 53, 3) := by decide +kernel
theorem dX3_choose_17 : decode cX3_choose 17 = .ok (.aload_n 0, 1) := by decide +kernel
theorem dX3_choose_18 : decode cX3_choose 18 = .ok (.getfield 11, 3) := by decide +kernel
theorem dX3_choose_21 : decode cX3_choose 21 = .ok (.iload_n 2, 1) := by decide +kernel
theorem dX3_choose_22 : decode cX3_choose 22 = .ok (.aaload, 1) := by decide +kernel
theorem dX3_choose_23 : decode cX3_choose 23 = .ok (.getfield 68, 3) := by decide +kernel
theorem dX3_choose_26 : decode cX3_choose 26 = .ok (.astore 5, 2) := by decide +kernel
theorem dX3_choose_28 : decode cX3_choose 28 = .ok (.aload_n 0, 1) := by decide +kernel
theorem dX3_choose_29 : decode cX3_choose 29 = .ok (.getfield 11, 3) := by decide +kernel
theorem dX3_choose_32 : decode cX3_choose 32 = .ok (.iload_n 3, 1) := by decide +kernel
theorem dX3_choose_33 : decode cX3_choose 33 = .ok (.aaload, 1) := by decide +kernel
theorem dX3_choose_34 : decode cX3_choose 34 = .ok (.getfield 68, 3) := by decide +kernel
theorem dX3_choose_37 : decode cX3_choose 37 = .ok (.astore 6, 2) := by decide +kernel
theorem dX3_choose_39 : decode cX3_choose 39 = .ok (.aload_n 0, 1) := by decide +kernel
theorem dX3_choose_40 : decode cX3_choose 40 = .ok (.getfield 11, 3) := by decide +kernel
theorem dX3_choose_43 : decode cX3_choose 43 = .ok (.iload 4, 2) := by decide +kernel
theorem dX3_choose_45 : decode cX3_choose 45 = .ok (.aaload, 1) := by decide +kernel
theorem dX3_choose_46 : decode cX3_choose 46 = .ok (.getfield 68, 3) := by decide +kernel
theorem dX3_choose_49 : decode cX3_choose 49 = .ok (.astore 7, 2) := by decide +kernel
theorem dX3_choose_51 : decode cX3_choose 51 = .ok (.iconst 0, 1) := by decide +kernel
theorem dX3_choose_52 : decode cX3_choose 52 = .ok (.istore 8, 2) := by decide +kernel
theorem dX3_choose_54 : decode cX3_choose 54 = .ok (.iload 8, 2) := by decide +kernel
theorem dX3_choose_56 : decode cX3_choose 56 = .ok (.bipush 16, 2) := by decide +kernel
theorem dX3_choose_58 : decode cX3_choose 58 = .ok (.if_icmp .ge 46, 3) := by decide +kernel
theorem dX3_choose_61 : decode cX3_choose 61 = .ok (.aload_n 0, 1) := by decide +kernel
theorem dX3_choose_62 : decode cX3_choose 62 = .ok (.getfield 34, 3) := by decide +kernel
theorem dX3_choose_65 : decode cX3_choose 65 = .ok (.getfield 68, 3) := by decide +kernel
theorem dX3_choose_68 : decode cX3_choose 68 = .ok (.iload 8, 2) := by decide +kernel
theorem dX3_choose_70 : decode cX3_choose 70 = .ok (.aload 5, 2) := by decide +kernel
theorem dX3_choose_72 : decode cX3_choose 72 = .ok (.iload 8, 2) := by decide +kernel
theorem dX3_choose_74 : decode cX3_choose 74 = .ok (.laload, 1) := by decide +kernel
theorem dX3_choose_75 : decode cX3_choose 75 = .ok (.aload 6, 2) := by decide +kernel
theorem dX3_choose_77 : decode cX3_choose 77 = .ok (.iload 8, 2) := by decide +kernel
theorem dX3_choose_79 : decode cX3_choose 79 = .ok (.laload, 1) := by decide +kernel
theorem dX3_choose_80 : decode cX3_choose 80 = .ok (.land, 1) := by decide +kernel
theorem dX3_choose_81 : decode cX3_choose 81 = .ok (.aload 5, 2) := by decide +kernel
theorem dX3_choose_83 : decode cX3_choose 83 = .ok (.iload 8, 2) := by decide +kernel
theorem dX3_choose_85 : decode cX3_choose 85 = .ok (.laload, 1) := by decide +kernel
theorem dX3_choose_86 : decode cX3_choose 86 = .ok (.ldc2_w 87, 3) := by decide +kernel
theorem dX3_choose_89 : decode cX3_choose 89 = .ok (.lxor, 1) := by decide +kernel
theorem dX3_choose_90 : decode cX3_choose 90 = .ok (.aload 7, 2) := by decide +kernel
theorem dX3_choose_92 : decode cX3_choose 92 = .ok (.iload 8, 2) := by decide +kernel
theorem dX3_choose_94 : decode cX3_choose 94 = .ok (.laload, 1) := by decide +kernel
theorem dX3_choose_95 : decode cX3_choose 95 = .ok (.land, 1) := by decide +kernel
theorem dX3_choose_96 : decode cX3_choose 96 = .ok (.lor, 1) := by decide +kernel
theorem dX3_choose_97 : decode cX3_choose 97 = .ok (.lastore, 1) := by decide +kernel
theorem dX3_choose_98 : decode cX3_choose 98 = .ok (.iinc 8 1, 3) := by decide +kernel
theorem dX3_choose_101 : decode cX3_choose 101 = .ok (.goto (-47), 3) := by decide +kernel
theorem dX3_choose_104 : decode cX3_choose 104 = .ok (.aload_n 0, 1) := by decide +kernel
theorem dX3_choose_105 : decode cX3_choose 105 = .ok (.iload_n 1, 1) := by decide +kernel
theorem dX3_choose_106 : decode cX3_choose 106 = .ok (.invokevirtual 61, 3) := by decide +kernel
theorem dX3_choose_109 : decode cX3_choose 109 = .ok (.ireturn, 1) := by decide +kernel
set_option maxRecDepth 20000 in
theorem ggX3_put_X3_checkSlot : GoodIn wsX3_put wsX3_checkSlot := goodIn_ca (goodIn_r _ [7, 8, 9] (by decide +kernel) (by decide +kernel)) (goodIn_sub (fun _ h => List.mem_cons_of_mem _ (List.mem_append_right _ h)) (by decide +kernel))
set_option maxRecDepth 20000 in
theorem gX3_put_X3_checkSlot : GoodIn wsX3_put (va_wsS RX3 53 yX3_checkSlot wsX3_checkSlot) := goodIn_app (goodIn_of _ (by decide +kernel)) ggX3_put_X3_checkSlot
set_option maxRecDepth 20000 in
theorem ggX3_put_X3_checkVariable : GoodIn wsX3_put wsX3_checkVariable := goodIn_ca (goodIn_r _ [12, 8, 9] (by decide +kernel) (by decide +kernel)) (goodIn_sub (fun _ h => List.mem_cons_of_mem _ (List.mem_append_right _ h)) (by decide +kernel))
set_option maxRecDepth 20000 in
theorem gX3_put_X3_checkVariable : GoodIn wsX3_put (va_wsS RX3 65 yX3_checkVariable wsX3_checkVariable) := goodIn_app (goodIn_of _ (by decide +kernel)) ggX3_put_X3_checkVariable
set_option maxRecDepth 20000 in
theorem ggX3_put_X2_wordWith : GoodIn wsX3_put wsX2_wordWith := goodIn_r _ [17, 18, 19, 20, 21, 16, 22, 23, 24, 25, 26, 27, 141] (by decide +kernel) (by decide +kernel)
set_option maxRecDepth 20000 in
theorem gX3_put_X2_wordWith : GoodIn wsX3_put (wsV RX3 89 RX2 yX2_wordWith wsX2_wordWith) := goodIn_app (goodIn_of _ (by decide +kernel)) ggX3_put_X2_wordWith
set_option maxRecDepth 20000 in
theorem ggX3_put_X3_place : GoodIn wsX3_put wsX3_place := goodIn_r _ [31, 2, 32, 1, 33, 34, 35, 36, 16, 37, 38, 39, 40, 41, 19, 24, 25, 26, 27, 23, 42, 43, 44, 45, 46, 47, 48, 49, 50, 51, 52, 53, 54, 55, 56, 57, 58, 59, 60, 61, 62, 63, 64, 65, 66, 67, 68, 69, 70, 71, 72, 73, 74, 75, 76, 77, 78, 79, 80, 81, 82, 83, 84, 85, 86, 87, 88, 89, 90, 91, 92, 93, 94, 95, 96, 97, 98, 99, 100, 101, 102, 103, 104, 105, 106, 107, 108, 109, 110, 111, 112, 113, 114, 115, 116, 117, 118, 119, 120, 121, 122, 123, 124, 125, 126, 127, 128, 129, 130, 131, 132, 133, 134, 135, 136, 137, 138, 139, 140, 141, 142, 143, 144, 145, 146, 147, 148, 149, 150, 151, 152, 153, 154, 155, 156, 157, 158] (by decide +kernel) (by decide +kernel)
set_option maxRecDepth 20000 in
theorem gX3_put_X3_place : GoodIn wsX3_put (wsV RX3 61 RX3 yX3_place wsX3_place) := goodIn_app (goodIn_of _ (by decide +kernel)) ggX3_put_X3_place
theorem dX3_put_0 : decode cX3_put 0 = .ok (.iload_n 1, 1) := by decide +kernel
theorem dX3_put_1 : decode cX3_put 1 = .ok (.invokestatic 53, 3) := by decide +kernel
theorem dX3_put_4 : decode cX3_put 4 = .ok (.iload_n 2, 1) := by decide +kernel
theorem dX3_put_5 : decode cX3_put 5 = .ok (.invokestatic 53, 3) := by decide +kernel
theorem dX3_put_8 : decode cX3_put 8 = .ok (.iload_n 3, 1) := by decide +kernel
theorem dX3_put_9 : decode cX3_put 9 = .ok (.invokestatic 65, 3) := by decide +kernel
theorem dX3_put_12 : decode cX3_put 12 = .ok (.aload_n 0, 1) := by decide +kernel
theorem dX3_put_13 : decode cX3_put 13 = .ok (.getfield 11, 3) := by decide +kernel
theorem dX3_put_16 : decode cX3_put 16 = .ok (.iload_n 2, 1) := by decide +kernel
theorem dX3_put_17 : decode cX3_put 17 = .ok (.aaload, 1) := by decide +kernel
theorem dX3_put_18 : decode cX3_put 18 = .ok (.astore 5, 2) := by decide +kernel
theorem dX3_put_20 : decode cX3_put 20 = .ok (.iconst 0, 1) := by decide +kernel
theorem dX3_put_21 : decode cX3_put 21 = .ok (.istore 6, 2) := by decide +kernel
theorem dX3_put_23 : decode cX3_put 23 = .ok (.iload 6, 2) := by decide +kernel
theorem dX3_put_25 : decode cX3_put 25 = .ok (.bipush 16, 2) := by decide +kernel
theorem dX3_put_27 : decode cX3_put 27 = .ok (.if_icmp .ge 29, 3) := by decide +kernel
theorem dX3_put_30 : decode cX3_put 30 = .ok (.aload_n 0, 1) := by decide +kernel
theorem dX3_put_31 : decode cX3_put 31 = .ok (.getfield 34, 3) := by decide +kernel
theorem dX3_put_34 : decode cX3_put 34 = .ok (.getfield 68, 3) := by decide +kernel
theorem dX3_put_37 : decode cX3_put 37 = .ok (.iload 6, 2) := by decide +kernel
theorem dX3_put_39 : decode cX3_put 39 = .ok (.aload 5, 2) := by decide +kernel
theorem dX3_put_41 : decode cX3_put 41 = .ok (.iload_n 3, 1) := by decide +kernel
theorem dX3_put_42 : decode cX3_put 42 = .ok (.iload 4, 2) := by decide +kernel
theorem dX3_put_44 : decode cX3_put 44 = .ok (.iload 6, 2) := by decide +kernel
theorem dX3_put_46 : decode cX3_put 46 = .ok (.invokevirtual 89, 3) := by decide +kernel
theorem dX3_put_49 : decode cX3_put 49 = .ok (.lastore, 1) := by decide +kernel
theorem dX3_put_50 : decode cX3_put 50 = .ok (.iinc 6 1, 3) := by decide +kernel
theorem dX3_put_53 : decode cX3_put 53 = .ok (.goto (-30), 3) := by decide +kernel
theorem dX3_put_56 : decode cX3_put 56 = .ok (.aload_n 0, 1) := by decide +kernel
theorem dX3_put_57 : decode cX3_put 57 = .ok (.iload_n 1, 1) := by decide +kernel
theorem dX3_put_58 : decode cX3_put 58 = .ok (.invokevirtual 61, 3) := by decide +kernel
theorem dX3_put_61 : decode cX3_put 61 = .ok (.ireturn, 1) := by decide +kernel
set_option maxRecDepth 20000 in
theorem ggX3_compose_X3_checkSlot : GoodIn wsX3_compose wsX3_checkSlot := goodIn_ca (goodIn_r _ [8, 9, 10] (by decide +kernel) (by decide +kernel)) (goodIn_sub (fun _ h => List.mem_cons_of_mem _ (List.mem_append_right _ h)) (by decide +kernel))
set_option maxRecDepth 20000 in
theorem gX3_compose_X3_checkSlot : GoodIn wsX3_compose (va_wsS RX3 53 yX3_checkSlot wsX3_checkSlot) := goodIn_app (goodIn_of _ (by decide +kernel)) ggX3_compose_X3_checkSlot
set_option maxRecDepth 20000 in
theorem ggX3_compose_X3_checkVariable : GoodIn wsX3_compose wsX3_checkVariable := goodIn_ca (goodIn_r _ [13, 9, 10] (by decide +kernel) (by decide +kernel)) (goodIn_sub (fun _ h => List.mem_cons_of_mem _ (List.mem_append_right _ h)) (by decide +kernel))
set_option maxRecDepth 20000 in
theorem gX3_compose_X3_checkVariable : GoodIn wsX3_compose (va_wsS RX3 65 yX3_checkVariable wsX3_checkVariable) := goodIn_app (goodIn_of _ (by decide +kernel)) ggX3_compose_X3_checkVariable
set_option maxRecDepth 20000 in
theorem ggX3_compose_X2_wordWith : GoodIn wsX3_compose wsX2_wordWith := goodIn_r _ [18, 19, 20, 21, 22, 17, 23, 24, 25, 26, 27, 28, 142] (by decide +kernel) (by decide +kernel)
set_option maxRecDepth 20000 in
theorem gX3_compose_X2_wordWith : GoodIn wsX3_compose (wsV RX3 89 RX2 yX2_wordWith wsX2_wordWith) := goodIn_app (goodIn_of _ (by decide +kernel)) ggX3_compose_X2_wordWith
set_option maxRecDepth 20000 in
theorem ggX3_compose_X3_place : GoodIn wsX3_compose wsX3_place := goodIn_r _ [32, 3, 33, 1, 34, 35, 36, 37, 17, 38, 39, 40, 41, 42, 20, 25, 26, 27, 28, 24, 43, 44, 45, 46, 47, 48, 49, 50, 51, 52, 53, 54, 55, 56, 57, 58, 59, 60, 61, 62, 63, 64, 65, 66, 67, 68, 69, 70, 71, 72, 73, 74, 75, 76, 77, 78, 79, 80, 81, 82, 83, 84, 85, 86, 87, 88, 89, 90, 91, 92, 93, 94, 95, 96, 97, 98, 99, 100, 101, 102, 103, 104, 105, 106, 107, 108, 109, 110, 111, 112, 113, 114, 115, 116, 117, 118, 119, 120, 121, 122, 123, 124, 125, 126, 127, 128, 129, 130, 131, 132, 133, 134, 135, 136, 137, 138, 139, 140, 141, 142, 143, 144, 145, 146, 147, 148, 149, 150, 151, 152, 153, 154, 155, 156, 157, 158, 159] (by decide +kernel) (by decide +kernel)
set_option maxRecDepth 20000 in
theorem gX3_compose_X3_place : GoodIn wsX3_compose (wsV RX3 61 RX3 yX3_place wsX3_place) := goodIn_app (goodIn_of _ (by decide +kernel)) ggX3_compose_X3_place
theorem dX3_compose_0 : decode cX3_compose 0 = .ok (.iload_n 1, 1) := by decide +kernel
theorem dX3_compose_1 : decode cX3_compose 1 = .ok (.invokestatic 53, 3) := by decide +kernel
theorem dX3_compose_4 : decode cX3_compose 4 = .ok (.iload_n 2, 1) := by decide +kernel
theorem dX3_compose_5 : decode cX3_compose 5 = .ok (.invokestatic 53, 3) := by decide +kernel
theorem dX3_compose_8 : decode cX3_compose 8 = .ok (.iload_n 3, 1) := by decide +kernel
theorem dX3_compose_9 : decode cX3_compose 9 = .ok (.invokestatic 65, 3) := by decide +kernel
theorem dX3_compose_12 : decode cX3_compose 12 = .ok (.iload 4, 2) := by decide +kernel
theorem dX3_compose_14 : decode cX3_compose 14 = .ok (.invokestatic 53, 3) := by decide +kernel
theorem dX3_compose_17 : decode cX3_compose 17 = .ok (.aload_n 0, 1) := by decide +kernel
theorem dX3_compose_18 : decode cX3_compose 18 = .ok (.getfield 11, 3) := by decide +kernel
theorem dX3_compose_21 : decode cX3_compose 21 = .ok (.iload_n 2, 1) := by decide +kernel
theorem dX3_compose_22 : decode cX3_compose 22 = .ok (.aaload, 1) := by decide +kernel
theorem dX3_compose_23 : decode cX3_compose 23 = .ok (.astore 5, 2) := by decide +kernel
theorem dX3_compose_25 : decode cX3_compose 25 = .ok (.aload_n 0, 1) := by decide +kernel
theorem dX3_compose_26 : decode cX3_compose 26 = .ok (.getfield 11, 3) := by decide +kernel
theorem dX3_compose_29 : decode cX3_compose 29 = .ok (.iload 4, 2) := by decide +kernel
theorem dX3_compose_31 : decode cX3_compose 31 = .ok (.aaload, 1) := by decide +kernel
theorem dX3_compose_32 : decode cX3_compose 32 = .ok (.getfield 68, 3) := by decide +kernel
theorem dX3_compose_35 : decode cX3_compose 35 = .ok (.astore 6, 2) := by decide +kernel
theorem dX3_compose_37 : decode cX3_compose 37 = .ok (.iconst 0, 1) := by decide +kernel
theorem dX3_compose_38 : decode cX3_compose 38 = .ok (.istore 7, 2) := by decide +kernel
theorem dX3_compose_40 : decode cX3_compose 40 = .ok (.iload 7, 2) := by decide +kernel
theorem dX3_compose_42 : decode cX3_compose 42 = .ok (.bipush 16, 2) := by decide +kernel
theorem dX3_compose_44 : decode cX3_compose 44 = .ok (.if_icmp .ge 54, 3) := by decide +kernel
theorem dX3_compose_47 : decode cX3_compose 47 = .ok (.aload_n 0, 1) := by decide +kernel
theorem dX3_compose_48 : decode cX3_compose 48 = .ok (.getfield 34, 3) := by decide +kernel
theorem dX3_compose_51 : decode cX3_compose 51 = .ok (.getfield 68, 3) := by decide +kernel
theorem dX3_compose_54 : decode cX3_compose 54 = .ok (.iload 7, 2) := by decide +kernel
theorem dX3_compose_56 : decode cX3_compose 56 = .ok (.aload 6, 2) := by decide +kernel
theorem dX3_compose_58 : decode cX3_compose 58 = .ok (.iload 7, 2) := by decide +kernel
theorem dX3_compose_60 : decode cX3_compose 60 = .ok (.laload, 1) := by decide +kernel
theorem dX3_compose_61 : decode cX3_compose 61 = .ok (.aload 5, 2) := by decide +kernel
theorem dX3_compose_63 : decode cX3_compose 63 = .ok (.iload_n 3, 1) := by decide +kernel
theorem dX3_compose_64 : decode cX3_compose 64 = .ok (.iconst 1, 1) := by decide +kernel
theorem dX3_compose_65 : decode cX3_compose 65 = .ok (.iload 7, 2) := by decide +kernel
theorem dX3_compose_67 : decode cX3_compose 67 = .ok (.invokevirtual 89, 3) := by decide +kernel
theorem dX3_compose_70 : decode cX3_compose 70 = .ok (.land, 1) := by decide +kernel
theorem dX3_compose_71 : decode cX3_compose 71 = .ok (.aload 6, 2) := by decide +kernel
theorem dX3_compose_73 : decode cX3_compose 73 = .ok (.iload 7, 2) := by decide +kernel
theorem dX3_compose_75 : decode cX3_compose 75 = .ok (.laload, 1) := by decide +kernel
theorem dX3_compose_76 : decode cX3_compose 76 = .ok (.ldc2_w 87, 3) := by decide +kernel
theorem dX3_compose_79 : decode cX3_compose 79 = .ok (.lxor, 1) := by decide +kernel
theorem dX3_compose_80 : decode cX3_compose 80 = .ok (.aload 5, 2) := by decide +kernel
theorem dX3_compose_82 : decode cX3_compose 82 = .ok (.iload_n 3, 1) := by decide +kernel
theorem dX3_compose_83 : decode cX3_compose 83 = .ok (.iconst 0, 1) := by decide +kernel
theorem dX3_compose_84 : decode cX3_compose 84 = .ok (.iload 7, 2) := by decide +kernel
theorem dX3_compose_86 : decode cX3_compose 86 = .ok (.invokevirtual 89, 3) := by decide +kernel
theorem dX3_compose_89 : decode cX3_compose 89 = .ok (.land, 1) := by decide +kernel
theorem dX3_compose_90 : decode cX3_compose 90 = .ok (.lor, 1) := by decide +kernel
theorem dX3_compose_91 : decode cX3_compose 91 = .ok (.lastore, 1) := by decide +kernel
theorem dX3_compose_92 : decode cX3_compose 92 = .ok (.iinc 7 1, 3) := by decide +kernel
theorem dX3_compose_95 : decode cX3_compose 95 = .ok (.goto (-55), 3) := by decide +kernel
theorem dX3_compose_98 : decode cX3_compose 98 = .ok (.aload_n 0, 1) := by decide +kernel
theorem dX3_compose_99 : decode cX3_compose 99 = .ok (.iload_n 1, 1) := by decide +kernel
theorem dX3_compose_100 : decode cX3_compose 100 = .ok (.invokevirtual 61, 3) := by decide +kernel
theorem dX3_compose_103 : decode cX3_compose 103 = .ok (.ireturn, 1) := by decide +kernel
set_option maxRecDepth 20000 in
theorem ggX3_quantify_X3_checkSlot : GoodIn wsX3_quantify wsX3_checkSlot := goodIn_ca (goodIn_r _ [9, 10, 11] (by decide +kernel) (by decide +kernel)) (goodIn_sub (fun _ h => List.mem_cons_of_mem _ (List.mem_append_right _ h)) (by decide +kernel))
set_option maxRecDepth 20000 in
theorem gX3_quantify_X3_checkSlot : GoodIn wsX3_quantify (va_wsS RX3 53 yX3_checkSlot wsX3_checkSlot) := goodIn_app (goodIn_of _ (by decide +kernel)) ggX3_quantify_X3_checkSlot
set_option maxRecDepth 20000 in
theorem ggX3_quantify_X3_checkSet : GoodIn wsX3_quantify wsX3_checkSet := goodIn_ca (goodIn_r _ [14, 1, 2] (by decide +kernel) (by decide +kernel)) (goodIn_sub (fun _ h => List.mem_cons_of_mem _ (List.mem_append_left _ (List.mem_append_right _ h))) (by decide +kernel))
set_option maxRecDepth 20000 in
theorem gX3_quantify_X3_checkSet : GoodIn wsX3_quantify (va_wsS RX3 93 yX3_checkSet wsX3_checkSet) := goodIn_app (goodIn_of _ (by decide +kernel)) ggX3_quantify_X3_checkSet
set_option maxRecDepth 20000 in
theorem ggX3_quantify_X2_copy : GoodIn wsX3_quantify wsX2_copy := goodIn_r _ [19, 20, 21, 22, 23, 24, 144] (by decide +kernel) (by decide +kernel)
set_option maxRecDepth 20000 in
theorem gX3_quantify_X2_copy : GoodIn wsX3_quantify (wsV RX3 98 RX2 yX2_copy wsX2_copy) := goodIn_app (goodIn_of _ (by decide +kernel)) ggX3_quantify_X2_copy
set_option maxRecDepth 20000 in
theorem ggX3_quantify_X2_foldSet : GoodIn wsX3_quantify wsX2_foldSet := goodIn_r _ [28, 29, 30, 31, 18, 32, 20, 33, 16, 17, 19, 21, 22, 23, 24, 34, 35, 36, 37, 38, 144] (by decide +kernel) (by decide +kernel)
set_option maxRecDepth 20000 in
theorem gX3_quantify_X2_foldSet : GoodIn wsX3_quantify (wsV RX3 102 RX2 yX2_foldSet wsX2_foldSet) := goodIn_app (goodIn_of _ (by decide +kernel)) ggX3_quantify_X2_foldSet
set_option maxRecDepth 20000 in
theorem ggX3_quantify_X3_place : GoodIn wsX3_quantify wsX3_place := goodIn_r _ [42, 3, 43, 4, 44, 45, 46, 47, 18, 48, 49, 50, 51, 52, 20, 34, 35, 36, 37, 38, 53, 54, 55, 56, 57, 58, 59, 60, 61, 62, 63, 64, 65, 66, 67, 68, 69, 70, 71, 72, 73, 74, 75, 76, 77, 78, 79, 80, 81, 82, 83, 84, 85, 86, 87, 88, 89, 90, 91, 92, 93, 94, 95, 96, 97, 98, 99, 100, 101, 102, 103, 104, 105, 106, 107, 108, 109, 110, 111, 112, 113, 114, 115, 116, 117, 118, 119, 120, 121, 122, 15, 16, 17, 19, 21, 22, 23, 24, 123, 124, 125, 126, 127, 128, 129, 130, 131, 132, 133, 134, 135, 136, 137, 138, 139, 140, 141, 142, 143, 144, 145, 146, 147, 148, 149, 150, 151, 152, 153, 154, 155, 156, 157, 158, 159, 160, 161] (by decide +kernel) (by decide +kernel)
set_option maxRecDepth 20000 in
theorem gX3_quantify_X3_place : GoodIn wsX3_quantify (wsV RX3 61 RX3 yX3_place wsX3_place) := goodIn_app (goodIn_of _ (by decide +kernel)) ggX3_quantify_X3_place
theorem dX3_quantify_0 : decode cX3_quantify 0 = .ok (.iload_n 1, 1) := by decide +kernel
theorem dX3_quantify_1 : decode cX3_quantify 1 = .ok (.invokestatic 53, 3) := by decide +kernel
theorem dX3_quantify_4 : decode cX3_quantify 4 = .ok (.iload_n 2, 1) := by decide +kernel
theorem dX3_quantify_5 : decode cX3_quantify 5 = .ok (.invokestatic 53, 3) := by decide +kernel
theorem dX3_quantify_8 : decode cX3_quantify 8 = .ok (.iload_n 3, 1) := by decide +kernel
theorem dX3_quantify_9 : decode cX3_quantify 9 = .ok (.invokestatic 93, 3) := by decide +kernel
theorem dX3_quantify_12 : decode cX3_quantify 12 = .ok (.iload 4, 2) := by decide +kernel
theorem dX3_quantify_14 : decode cX3_quantify 14 = .ok (.ifCond .lt 9, 3) := by decide +kernel
theorem dX3_quantify_17 : decode cX3_quantify 17 = .ok (.iload 4, 2) := by decide +kernel
theorem dX3_quantify_19 : decode cX3_quantify 19 = .ok (.iconst 2, 1) := by decide +kernel
theorem dX3_quantify_20 : decode cX3_quantify 20 = .ok (.if_icmp .le 13, 3) := by decide +kernel
theorem dX3_quantify_23 : decode cX3_quantify 23 = .ok (.new 76, 3) := by decide +kernel
theorem dX3_quantify_26 : decode cX3_quantify 26 = .ok (.dup, 1) := by decide +kernel
theorem dX3_quantify_27 : decode cX3_quantify 27 = .ok (.ldc 96, 2) := by decide +kernel
theorem dX3_quantify_29 : decode cX3_quantify 29 = .ok (.invokespecial 80, 3) := by decide +kernel
theorem dX3_quantify_32 : decode cX3_quantify 32 = .ok (.athrow, 1) := by decide +kernel
theorem dX3_quantify_33 : decode cX3_quantify 33 = .ok (.aload_n 0, 1) := by decide +kernel
theorem dX3_quantify_34 : decode cX3_quantify 34 = .ok (.getfield 34, 3) := by decide +kernel
theorem dX3_quantify_37 : decode cX3_quantify 37 = .ok (.aload_n 0, 1) := by decide +kernel
theorem dX3_quantify_38 : decode cX3_quantify 38 = .ok (.getfield 11, 3) := by decide +kernel
theorem dX3_quantify_41 : decode cX3_quantify 41 = .ok (.iload_n 2, 1) := by decide +kernel
theorem dX3_quantify_42 : decode cX3_quantify 42 = .ok (.aaload, 1) := by decide +kernel
theorem dX3_quantify_43 : decode cX3_quantify 43 = .ok (.invokevirtual 98, 3) := by decide +kernel
theorem dX3_quantify_46 : decode cX3_quantify 46 = .ok (.aload_n 0, 1) := by decide +kernel
theorem dX3_quantify_47 : decode cX3_quantify 47 = .ok (.getfield 34, 3) := by decide +kernel
theorem dX3_quantify_50 : decode cX3_quantify 50 = .ok (.iload_n 3, 1) := by decide +kernel
theorem dX3_quantify_51 : decode cX3_quantify 51 = .ok (.iload 4, 2) := by decide +kernel
theorem dX3_quantify_53 : decode cX3_quantify 53 = .ok (.aload_n 0, 1) := by decide +kernel
theorem dX3_quantify_54 : decode cX3_quantify 54 = .ok (.getfield 41, 3) := by decide +kernel
theorem dX3_quantify_57 : decode cX3_quantify 57 = .ok (.invokevirtual 102, 3) := by decide +kernel
theorem dX3_quantify_60 : decode cX3_quantify 60 = .ok (.aload_n 0, 1) := by decide +kernel
theorem dX3_quantify_61 : decode cX3_quantify 61 = .ok (.iload_n 1, 1) := by decide +kernel
theorem dX3_quantify_62 : decode cX3_quantify 62 = .ok (.invokevirtual 61, 3) := by decide +kernel
theorem dX3_quantify_65 : decode cX3_quantify 65 = .ok (.ireturn, 1) := by decide +kernel
set_option maxRecDepth 20000 in
theorem ggX3_meet_X3_checkSlot : GoodIn wsX3_meet wsX3_checkSlot := goodIn_ca (goodIn_r _ [8, 9, 10] (by decide +kernel) (by decide +kernel)) (goodIn_sub (fun _ h => List.mem_cons_of_mem _ (List.mem_append_left _ (List.mem_append_right _ h))) (by decide +kernel))
set_option maxRecDepth 20000 in
theorem gX3_meet_X3_checkSlot : GoodIn wsX3_meet (va_wsS RX3 53 yX3_checkSlot wsX3_checkSlot) := goodIn_app (goodIn_of _ (by decide +kernel)) ggX3_meet_X3_checkSlot
set_option maxRecDepth 20000 in
theorem ggX3_meet_X3_checkSet : GoodIn wsX3_meet wsX3_checkSet := goodIn_ca (goodIn_r _ [13, 14, 15] (by decide +kernel) (by decide +kernel)) (goodIn_sub (fun _ h => List.mem_cons_of_mem _ (List.mem_append_right _ h)) (by decide +kernel))
set_option maxRecDepth 20000 in
theorem gX3_meet_X3_checkSet : GoodIn wsX3_meet (va_wsS RX3 93 yX3_checkSet wsX3_checkSet) := goodIn_app (goodIn_of _ (by decide +kernel)) ggX3_meet_X3_checkSet
set_option maxRecDepth 20000 in
theorem ggX3_meet_X2_foldSet : GoodIn wsX3_meet wsX2_foldSet := goodIn_r _ [20, 21, 22, 23, 19, 24, 25, 26, 27, 28, 29, 30, 31, 32, 33, 34, 35, 36, 37, 38, 145] (by decide +kernel) (by decide +kernel)
set_option maxRecDepth 20000 in
theorem gX3_meet_X2_foldSet : GoodIn wsX3_meet (wsV RX3 102 RX2 yX2_foldSet wsX2_foldSet) := goodIn_app (goodIn_of _ (by decide +kernel)) ggX3_meet_X2_foldSet
set_option maxRecDepth 20000 in
theorem ggX3_meet_X3_place : GoodIn wsX3_meet wsX3_place := goodIn_r _ [42, 3, 43, 1, 44, 45, 46, 47, 19, 48, 49, 50, 51, 52, 25, 34, 35, 36, 37, 38, 53, 54, 55, 56, 57, 58, 59, 60, 61, 62, 63, 64, 65, 66, 67, 68, 69, 70, 71, 72, 73, 74, 75, 76, 77, 78, 79, 80, 81, 82, 83, 84, 85, 86, 87, 88, 89, 90, 91, 92, 93, 94, 95, 96, 97, 98, 99, 100, 101, 102, 103, 104, 105, 106, 107, 108, 109, 110, 111, 112, 113, 114, 115, 116, 117, 118, 119, 120, 121, 122, 123, 27, 28, 29, 30, 31, 32, 33, 124, 125, 126, 127, 128, 129, 130, 131, 132, 133, 134, 135, 136, 137, 138, 139, 140, 141, 142, 143, 144, 145, 146, 147, 148, 149, 150, 151, 152, 153, 154, 155, 156, 157, 158, 159, 160, 161, 162] (by decide +kernel) (by decide +kernel)
set_option maxRecDepth 20000 in
theorem gX3_meet_X3_place : GoodIn wsX3_meet (wsV RX3 61 RX3 yX3_place wsX3_place) := goodIn_app (goodIn_of _ (by decide +kernel)) ggX3_meet_X3_place
theorem dX3_meet_0 : decode cX3_meet 0 = .ok (.iload_n 1, 1) := by decide +kernel
theorem dX3_meet_1 : decode cX3_meet 1 = .ok (.invokestatic 53, 3) := by decide +kernel
theorem dX3_meet_4 : decode cX3_meet 4 = .ok (.iload_n 2, 1) := by decide +kernel
theorem dX3_meet_5 : decode cX3_meet 5 = .ok (.invokestatic 53, 3) := by decide +kernel
theorem dX3_meet_8 : decode cX3_meet 8 = .ok (.iload_n 3, 1) := by decide +kernel
theorem dX3_meet_9 : decode cX3_meet 9 = .ok (.invokestatic 53, 3) := by decide +kernel
theorem dX3_meet_12 : decode cX3_meet 12 = .ok (.iload 4, 2) := by decide +kernel
theorem dX3_meet_14 : decode cX3_meet 14 = .ok (.invokestatic 93, 3) := by decide +kernel
theorem dX3_meet_17 : decode cX3_meet 17 = .ok (.aload_n 0, 1) := by decide +kernel
theorem dX3_meet_18 : decode cX3_meet 18 = .ok (.getfield 11, 3) := by decide +kernel
theorem dX3_meet_21 : decode cX3_meet 21 = .ok (.iload_n 2, 1) := by decide +kernel
theorem dX3_meet_22 : decode cX3_meet 22 = .ok (.aaload, 1) := by decide +kernel
theorem dX3_meet_23 : decode cX3_meet 23 = .ok (.getfield 68, 3) := by decide +kernel
theorem dX3_meet_26 : decode cX3_meet 26 = .ok (.astore 5, 2) := by decide +kernel
theorem dX3_meet_28 : decode cX3_meet 28 = .ok (.aload_n 0, 1) := by decide +kernel
theorem dX3_meet_29 : decode cX3_meet 29 = .ok (.getfield 11, 3) := by decide +kernel
theorem dX3_meet_32 : decode cX3_meet 32 = .ok (.iload_n 3, 1) := by decide +kernel
theorem dX3_meet_33 : decode cX3_meet 33 = .ok (.aaload, 1) := by decide +kernel
theorem dX3_meet_34 : decode cX3_meet 34 = .ok (.getfield 68, 3) := by decide +kernel
theorem dX3_meet_37 : decode cX3_meet 37 = .ok (.astore 6, 2) := by decide +kernel
theorem dX3_meet_39 : decode cX3_meet 39 = .ok (.iconst 0, 1) := by decide +kernel
theorem dX3_meet_40 : decode cX3_meet 40 = .ok (.istore 7, 2) := by decide +kernel
theorem dX3_meet_42 : decode cX3_meet 42 = .ok (.iload 7, 2) := by decide +kernel
theorem dX3_meet_44 : decode cX3_meet 44 = .ok (.bipush 16, 2) := by decide +kernel
theorem dX3_meet_46 : decode cX3_meet 46 = .ok (.if_icmp .ge 30, 3) := by decide +kernel
theorem dX3_meet_49 : decode cX3_meet 49 = .ok (.aload_n 0, 1) := by decide +kernel
