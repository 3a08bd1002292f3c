theorem dX2_wordAcross_43 : decode cX2_wordAcross 43 = .ok (.lor, 1) := by decide +kernel
theorem dX2_wordAcross_44 : decode cX2_wordAcross 44 = .ok (.lreturn, 1) := by decide +kernel
theorem dX2_wordAcross_45 : decode cX2_wordAcross 45 = .ok (.iload_n 2, 1) := by decide +kernel
theorem dX2_wordAcross_46 : decode cX2_wordAcross 46 = .ok (.iconst 1, 1) := by decide +kernel
theorem dX2_wordAcross_47 : decode cX2_wordAcross 47 = .ok (.iload_n 1, 1) := by decide +kernel
theorem dX2_wordAcross_48 : decode cX2_wordAcross 48 = .ok (.bipush 6, 2) := by decide +kernel
theorem dX2_wordAcross_50 : decode cX2_wordAcross 50 = .ok (.isub, 1) := by decide +kernel
theorem dX2_wordAcross_51 : decode cX2_wordAcross 51 = .ok (.ishl, 1) := by decide +kernel
theorem dX2_wordAcross_52 : decode cX2_wordAcross 52 = .ok (.ixor, 1) := by decide +kernel
theorem dX2_wordAcross_53 : decode cX2_wordAcross 53 = .ok (.istore_n 3, 1) := by decide +kernel
theorem dX2_wordAcross_54 : decode cX2_wordAcross 54 = .ok (.iload_n 3, 1) := by decide +kernel
theorem dX2_wordAcross_55 : decode cX2_wordAcross 55 = .ok (.ifCond .lt 18, 3) := by decide +kernel
theorem dX2_wordAcross_58 : decode cX2_wordAcross 58 = .ok (.iload_n 3, 1) := by decide +kernel
theorem dX2_wordAcross_59 : decode cX2_wordAcross 59 = .ok (.bipush 16, 2) := by decide +kernel
theorem dX2_wordAcross_61 : decode cX2_wordAcross 61 = .ok (.if_icmp .ge 12, 3) := by decide +kernel
theorem dX2_wordAcross_64 : decode cX2_wordAcross 64 = .ok (.aload_n 0, 1) := by decide +kernel
theorem dX2_wordAcross_65 : decode cX2_wordAcross 65 = .ok (.getfield 11, 3) := by decide +kernel
theorem dX2_wordAcross_68 : decode cX2_wordAcross 68 = .ok (.iload_n 3, 1) := by decide +kernel
theorem dX2_wordAcross_69 : decode cX2_wordAcross 69 = .ok (.laload, 1) := by decide +kernel
theorem dX2_wordAcross_70 : decode cX2_wordAcross 70 = .ok (.goto 4, 3) := by decide +kernel
theorem dX2_wordAcross_73 : decode cX2_wordAcross 73 = .ok (.lconst 0, 1) := by decide +kernel
theorem dX2_wordAcross_74 : decode cX2_wordAcross 74 = .ok (.lreturn, 1) := by decide +kernel
set_option maxRecDepth 20000 in
theorem ggX2_wordWith_X2_wordOfVariable : GoodIn wsX2_wordWith wsX2_wordOfVariable := goodIn_r _ [6, 7, 1] (by decide +kernel) (by decide +kernel)
set_option maxRecDepth 20000 in
theorem gX2_wordWith_X2_wordOfVariable : GoodIn wsX2_wordWith (va_wsS RX2 20 yX2_wordOfVariable wsX2_wordOfVariable) := goodIn_app (goodIn_of _ (by decide +kernel)) ggX2_wordWith_X2_wordOfVariable
set_option maxRecDepth 20000 in
theorem ggX2_wordWith_X2_wordAcross : GoodIn wsX2_wordWith wsX2_wordAcross := goodIn_r _ [11, 7, 2, 12] (by decide +kernel) (by decide +kernel)
set_option maxRecDepth 20000 in
theorem gX2_wordWith_X2_wordAcross : GoodIn wsX2_wordWith (wsV RX2 24 RX2 yX2_wordAcross wsX2_wordAcross) := goodIn_app (goodIn_of _ (by decide +kernel)) ggX2_wordWith_X2_wordAcross
theorem dX2_wordWith_0 : decode cX2_wordWith 0 = .ok (.iload_n 1, 1) := by decide +kernel
theorem dX2_wordWith_1 : decode cX2_wordWith 1 = .ok (.iload_n 3, 1) := by decide +kernel
theorem dX2_wordWith_2 : decode cX2_wordWith 2 = .ok (.invokestatic 20, 3) := by decide +kernel
theorem dX2_wordWith_5 : decode cX2_wordWith 5 = .ok (.lstore 4, 2) := by decide +kernel
theorem dX2_wordWith_7 : decode cX2_wordWith 7 = .ok (.iload_n 2, 1) := by decide +kernel
theorem dX2_wordWith_8 : decode cX2_wordWith 8 = .ok (.ifCond .eq 8, 3) := by decide +kernel
theorem dX2_wordWith_11 : decode cX2_wordWith 11 = .ok (.lload 4, 2) := by decide +kernel
theorem dX2_wordWith_13 : decode cX2_wordWith 13 = .ok (.goto 9, 3) := by decide +kernel
theorem dX2_wordWith_16 : decode cX2_wordWith 16 = .ok (.lload 4, 2) := by decide +kernel
theorem dX2_wordWith_18 : decode cX2_wordWith 18 = .ok (.ldc2_w 18, 3) := by decide +kernel
theorem dX2_wordWith_21 : decode cX2_wordWith 21 = .ok (.lxor, 1) := by decide +kernel
theorem dX2_wordWith_22 : decode cX2_wordWith 22 = .ok (.lstore 6, 2) := by decide +kernel
theorem dX2_wordWith_24 : decode cX2_wordWith 24 = .ok (.aload_n 0, 1) := by decide +kernel
theorem dX2_wordWith_25 : decode cX2_wordWith 25 = .ok (.getfield 11, 3) := by decide +kernel
theorem dX2_wordWith_28 : decode cX2_wordWith 28 = .ok (.iload_n 3, 1) := by decide +kernel
theorem dX2_wordWith_29 : decode cX2_wordWith 29 = .ok (.laload, 1) := by decide +kernel
theorem dX2_wordWith_30 : decode cX2_wordWith 30 = .ok (.lload 6, 2) := by decide +kernel
theorem dX2_wordWith_32 : decode cX2_wordWith 32 = .ok (.land, 1) := by decide +kernel
theorem dX2_wordWith_33 : decode cX2_wordWith 33 = .ok (.aload_n 0, 1) := by decide +kernel
theorem dX2_wordWith_34 : decode cX2_wordWith 34 = .ok (.iload_n 1, 1) := by decide +kernel
theorem dX2_wordWith_35 : decode cX2_wordWith 35 = .ok (.iload_n 3, 1) := by decide +kernel
theorem dX2_wordWith_36 : decode cX2_wordWith 36 = .ok (.invokevirtual 24, 3) := by decide +kernel
theorem dX2_wordWith_39 : decode cX2_wordWith 39 = .ok (.lload 6, 2) := by decide +kernel
theorem dX2_wordWith_41 : decode cX2_wordWith 41 = .ok (.ldc2_w 18, 3) := by decide +kernel
theorem dX2_wordWith_44 : decode cX2_wordWith 44 = .ok (.lxor, 1) := by decide +kernel
theorem dX2_wordWith_45 : decode cX2_wordWith 45 = .ok (.land, 1) := by decide +kernel
theorem dX2_wordWith_46 : decode cX2_wordWith 46 = .ok (.lor, 1) := by decide +kernel
theorem dX2_wordWith_47 : decode cX2_wordWith 47 = .ok (.lreturn, 1) := by decide +kernel
theorem dX2_copy_0 : decode cX2_copy 0 = .ok (.aload_n 1, 1) := by decide +kernel
theorem dX2_copy_1 : decode cX2_copy 1 = .ok (.getfield 11, 3) := by decide +kernel
theorem dX2_copy_4 : decode cX2_copy 4 = .ok (.iconst 0, 1) := by decide +kernel
theorem dX2_copy_5 : decode cX2_copy 5 = .ok (.aload_n 0, 1) := by decide +kernel
theorem dX2_copy_6 : decode cX2_copy 6 = .ok (.getfield 11, 3) := by decide +kernel
theorem dX2_copy_9 : decode cX2_copy 9 = .ok (.iconst 0, 1) := by decide +kernel
theorem dX2_copy_10 : decode cX2_copy 10 = .ok (.bipush 16, 2) := by decide +kernel
theorem dX2_copy_12 : decode cX2_copy 12 = .ok (.invokestatic 27, 3) := by decide +kernel
theorem dX2_copy_15 : decode cX2_copy 15 = .ok (.return_, 1) := by decide +kernel
theorem dX2_tells_0 : decode cX2_tells 0 = .ok (.iload_n 1, 1) := by decide +kernel
theorem dX2_tells_1 : decode cX2_tells 1 = .ok (.ifCond .lt 35, 3) := by decide +kernel
theorem dX2_tells_4 : decode cX2_tells 4 = .ok (.iload_n 1, 1) := by decide +kernel
theorem dX2_tells_5 : decode cX2_tells 5 = .ok (.sipush 1024, 3) := by decide +kernel
theorem dX2_tells_8 : decode cX2_tells 8 = .ok (.if_icmp .ge 28, 3) := by decide +kernel
theorem dX2_tells_11 : decode cX2_tells 11 = .ok (.aload_n 0, 1) := by decide +kernel
theorem dX2_tells_12 : decode cX2_tells 12 = .ok (.getfield 11, 3) := by decide +kernel
theorem dX2_tells_15 : decode cX2_tells 15 = .ok (.iload_n 1, 1) := by decide +kernel
theorem dX2_tells_16 : decode cX2_tells 16 = .ok (.bipush 6, 2) := by decide +kernel
theorem dX2_tells_18 : decode cX2_tells 18 = .ok (.ishr, 1) := by decide +kernel
theorem dX2_tells_19 : decode cX2_tells 19 = .ok (.laload, 1) := by decide +kernel
theorem dX2_tells_20 : decode cX2_tells 20 = .ok (.iload_n 1, 1) := by decide +kernel
theorem dX2_tells_21 : decode cX2_tells 21 = .ok (.bipush 63, 2) := by decide +kernel
theorem dX2_tells_23 : decode cX2_tells 23 = .ok (.iand, 1) := by decide +kernel
theorem dX2_tells_24 : decode cX2_tells 24 = .ok (.lushr, 1) := by decide +kernel
theorem dX2_tells_25 : decode cX2_tells 25 = .ok (.lconst 1, 1) := by decide +kernel
theorem dX2_tells_26 : decode cX2_tells 26 = .ok (.land, 1) := by decide +kernel
theorem dX2_tells_27 : decode cX2_tells 27 = .ok (.lconst 1, 1) := by decide +kernel
theorem dX2_tells_28 : decode cX2_tells 28 = .ok (.lcmp, 1) := by decide +kernel
theorem dX2_tells_29 : decode cX2_tells 29 = .ok (.ifCond .ne 7, 3) := by decide +kernel
theorem dX2_tells_32 : decode cX2_tells 32 = .ok (.iconst 1, 1) := by decide +kernel
theorem dX2_tells_33 : decode cX2_tells 33 = .ok (.goto 4, 3) := by decide +kernel
theorem dX2_tells_36 : decode cX2_tells 36 = .ok (.iconst 0, 1) := by decide +kernel
theorem dX2_tells_37 : decode cX2_tells 37 = .ok (.ireturn, 1) := by decide +kernel
set_option maxRecDepth 20000 in
theorem ggX2_count_J13_bitCount_95d88 : GoodIn wsX2_count wsJ13_bitCount_95d88 := goodIn_r _ [5, 6, 7, 8] (by decide +kernel) (by decide +kernel)
set_option maxRecDepth 20000 in
theorem gX2_count_J13_bitCount_95d88 : GoodIn wsX2_count (va_wsS RX2 33 yJ13_bitCount_95d88 wsJ13_bitCount_95d88) := goodIn_app (goodIn_of _ (by decide +kernel)) ggX2_count_J13_bitCount_95d88
theorem dX2_count_0 : decode cX2_count 0 = .ok (.iconst 0, 1) := by decide +kernel
theorem dX2_count_1 : decode cX2_count 1 = .ok (.istore_n 1, 1) := by decide +kernel
theorem dX2_count_2 : decode cX2_count 2 = .ok (.iconst 0, 1) := by decide +kernel
theorem dX2_count_3 : decode cX2_count 3 = .ok (.istore_n 2, 1) := by decide +kernel
theorem dX2_count_4 : decode cX2_count 4 = .ok (.iload_n 2, 1) := by decide +kernel
theorem dX2_count_5 : decode cX2_count 5 = .ok (.bipush 16, 2) := by decide +kernel
theorem dX2_count_7 : decode cX2_count 7 = .ok (.if_icmp .ge 21, 3) := by decide +kernel
theorem dX2_count_10 : decode cX2_count 10 = .ok (.iload_n 1, 1) := by decide +kernel
theorem dX2_count_11 : decode cX2_count 11 = .ok (.aload_n 0, 1) := by decide +kernel
theorem dX2_count_12 : decode cX2_count 12 = .ok (.getfield 11, 3) := by decide +kernel
theorem dX2_count_15 : decode cX2_count 15 = .ok (.iload_n 2, 1) := by decide +kernel
theorem dX2_count_16 : decode cX2_count 16 = .ok (.laload, 1) := by decide +kernel
theorem dX2_count_17 : decode cX2_count 17 = .ok (.invokestatic 33, 3) := by decide +kernel
theorem dX2_count_20 : decode cX2_count 20 = .ok (.iadd, 1) := by decide +kernel
theorem dX2_count_21 : decode cX2_count 21 = .ok (.istore_n 1, 1) := by decide +kernel
theorem dX2_count_22 : decode cX2_count 22 = .ok (.iinc 2 1, 3) := by decide +kernel
theorem dX2_count_25 : decode cX2_count 25 = .ok (.goto (-21), 3) := by decide +kernel
theorem dX2_count_28 : decode cX2_count 28 = .ok (.iload_n 1, 1) := by decide +kernel
theorem dX2_count_29 : decode cX2_count 29 = .ok (.ireturn, 1) := by decide +kernel
set_option maxRecDepth 20000 in
theorem ggX2_nth_J13_bitCount_95d88 : GoodIn wsX2_nth wsJ13_bitCount_95d88 := goodIn_r _ [5, 6, 7, 8] (by decide +kernel) (by decide +kernel)
set_option maxRecDepth 20000 in
theorem gX2_nth_J13_bitCount_95d88 : GoodIn wsX2_nth (va_wsS RX2 33 yJ13_bitCount_95d88 wsJ13_bitCount_95d88) := goodIn_app (goodIn_of _ (by decide +kernel)) ggX2_nth_J13_bitCount_95d88
set_option maxRecDepth 20000 in
theorem ggX2_nth_X2_nthInWord : GoodIn wsX2_nth wsX2_nthInWord := goodIn_r _ [12, 13, 2, 3, 4, 5, 6, 7, 8] (by decide +kernel) (by decide +kernel)
set_option maxRecDepth 20000 in
theorem gX2_nth_X2_nthInWord : GoodIn wsX2_nth (va_wsS RX2 39 yX2_nthInWord wsX2_nthInWord) := goodIn_app (goodIn_of _ (by decide +kernel)) ggX2_nth_X2_nthInWord
theorem dX2_nth_0 : decode cX2_nth 0 = .ok (.iload_n 1, 1) := by decide +kernel
theorem dX2_nth_1 : decode cX2_nth 1 = .ok (.istore_n 2, 1) := by decide +kernel
theorem dX2_nth_2 : decode cX2_nth 2 = .ok (.iconst 0, 1) := by decide +kernel
theorem dX2_nth_3 : decode cX2_nth 3 = .ok (.istore_n 3, 1) := by decide +kernel
theorem dX2_nth_4 : decode cX2_nth 4 = .ok (.iload_n 3, 1) := by decide +kernel
theorem dX2_nth_5 : decode cX2_nth 5 = .ok (.bipush 16, 2) := by decide +kernel
theorem dX2_nth_7 : decode cX2_nth 7 = .ok (.if_icmp .ge 47, 3) := by decide +kernel
theorem dX2_nth_10 : decode cX2_nth 10 = .ok (.aload_n 0, 1) := by decide +kernel
theorem dX2_nth_11 : decode cX2_nth 11 = .ok (.getfield 11, 3) := by decide +kernel
theorem dX2_nth_14 : decode cX2_nth 14 = .ok (.iload_n 3, 1) := by decide +kernel
theorem dX2_nth_15 : decode cX2_nth 15 = .ok (.laload, 1) := by decide +kernel
theorem dX2_nth_16 : decode cX2_nth 16 = .ok (.invokestatic 33, 3) := by decide +kernel
theorem dX2_nth_19 : decode cX2_nth 19 = .ok (.istore 4, 2) := by decide +kernel
theorem dX2_nth_21 : decode cX2_nth 21 = .ok (.iload_n 2, 1) := by decide +kernel
theorem dX2_nth_22 : decode cX2_nth 22 = .ok (.iload 4, 2) := by decide +kernel
theorem dX2_nth_24 : decode cX2_nth 24 = .ok (.if_icmp .ge 19, 3) := by decide +kernel
theorem dX2_nth_27 : decode cX2_nth 27 = .ok (.iload_n 3, 1) := by decide +kernel
theorem dX2_nth_28 : decode cX2_nth 28 = .ok (.bipush 64, 2) := by decide +kernel
theorem dX2_nth_30 : decode cX2_nth 30 = .ok (.imul, 1) := by decide +kernel
theorem dX2_nth_31 : decode cX2_nth 31 = .ok (.aload_n 0, 1) := by decide +kernel
theorem dX2_nth_32 : decode cX2_nth 32 = .ok (.getfield 11, 3) := by decide +kernel
theorem dX2_nth_35 : decode cX2_nth 35 = .ok (.iload_n 3, 1) := by decide +kernel
theorem dX2_nth_36 : decode cX2_nth 36 = .ok (.laload, 1) := by decide +kernel
theorem dX2_nth_37 : decode cX2_nth 37 = .ok (.iload_n 2, 1) := by decide +kernel
theorem dX2_nth_38 : decode cX2_nth 38 = .ok (.invokestatic 39, 3) := by decide +kernel
theorem dX2_nth_41 : decode cX2_nth 41 = .ok (.iadd, 1) := by decide +kernel
theorem dX2_nth_42 : decode cX2_nth 42 = .ok (.ireturn, 1) := by decide +kernel
theorem dX2_nth_43 : decode cX2_nth 43 = .ok (.iload_n 2, 1) := by decide +kernel
theorem dX2_nth_44 : decode cX2_nth 44 = .ok (.iload 4, 2) := by decide +kernel
theorem dX2_nth_46 : decode cX2_nth 46 = .ok (.isub, 1) := by decide +kernel
theorem dX2_nth_47 : decode cX2_nth 47 = .ok (.istore_n 2, 1) := by decide +kernel
theorem dX2_nth_48 : decode cX2_nth 48 = .ok (.iinc 3 1, 3) := by decide +kernel
theorem dX2_nth_51 : decode cX2_nth 51 = .ok (.goto (-47), 3) := by decide +kernel
theorem dX2_nth_54 : decode cX2_nth 54 = .ok (.iconst (-1), 1) := by decide +kernel
theorem dX2_nth_55 : decode cX2_nth 55 = .ok (.ireturn, 1) := by decide +kernel
set_option maxRecDepth 20000 in
theorem ggX2_nthInWord_J13_bitCount_95d88 : GoodIn wsX2_nthInWord wsJ13_bitCount_95d88 := goodIn_r _ [5, 6, 7, 8] (by decide +kernel) (by decide +kernel)
set_option maxRecDepth 20000 in
theorem gX2_nthInWord_J13_bitCount_95d88 : GoodIn wsX2_nthInWord (va_wsS RX2 33 yJ13_bitCount_95d88 wsJ13_bitCount_95d88) := goodIn_app (goodIn_of _ (by decide +kernel)) ggX2_nthInWord_J13_bitCount_95d88
theorem dX2_nthInWord_0 : decode cX2_nthInWord 0 = .ok (.lload_n 0, 1) := by decide +kernel
theorem dX2_nthInWord_1 : decode cX2_nthInWord 1 = .ok (.lstore_n 3, 1) := by decide +kernel
theorem dX2_nthInWord_2 : decode cX2_nthInWord 2 = .ok (.iconst 0, 1) := by decide +kernel
theorem dX2_nthInWord_3 : decode cX2_nthInWord 3 = .ok (.istore 5, 2) := by decide +kernel
theorem dX2_nthInWord_5 : decode cX2_nthInWord 5 = .ok (.iload 5, 2) := by decide +kernel
theorem dX2_nthInWord_7 : decode cX2_nthInWord 7 = .ok (.iload_n 2, 1) := by decide +kernel
theorem dX2_nthInWord_8 : decode cX2_nthInWord 8 = .ok (.if_icmp .ge 15, 3) := by decide +kernel
theorem dX2_nthInWord_11 : decode cX2_nthInWord 11 = .ok (.lload_n 3, 1) := by decide +kernel
theorem dX2_nthInWord_12 : decode cX2_nthInWord 12 = .ok (.lload_n 3, 1) := by decide +kernel
theorem dX2_nthInWord_13 : decode cX2_nthInWord 13 = .ok (.lconst 1, 1) := by decide +kernel
theorem dX2_nthInWord_14 : decode cX2_nthInWord 14 = .ok (.lsub, 1) := by decide +kernel
theorem dX2_nthInWord_15 : decode cX2_nthInWord 15 = .ok (.land, 1) := by decide +kernel
theorem dX2_nthInWord_16 : decode cX2_nthInWord 16 = .ok (.lstore_n 3, 1) := by decide +kernel
theorem dX2_nthInWord_17 : decode cX2_nthInWord 17 = .ok (.iinc 5 1, 3) := by decide +kernel
theorem dX2_nthInWord_20 : decode cX2_nthInWord 20 = .ok (.goto (-15), 3) := by decide +kernel
theorem dX2_nthInWord_23 : decode cX2_nthInWord 23 = .ok (.lload_n 3, 1) := by decide +kernel
theorem dX2_nthInWord_24 : decode cX2_nthInWord 24 = .ok (.ldc2_w 18, 3) := by decide +kernel
theorem dX2_nthInWord_27 : decode cX2_nthInWord 27 = .ok (.lxor, 1) := by decide +kernel
theorem dX2_nthInWord_28 : decode cX2_nthInWord 28 = .ok (.lload_n 3, 1) := by decide +kernel
theorem dX2_nthInWord_29 : decode cX2_nthInWord 29 = .ok (.lconst 1, 1) := by decide +kernel
theorem dX2_nthInWord_30 : decode cX2_nthInWord 30 = .ok (.lsub, 1) := by decide +kernel
theorem dX2_nthInWord_31 : decode cX2_nthInWord 31 = .ok (.land, 1) := by decide +kernel
theorem dX2_nthInWord_32 : decode cX2_nthInWord 32 = .ok (.invokestatic 33, 3) := by decide +kernel
theorem dX2_nthInWord_35 : decode cX2_nthInWord 35 = .ok (.ireturn, 1) := by decide +kernel
set_option maxRecDepth 20000 in
theorem ggX2_changes_X2_wordAcross : GoodIn wsX2_changes wsX2_wordAcross := goodIn_r _ [6, 7, 1, 15] (by decide +kernel) (by decide +kernel)
set_option maxRecDepth 20000 in
theorem gX2_changes_X2_wordAcross : GoodIn wsX2_changes (wsV RX2 24 RX2 yX2_wordAcross wsX2_wordAcross) := goodIn_app (goodIn_of _ (by decide +kernel)) ggX2_changes_X2_wordAcross
set_option maxRecDepth 20000 in
theorem ggX2_changes_J13_bitCount_95d88 : GoodIn wsX2_changes wsJ13_bitCount_95d88 := goodIn_r _ [11, 12, 13, 14] (by decide +kernel) (by decide +kernel)
set_option maxRecDepth 20000 in
theorem gX2_changes_J13_bitCount_95d88 : GoodIn wsX2_changes (va_wsS RX2 33 yJ13_bitCount_95d88 wsJ13_bitCount_95d88) := goodIn_app (goodIn_of _ (by decide +kernel)) ggX2_changes_J13_bitCount_95d88
theorem dX2_changes_0 : decode cX2_changes 0 = .ok (.iconst 0, 1) := by decide +kernel
theorem dX2_changes_1 : decode cX2_changes 1 = .ok (.istore_n 2, 1) := by decide +kernel
theorem dX2_changes_2 : decode cX2_changes 2 = .ok (.iconst 0, 1) := by decide +kernel
theorem dX2_changes_3 : decode cX2_changes 3 = .ok (.istore_n 3, 1) := by decide +kernel
theorem dX2_changes_4 : decode cX2_changes 4 = .ok (.iload_n 3, 1) := by decide +kernel
theorem dX2_changes_5 : decode cX2_changes 5 = .ok (.bipush 16, 2) := by decide +kernel
theorem dX2_changes_7 : decode cX2_changes 7 = .ok (.if_icmp .ge 28, 3) := by decide +kernel
theorem dX2_changes_10 : decode cX2_changes 10 = .ok (.iload_n 2, 1) := by decide +kernel
theorem dX2_changes_11 : decode cX2_changes 11 = .ok (.aload_n 0, 1) := by decide +kernel
theorem dX2_changes_12 : decode cX2_changes 12 = .ok (.getfield 11, 3) := by decide +kernel
theorem dX2_changes_15 : decode cX2_changes 15 = .ok (.iload_n 3, 1) := by decide +kernel
theorem dX2_changes_16 : decode cX2_changes 16 = .ok (.laload, 1) := by decide +kernel
theorem dX2_changes_17 : decode cX2_changes 17 = .ok (.aload_n 0, 1) := by decide +kernel
theorem dX2_changes_18 : decode cX2_changes 18 = .ok (.iload_n 1, 1) := by decide +kernel
theorem dX2_changes_19 : decode cX2_changes 19 = .ok (.iload_n 3, 1) := by decide +kernel
theorem dX2_changes_20 : decode cX2_changes 20 = .ok (.invokevirtual 24, 3) := by decide +kernel
theorem dX2_changes_23 : decode cX2_changes 23 = .ok (.lxor, 1) := by decide +kernel
theorem dX2_changes_24 : decode cX2_changes 24 = .ok (.invokestatic 33, 3) := by decide +kernel
theorem dX2_changes_27 : decode cX2_changes 27 = .ok (.iadd, 1) := by decide +kernel
theorem dX2_changes_28 : decode cX2_changes 28 = .ok (.istore_n 2, 1) := by decide +kernel
theorem dX2_changes_29 : decode cX2_changes 29 = .ok (.iinc 3 1, 3) := by decide +kernel
theorem dX2_changes_32 : decode cX2_changes 32 = .ok (.goto (-28), 3) := by decide +kernel
theorem dX2_changes_35 : decode cX2_changes 35 = .ok (.iload_n 2, 1) := by decide +kernel
theorem dX2_changes_36 : decode cX2_changes 36 = .ok (.ireturn, 1) := by decide +kernel
set_option maxRecDepth 20000 in
theorem ggX2_dependsOn_X2_isMovedBy : GoodIn wsX2_dependsOn wsX2_isMovedBy := goodIn_r _ [5, 6, 7, 8, 9, 4, 10, 11, 12] (by decide +kernel) (by decide +kernel)
set_option maxRecDepth 20000 in
theorem gX2_dependsOn_X2_isMovedBy : GoodIn wsX2_dependsOn (wsV RX2 43 RX2 yX2_isMovedBy wsX2_isMovedBy) := goodIn_app (goodIn_of _ (by decide +kernel)) ggX2_dependsOn_X2_isMovedBy
theorem dX2_dependsOn_0 : decode cX2_dependsOn 0 = .ok (.iconst 0, 1) := by decide +kernel
theorem dX2_dependsOn_1 : decode cX2_dependsOn 1 = .ok (.istore_n 1, 1) := by decide +kernel
theorem dX2_dependsOn_2 : decode cX2_dependsOn 2 = .ok (.iconst 0, 1) := by decide +kernel
theorem dX2_dependsOn_3 : decode cX2_dependsOn 3 = .ok (.istore_n 2, 1) := by decide +kernel
theorem dX2_dependsOn_4 : decode cX2_dependsOn 4 = .ok (.iload_n 2, 1) := by decide +kernel
theorem dX2_dependsOn_5 : decode cX2_dependsOn 5 = .ok (.bipush 10, 2) := by decide +kernel
theorem dX2_dependsOn_7 : decode cX2_dependsOn 7 = .ok (.if_icmp .ge 23, 3) := by decide +kernel
theorem dX2_dependsOn_10 : decode cX2_dependsOn 10 = .ok (.aload_n 0, 1) := by decide +kernel
theorem dX2_dependsOn_11 : decode cX2_dependsOn 11 = .ok (.iload_n 2, 1) := by decide +kernel
theorem dX2_dependsOn_12 : decode cX2_dependsOn 12 = .ok (.invokevirtual 43, 3) := by decide +kernel
theorem dX2_dependsOn_15 : decode cX2_dependsOn 15 = .ok (.ifCond .eq 9, 3) := by decide +kernel
theorem dX2_dependsOn_18 : decode cX2_dependsOn 18 = .ok (.iload_n 1, 1) := by decide +kernel
theorem dX2_dependsOn_19 : decode cX2_dependsOn 19 = .ok (.iconst 1, 1) := by decide +kernel
theorem dX2_dependsOn_20 : decode cX2_dependsOn 20 = .ok (.iload_n 2, 1) := by decide +kernel
theorem dX2_dependsOn_21 : decode cX2_dependsOn 21 = .ok (.ishl, 1) := by decide +kernel
theorem dX2_dependsOn_22 : decode cX2_dependsOn 22 = .ok (.ior, 1) := by decide +kernel
theorem dX2_dependsOn_23 : decode cX2_dependsOn 23 = .ok (.istore_n 1, 1) := by decide +kernel
theorem dX2_dependsOn_24 : decode cX2_dependsOn 24 = .ok (.iinc 2 1, 3) := by decide +kernel
theorem dX2_dependsOn_27 : decode cX2_dependsOn 27 = .ok (.goto (-23), 3) := by decide +kernel
theorem dX2_dependsOn_30 : decode cX2_dependsOn 30 = .ok (.iload_n 1, 1) := by decide +kernel
theorem dX2_dependsOn_31 : decode cX2_dependsOn 31 = .ok (.ireturn, 1) := by decide +kernel
set_option maxRecDepth 20000 in
theorem ggX2_isMovedBy_X2_wordAcross : GoodIn wsX2_isMovedBy wsX2_wordAcross := goodIn_r _ [6, 7, 1, 8] (by decide +kernel) (by decide +kernel)
set_option maxRecDepth 20000 in
theorem gX2_isMovedBy_X2_wordAcross : GoodIn wsX2_isMovedBy (wsV RX2 24 RX2 yX2_wordAcross wsX2_wordAcross) := goodIn_app (goodIn_of _ (by decide +kernel)) ggX2_isMovedBy_X2_wordAcross
theorem dX2_isMovedBy_0 : decode cX2_isMovedBy 0 = .ok (.iconst 0, 1) := by decide +kernel
theorem dX2_isMovedBy_1 : decode cX2_isMovedBy 1 = .ok (.istore_n 2, 1) := by decide +kernel
theorem dX2_isMovedBy_2 : decode cX2_isMovedBy 2 = .ok (.iload_n 2, 1) := by decide +kernel
theorem dX2_isMovedBy_3 : decode cX2_isMovedBy 3 = .ok (.bipush 16, 2) := by decide +kernel
theorem dX2_isMovedBy_5 : decode cX2_isMovedBy 5 = .ok (.if_icmp .ge 27, 3) := by decide +kernel
theorem dX2_isMovedBy_8 : decode cX2_isMovedBy 8 = .ok (.aload_n 0, 1) := by decide +kernel
theorem dX2_isMovedBy_9 : decode cX2_isMovedBy 9 = .ok (.getfield 11, 3) := by decide +kernel
theorem dX2_isMovedBy_12 : decode cX2_isMovedBy 12 = .ok (.iload_n 2, 1) := by decide +kernel
theorem dX2_isMovedBy_13 : decode cX2_isMovedBy 13 = .ok (.laload, 1) := by decide +kernel
theorem dX2_isMovedBy_14 : decode cX2_isMovedBy 14 = .ok (.aload_n 0, 1) := by decide +kernel
theorem dX2_isMovedBy_15 : decode cX2_isMovedBy 15 = .ok (.iload_n 1, 1) := by decide +kernel
theorem dX2_isMovedBy_16 : decode cX2_isMovedBy 16 = .ok (.iload_n 2, 1) := by decide +kernel
theorem dX2_isMovedBy_17 : decode cX2_isMovedBy 17 = .ok (.invokevirtual 24, 3) := by decide +kernel
theorem dX2_isMovedBy_20 : decode cX2_isMovedBy 20 = .ok (.lcmp, 1) := by decide +kernel
theorem dX2_isMovedBy_21 : decode cX2_isMovedBy 21 = .ok (.ifCond .eq 5, 3) := by decide +kernel
theorem dX2_isMovedBy_24 : decode cX2_isMovedBy 24 = .ok (.iconst 1, 1) := by decide +kernel
theorem dX2_isMovedBy_25 : decode cX2_isMovedBy 25 = .ok (.ireturn, 1) := by decide +kernel
theorem dX2_isMovedBy_26 : decode cX2_isMovedBy 26 = .ok (.iinc 2 1, 3) := by decide +kernel
theorem dX2_isMovedBy_29 : decode cX2_isMovedBy 29 = .ok (.goto (-27), 3) := by decide +kernel
theorem dX2_isMovedBy_32 : decode cX2_isMovedBy 32 = .ok (.iconst 0, 1) := by decide +kernel
theorem dX2_isMovedBy_33 : decode cX2_isMovedBy 33 = .ok (.ireturn, 1) := by decide +kernel
set_option maxRecDepth 20000 in
theorem ggX2_foldSet_X2_fold : GoodIn wsX2_foldSet wsX2_fold := goodIn_r _ [5, 6, 7, 8, 9, 4, 10, 11, 12, 13, 14, 15, 16, 17, 18, 19, 20] (by decide +kernel) (by decide +kernel)
set_option maxRecDepth 20000 in
theorem gX2_foldSet_X2_fold : GoodIn wsX2_foldSet (wsV RX2 47 RX2 yX2_fold wsX2_fold) := goodIn_app (goodIn_of _ (by decide +kernel)) ggX2_foldSet_X2_fold
theorem dX2_foldSet_0 : decode cX2_foldSet 0 = .ok (.iconst 0, 1) := by decide +kernel
theorem dX2_foldSet_1 : decode cX2_foldSet 1 = .ok (.istore 4, 2) := by decide +kernel
theorem dX2_foldSet_3 : decode cX2_foldSet 3 = .ok (.iload 4, 2) := by decide +kernel
theorem dX2_foldSet_5 : decode cX2_foldSet 5 = .ok (.bipush 10, 2) := by decide +kernel
theorem dX2_foldSet_7 : decode cX2_foldSet 7 = .ok (.if_icmp .ge 27, 3) := by decide +kernel
theorem dX2_foldSet_10 : decode cX2_foldSet 10 = .ok (.iload_n 1, 1) := by decide +kernel
theorem dX2_foldSet_11 : decode cX2_foldSet 11 = .ok (.iload 4, 2) := by decide +kernel
theorem dX2_foldSet_13 : decode cX2_foldSet 13 = .ok (.ishr, 1) := by decide +kernel
theorem dX2_foldSet_14 : decode cX2_foldSet 14 = .ok (.iconst 1, 1) := by decide +kernel
theorem dX2_foldSet_15 : decode cX2_foldSet 15 = .ok (.iand, 1) := by decide +kernel
theorem dX2_foldSet_16 : decode cX2_foldSet 16 = .ok (.iconst 1, 1) := by decide +kernel
theorem dX2_foldSet_17 : decode cX2_foldSet 17 = .ok (.if_icmp .ne 11, 3) := by decide +kernel
theorem dX2_foldSet_20 : decode cX2_foldSet 20 = .ok (.aload_n 0, 1) := by decide +kernel
theorem dX2_foldSet_21 : decode cX2_foldSet 21 = .ok (.iload 4, 2) := by decide +kernel
theorem dX2_foldSet_23 : decode cX2_foldSet 23 = .ok (.iload_n 2, 1) := by decide +kernel
theorem dX2_foldSet_24 : decode cX2_foldSet 24 = .ok (.aload_n 3, 1) := by decide +kernel
theorem dX2_foldSet_25 : decode cX2_foldSet 25 = .ok (.invokevirtual 47, 3) := by decide +kernel
theorem dX2_foldSet_28 : decode cX2_foldSet 28 = .ok (.iinc 4 1, 3) := by decide +kernel
theorem dX2_foldSet_31 : decode cX2_foldSet 31 = .ok (.goto (-28), 3) := by decide +kernel
theorem dX2_foldSet_34 : decode cX2_foldSet 34 = .ok (.return_, 1) := by decide +kernel
set_option maxRecDepth 20000 in
theorem ggX2_fold_X2_copy : GoodIn wsX2_fold wsX2_copy := goodIn_r _ [6, 1, 7, 8, 9, 10, 16] (by decide +kernel) (by decide +kernel)
set_option maxRecDepth 20000 in
theorem gX2_fold_X2_copy : GoodIn wsX2_fold (wsV RX2 51 RX2 yX2_copy wsX2_copy) := goodIn_app (goodIn_of _ (by decide +kernel)) ggX2_fold_X2_copy
set_option maxRecDepth 20000 in
theorem ggX2_fold_X2_wordAcross : GoodIn wsX2_fold wsX2_wordAcross := goodIn_r _ [14, 15, 1, 16] (by decide +kernel) (by decide +kernel)
set_option maxRecDepth 20000 in
theorem gX2_fold_X2_wordAcross : GoodIn wsX2_fold (wsV RX2 24 RX2 yX2_wordAcross wsX2_wordAcross) := goodIn_app (goodIn_of _ (by decide +kernel)) ggX2_fold_X2_wordAcross
theorem dX2_fold_0 : decode cX2_fold 0 = .ok (.aload_n 3, 1) := by decide +kernel
theorem dX2_fold_1 : decode cX2_fold 1 = .ok (.aload_n 0, 1) := by decide +kernel
theorem dX2_fold_2 : decode cX2_fold 2 = .ok (.invokevirtual 51, 3) := by decide +kernel
theorem dX2_fold_5 : decode cX2_fold 5 = .ok (.iconst 0, 1) := by decide +kernel
theorem dX2_fold_6 : decode cX2_fold 6 = .ok (.istore 4, 2) := by decide +kernel
theorem dX2_fold_8 : decode cX2_fold 8 = .ok (.iload 4, 2) := by decide +kernel
theorem dX2_fold_10 : decode cX2_fold 10 = .ok (.bipush 16, 2) := by decide +kernel
theorem dX2_fold_12 : decode cX2_fold 12 = .ok (.if_icmp .ge 64, 3) := by decide +kernel
theorem dX2_fold_15 : decode cX2_fold 15 = .ok (.aload_n 3, 1) := by decide +kernel
theorem dX2_fold_16 : decode cX2_fold 16 = .ok (.getfield 11, 3) := by decide +kernel
theorem dX2_fold_19 : decode cX2_fold 19 = .ok (.iload 4, 2) := by decide +kernel
theorem dX2_fold_21 : decode cX2_fold 21 = .ok (.laload, 1) := by decide +kernel
theorem dX2_fold_22 : decode cX2_fold 22 = .ok (.lstore 5, 2) := by decide +kernel
theorem dX2_fold_24 : decode cX2_fold 24 = .ok (.aload_n 3, 1) := by decide +kernel
theorem dX2_fold_25 : decode cX2_fold 25 = .ok (.iload_n 1, 1) := by decide +kernel
theorem dX2_fold_26 : decode cX2_fold 26 = .ok (.iload 4, 2) := by decide +kernel
theorem dX2_fold_28 : decode cX2_fold 28 = .ok (.invokevirtual 24, 3) := by decide +kernel
theorem dX2_fold_31 : decode cX2_fold 31 = .ok (.lstore 7, 2) := by decide +kernel
theorem dX2_fold_33 : decode cX2_fold 33 = .ok (.aload_n 0, 1) := by decide +kernel
theorem dX2_fold_34 : decode cX2_fold 34 = .ok (.getfield 11, 3) := by decide +kernel
theorem dX2_fold_37 : decode cX2_fold 37 = .ok (.iload 4, 2) := by decide +kernel
theorem dX2_fold_39 : decode cX2_fold 39 = .ok (.iload_n 2, 1) := by decide +kernel
theorem dX2_fold_40 : decode cX2_fold 40 = .ok (.ifCond .ne 11, 3) := by decide +kernel
theorem dX2_fold_43 : decode cX2_fold 43 = .ok (.lload 5, 2) := by decide +kernel
theorem dX2_fold_45 : decode cX2_fold 45 = .ok (.lload 7, 2) := by decide +kernel
theorem dX2_fold_47 : decode cX2_fold 47 = .ok (.lor, 1) := by decide +kernel
theorem dX2_fold_48 : decode cX2_fold 48 = .ok (.goto 21, 3) := by decide +kernel
theorem dX2_fold_51 : decode cX2_fold 51 = .ok (.iload_n 2, 1) := by decide +kernel
theorem dX2_fold_52 : decode cX2_fold 52 = .ok (.iconst 1, 1) := by decide +kernel
theorem dX2_fold_53 : decode cX2_fold 53 = .ok (.if_icmp .ne 11, 3) := by decide +kernel
theorem dX2_fold_56 : decode cX2_fold 56 = .ok (.lload 5, 2) := by decide +kernel
theorem dX2_fold_58 : decode cX2_fold 58 = .ok (.lload 7, 2) := by decide +kernel
theorem dX2_fold_60 : decode cX2_fold 60 = .ok (.land, 1) := by decide +kernel
theorem dX2_fold_61 : decode cX2_fold 61 = .ok (.goto 8, 3) := by decide +kernel
theorem dX2_fold_64 : decode cX2_fold 64 = .ok (.lload 5, 2) := by decide +kernel
theorem dX2_fold_66 : decode cX2_fold 66 = .ok (.lload 7, 2) := by decide +kernel
theorem dX2_fold_68 : decode cX2_fold 68 = .ok (.lxor, 1) := by decide +kernel
theorem dX2_fold_69 : decode cX2_fold 69 = .ok (.lastore, 1) := by decide +kernel
theorem dX2_fold_70 : decode cX2_fold 70 = .ok (.iinc 4 1, 3) := by decide +kernel
theorem dX2_fold_73 : decode cX2_fold 73 = .ok (.goto (-65), 3) := by decide +kernel
theorem dX2_fold_76 : decode cX2_fold 76 = .ok (.return_, 1) := by decide +kernel
set_option maxRecDepth 20000 in
theorem ggX2_lean_X2_copy : GoodIn wsX2_lean wsX2_copy := goodIn_r _ [7, 1, 8, 9, 10, 11, 17] (by decide +kernel) (by decide +kernel)
set_option maxRecDepth 20000 in
theorem gX2_lean_X2_copy : GoodIn wsX2_lean (wsV RX2 51 RX2 yX2_copy wsX2_copy) := goodIn_app (goodIn_of _ (by decide +kernel)) ggX2_lean_X2_copy
set_option maxRecDepth 20000 in
theorem ggX2_lean_X2_wordAcross : GoodIn wsX2_lean wsX2_wordAcross := goodIn_r _ [15, 16, 1, 17] (by decide +kernel) (by decide +kernel)
set_option maxRecDepth 20000 in
theorem gX2_lean_X2_wordAcross : GoodIn wsX2_lean (wsV RX2 24 RX2 yX2_wordAcross wsX2_wordAcross) := goodIn_app (goodIn_of _ (by decide +kernel)) ggX2_lean_X2_wordAcross
theorem dX2_lean_0 : decode cX2_lean 0 = .ok (.aload_n 3, 1) := by decide +kernel
theorem dX2_lean_1 : decode cX2_lean 1 = .ok (.aload_n 0, 1) := by decide +kernel
theorem dX2_lean_2 : decode cX2_lean 2 = .ok (.invokevirtual 51, 3) := by decide +kernel
theorem dX2_lean_5 : decode cX2_lean 5 = .ok (.iconst 0, 1) := by decide +kernel
theorem dX2_lean_6 : decode cX2_lean 6 = .ok (.istore 4, 2) := by decide +kernel
theorem dX2_lean_8 : decode cX2_lean 8 = .ok (.iload 4, 2) := by decide +kernel
theorem dX2_lean_10 : decode cX2_lean 10 = .ok (.bipush 16, 2) := by decide +kernel
theorem dX2_lean_12 : decode cX2_lean 12 = .ok (.if_icmp .ge 50, 3) := by decide +kernel
theorem dX2_lean_15 : decode cX2_lean 15 = .ok (.aload_n 1, 1) := by decide +kernel
theorem dX2_lean_16 : decode cX2_lean 16 = .ok (.getfield 11, 3) := by decide +kernel
theorem dX2_lean_19 : decode cX2_lean 19 = .ok (.iload 4, 2) := by decide +kernel
theorem dX2_lean_21 : decode cX2_lean 21 = .ok (.laload, 1) := by decide +kernel
theorem dX2_lean_22 : decode cX2_lean 22 = .ok (.lstore 5, 2) := by decide +kernel
theorem dX2_lean_24 : decode cX2_lean 24 = .ok (.aload_n 0, 1) := by decide +kernel
theorem dX2_lean_25 : decode cX2_lean 25 = .ok (.getfield 11, 3) := by decide +kernel
theorem dX2_lean_28 : decode cX2_lean 28 = .ok (.iload 4, 2) := by decide +kernel
theorem dX2_lean_30 : decode cX2_lean 30 = .ok (.aload_n 3, 1) := by decide +kernel
theorem dX2_lean_31 : decode cX2_lean 31 = .ok (.getfield 11, 3) := by decide +kernel
theorem dX2_lean_34 : decode cX2_lean 34 = .ok (.iload 4, 2) := by decide +kernel
theorem dX2_lean_36 : decode cX2_lean 36 = .ok (.laload, 1) := by decide +kernel
theorem dX2_lean_37 : decode cX2_lean 37 = .ok (.lload 5, 2) := by decide +kernel
theorem dX2_lean_39 : decode cX2_lean 39 = .ok (.land, 1) := by decide +kernel
theorem dX2_lean_40 : decode cX2_lean 40 = .ok (.aload_n 3, 1) := by decide +kernel
theorem dX2_lean_41 : decode cX2_lean 41 = .ok (.iload_n 2, 1) := by decide +kernel
theorem dX2_lean_42 : decode cX2_lean 42 = .ok (.iload 4, 2) := by decide +kernel
theorem dX2_lean_44 : decode cX2_lean 44 = .ok (.invokevirtual 24, 3) := by decide +kernel
theorem dX2_lean_47 : decode cX2_lean 47 = .ok (.lload 5, 2) := by decide +kernel
theorem dX2_lean_49 : decode cX2_lean 49 = .ok (.ldc2_w 18, 3) := by decide +kernel
theorem dX2_lean_52 : decode cX2_lean 52 = .ok (.lxor, 1) := by decide +kernel
theorem dX2_lean_53 : decode cX2_lean 53 = .ok (.land, 1) := by decide +kernel
theorem dX2_lean_54 : decode cX2_lean 54 = .ok (.lor, 1) := by decide +kernel
theorem dX2_lean_55 : decode cX2_lean 55 = .ok (.lastore, 1) := by decide +kernel
theorem dX2_lean_56 : decode cX2_lean 56 = .ok (.iinc 4 1, 3) := by decide +kernel
theorem dX2_lean_59 : decode cX2_lean 59 = .ok (.goto (-51), 3) := by decide +kernel
theorem dX2_lean_62 : decode cX2_lean 62 = .ok (.return_, 1) := by decide +kernel
set_option maxRecDepth 20000 in
theorem ggX2_crossed_X2_wordAcross : GoodIn wsX2_crossed wsX2_wordAcross := goodIn_r _ [7, 8, 1, 12] (by decide +kernel) (by decide +kernel)
set_option maxRecDepth 20000 in
theorem gX2_crossed_X2_wordAcross : GoodIn wsX2_crossed (wsV RX2 24 RX2 yX2_wordAcross wsX2_wordAcross) := goodIn_app (goodIn_of _ (by decide +kernel)) ggX2_crossed_X2_wordAcross
set_option maxRecDepth 20000 in
theorem ggX2_crossed_X2_wordOfVariable : GoodIn wsX2_crossed wsX2_wordOfVariable := goodIn_r _ [11, 8, 2] (by decide +kernel) (by decide +kernel)
set_option maxRecDepth 20000 in
theorem gX2_crossed_X2_wordOfVariable : GoodIn wsX2_crossed (va_wsS RX2 20 yX2_wordOfVariable wsX2_wordOfVariable) := goodIn_app (goodIn_of _ (by decide +kernel)) ggX2_crossed_X2_wordOfVariable
theorem dX2_crossed_0 : decode cX2_crossed 0 = .ok (.iconst 0, 1) := by decide +kernel
theorem dX2_crossed_1 : decode cX2_crossed 1 = .ok (.istore 5, 2) := by decide +kernel
theorem dX2_crossed_3 : decode cX2_crossed 3 = .ok (.iload 5, 2) := by decide +kernel
theorem dX2_crossed_5 : decode cX2_crossed 5 = .ok (.bipush 16, 2) := by decide +kernel
theorem dX2_crossed_7 : decode cX2_crossed 7 = .ok (.if_icmp .ge 24, 3) := by decide +kernel
theorem dX2_crossed_10 : decode cX2_crossed 10 = .ok (.aload 4, 2) := by decide +kernel
theorem dX2_crossed_12 : decode cX2_crossed 12 = .ok (.getfield 11, 3) := by decide +kernel
theorem dX2_crossed_15 : decode cX2_crossed 15 = .ok (.iload 5, 2) := by decide +kernel
theorem dX2_crossed_17 : decode cX2_crossed 17 = .ok (.aload_n 1, 1) := by decide +kernel
theorem dX2_crossed_18 : decode cX2_crossed 18 = .ok (.iload_n 2, 1) := by decide +kernel
theorem dX2_crossed_19 : decode cX2_crossed 19 = .ok (.iload 5, 2) := by decide +kernel
theorem dX2_crossed_21 : decode cX2_crossed 21 = .ok (.invokevirtual 24, 3) := by decide +kernel
theorem dX2_crossed_24 : decode cX2_crossed 24 = .ok (.lastore, 1) := by decide +kernel
theorem dX2_crossed_25 : decode cX2_crossed 25 = .ok (.iinc 5 1, 3) := by decide +kernel
theorem dX2_crossed_28 : decode cX2_crossed 28 = .ok (.goto (-25), 3) := by decide +kernel
theorem dX2_crossed_31 : decode cX2_crossed 31 = .ok (.iconst 0, 1) := by decide +kernel
theorem dX2_crossed_32 : decode cX2_crossed 32 = .ok (.istore 5, 2) := by decide +kernel
theorem dX2_crossed_34 : decode cX2_crossed 34 = .ok (.iload 5, 2) := by decide +kernel
theorem dX2_crossed_36 : decode cX2_crossed 36 = .ok (.bipush 16, 2) := by decide +kernel
theorem dX2_crossed_38 : decode cX2_crossed 38 = .ok (.if_icmp .ge 57, 3) := by decide +kernel
theorem dX2_crossed_41 : decode cX2_crossed 41 = .ok (.iload_n 2, 1) := by decide +kernel
theorem dX2_crossed_42 : decode cX2_crossed 42 = .ok (.iload 5, 2) := by decide +kernel
theorem dX2_crossed_44 : decode cX2_crossed 44 = .ok (.invokestatic 20, 3) := by decide +kernel
theorem dX2_crossed_47 : decode cX2_crossed 47 = .ok (.iload_n 3, 1) := by decide +kernel
theorem dX2_crossed_48 : decode cX2_crossed 48 = .ok (.iload 5, 2) := by decide +kernel
theorem dX2_crossed_50 : decode cX2_crossed 50 = .ok (.invokestatic 20, 3) := by decide +kernel
theorem dX2_crossed_53 : decode cX2_crossed 53 = .ok (.lxor, 1) := by decide +kernel
theorem dX2_crossed_54 : decode cX2_crossed 54 = .ok (.lstore 6, 2) := by decide +kernel
theorem dX2_crossed_56 : decode cX2_crossed 56 = .ok (.aload_n 0, 1) := by decide +kernel
theorem dX2_crossed_57 : decode cX2_crossed 57 = .ok (.getfield 11, 3) := by decide +kernel
theorem dX2_crossed_60 : decode cX2_crossed 60 = .ok (.iload 5, 2) := by decide +kernel
theorem dX2_crossed_62 : decode cX2_crossed 62 = .ok (.aload_n 1, 1) := by decide +kernel
theorem dX2_crossed_63 : decode cX2_crossed 63 = .ok (.getfield 11, 3) := by decide +kernel
theorem dX2_crossed_66 : decode cX2_crossed 66 = .ok (.iload 5, 2) := by decide +kernel
theorem dX2_crossed_68 : decode cX2_crossed 68 = .ok (.laload, 1) := by decide +kernel
theorem dX2_crossed_69 : decode cX2_crossed 69 = .ok (.lload 6, 2) := by decide +kernel
theorem dX2_crossed_71 : decode cX2_crossed 71 = .ok (.ldc2_w 18, 3) := by decide +kernel
theorem dX2_crossed_74 : decode cX2_crossed 74 = .ok (.lxor, 1) := by decide +kernel
theorem dX2_crossed_75 : decode cX2_crossed 75 = .ok (.land, 1) := by decide +kernel
theorem dX2_crossed_76 : decode cX2_crossed 76 = .ok (.aload 4, 2) := by decide +kernel
theorem dX2_crossed_78 : decode cX2_crossed 78 = .ok (.iload_n 3, 1) := by decide +kernel
theorem dX2_crossed_79 : decode cX2_crossed 79 = .ok (.iload 5, 2) := by decide +kernel
theorem dX2_crossed_81 : decode cX2_crossed 81 = .ok (.invokevirtual 24, 3) := by decide +kernel
theorem dX2_crossed_84 : decode cX2_crossed 84 = .ok (.lload 6, 2) := by decide +kernel
theorem dX2_crossed_86 : decode cX2_crossed 86 = .ok (.land, 1) := by decide +kernel
theorem dX2_crossed_87 : decode cX2_crossed 87 = .ok (.lor, 1) := by decide +kernel
theorem dX2_crossed_88 : decode cX2_crossed 88 = .ok (.lastore, 1) := by decide +kernel
theorem dX2_crossed_89 : decode cX2_crossed 89 = .ok (.iinc 5 1, 3) := by decide +kernel
theorem dX2_crossed_92 : decode cX2_crossed 92 = .ok (.goto (-58), 3) := by decide +kernel
theorem dX2_crossed_95 : decode cX2_crossed 95 = .ok (.return_, 1) := by decide +kernel
set_option maxRecDepth 20000 in
theorem ggX2_packed_X2_tells : GoodIn wsX2_packed wsX2_tells := goodIn_r _ [5, 6, 7] (by decide +kernel) (by decide +kernel)
set_option maxRecDepth 20000 in
theorem gX2_packed_X2_tells : GoodIn wsX2_packed (wsV RX2 55 RX2 yX2_tells wsX2_tells) := goodIn_app (goodIn_of _ (by decide +kernel)) ggX2_packed_X2_tells
theorem dX2_packed_0 : decode cX2_packed 0 = .ok (.lconst 0, 1) := by decide +kernel
theorem dX2_packed_1 : decode cX2_packed 1 = .ok (.lstore_n 2, 1) := by decide +kernel
theorem dX2_packed_2 : decode cX2_packed 2 = .ok (.iconst 0, 1) := by decide +kernel
theorem dX2_packed_3 : decode cX2_packed 3 = .ok (.istore 4, 2) := by decide +kernel
theorem dX2_packed_5 : decode cX2_packed 5 = .ok (.iconst 0, 1) := by decide +kernel
theorem dX2_packed_6 : decode cX2_packed 6 = .ok (.istore 5, 2) := by decide +kernel
theorem dX2_packed_8 : decode cX2_packed 8 = .ok (.iload 5, 2) := by decide +kernel
theorem dX2_packed_10 : decode cX2_packed 10 = .ok (.bipush 64, 2) := by decide +kernel
theorem dX2_packed_12 : decode cX2_packed 12 = .ok (.if_icmp .ge 33, 3) := by decide +kernel
theorem dX2_packed_15 : decode cX2_packed 15 = .ok (.aload_n 0, 1) := by decide +kernel
theorem dX2_packed_16 : decode cX2_packed 16 = .ok (.iload 4, 2) := by decide +kernel
