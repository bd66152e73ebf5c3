theorem dX4_callLine_60 : decode cX4_callLine 60 = .ok (.aload_n 1, 1) := by decide +kernel
theorem dX4_callLine_61 : decode cX4_callLine 61 = .ok (.iconst 3, 1) := by decide +kernel
theorem dX4_callLine_62 : decode cX4_callLine 62 = .ok (.aload_n 0, 1) := by decide +kernel
theorem dX4_callLine_63 : decode cX4_callLine 63 = .ok (.getfield 75, 3) := by decide +kernel
theorem dX4_callLine_66 : decode cX4_callLine 66 = .ok (.invokevirtual 78, 3) := by decide +kernel
theorem dX4_callLine_69 : decode cX4_callLine 69 = .ok (.goto 8, 3) := by decide +kernel
theorem dX4_callLine_72 : decode cX4_callLine 72 = .ok (.aload_n 0, 1) := by decide +kernel
theorem dX4_callLine_73 : decode cX4_callLine 73 = .ok (.aload_n 1, 1) := by decide +kernel
theorem dX4_callLine_74 : decode cX4_callLine 74 = .ok (.invokevirtual 234, 3) := by decide +kernel
theorem dX4_callLine_77 : decode cX4_callLine 77 = .ok (.return_, 1) := by decide +kernel
set_option maxRecDepth 20000 in
theorem ggX4_callGroup_X4_ringAll : GoodIn wsX4_callGroup wsX4_ringAll := goodIn_r _ [7, 8, 9, 10, 11, 12, 6, 13, 14, 15, 16, 17, 18, 19, 20, 2, 21, 22, 23, 24, 25, 26, 27, 28, 29, 30, 31, 32, 33, 34, 35, 36, 37, 38, 39, 40, 41, 42, 43, 44, 45, 46, 47, 48, 49, 50, 51, 52, 53, 83, 84, 85, 86, 87, 88, 89, 90, 91, 92, 93, 94, 95, 96, 97, 98, 99, 100, 101, 102, 103, 104, 105] (by decide +kernel) (by decide +kernel)
set_option maxRecDepth 20000 in
theorem gX4_callGroup_X4_ringAll : GoodIn wsX4_callGroup (wsV RX4 240 RX4 yX4_ringAll wsX4_ringAll) := goodIn_app (goodIn_of _ (by decide +kernel)) ggX4_callGroup_X4_ringAll
set_option maxRecDepth 20000 in
theorem ggX4_callGroup_X4_ringOne : GoodIn wsX4_callGroup wsX4_ringOne := goodIn_r _ [57, 1, 58, 9, 10, 59, 60, 61, 6, 62, 63, 8, 64, 65, 66, 67, 68, 20, 11, 12, 13, 14, 15, 69, 35, 36, 27, 37, 38, 29, 70, 71, 72, 73, 16, 17, 18, 19, 2, 21, 22, 23, 24, 25, 26, 28, 30, 31, 32, 33, 34, 39, 40, 41, 42, 43, 44, 45, 46, 47, 48, 49, 50, 51, 52, 53, 83, 84, 85, 86, 87, 88, 89, 90, 91, 92, 93, 94, 95, 96, 97, 98, 99, 100, 101, 102, 103, 104, 105] (by decide +kernel) (by decide +kernel)
set_option maxRecDepth 20000 in
theorem gX4_callGroup_X4_ringOne : GoodIn wsX4_callGroup (wsV RX4 244 RX4 yX4_ringOne wsX4_ringOne) := goodIn_app (goodIn_of _ (by decide +kernel)) ggX4_callGroup_X4_ringOne
set_option maxRecDepth 20000 in
theorem ggX4_callGroup_X2_enter : GoodIn wsX4_callGroup wsX2_enter := goodIn_r _ [47, 48, 49, 50, 51, 52, 53, 94, 95, 96, 97, 98, 99, 100, 101, 102, 103, 104] (by decide +kernel) (by decide +kernel)
set_option maxRecDepth 20000 in
theorem gX4_callGroup_X2_enter : GoodIn wsX4_callGroup (wsV RX4 78 RX2 yX2_enter wsX2_enter) := goodIn_app (goodIn_of _ (by decide +kernel)) ggX4_callGroup_X2_enter
set_option maxRecDepth 20000 in
theorem ggX4_callGroup_X4_hasWilling : GoodIn wsX4_callGroup wsX4_hasWilling := goodIn_r _ [77, 8, 9, 10, 11, 12, 6, 13, 14, 15, 83, 84, 85, 86, 87, 88, 89, 90, 91, 92, 93, 94, 95, 96, 97, 98, 99, 100, 101, 102, 103, 104] (by decide +kernel) (by decide +kernel)
set_option maxRecDepth 20000 in
theorem gX4_callGroup_X4_hasWilling : GoodIn wsX4_callGroup (wsV RX4 247 RX4 yX4_hasWilling wsX4_hasWilling) := goodIn_app (goodIn_of _ (by decide +kernel)) ggX4_callGroup_X4_hasWilling
set_option maxRecDepth 20000 in
theorem ggX4_callGroup_X4_block : GoodIn wsX4_callGroup wsX4_block := goodIn_r _ [81, 2, 82, 43, 44, 45, 46, 47, 48, 49, 50, 51, 52, 53, 87, 88, 89, 90, 91, 92, 93, 94, 95, 96, 97, 98, 99, 100, 101, 102, 103, 104] (by decide +kernel) (by decide +kernel)
set_option maxRecDepth 20000 in
theorem gX4_callGroup_X4_block : GoodIn wsX4_callGroup (wsV RX4 234 RX4 yX4_block wsX4_block) := goodIn_app (goodIn_of _ (by decide +kernel)) ggX4_callGroup_X4_block
theorem dX4_callGroup_0 : decode cX4_callGroup 0 = .ok (.aload_n 2, 1) := by decide +kernel
theorem dX4_callGroup_1 : decode cX4_callGroup 1 = .ok (.getfield 237, 3) := by decide +kernel
theorem dX4_callGroup_4 : decode cX4_callGroup 4 = .ok (.iconst 3, 1) := by decide +kernel
theorem dX4_callGroup_5 : decode cX4_callGroup 5 = .ok (.if_icmp .ne 12, 3) := by decide +kernel
theorem dX4_callGroup_8 : decode cX4_callGroup 8 = .ok (.aload_n 0, 1) := by decide +kernel
theorem dX4_callGroup_9 : decode cX4_callGroup 9 = .ok (.aload_n 1, 1) := by decide +kernel
theorem dX4_callGroup_10 : decode cX4_callGroup 10 = .ok (.aload_n 2, 1) := by decide +kernel
theorem dX4_callGroup_11 : decode cX4_callGroup 11 = .ok (.invokevirtual 240, 3) := by decide +kernel
theorem dX4_callGroup_14 : decode cX4_callGroup 14 = .ok (.goto 9, 3) := by decide +kernel
theorem dX4_callGroup_17 : decode cX4_callGroup 17 = .ok (.aload_n 0, 1) := by decide +kernel
theorem dX4_callGroup_18 : decode cX4_callGroup 18 = .ok (.aload_n 1, 1) := by decide +kernel
theorem dX4_callGroup_19 : decode cX4_callGroup 19 = .ok (.aload_n 2, 1) := by decide +kernel
theorem dX4_callGroup_20 : decode cX4_callGroup 20 = .ok (.invokevirtual 244, 3) := by decide +kernel
theorem dX4_callGroup_23 : decode cX4_callGroup 23 = .ok (.istore_n 3, 1) := by decide +kernel
theorem dX4_callGroup_24 : decode cX4_callGroup 24 = .ok (.iload_n 3, 1) := by decide +kernel
theorem dX4_callGroup_25 : decode cX4_callGroup 25 = .ok (.ifCond .eq 15, 3) := by decide +kernel
theorem dX4_callGroup_28 : decode cX4_callGroup 28 = .ok (.aload_n 1, 1) := by decide +kernel
theorem dX4_callGroup_29 : decode cX4_callGroup 29 = .ok (.iconst 3, 1) := by decide +kernel
theorem dX4_callGroup_30 : decode cX4_callGroup 30 = .ok (.aload_n 0, 1) := by decide +kernel
theorem dX4_callGroup_31 : decode cX4_callGroup 31 = .ok (.getfield 75, 3) := by decide +kernel
theorem dX4_callGroup_34 : decode cX4_callGroup 34 = .ok (.invokevirtual 78, 3) := by decide +kernel
theorem dX4_callGroup_37 : decode cX4_callGroup 37 = .ok (.goto 29, 3) := by decide +kernel
theorem dX4_callGroup_40 : decode cX4_callGroup 40 = .ok (.aload_n 0, 1) := by decide +kernel
theorem dX4_callGroup_41 : decode cX4_callGroup 41 = .ok (.aload_n 1, 1) := by decide +kernel
theorem dX4_callGroup_42 : decode cX4_callGroup 42 = .ok (.aload_n 2, 1) := by decide +kernel
theorem dX4_callGroup_43 : decode cX4_callGroup 43 = .ok (.invokevirtual 247, 3) := by decide +kernel
theorem dX4_callGroup_46 : decode cX4_callGroup 46 = .ok (.ifCond .eq 11, 3) := by decide +kernel
theorem dX4_callGroup_49 : decode cX4_callGroup 49 = .ok (.aload_n 0, 1) := by decide +kernel
theorem dX4_callGroup_50 : decode cX4_callGroup 50 = .ok (.aload_n 1, 1) := by decide +kernel
theorem dX4_callGroup_51 : decode cX4_callGroup 51 = .ok (.invokevirtual 234, 3) := by decide +kernel
theorem dX4_callGroup_54 : decode cX4_callGroup 54 = .ok (.goto 12, 3) := by decide +kernel
theorem dX4_callGroup_57 : decode cX4_callGroup 57 = .ok (.aload_n 1, 1) := by decide +kernel
theorem dX4_callGroup_58 : decode cX4_callGroup 58 = .ok (.iconst 5, 1) := by decide +kernel
theorem dX4_callGroup_59 : decode cX4_callGroup 59 = .ok (.aload_n 0, 1) := by decide +kernel
theorem dX4_callGroup_60 : decode cX4_callGroup 60 = .ok (.getfield 75, 3) := by decide +kernel
theorem dX4_callGroup_63 : decode cX4_callGroup 63 = .ok (.invokevirtual 78, 3) := by decide +kernel
theorem dX4_callGroup_66 : decode cX4_callGroup 66 = .ok (.return_, 1) := by decide +kernel
set_option maxRecDepth 20000 in
theorem ggX4_ringAll_X4_isWilling : GoodIn wsX4_ringAll wsX4_isWilling := goodIn_r _ [7, 8, 9, 60, 61, 62, 63, 64, 65, 66, 67, 68, 69, 70] (by decide +kernel) (by decide +kernel)
set_option maxRecDepth 20000 in
theorem gX4_ringAll_X4_isWilling : GoodIn wsX4_ringAll (va_wsS RX4 253 yX4_isWilling wsX4_isWilling) := goodIn_app (goodIn_of _ (by decide +kernel)) ggX4_ringAll_X4_isWilling
set_option maxRecDepth 20000 in
theorem ggX4_ringAll_X4_ring : GoodIn wsX4_ringAll wsX4_ring := goodIn_r _ [13, 14, 15, 16, 17, 18, 19, 20, 21, 22, 23, 24, 25, 26, 27, 28, 29, 30, 31, 32, 33, 34, 35, 36, 37, 38, 39, 40, 41, 42, 43, 44, 45, 46, 47, 48, 53, 54, 55, 56, 57, 58, 59, 60, 61, 62, 63, 64, 65, 66, 67, 68, 69, 70, 71] (by decide +kernel) (by decide +kernel)
set_option maxRecDepth 20000 in
theorem gX4_ringAll_X4_ring : GoodIn wsX4_ringAll (wsV RX4 230 RX4 yX4_ring wsX4_ring) := goodIn_app (goodIn_of _ (by decide +kernel)) ggX4_ringAll_X4_ring
theorem dX4_ringAll_0 : decode cX4_ringAll 0 = .ok (.iconst 0, 1) := by decide +kernel
theorem dX4_ringAll_1 : decode cX4_ringAll 1 = .ok (.istore_n 3, 1) := by decide +kernel
theorem dX4_ringAll_2 : decode cX4_ringAll 2 = .ok (.iconst 0, 1) := by decide +kernel
theorem dX4_ringAll_3 : decode cX4_ringAll 3 = .ok (.istore 4, 2) := by decide +kernel
theorem dX4_ringAll_5 : decode cX4_ringAll 5 = .ok (.iload 4, 2) := by decide +kernel
theorem dX4_ringAll_7 : decode cX4_ringAll 7 = .ok (.aload_n 2, 1) := by decide +kernel
theorem dX4_ringAll_8 : decode cX4_ringAll 8 = .ok (.getfield 146, 3) := by decide +kernel
theorem dX4_ringAll_11 : decode cX4_ringAll 11 = .ok (.if_icmp .ge 44, 3) := by decide +kernel
theorem dX4_ringAll_14 : decode cX4_ringAll 14 = .ok (.aload_n 0, 1) := by decide +kernel
theorem dX4_ringAll_15 : decode cX4_ringAll 15 = .ok (.getfield 11, 3) := by decide +kernel
theorem dX4_ringAll_18 : decode cX4_ringAll 18 = .ok (.aload_n 2, 1) := by decide +kernel
theorem dX4_ringAll_19 : decode cX4_ringAll 19 = .ok (.getfield 250, 3) := by decide +kernel
theorem dX4_ringAll_22 : decode cX4_ringAll 22 = .ok (.iload 4, 2) := by decide +kernel
theorem dX4_ringAll_24 : decode cX4_ringAll 24 = .ok (.iaload, 1) := by decide +kernel
theorem dX4_ringAll_25 : decode cX4_ringAll 25 = .ok (.aaload, 1) := by decide +kernel
theorem dX4_ringAll_26 : decode cX4_ringAll 26 = .ok (.astore 5, 2) := by decide +kernel
theorem dX4_ringAll_28 : decode cX4_ringAll 28 = .ok (.aload_n 1, 1) := by decide +kernel
theorem dX4_ringAll_29 : decode cX4_ringAll 29 = .ok (.aload 5, 2) := by decide +kernel
theorem dX4_ringAll_31 : decode cX4_ringAll 31 = .ok (.invokestatic 253, 3) := by decide +kernel
theorem dX4_ringAll_34 : decode cX4_ringAll 34 = .ok (.ifCond .eq 15, 3) := by decide +kernel
theorem dX4_ringAll_37 : decode cX4_ringAll 37 = .ok (.aload_n 0, 1) := by decide +kernel
theorem dX4_ringAll_38 : decode cX4_ringAll 38 = .ok (.aload_n 1, 1) := by decide +kernel
theorem dX4_ringAll_39 : decode cX4_ringAll 39 = .ok (.aload 5, 2) := by decide +kernel
theorem dX4_ringAll_41 : decode cX4_ringAll 41 = .ok (.invokevirtual 230, 3) := by decide +kernel
theorem dX4_ringAll_44 : decode cX4_ringAll 44 = .ok (.ifCond .eq 5, 3) := by decide +kernel
theorem dX4_ringAll_47 : decode cX4_ringAll 47 = .ok (.iconst 1, 1) := by decide +kernel
theorem dX4_ringAll_48 : decode cX4_ringAll 48 = .ok (.istore_n 3, 1) := by decide +kernel
theorem dX4_ringAll_49 : decode cX4_ringAll 49 = .ok (.iinc 4 1, 3) := by decide +kernel
theorem dX4_ringAll_52 : decode cX4_ringAll 52 = .ok (.goto (-47), 3) := by decide +kernel
theorem dX4_ringAll_55 : decode cX4_ringAll 55 = .ok (.iload_n 3, 1) := by decide +kernel
theorem dX4_ringAll_56 : decode cX4_ringAll 56 = .ok (.ireturn, 1) := by decide +kernel
set_option maxRecDepth 20000 in
theorem ggX4_ringOne_X4_longestIdle : GoodIn wsX4_ringOne wsX4_longestIdle := goodIn_r _ [9, 10, 11, 3, 4, 12, 13, 14, 15, 8, 16, 17, 18, 19, 20, 21, 22, 23, 24, 25, 26, 27, 28, 29, 66, 67, 68, 69, 70, 71, 72, 73, 74, 75, 76, 77, 78, 79, 80, 81, 82, 83, 84, 85, 86, 87, 88] (by decide +kernel) (by decide +kernel)
set_option maxRecDepth 20000 in
theorem gX4_ringOne_X4_longestIdle : GoodIn wsX4_ringOne (wsV RX4 256 RX4 yX4_longestIdle wsX4_longestIdle) := goodIn_app (goodIn_of _ (by decide +kernel)) ggX4_ringOne_X4_longestIdle
set_option maxRecDepth 20000 in
theorem ggX4_ringOne_X4_firstToTake : GoodIn wsX4_ringOne wsX4_firstToTake := goodIn_r _ [33, 1, 2, 11, 3, 4, 13, 14, 15, 8, 16, 17, 18, 19, 20, 21, 22, 23, 24, 25, 26, 27, 28, 29, 66, 67, 68, 69, 70, 71, 72, 73, 74, 75, 76, 77, 78, 79, 80, 81, 82, 83, 84, 85, 86, 87, 88] (by decide +kernel) (by decide +kernel)
set_option maxRecDepth 20000 in
theorem gX4_ringOne_X4_firstToTake : GoodIn wsX4_ringOne (wsV RX4 260 RX4 yX4_firstToTake wsX4_firstToTake) := goodIn_app (goodIn_of _ (by decide +kernel)) ggX4_ringOne_X4_firstToTake
set_option maxRecDepth 20000 in
theorem ggX4_ringOne_X4_ring : GoodIn wsX4_ringOne wsX4_ring := goodIn_r _ [37, 17, 38, 39, 40, 41, 42, 43, 44, 26, 45, 29, 46, 47, 48, 49, 50, 24, 25, 27, 28, 51, 52, 53, 54, 55, 56, 57, 58, 59, 60, 61, 62, 63, 64, 65, 70, 71, 72, 73, 74, 75, 76, 77, 78, 79, 80, 81, 82, 83, 84, 85, 86, 87, 88] (by decide +kernel) (by decide +kernel)
set_option maxRecDepth 20000 in
theorem gX4_ringOne_X4_ring : GoodIn wsX4_ringOne (wsV RX4 230 RX4 yX4_ring wsX4_ring) := goodIn_app (goodIn_of _ (by decide +kernel)) ggX4_ringOne_X4_ring
theorem dX4_ringOne_0 : decode cX4_ringOne 0 = .ok (.aload_n 2, 1) := by decide +kernel
theorem dX4_ringOne_1 : decode cX4_ringOne 1 = .ok (.getfield 237, 3) := by decide +kernel
theorem dX4_ringOne_4 : decode cX4_ringOne 4 = .ok (.iconst 2, 1) := by decide +kernel
theorem dX4_ringOne_5 : decode cX4_ringOne 5 = .ok (.if_icmp .ne 12, 3) := by decide +kernel
theorem dX4_ringOne_8 : decode cX4_ringOne 8 = .ok (.aload_n 0, 1) := by decide +kernel
theorem dX4_ringOne_9 : decode cX4_ringOne 9 = .ok (.aload_n 1, 1) := by decide +kernel
theorem dX4_ringOne_10 : decode cX4_ringOne 10 = .ok (.aload_n 2, 1) := by decide +kernel
theorem dX4_ringOne_11 : decode cX4_ringOne 11 = .ok (.invokevirtual 256, 3) := by decide +kernel
theorem dX4_ringOne_14 : decode cX4_ringOne 14 = .ok (.goto 9, 3) := by decide +kernel
theorem dX4_ringOne_17 : decode cX4_ringOne 17 = .ok (.aload_n 0, 1) := by decide +kernel
theorem dX4_ringOne_18 : decode cX4_ringOne 18 = .ok (.aload_n 1, 1) := by decide +kernel
theorem dX4_ringOne_19 : decode cX4_ringOne 19 = .ok (.aload_n 2, 1) := by decide +kernel
theorem dX4_ringOne_20 : decode cX4_ringOne 20 = .ok (.invokevirtual 260, 3) := by decide +kernel
theorem dX4_ringOne_23 : decode cX4_ringOne 23 = .ok (.istore_n 3, 1) := by decide +kernel
theorem dX4_ringOne_24 : decode cX4_ringOne 24 = .ok (.iload_n 3, 1) := by decide +kernel
theorem dX4_ringOne_25 : decode cX4_ringOne 25 = .ok (.iconst (-1), 1) := by decide +kernel
theorem dX4_ringOne_26 : decode cX4_ringOne 26 = .ok (.if_icmp .ne 5, 3) := by decide +kernel
theorem dX4_ringOne_29 : decode cX4_ringOne 29 = .ok (.iconst 0, 1) := by decide +kernel
theorem dX4_ringOne_30 : decode cX4_ringOne 30 = .ok (.ireturn, 1) := by decide +kernel
theorem dX4_ringOne_31 : decode cX4_ringOne 31 = .ok (.aload_n 2, 1) := by decide +kernel
theorem dX4_ringOne_32 : decode cX4_ringOne 32 = .ok (.iload_n 3, 1) := by decide +kernel
theorem dX4_ringOne_33 : decode cX4_ringOne 33 = .ok (.putfield 263, 3) := by decide +kernel
theorem dX4_ringOne_36 : decode cX4_ringOne 36 = .ok (.aload_n 0, 1) := by decide +kernel
theorem dX4_ringOne_37 : decode cX4_ringOne 37 = .ok (.aload_n 1, 1) := by decide +kernel
theorem dX4_ringOne_38 : decode cX4_ringOne 38 = .ok (.aload_n 0, 1) := by decide +kernel
theorem dX4_ringOne_39 : decode cX4_ringOne 39 = .ok (.getfield 11, 3) := by decide +kernel
theorem dX4_ringOne_42 : decode cX4_ringOne 42 = .ok (.aload_n 2, 1) := by decide +kernel
theorem dX4_ringOne_43 : decode cX4_ringOne 43 = .ok (.getfield 250, 3) := by decide +kernel
theorem dX4_ringOne_46 : decode cX4_ringOne 46 = .ok (.iload_n 3, 1) := by decide +kernel
theorem dX4_ringOne_47 : decode cX4_ringOne 47 = .ok (.iaload, 1) := by decide +kernel
theorem dX4_ringOne_48 : decode cX4_ringOne 48 = .ok (.aaload, 1) := by decide +kernel
theorem dX4_ringOne_49 : decode cX4_ringOne 49 = .ok (.invokevirtual 230, 3) := by decide +kernel
theorem dX4_ringOne_52 : decode cX4_ringOne 52 = .ok (.ireturn, 1) := by decide +kernel
set_option maxRecDepth 20000 in
theorem ggX4_firstToTake_X4_canTake : GoodIn wsX4_firstToTake wsX4_canTake := goodIn_r _ [10, 11, 12, 13, 9, 14, 15, 16, 17, 18, 19, 20, 21, 22, 23, 28, 29, 30, 31, 32, 33, 34, 35, 36, 37, 38, 39, 40, 41, 42, 43, 44, 45, 46] (by decide +kernel) (by decide +kernel)
set_option maxRecDepth 20000 in
theorem gX4_firstToTake_X4_canTake : GoodIn wsX4_firstToTake (wsV RX4 266 RX4 yX4_canTake wsX4_canTake) := goodIn_app (goodIn_of _ (by decide +kernel)) ggX4_firstToTake_X4_canTake
theorem dX4_firstToTake_0 : decode cX4_firstToTake 0 = .ok (.aload_n 2, 1) := by decide +kernel
theorem dX4_firstToTake_1 : decode cX4_firstToTake 1 = .ok (.getfield 237, 3) := by decide +kernel
theorem dX4_firstToTake_4 : decode cX4_firstToTake 4 = .ok (.iconst 1, 1) := by decide +kernel
theorem dX4_firstToTake_5 : decode cX4_firstToTake 5 = .ok (.if_icmp .ne 12, 3) := by decide +kernel
theorem dX4_firstToTake_8 : decode cX4_firstToTake 8 = .ok (.aload_n 2, 1) := by decide +kernel
theorem dX4_firstToTake_9 : decode cX4_firstToTake 9 = .ok (.getfield 263, 3) := by decide +kernel
theorem dX4_firstToTake_12 : decode cX4_firstToTake 12 = .ok (.iconst 1, 1) := by decide +kernel
theorem dX4_firstToTake_13 : decode cX4_firstToTake 13 = .ok (.iadd, 1) := by decide +kernel
theorem dX4_firstToTake_14 : decode cX4_firstToTake 14 = .ok (.goto 4, 3) := by decide +kernel
theorem dX4_firstToTake_17 : decode cX4_firstToTake 17 = .ok (.iconst 0, 1) := by decide +kernel
theorem dX4_firstToTake_18 : decode cX4_firstToTake 18 = .ok (.istore_n 3, 1) := by decide +kernel
theorem dX4_firstToTake_19 : decode cX4_firstToTake 19 = .ok (.iconst 0, 1) := by decide +kernel
theorem dX4_firstToTake_20 : decode cX4_firstToTake 20 = .ok (.istore 4, 2) := by decide +kernel
theorem dX4_firstToTake_22 : decode cX4_firstToTake 22 = .ok (.iload 4, 2) := by decide +kernel
theorem dX4_firstToTake_24 : decode cX4_firstToTake 24 = .ok (.aload_n 2, 1) := by decide +kernel
theorem dX4_firstToTake_25 : decode cX4_firstToTake 25 = .ok (.getfield 146, 3) := by decide +kernel
theorem dX4_firstToTake_28 : decode cX4_firstToTake 28 = .ok (.if_icmp .ge 43, 3) := by decide +kernel
theorem dX4_firstToTake_31 : decode cX4_firstToTake 31 = .ok (.iload_n 3, 1) := by decide +kernel
theorem dX4_firstToTake_32 : decode cX4_firstToTake 32 = .ok (.iload 4, 2) := by decide +kernel
theorem dX4_firstToTake_34 : decode cX4_firstToTake 34 = .ok (.iadd, 1) := by decide +kernel
theorem dX4_firstToTake_35 : decode cX4_firstToTake 35 = .ok (.aload_n 2, 1) := by decide +kernel
theorem dX4_firstToTake_36 : decode cX4_firstToTake 36 = .ok (.getfield 146, 3) := by decide +kernel
theorem dX4_firstToTake_39 : decode cX4_firstToTake 39 = .ok (.irem, 1) := by decide +kernel
theorem dX4_firstToTake_40 : decode cX4_firstToTake 40 = .ok (.istore 5, 2) := by decide +kernel
theorem dX4_firstToTake_42 : decode cX4_firstToTake 42 = .ok (.aload_n 0, 1) := by decide +kernel
theorem dX4_firstToTake_43 : decode cX4_firstToTake 43 = .ok (.aload_n 1, 1) := by decide +kernel
theorem dX4_firstToTake_44 : decode cX4_firstToTake 44 = .ok (.aload_n 0, 1) := by decide +kernel
theorem dX4_firstToTake_45 : decode cX4_firstToTake 45 = .ok (.getfield 11, 3) := by decide +kernel
theorem dX4_firstToTake_48 : decode cX4_firstToTake 48 = .ok (.aload_n 2, 1) := by decide +kernel
theorem dX4_firstToTake_49 : decode cX4_firstToTake 49 = .ok (.getfield 250, 3) := by decide +kernel
theorem dX4_firstToTake_52 : decode cX4_firstToTake 52 = .ok (.iload 5, 2) := by decide +kernel
theorem dX4_firstToTake_54 : decode cX4_firstToTake 54 = .ok (.iaload, 1) := by decide +kernel
theorem dX4_firstToTake_55 : decode cX4_firstToTake 55 = .ok (.aaload, 1) := by decide +kernel
theorem dX4_firstToTake_56 : decode cX4_firstToTake 56 = .ok (.invokevirtual 266, 3) := by decide +kernel
theorem dX4_firstToTake_59 : decode cX4_firstToTake 59 = .ok (.ifCond .eq 6, 3) := by decide +kernel
theorem dX4_firstToTake_62 : decode cX4_firstToTake 62 = .ok (.iload 5, 2) := by decide +kernel
theorem dX4_firstToTake_64 : decode cX4_firstToTake 64 = .ok (.ireturn, 1) := by decide +kernel
theorem dX4_firstToTake_65 : decode cX4_firstToTake 65 = .ok (.iinc 4 1, 3) := by decide +kernel
theorem dX4_firstToTake_68 : decode cX4_firstToTake 68 = .ok (.goto (-46), 3) := by decide +kernel
theorem dX4_firstToTake_71 : decode cX4_firstToTake 71 = .ok (.iconst (-1), 1) := by decide +kernel
theorem dX4_firstToTake_72 : decode cX4_firstToTake 72 = .ok (.ireturn, 1) := by decide +kernel
set_option maxRecDepth 20000 in
theorem ggX4_longestIdle_X4_canTake : GoodIn wsX4_longestIdle wsX4_canTake := goodIn_r _ [10, 11, 12, 13, 9, 14, 15, 16, 17, 18, 19, 20, 21, 22, 23, 28, 29, 30, 31, 32, 33, 34, 35, 36, 37, 38, 39, 40, 41, 42, 43, 44, 45, 46] (by decide +kernel) (by decide +kernel)
set_option maxRecDepth 20000 in
theorem gX4_longestIdle_X4_canTake : GoodIn wsX4_longestIdle (wsV RX4 266 RX4 yX4_canTake wsX4_canTake) := goodIn_app (goodIn_of _ (by decide +kernel)) ggX4_longestIdle_X4_canTake
theorem dX4_longestIdle_0 : decode cX4_longestIdle 0 = .ok (.iconst (-1), 1) := by decide +kernel
theorem dX4_longestIdle_1 : decode cX4_longestIdle 1 = .ok (.istore_n 3, 1) := by decide +kernel
theorem dX4_longestIdle_2 : decode cX4_longestIdle 2 = .ok (.ldc_w 269, 3) := by decide +kernel
theorem dX4_longestIdle_5 : decode cX4_longestIdle 5 = .ok (.istore 4, 2) := by decide +kernel
theorem dX4_longestIdle_7 : decode cX4_longestIdle 7 = .ok (.iconst 0, 1) := by decide +kernel
theorem dX4_longestIdle_8 : decode cX4_longestIdle 8 = .ok (.istore 5, 2) := by decide +kernel
theorem dX4_longestIdle_10 : decode cX4_longestIdle 10 = .ok (.iload 5, 2) := by decide +kernel
theorem dX4_longestIdle_12 : decode cX4_longestIdle 12 = .ok (.aload_n 2, 1) := by decide +kernel
theorem dX4_longestIdle_13 : decode cX4_longestIdle 13 = .ok (.getfield 146, 3) := by decide +kernel
theorem dX4_longestIdle_16 : decode cX4_longestIdle 16 = .ok (.if_icmp .ge 53, 3) := by decide +kernel
theorem dX4_longestIdle_19 : decode cX4_longestIdle 19 = .ok (.aload_n 0, 1) := by decide +kernel
theorem dX4_longestIdle_20 : decode cX4_longestIdle 20 = .ok (.getfield 11, 3) := by decide +kernel
theorem dX4_longestIdle_23 : decode cX4_longestIdle 23 = .ok (.aload_n 2, 1) := by decide +kernel
theorem dX4_longestIdle_24 : decode cX4_longestIdle 24 = .ok (.getfield 250, 3) := by decide +kernel
theorem dX4_longestIdle_27 : decode cX4_longestIdle 27 = .ok (.iload 5, 2) := by decide +kernel
theorem dX4_longestIdle_29 : decode cX4_longestIdle 29 = .ok (.iaload, 1) := by decide +kernel
theorem dX4_longestIdle_30 : decode cX4_longestIdle 30 = .ok (.aaload, 1) := by decide +kernel
theorem dX4_longestIdle_31 : decode cX4_longestIdle 31 = .ok (.astore 6, 2) := by decide +kernel
theorem dX4_longestIdle_33 : decode cX4_longestIdle 33 = .ok (.aload 6, 2) := by decide +kernel
theorem dX4_longestIdle_35 : decode cX4_longestIdle 35 = .ok (.getfield 270, 3) := by decide +kernel
theorem dX4_longestIdle_38 : decode cX4_longestIdle 38 = .ok (.iload 4, 2) := by decide +kernel
theorem dX4_longestIdle_40 : decode cX4_longestIdle 40 = .ok (.if_icmp .ge 23, 3) := by decide +kernel
theorem dX4_longestIdle_43 : decode cX4_longestIdle 43 = .ok (.aload_n 0, 1) := by decide +kernel
theorem dX4_longestIdle_44 : decode cX4_longestIdle 44 = .ok (.aload_n 1, 1) := by decide +kernel
theorem dX4_longestIdle_45 : decode cX4_longestIdle 45 = .ok (.aload 6, 2) := by decide +kernel
theorem dX4_longestIdle_47 : decode cX4_longestIdle 47 = .ok (.invokevirtual 266, 3) := by decide +kernel
theorem dX4_longestIdle_50 : decode cX4_longestIdle 50 = .ok (.ifCond .eq 13, 3) := by decide +kernel
theorem dX4_longestIdle_53 : decode cX4_longestIdle 53 = .ok (.iload 5, 2) := by decide +kernel
theorem dX4_longestIdle_55 : decode cX4_longestIdle 55 = .ok (.istore_n 3, 1) := by decide +kernel
theorem dX4_longestIdle_56 : decode cX4_longestIdle 56 = .ok (.aload 6, 2) := by decide +kernel
theorem dX4_longestIdle_58 : decode cX4_longestIdle 58 = .ok (.getfield 270, 3) := by decide +kernel
theorem dX4_longestIdle_61 : decode cX4_longestIdle 61 = .ok (.istore 4, 2) := by decide +kernel
theorem dX4_longestIdle_63 : decode cX4_longestIdle 63 = .ok (.iinc 5 1, 3) := by decide +kernel
theorem dX4_longestIdle_66 : decode cX4_longestIdle 66 = .ok (.goto (-56), 3) := by decide +kernel
theorem dX4_longestIdle_69 : decode cX4_longestIdle 69 = .ok (.iload_n 3, 1) := by decide +kernel
theorem dX4_longestIdle_70 : decode cX4_longestIdle 70 = .ok (.ireturn, 1) := by decide +kernel
set_option maxRecDepth 20000 in
theorem ggX4_hasWilling_X4_isWilling : GoodIn wsX4_hasWilling wsX4_isWilling := goodIn_r _ [7, 8, 9, 21, 22, 23, 24, 25, 26, 27, 28, 29, 30, 31] (by decide +kernel) (by decide +kernel)
set_option maxRecDepth 20000 in
theorem gX4_hasWilling_X4_isWilling : GoodIn wsX4_hasWilling (va_wsS RX4 253 yX4_isWilling wsX4_isWilling) := goodIn_app (goodIn_of _ (by decide +kernel)) ggX4_hasWilling_X4_isWilling
theorem dX4_hasWilling_0 : decode cX4_hasWilling 0 = .ok (.iconst 0, 1) := by decide +kernel
theorem dX4_hasWilling_1 : decode cX4_hasWilling 1 = .ok (.istore_n 3, 1) := by decide +kernel
theorem dX4_hasWilling_2 : decode cX4_hasWilling 2 = .ok (.iload_n 3, 1) := by decide +kernel
theorem dX4_hasWilling_3 : decode cX4_hasWilling 3 = .ok (.aload_n 2, 1) := by decide +kernel
theorem dX4_hasWilling_4 : decode cX4_hasWilling 4 = .ok (.getfield 146, 3) := by decide +kernel
theorem dX4_hasWilling_7 : decode cX4_hasWilling 7 = .ok (.if_icmp .ge 29, 3) := by decide +kernel
theorem dX4_hasWilling_10 : decode cX4_hasWilling 10 = .ok (.aload_n 1, 1) := by decide +kernel
theorem dX4_hasWilling_11 : decode cX4_hasWilling 11 = .ok (.aload_n 0, 1) := by decide +kernel
theorem dX4_hasWilling_12 : decode cX4_hasWilling 12 = .ok (.getfield 11, 3) := by decide +kernel
theorem dX4_hasWilling_15 : decode cX4_hasWilling 15 = .ok (.aload_n 2, 1) := by decide +kernel
theorem dX4_hasWilling_16 : decode cX4_hasWilling 16 = .ok (.getfield 250, 3) := by decide +kernel
theorem dX4_hasWilling_19 : decode cX4_hasWilling 19 = .ok (.iload_n 3, 1) := by decide +kernel
theorem dX4_hasWilling_20 : decode cX4_hasWilling 20 = .ok (.iaload, 1) := by decide +kernel
theorem dX4_hasWilling_21 : decode cX4_hasWilling 21 = .ok (.aaload, 1) := by decide +kernel
theorem dX4_hasWilling_22 : decode cX4_hasWilling 22 = .ok (.invokestatic 253, 3) := by decide +kernel
theorem dX4_hasWilling_25 : decode cX4_hasWilling 25 = .ok (.ifCond .eq 5, 3) := by decide +kernel
theorem dX4_hasWilling_28 : decode cX4_hasWilling 28 = .ok (.iconst 1, 1) := by decide +kernel
theorem dX4_hasWilling_29 : decode cX4_hasWilling 29 = .ok (.ireturn, 1) := by decide +kernel
theorem dX4_hasWilling_30 : decode cX4_hasWilling 30 = .ok (.iinc 3 1, 3) := by decide +kernel
theorem dX4_hasWilling_33 : decode cX4_hasWilling 33 = .ok (.goto (-31), 3) := by decide +kernel
theorem dX4_hasWilling_36 : decode cX4_hasWilling 36 = .ok (.iconst 0, 1) := by decide +kernel
theorem dX4_hasWilling_37 : decode cX4_hasWilling 37 = .ok (.ireturn, 1) := by decide +kernel
theorem dX4_isWilling_0 : decode cX4_isWilling 0 = .ok (.aload_n 1, 1) := by decide +kernel
theorem dX4_isWilling_1 : decode cX4_isWilling 1 = .ok (.aload_n 0, 1) := by decide +kernel
theorem dX4_isWilling_2 : decode cX4_isWilling 2 = .ok (.if_acmp .eq 21, 3) := by decide +kernel
theorem dX4_isWilling_5 : decode cX4_isWilling 5 = .ok (.aload_n 1, 1) := by decide +kernel
theorem dX4_isWilling_6 : decode cX4_isWilling 6 = .ok (.getfield 64, 3) := by decide +kernel
theorem dX4_isWilling_9 : decode cX4_isWilling 9 = .ok (.ifCond .ne 14, 3) := by decide +kernel
theorem dX4_isWilling_12 : decode cX4_isWilling 12 = .ok (.aload_n 1, 1) := by decide +kernel
theorem dX4_isWilling_13 : decode cX4_isWilling 13 = .ok (.getfield 182, 3) := by decide +kernel
theorem dX4_isWilling_16 : decode cX4_isWilling 16 = .ok (.ifCond .ne 7, 3) := by decide +kernel
theorem dX4_isWilling_19 : decode cX4_isWilling 19 = .ok (.iconst 1, 1) := by decide +kernel
theorem dX4_isWilling_20 : decode cX4_isWilling 20 = .ok (.goto 4, 3) := by decide +kernel
theorem dX4_isWilling_23 : decode cX4_isWilling 23 = .ok (.iconst 0, 1) := by decide +kernel
theorem dX4_isWilling_24 : decode cX4_isWilling 24 = .ok (.ireturn, 1) := by decide +kernel
set_option maxRecDepth 20000 in
theorem ggX4_canTake_X4_isWilling : GoodIn wsX4_canTake wsX4_isWilling := goodIn_r _ [5, 6, 7, 22, 23, 24, 25, 26, 27, 28, 29, 30, 31, 32] (by decide +kernel) (by decide +kernel)
set_option maxRecDepth 20000 in
theorem gX4_canTake_X4_isWilling : GoodIn wsX4_canTake (va_wsS RX4 253 yX4_isWilling wsX4_isWilling) := goodIn_app (goodIn_of _ (by decide +kernel)) ggX4_canTake_X4_isWilling
set_option maxRecDepth 20000 in
theorem ggX4_canTake_X3_lowestFree : GoodIn wsX4_canTake wsX3_lowestFree := goodIn_r _ [12, 13, 14, 33, 22, 23, 24, 25, 26, 27, 28, 29, 30, 31, 32] (by decide +kernel) (by decide +kernel)
set_option maxRecDepth 20000 in
theorem gX4_canTake_X3_lowestFree : GoodIn wsX4_canTake (wsV RX4 273 RX3 yX3_lowestFree wsX3_lowestFree) := goodIn_app (goodIn_of _ (by decide +kernel)) ggX4_canTake_X3_lowestFree
theorem dX4_canTake_0 : decode cX4_canTake 0 = .ok (.aload_n 1, 1) := by decide +kernel
theorem dX4_canTake_1 : decode cX4_canTake 1 = .ok (.aload_n 2, 1) := by decide +kernel
theorem dX4_canTake_2 : decode cX4_canTake 2 = .ok (.invokestatic 253, 3) := by decide +kernel
theorem dX4_canTake_5 : decode cX4_canTake 5 = .ok (.ifCond .eq 20, 3) := by decide +kernel
theorem dX4_canTake_8 : decode cX4_canTake 8 = .ok (.aload_n 0, 1) := by decide +kernel
theorem dX4_canTake_9 : decode cX4_canTake 9 = .ok (.getfield 21, 3) := by decide +kernel
theorem dX4_canTake_12 : decode cX4_canTake 12 = .ok (.aload_n 1, 1) := by decide +kernel
theorem dX4_canTake_13 : decode cX4_canTake 13 = .ok (.aload_n 2, 1) := by decide +kernel
theorem dX4_canTake_14 : decode cX4_canTake 14 = .ok (.invokevirtual 273, 3) := by decide +kernel
theorem dX4_canTake_17 : decode cX4_canTake 17 = .ok (.iconst (-1), 1) := by decide +kernel
theorem dX4_canTake_18 : decode cX4_canTake 18 = .ok (.if_icmp .eq 7, 3) := by decide +kernel
theorem dX4_canTake_21 : decode cX4_canTake 21 = .ok (.iconst 1, 1) := by decide +kernel
theorem dX4_canTake_22 : decode cX4_canTake 22 = .ok (.goto 4, 3) := by decide +kernel
theorem dX4_canTake_25 : decode cX4_canTake 25 = .ok (.iconst 0, 1) := by decide +kernel
theorem dX4_canTake_26 : decode cX4_canTake 26 = .ok (.ireturn, 1) := by decide +kernel
set_option maxRecDepth 20000 in
theorem ggX4_ring_X3_take : GoodIn wsX4_ring wsX3_take := goodIn_r _ [10, 11, 12, 13, 14, 15, 16, 17, 18, 9, 19, 20, 21, 22, 23, 24, 43, 44, 45, 46, 47, 48, 49, 50, 51, 52, 53, 54] (by decide +kernel) (by decide +kernel)
set_option maxRecDepth 20000 in
theorem gX4_ring_X3_take : GoodIn wsX4_ring (wsV RX4 277 RX3 yX3_take wsX3_take) := goodIn_app (goodIn_of _ (by decide +kernel)) ggX4_ring_X3_take
set_option maxRecDepth 20000 in
theorem ggX4_ring_X2_enter : GoodIn wsX4_ring wsX2_enter := goodIn_r _ [29, 30, 31, 32, 33, 34, 35, 43, 44, 45, 46, 47, 48, 49, 50, 51, 52, 53] (by decide +kernel) (by decide +kernel)
set_option maxRecDepth 20000 in
theorem gX4_ring_X2_enter : GoodIn wsX4_ring (wsV RX4 78 RX2 yX2_enter wsX2_enter) := goodIn_app (goodIn_of _ (by decide +kernel)) ggX4_ring_X2_enter
theorem dX4_ring_0 : decode cX4_ring 0 = .ok (.aload_n 0, 1) := by decide +kernel
theorem dX4_ring_1 : decode cX4_ring 1 = .ok (.getfield 21, 3) := by decide +kernel
theorem dX4_ring_4 : decode cX4_ring 4 = .ok (.aload_n 1, 1) := by decide +kernel
theorem dX4_ring_5 : decode cX4_ring 5 = .ok (.aload_n 2, 1) := by decide +kernel
theorem dX4_ring_6 : decode cX4_ring 6 = .ok (.invokevirtual 277, 3) := by decide +kernel
theorem dX4_ring_9 : decode cX4_ring 9 = .ok (.istore_n 3, 1) := by decide +kernel
theorem dX4_ring_10 : decode cX4_ring 10 = .ok (.iload_n 3, 1) := by decide +kernel
theorem dX4_ring_11 : decode cX4_ring 11 = .ok (.iconst (-1), 1) := by decide +kernel
theorem dX4_ring_12 : decode cX4_ring 12 = .ok (.if_icmp .ne 5, 3) := by decide +kernel
theorem dX4_ring_15 : decode cX4_ring 15 = .ok (.iconst 0, 1) := by decide +kernel
theorem dX4_ring_16 : decode cX4_ring 16 = .ok (.ireturn, 1) := by decide +kernel
theorem dX4_ring_17 : decode cX4_ring 17 = .ok (.aload_n 2, 1) := by decide +kernel
theorem dX4_ring_18 : decode cX4_ring 18 = .ok (.iconst 4, 1) := by decide +kernel
theorem dX4_ring_19 : decode cX4_ring 19 = .ok (.aload_n 0, 1) := by decide +kernel
theorem dX4_ring_20 : decode cX4_ring 20 = .ok (.getfield 75, 3) := by decide +kernel
theorem dX4_ring_23 : decode cX4_ring 23 = .ok (.invokevirtual 78, 3) := by decide +kernel
theorem dX4_ring_26 : decode cX4_ring 26 = .ok (.aload_n 2, 1) := by decide +kernel
theorem dX4_ring_27 : decode cX4_ring 27 = .ok (.aload_n 1, 1) := by decide +kernel
theorem dX4_ring_28 : decode cX4_ring 28 = .ok (.getfield 115, 3) := by decide +kernel
theorem dX4_ring_31 : decode cX4_ring 31 = .ok (.putfield 106, 3) := by decide +kernel
theorem dX4_ring_34 : decode cX4_ring 34 = .ok (.aload_n 2, 1) := by decide +kernel
theorem dX4_ring_35 : decode cX4_ring 35 = .ok (.iload_n 3, 1) := by decide +kernel
theorem dX4_ring_36 : decode cX4_ring 36 = .ok (.putfield 210, 3) := by decide +kernel
theorem dX4_ring_39 : decode cX4_ring 39 = .ok (.iconst 1, 1) := by decide +kernel
theorem dX4_ring_40 : decode cX4_ring 40 = .ok (.ireturn, 1) := by decide +kernel
set_option maxRecDepth 20000 in
theorem ggX4_block_X2_enter : GoodIn wsX4_block wsX2_enter := goodIn_r _ [7, 8, 9, 10, 11, 12, 13, 21, 22, 23, 24, 25, 26, 27, 28, 29, 30, 31] (by decide +kernel) (by decide +kernel)
set_option maxRecDepth 20000 in
theorem gX4_block_X2_enter : GoodIn wsX4_block (wsV RX4 78 RX2 yX2_enter wsX2_enter) := goodIn_app (goodIn_of _ (by decide +kernel)) ggX4_block_X2_enter
theorem dX4_block_0 : decode cX4_block 0 = .ok (.aload_n 1, 1) := by decide +kernel
theorem dX4_block_1 : decode cX4_block 1 = .ok (.iconst 5, 1) := by decide +kernel
theorem dX4_block_2 : decode cX4_block 2 = .ok (.aload_n 0, 1) := by decide +kernel
theorem dX4_block_3 : decode cX4_block 3 = .ok (.getfield 75, 3) := by decide +kernel
theorem dX4_block_6 : decode cX4_block 6 = .ok (.invokevirtual 78, 3) := by decide +kernel
theorem dX4_block_9 : decode cX4_block 9 = .ok (.aload_n 0, 1) := by decide +kernel
theorem dX4_block_10 : decode cX4_block 10 = .ok (.dup, 1) := by decide +kernel
theorem dX4_block_11 : decode cX4_block 11 = .ok (.getfield 185, 3) := by decide +kernel
theorem dX4_block_14 : decode cX4_block 14 = .ok (.iconst 1, 1) := by decide +kernel
theorem dX4_block_15 : decode cX4_block 15 = .ok (.iadd, 1) := by decide +kernel
theorem dX4_block_16 : decode cX4_block 16 = .ok (.putfield 185, 3) := by decide +kernel
theorem dX4_block_19 : decode cX4_block 19 = .ok (.return_, 1) := by decide +kernel
set_option maxRecDepth 20000 in
theorem ggX4_answer_X4_beginTalk : GoodIn wsX4_answer wsX4_beginTalk := goodIn_r _ [8, 9, 10, 11, 12, 13, 14, 15, 16, 17, 18, 19, 20, 21, 22, 23, 24, 25, 26, 55, 56, 57, 58, 59, 60, 61, 62, 63, 64, 65, 48, 49, 50, 51, 52, 53, 54] (by decide +kernel) (by decide +kernel)
set_option maxRecDepth 20000 in
theorem gX4_answer_X4_beginTalk : GoodIn wsX4_answer (wsV RX4 280 RX4 yX4_beginTalk wsX4_beginTalk) := goodIn_app (goodIn_of _ (by decide +kernel)) ggX4_answer_X4_beginTalk
set_option maxRecDepth 20000 in
theorem ggX4_answer_X4_stopRinging : GoodIn wsX4_answer wsX4_stopRinging := goodIn_r _ [30, 1, 9, 31, 3, 10, 32, 33, 34, 15, 35, 23, 17, 36, 37, 38, 39, 40, 41, 42, 43, 44, 45, 46, 47, 20, 21, 22, 24, 18, 25, 26, 48, 49, 50, 51, 52, 53, 54, 55, 56, 57, 58, 59, 60, 61, 62, 63, 64, 65, 66] (by decide +kernel) (by decide +kernel)
set_option maxRecDepth 20000 in
theorem gX4_answer_X4_stopRinging : GoodIn wsX4_answer (wsV RX4 284 RX4 yX4_stopRinging wsX4_stopRinging) := goodIn_app (goodIn_of _ (by decide +kernel)) ggX4_answer_X4_stopRinging
theorem dX4_answer_0 : decode cX4_answer 0 = .ok (.aload_n 0, 1) := by decide +kernel
theorem dX4_answer_1 : decode cX4_answer 1 = .ok (.getfield 11, 3) := by decide +kernel
theorem dX4_answer_4 : decode cX4_answer 4 = .ok (.aload_n 1, 1) := by decide +kernel
theorem dX4_answer_5 : decode cX4_answer 5 = .ok (.getfield 106, 3) := by decide +kernel
theorem dX4_answer_8 : decode cX4_answer 8 = .ok (.aaload, 1) := by decide +kernel
theorem dX4_answer_9 : decode cX4_answer 9 = .ok (.astore_n 2, 1) := by decide +kernel
theorem dX4_answer_10 : decode cX4_answer 10 = .ok (.aload_n 0, 1) := by decide +kernel
theorem dX4_answer_11 : decode cX4_answer 11 = .ok (.aload_n 2, 1) := by decide +kernel
theorem dX4_answer_12 : decode cX4_answer 12 = .ok (.aload_n 1, 1) := by decide +kernel
theorem dX4_answer_13 : decode cX4_answer 13 = .ok (.aload_n 1, 1) := by decide +kernel
theorem dX4_answer_14 : decode cX4_answer 14 = .ok (.getfield 210, 3) := by decide +kernel
theorem dX4_answer_17 : decode cX4_answer 17 = .ok (.invokevirtual 280, 3) := by decide +kernel
theorem dX4_answer_20 : decode cX4_answer 20 = .ok (.aload_n 0, 1) := by decide +kernel
theorem dX4_answer_21 : decode cX4_answer 21 = .ok (.aload_n 2, 1) := by decide +kernel
theorem dX4_answer_22 : decode cX4_answer 22 = .ok (.invokevirtual 284, 3) := by decide +kernel
theorem dX4_answer_25 : decode cX4_answer 25 = .ok (.return_, 1) := by decide +kernel
set_option maxRecDepth 20000 in
theorem ggX4_pickUp_X4_firstRinging : GoodIn wsX4_pickUp wsX4_firstRinging := goodIn_r _ [9, 10, 3, 11, 12, 87, 88, 89, 90, 91, 92, 93, 76, 77, 78, 79, 80, 81, 82, 83, 84, 85, 86] (by decide +kernel) (by decide +kernel)
set_option maxRecDepth 20000 in
theorem gX4_pickUp_X4_firstRinging : GoodIn wsX4_pickUp (wsV RX4 287 RX4 yX4_firstRinging wsX4_firstRinging) := goodIn_app (goodIn_of _ (by decide +kernel)) ggX4_pickUp_X4_firstRinging
set_option maxRecDepth 20000 in
theorem ggX4_pickUp_X2_enter : GoodIn wsX4_pickUp wsX2_enter := goodIn_r _ [17, 18, 19, 20, 21, 22, 23, 76, 77, 78, 79, 80, 81, 82, 83, 84, 85, 86] (by decide +kernel) (by decide +kernel)
set_option maxRecDepth 20000 in
theorem gX4_pickUp_X2_enter : GoodIn wsX4_pickUp (wsV RX4 78 RX2 yX2_enter wsX2_enter) := goodIn_app (goodIn_of _ (by decide +kernel)) ggX4_pickUp_X2_enter
set_option maxRecDepth 20000 in
theorem ggX4_pickUp_X4_stopRinging : GoodIn wsX4_pickUp wsX4_stopRinging := goodIn_r _ [27, 3, 1, 28, 29, 2, 30, 31, 32, 16, 33, 18, 20, 34, 35, 36, 37, 38, 39, 40, 41, 42, 43, 44, 13, 14, 15, 17, 19, 21, 22, 23, 87, 88, 89, 90, 91, 92, 93, 76, 77, 78, 79, 80, 81, 82, 83, 84, 85, 86, 94] (by decide +kernel) (by decide +kernel)
set_option maxRecDepth 20000 in
theorem gX4_pickUp_X4_stopRinging : GoodIn wsX4_pickUp (wsV RX4 284 RX4 yX4_stopRinging wsX4_stopRinging) := goodIn_app (goodIn_of _ (by decide +kernel)) ggX4_pickUp_X4_stopRinging
set_option maxRecDepth 20000 in
theorem ggX4_pickUp_X4_talkByNewPath : GoodIn wsX4_pickUp wsX4_talkByNewPath := goodIn_r _ [48, 28, 49, 50, 51, 37, 52, 44, 53, 54, 55, 56, 57, 58, 59, 60, 43, 39, 40, 41, 42, 61, 62, 63, 8, 64, 1, 2, 65, 66, 67, 68, 16, 69, 20, 21, 70, 14, 15, 17, 18, 19, 22, 23, 87, 88, 89, 90, 91, 92, 93, 76, 77, 78, 79, 80, 81, 82, 83, 84, 85, 86, 94] (by decide +kernel) (by decide +kernel)
set_option maxRecDepth 20000 in
theorem gX4_pickUp_X4_talkByNewPath : GoodIn wsX4_pickUp (wsV RX4 290 RX4 yX4_talkByNewPath wsX4_talkByNewPath) := goodIn_app (goodIn_of _ (by decide +kernel)) ggX4_pickUp_X4_talkByNewPath
set_option maxRecDepth 20000 in
theorem ggX4_pickUp_X4_block : GoodIn wsX4_pickUp wsX4_block := goodIn_r _ [74, 2, 75, 13, 14, 15, 16, 17, 18, 19, 20, 21, 22, 23, 87, 88, 89, 90, 91, 92, 93, 76, 77, 78, 79, 80, 81, 82, 83, 84, 85, 86] (by decide +kernel) (by decide +kernel)
set_option maxRecDepth 20000 in
theorem gX4_pickUp_X4_block : GoodIn wsX4_pickUp (wsV RX4 234 RX4 yX4_block wsX4_block) := goodIn_app (goodIn_of _ (by decide +kernel)) ggX4_pickUp_X4_block
theorem dX4_pickUp_0 : decode cX4_pickUp 0 = .ok (.aload_n 0, 1) := by decide +kernel
theorem dX4_pickUp_1 : decode cX4_pickUp 1 = .ok (.aload_n 1, 1) := by decide +kernel
theorem dX4_pickUp_2 : decode cX4_pickUp 2 = .ok (.getfield 115, 3) := by decide +kernel
theorem dX4_pickUp_5 : decode cX4_pickUp 5 = .ok (.bipush 6, 2) := by decide +kernel
theorem dX4_pickUp_7 : decode cX4_pickUp 7 = .ok (.idiv, 1) := by decide +kernel
theorem dX4_pickUp_8 : decode cX4_pickUp 8 = .ok (.invokevirtual 287, 3) := by decide +kernel
theorem dX4_pickUp_11 : decode cX4_pickUp 11 = .ok (.astore_n 2, 1) := by decide +kernel
theorem dX4_pickUp_12 : decode cX4_pickUp 12 = .ok (.aload_n 2, 1) := by decide +kernel
theorem dX4_pickUp_13 : decode cX4_pickUp 13 = .ok (.ifnonnull 13, 3) := by decide +kernel
theorem dX4_pickUp_16 : decode cX4_pickUp 16 = .ok (.aload_n 1, 1) := by decide +kernel
theorem dX4_pickUp_17 : decode cX4_pickUp 17 = .ok (.iconst 5, 1) := by decide +kernel
theorem dX4_pickUp_18 : decode cX4_pickUp 18 = .ok (.aload_n 0, 1) := by decide +kernel
theorem dX4_pickUp_19 : decode cX4_pickUp 19 = .ok (.getfield 75, 3) := by decide +kernel
theorem dX4_pickUp_22 : decode cX4_pickUp 22 = .ok (.invokevirtual 78, 3) := by decide +kernel
theorem dX4_pickUp_25 : decode cX4_pickUp 25 = .ok (.return_, 1) := by decide +kernel
theorem dX4_pickUp_26 : decode cX4_pickUp 26 = .ok (.aload_n 0, 1) := by decide +kernel
theorem dX4_pickUp_27 : decode cX4_pickUp 27 = .ok (.getfield 11, 3) := by decide +kernel
theorem dX4_pickUp_30 : decode cX4_pickUp 30 = .ok (.aload_n 2, 1) := by decide +kernel
theorem dX4_pickUp_31 : decode cX4_pickUp 31 = .ok (.getfield 106, 3) := by decide +kernel
theorem dX4_pickUp_34 : decode cX4_pickUp 34 = .ok (.aaload, 1) := by decide +kernel
theorem dX4_pickUp_35 : decode cX4_pickUp 35 = .ok (.astore_n 3, 1) := by decide +kernel
theorem dX4_pickUp_36 : decode cX4_pickUp 36 = .ok (.aload_n 0, 1) := by decide +kernel
theorem dX4_pickUp_37 : decode cX4_pickUp 37 = .ok (.aload_n 3, 1) := by decide +kernel
theorem dX4_pickUp_38 : decode cX4_pickUp 38 = .ok (.invokevirtual 284, 3) := by decide +kernel
theorem dX4_pickUp_41 : decode cX4_pickUp 41 = .ok (.aload_n 0, 1) := by decide +kernel
theorem dX4_pickUp_42 : decode cX4_pickUp 42 = .ok (.aload_n 3, 1) := by decide +kernel
theorem dX4_pickUp_43 : decode cX4_pickUp 43 = .ok (.aload_n 1, 1) := by decide +kernel
theorem dX4_pickUp_44 : decode cX4_pickUp 44 = .ok (.invokevirtual 290, 3) := by decide +kernel
theorem dX4_pickUp_47 : decode cX4_pickUp 47 = .ok (.ifCond .ne 17, 3) := by decide +kernel
theorem dX4_pickUp_50 : decode cX4_pickUp 50 = .ok (.aload_n 3, 1) := by decide +kernel
theorem dX4_pickUp_51 : decode cX4_pickUp 51 = .ok (.iconst 5, 1) := by decide +kernel
theorem dX4_pickUp_52 : decode cX4_pickUp 52 = .ok (.aload_n 0, 1) := by decide +kernel
theorem dX4_pickUp_53 : decode cX4_pickUp 53 = .ok (.getfield 75, 3) := by decide +kernel
theorem dX4_pickUp_56 : decode cX4_pickUp 56 = .ok (.invokevirtual 78, 3) := by decide +kernel
theorem dX4_pickUp_59 : decode cX4_pickUp 59 = .ok (.aload_n 0, 1) := by decide +kernel
theorem dX4_pickUp_60 : decode cX4_pickUp 60 = .ok (.aload_n 1, 1) := by decide +kernel
theorem dX4_pickUp_61 : decode cX4_pickUp 61 = .ok (.invokevirtual 234, 3) := by decide +kernel
theorem dX4_pickUp_64 : decode cX4_pickUp 64 = .ok (.return_, 1) := by decide +kernel
theorem dX4_firstRinging_0 : decode cX4_firstRinging 0 = .ok (.aconst_null, 1) := by decide +kernel
theorem dX4_firstRinging_1 : decode cX4_firstRinging 1 = .ok (.astore_n 2, 1) := by decide +kernel
theorem dX4_firstRinging_2 : decode cX4_firstRinging 2 = .ok (.ldc_w 269, 3) := by decide +kernel
theorem dX4_firstRinging_5 : decode cX4_firstRinging 5 = .ok (.istore_n 3, 1) := by decide +kernel
theorem dX4_firstRinging_6 : decode cX4_firstRinging 6 = .ok (.iload_n 1, 1) := by decide +kernel
theorem dX4_firstRinging_7 : decode cX4_firstRinging 7 = .ok (.bipush 6, 2) := by decide +kernel
theorem dX4_firstRinging_9 : decode cX4_firstRinging 9 = .ok (.imul, 1) := by decide +kernel
theorem dX4_firstRinging_10 : decode cX4_firstRinging 10 = .ok (.istore 4, 2) := by decide +kernel
theorem dX4_firstRinging_12 : decode cX4_firstRinging 12 = .ok (.iload 4, 2) := by decide +kernel
theorem dX4_firstRinging_14 : decode cX4_firstRinging 14 = .ok (.iload_n 1, 1) := by decide +kernel
theorem dX4_firstRinging_15 : decode cX4_firstRinging 15 = .ok (.iconst 1, 1) := by decide +kernel
theorem dX4_firstRinging_16 : decode cX4_firstRinging 16 = .ok (.iadd, 1) := by decide +kernel
theorem dX4_firstRinging_17 : decode cX4_firstRinging 17 = .ok (.bipush 6, 2) := by decide +kernel
theorem dX4_firstRinging_19 : decode cX4_firstRinging 19 = .ok (.imul, 1) := by decide +kernel
theorem dX4_firstRinging_20 : decode cX4_firstRinging 20 = .ok (.if_icmp .ge 45, 3) := by decide +kernel
theorem dX4_firstRinging_23 : decode cX4_firstRinging 23 = .ok (.aload_n 0, 1) := by decide +kernel
theorem dX4_firstRinging_24 : decode cX4_firstRinging 24 = .ok (.getfield 11, 3) := by decide +kernel
theorem dX4_firstRinging_27 : decode cX4_firstRinging 27 = .ok (.iload 4, 2) := by decide +kernel
theorem dX4_firstRinging_29 : decode cX4_firstRinging 29 = .ok (.aaload, 1) := by decide +kernel
theorem dX4_firstRinging_30 : decode cX4_firstRinging 30 = .ok (.astore 5, 2) := by decide +kernel
theorem dX4_firstRinging_32 : decode cX4_firstRinging 32 = .ok (.aload 5, 2) := by decide +kernel
theorem dX4_firstRinging_34 : decode cX4_firstRinging 34 = .ok (.getfield 64, 3) := by decide +kernel
theorem dX4_firstRinging_37 : decode cX4_firstRinging 37 = .ok (.iconst 4, 1) := by decide +kernel
theorem dX4_firstRinging_38 : decode cX4_firstRinging 38 = .ok (.if_icmp .ne 21, 3) := by decide +kernel
theorem dX4_firstRinging_41 : decode cX4_firstRinging 41 = .ok (.aload 5, 2) := by decide +kernel
theorem dX4_firstRinging_43 : decode cX4_firstRinging 43 = .ok (.getfield 270, 3) := by decide +kernel
theorem dX4_firstRinging_46 : decode cX4_firstRinging 46 = .ok (.iload_n 3, 1) := by decide +kernel
theorem dX4_firstRinging_47 : decode cX4_firstRinging 47 = .ok (.if_icmp .ge 12, 3) := by decide +kernel
theorem dX4_firstRinging_50 : decode cX4_firstRinging 50 = .ok (.aload 5, 2) := by decide +kernel
theorem dX4_firstRinging_52 : decode cX4_firstRinging 52 = .ok (.astore_n 2, 1) := by decide +kernel
theorem dX4_firstRinging_53 : decode cX4_firstRinging 53 = .ok (.aload 5, 2) := by decide +kernel
theorem dX4_firstRinging_55 : decode cX4_firstRinging 55 = .ok (.getfield 270, 3) := by decide +kernel
theorem dX4_firstRinging_58 : decode cX4_firstRinging 58 = .ok (.istore_n 3, 1) := by decide +kernel
theorem dX4_firstRinging_59 : decode cX4_firstRinging 59 = .ok (.iinc 4 1, 3) := by decide +kernel
theorem dX4_firstRinging_62 : decode cX4_firstRinging 62 = .ok (.goto (-50), 3) := by decide +kernel
theorem dX4_firstRinging_65 : decode cX4_firstRinging 65 = .ok (.aload_n 2, 1) := by decide +kernel
theorem dX4_firstRinging_66 : decode cX4_firstRinging 66 = .ok (.areturn, 1) := by decide +kernel
set_option maxRecDepth 20000 in
theorem ggX4_takeParked_X2_enter : GoodIn wsX4_takeParked wsX2_enter := goodIn_r _ [8, 9, 10, 11, 12, 13, 14, 63, 64, 65, 66, 67, 68, 69, 70, 71, 72, 73] (by decide +kernel) (by decide +kernel)
set_option maxRecDepth 20000 in
theorem gX4_takeParked_X2_enter : GoodIn wsX4_takeParked (wsV RX4 78 RX2 yX2_enter wsX2_enter) := goodIn_app (goodIn_of _ (by decide +kernel)) ggX4_takeParked_X2_enter
set_option maxRecDepth 20000 in
theorem ggX4_takeParked_X4_talkByNewPath : GoodIn wsX4_takeParked wsX4_talkByNewPath := goodIn_r _ [19, 20, 21, 22, 23, 24, 25, 26, 27, 28, 29, 30, 31, 32, 33, 34, 35, 36, 37, 38, 39, 40, 41, 42, 18, 43, 44, 2, 45, 46, 47, 48, 7, 49, 11, 12, 50, 5, 6, 8, 9, 10, 13, 14, 56, 57, 58, 59, 60, 61, 62, 63, 64, 65, 66, 67, 68, 69, 70, 71, 72, 73, 74] (by decide +kernel) (by decide +kernel)
set_option maxRecDepth 20000 in
theorem gX4_takeParked_X4_talkByNewPath : GoodIn wsX4_takeParked (wsV RX4 290 RX4 yX4_talkByNewPath wsX4_talkByNewPath) := goodIn_app (goodIn_of _ (by decide +kernel)) ggX4_takeParked_X4_talkByNewPath
set_option maxRecDepth 20000 in
theorem ggX4_takeParked_X4_block : GoodIn wsX4_takeParked wsX4_block := goodIn_r _ [54, 2, 55, 4, 5, 6, 7, 8, 9, 10, 11, 12, 13, 14, 56, 57, 58, 59, 60, 61, 62, 63, 64, 65, 66, 67, 68, 69, 70, 71, 72, 73] (by decide +kernel) (by decide +kernel)
set_option maxRecDepth 20000 in
theorem gX4_takeParked_X4_block : GoodIn wsX4_takeParked (wsV RX4 234 RX4 yX4_block wsX4_block) := goodIn_app (goodIn_of _ (by decide +kernel)) ggX4_takeParked_X4_block
theorem dX4_takeParked_0 : decode cX4_takeParked 0 = .ok (.aload_n 0, 1) := by decide +kernel
theorem dX4_takeParked_1 : decode cX4_takeParked 1 = .ok (.getfield 32, 3) := by decide +kernel
theorem dX4_takeParked_4 : decode cX4_takeParked 4 = .ok (.iload_n 2, 1) := by decide +kernel
theorem dX4_takeParked_5 : decode cX4_takeParked 5 = .ok (.iaload, 1) := by decide +kernel
theorem dX4_takeParked_6 : decode cX4_takeParked 6 = .ok (.istore_n 3, 1) := by decide +kernel
theorem dX4_takeParked_7 : decode cX4_takeParked 7 = .ok (.iload_n 3, 1) := by decide +kernel
theorem dX4_takeParked_8 : decode cX4_takeParked 8 = .ok (.iconst (-1), 1) := by decide +kernel
theorem dX4_takeParked_9 : decode cX4_takeParked 9 = .ok (.if_icmp .ne 15, 3) := by decide +kernel
theorem dX4_takeParked_12 : decode cX4_takeParked 12 = .ok (.aload_n 1, 1) := by decide +kernel
theorem dX4_takeParked_13 : decode cX4_takeParked 13 = .ok (.iconst 5, 1) := by decide +kernel
theorem dX4_takeParked_14 : decode cX4_takeParked 14 = .ok (.aload_n 0, 1) := by decide +kernel
theorem dX4_takeParked_15 : decode cX4_takeParked 15 = .ok (.getfield 75, 3) := by decide +kernel
theorem dX4_takeParked_18 : decode cX4_takeParked 18 = .ok (.invokevirtual 78, 3) := by decide +kernel
theorem dX4_takeParked_21 : decode cX4_takeParked 21 = .ok (.goto 32, 3) := by decide +kernel
theorem dX4_takeParked_24 : decode cX4_takeParked 24 = .ok (.aload_n 0, 1) := by decide +kernel
theorem dX4_takeParked_25 : decode cX4_takeParked 25 = .ok (.aload_n 0, 1) := by decide +kernel
theorem dX4_takeParked_26 : decode cX4_takeParked 26 = .ok (.getfield 11, 3) := by decide +kernel
theorem dX4_takeParked_29 : decode cX4_takeParked 29 = .ok (.iload_n 3, 1) := by decide +kernel
theorem dX4_takeParked_30 : decode cX4_takeParked 30 = .ok (.aaload, 1) := by decide +kernel
theorem dX4_takeParked_31 : decode cX4_takeParked 31 = .ok (.aload_n 1, 1) := by decide +kernel
theorem dX4_takeParked_32 : decode cX4_takeParked 32 = .ok (.invokevirtual 290, 3) := by decide +kernel
theorem dX4_takeParked_35 : decode cX4_takeParked 35 = .ok (.ifCond .eq 13, 3) := by decide +kernel
theorem dX4_takeParked_38 : decode cX4_takeParked 38 = .ok (.aload_n 0, 1) := by decide +kernel
theorem dX4_takeParked_39 : decode cX4_takeParked 39 = .ok (.getfield 32, 3) := by decide +kernel
theorem dX4_takeParked_42 : decode cX4_takeParked 42 = .ok (.iload_n 2, 1) := by decide +kernel
theorem dX4_takeParked_43 : decode cX4_takeParked 43 = .ok (.iconst (-1), 1) := by decide +kernel
theorem dX4_takeParked_44 : decode cX4_takeParked 44 = .ok (.iastore, 1) := by decide +kernel
theorem dX4_takeParked_45 : decode cX4_takeParked 45 = .ok (.goto 8, 3) := by decide +kernel
theorem dX4_takeParked_48 : decode cX4_takeParked 48 = .ok (.aload_n 0, 1) := by decide +kernel
theorem dX4_takeParked_49 : decode cX4_takeParked 49 = .ok (.aload_n 1, 1) := by decide +kernel
theorem dX4_takeParked_50 : decode cX4_takeParked 50 = .ok (.invokevirtual 234, 3) := by decide +kernel
theorem dX4_takeParked_53 : decode cX4_takeParked 53 = .ok (.return_, 1) := by decide +kernel
set_option maxRecDepth 20000 in
theorem ggX4_talkByNewPath_X3_take : GoodIn wsX4_talkByNewPath wsX3_take := goodIn_r _ [6, 7, 8, 9, 10, 11, 12, 13, 14, 5, 15, 16, 17, 18, 19, 20, 51, 52, 53, 54, 55, 56, 57, 58, 59, 60, 61, 62] (by decide +kernel) (by decide +kernel)
set_option maxRecDepth 20000 in
theorem gX4_talkByNewPath_X3_take : GoodIn wsX4_talkByNewPath (wsV RX4 277 RX3 yX3_take wsX3_take) := goodIn_app (goodIn_of _ (by decide +kernel)) ggX4_talkByNewPath_X3_take
set_option maxRecDepth 20000 in
theorem ggX4_talkByNewPath_X4_beginTalk : GoodIn wsX4_talkByNewPath wsX4_beginTalk := goodIn_r _ [25, 26, 27, 28, 29, 30, 31, 32, 33, 34, 35, 36, 37, 38, 39, 40, 41, 42, 43, 51, 52, 53, 54, 55, 56, 57, 58, 59, 60, 61, 44, 45, 46, 47, 48, 49, 50] (by decide +kernel) (by decide +kernel)
set_option maxRecDepth 20000 in
theorem gX4_talkByNewPath_X4_beginTalk : GoodIn wsX4_talkByNewPath (wsV RX4 280 RX4 yX4_beginTalk wsX4_beginTalk) := goodIn_app (goodIn_of _ (by decide +kernel)) ggX4_talkByNewPath_X4_beginTalk
theorem dX4_talkByNewPath_0 : decode cX4_talkByNewPath 0 = .ok (.aload_n 0, 1) := by decide +kernel
theorem dX4_talkByNewPath_1 : decode cX4_talkByNewPath 1 = .ok (.getfield 21, 3) := by decide +kernel
theorem dX4_talkByNewPath_4 : decode cX4_talkByNewPath 4 = .ok (.aload_n 1, 1) := by decide +kernel
theorem dX4_talkByNewPath_5 : decode cX4_talkByNewPath 5 = .ok (.aload_n 2, 1) := by decide +kernel
theorem dX4_talkByNewPath_6 : decode cX4_talkByNewPath 6 = .ok (.invokevirtual 277, 3) := by decide +kernel
theorem dX4_talkByNewPath_9 : decode cX4_talkByNewPath 9 = .ok (.istore_n 3, 1) := by decide +kernel
theorem dX4_talkByNewPath_10 : decode cX4_talkByNewPath 10 = .ok (.iload_n 3, 1) := by decide +kernel
theorem dX4_talkByNewPath_11 : decode cX4_talkByNewPath 11 = .ok (.iconst (-1), 1) := by decide +kernel
theorem dX4_talkByNewPath_12 : decode cX4_talkByNewPath 12 = .ok (.if_icmp .ne 5, 3) := by decide +kernel
theorem dX4_talkByNewPath_15 : decode cX4_talkByNewPath 15 = .ok (.iconst 0, 1) := by decide +kernel
theorem dX4_talkByNewPath_16 : decode cX4_talkByNewPath 16 = .ok (.ireturn, 1) := by decide +kernel
theorem dX4_talkByNewPath_17 : decode cX4_talkByNewPath 17 = .ok (.aload_n 0, 1) := by decide +kernel
theorem dX4_talkByNewPath_18 : decode cX4_talkByNewPath 18 = .ok (.aload_n 1, 1) := by decide +kernel
theorem dX4_talkByNewPath_19 : decode cX4_talkByNewPath 19 = .ok (.aload_n 2, 1) := by decide +kernel
theorem dX4_talkByNewPath_20 : decode cX4_talkByNewPath 20 = .ok (.iload_n 3, 1) := by decide +kernel
theorem dX4_talkByNewPath_21 : decode cX4_talkByNewPath 21 = .ok (.invokevirtual 280, 3) := by decide +kernel
theorem dX4_talkByNewPath_24 : decode cX4_talkByNewPath 24 = .ok (.iconst 1, 1) := by decide +kernel
theorem dX4_talkByNewPath_25 : decode cX4_talkByNewPath 25 = .ok (.ireturn, 1) := by decide +kernel
set_option maxRecDepth 20000 in
theorem ggX4_beginTalk_X2_talk : GoodIn wsX4_beginTalk wsX2_talk := goodIn_r _ [8, 9, 10, 11, 12, 13, 7, 14, 15, 16, 17, 18, 19, 20, 21, 22, 23, 24, 25, 26, 27, 28, 29] (by decide +kernel) (by decide +kernel)
set_option maxRecDepth 20000 in
theorem gX4_beginTalk_X2_talk : GoodIn wsX4_beginTalk (wsV RX4 293 RX2 yX2_talk wsX2_talk) := goodIn_app (goodIn_of _ (by decide +kernel)) ggX4_beginTalk_X2_talk
theorem dX4_beginTalk_0 : decode cX4_beginTalk 0 = .ok (.aload_n 1, 1) := by decide +kernel
theorem dX4_beginTalk_1 : decode cX4_beginTalk 1 = .ok (.aload_n 2, 1) := by decide +kernel
theorem dX4_beginTalk_2 : decode cX4_beginTalk 2 = .ok (.getfield 115, 3) := by decide +kernel
theorem dX4_beginTalk_5 : decode cX4_beginTalk 5 = .ok (.iload_n 3, 1) := by decide +kernel
theorem dX4_beginTalk_6 : decode cX4_beginTalk 6 = .ok (.aload_n 0, 1) := by decide +kernel
theorem dX4_beginTalk_7 : decode cX4_beginTalk 7 = .ok (.getfield 75, 3) := by decide +kernel
theorem dX4_beginTalk_10 : decode cX4_beginTalk 10 = .ok (.invokevirtual 293, 3) := by decide +kernel
theorem dX4_beginTalk_13 : decode cX4_beginTalk 13 = .ok (.aload_n 2, 1) := by decide +kernel
theorem dX4_beginTalk_14 : decode cX4_beginTalk 14 = .ok (.aload_n 1, 1) := by decide +kernel
theorem dX4_beginTalk_15 : decode cX4_beginTalk 15 = .ok (.getfield 115, 3) := by decide +kernel
theorem dX4_beginTalk_18 : decode cX4_beginTalk 18 = .ok (.iload_n 3, 1) := by decide +kernel
theorem dX4_beginTalk_19 : decode cX4_beginTalk 19 = .ok (.aload_n 0, 1) := by decide +kernel
theorem dX4_beginTalk_20 : decode cX4_beginTalk 20 = .ok (.getfield 75, 3) := by decide +kernel
theorem dX4_beginTalk_23 : decode cX4_beginTalk 23 = .ok (.invokevirtual 293, 3) := by decide +kernel
theorem dX4_beginTalk_26 : decode cX4_beginTalk 26 = .ok (.aload_n 1, 1) := by decide +kernel
theorem dX4_beginTalk_27 : decode cX4_beginTalk 27 = .ok (.iconst 1, 1) := by decide +kernel
theorem dX4_beginTalk_28 : decode cX4_beginTalk 28 = .ok (.putfield 172, 3) := by decide +kernel
theorem dX4_beginTalk_31 : decode cX4_beginTalk 31 = .ok (.return_, 1) := by decide +kernel
set_option maxRecDepth 20000 in
theorem ggX4_endTalk_X4_unitsOf : GoodIn wsX4_endTalk wsX4_unitsOf := goodIn_r _ [15, 10, 7, 45, 46, 47, 48, 49, 50, 51, 52, 53, 54, 55, 56, 57, 58, 59, 60, 61, 62] (by decide +kernel) (by decide +kernel)
set_option maxRecDepth 20000 in
theorem gX4_endTalk_X4_unitsOf : GoodIn wsX4_endTalk (wsV RX4 179 RX4 yX4_unitsOf wsX4_unitsOf) := goodIn_app (goodIn_of _ (by decide +kernel)) ggX4_endTalk_X4_unitsOf
set_option maxRecDepth 20000 in
theorem ggX4_endTalk_X0_write : GoodIn wsX4_endTalk wsX0_write := goodIn_r _ [20, 21, 22, 63, 64] (by decide +kernel) (by decide +kernel)
set_option maxRecDepth 20000 in
theorem gX4_endTalk_X0_write : GoodIn wsX4_endTalk (wsV RX4 297 RX0 yX0_write wsX0_write) := goodIn_app (goodIn_of _ (by decide +kernel)) ggX4_endTalk_X0_write
set_option maxRecDepth 20000 in
theorem ggX4_endTalk_X3_release : GoodIn wsX4_endTalk wsX3_release := goodIn_r _ [27, 28, 29, 30, 26, 31, 32, 33, 65, 52, 53, 54, 55, 56, 57, 58, 59, 60, 61, 62] (by decide +kernel) (by decide +kernel)
set_option maxRecDepth 20000 in
theorem gX4_endTalk_X3_release : GoodIn wsX4_endTalk (wsV RX4 301 RX3 yX3_release wsX3_release) := goodIn_app (goodIn_of _ (by decide +kernel)) ggX4_endTalk_X3_release
set_option maxRecDepth 20000 in
theorem ggX4_endTalk_X2_enter : GoodIn wsX4_endTalk wsX2_enter := goodIn_r _ [38, 39, 40, 41, 42, 43, 44, 52, 53, 54, 55, 56, 57, 58, 59, 60, 61, 62] (by decide +kernel) (by decide +kernel)
set_option maxRecDepth 20000 in
theorem gX4_endTalk_X2_enter : GoodIn wsX4_endTalk (wsV RX4 78 RX2 yX2_enter wsX2_enter) := goodIn_app (goodIn_of _ (by decide +kernel)) ggX4_endTalk_X2_enter
theorem dX4_endTalk_0 : decode cX4_endTalk 0 = .ok (.aload_n 0, 1) := by decide +kernel
theorem dX4_endTalk_1 : decode cX4_endTalk 1 = .ok (.getfield 11, 3) := by decide +kernel
theorem dX4_endTalk_4 : decode cX4_endTalk 4 = .ok (.aload_n 1, 1) := by decide +kernel
theorem dX4_endTalk_5 : decode cX4_endTalk 5 = .ok (.getfield 106, 3) := by decide +kernel
theorem dX4_endTalk_8 : decode cX4_endTalk 8 = .ok (.aaload, 1) := by decide +kernel
theorem dX4_endTalk_9 : decode cX4_endTalk 9 = .ok (.astore_n 2, 1) := by decide +kernel
theorem dX4_endTalk_10 : decode cX4_endTalk 10 = .ok (.aload_n 1, 1) := by decide +kernel
theorem dX4_endTalk_11 : decode cX4_endTalk 11 = .ok (.getfield 172, 3) := by decide +kernel
theorem dX4_endTalk_14 : decode cX4_endTalk 14 = .ok (.ifCond .eq 7, 3) := by decide +kernel
theorem dX4_endTalk_17 : decode cX4_endTalk 17 = .ok (.aload_n 1, 1) := by decide +kernel
theorem dX4_endTalk_18 : decode cX4_endTalk 18 = .ok (.goto 4, 3) := by decide +kernel
theorem dX4_endTalk_21 : decode cX4_endTalk 21 = .ok (.aload_n 2, 1) := by decide +kernel
theorem dX4_endTalk_22 : decode cX4_endTalk 22 = .ok (.astore_n 3, 1) := by decide +kernel
theorem dX4_endTalk_23 : decode cX4_endTalk 23 = .ok (.aload_n 0, 1) := by decide +kernel
theorem dX4_endTalk_24 : decode cX4_endTalk 24 = .ok (.aload_n 3, 1) := by decide +kernel
theorem dX4_endTalk_25 : decode cX4_endTalk 25 = .ok (.invokevirtual 179, 3) := by decide +kernel
theorem dX4_endTalk_28 : decode cX4_endTalk 28 = .ok (.istore 4, 2) := by decide +kernel
theorem dX4_endTalk_30 : decode cX4_endTalk 30 = .ok (.aload_n 3, 1) := by decide +kernel
theorem dX4_endTalk_31 : decode cX4_endTalk 31 = .ok (.dup, 1) := by decide +kernel
theorem dX4_endTalk_32 : decode cX4_endTalk 32 = .ok (.getfield 176, 3) := by decide +kernel
theorem dX4_endTalk_35 : decode cX4_endTalk 35 = .ok (.iload 4, 2) := by decide +kernel
theorem dX4_endTalk_37 : decode cX4_endTalk 37 = .ok (.iadd, 1) := by decide +kernel
theorem dX4_endTalk_38 : decode cX4_endTalk 38 = .ok (.putfield 176, 3) := by decide +kernel
theorem dX4_endTalk_41 : decode cX4_endTalk 41 = .ok (.aload_n 0, 1) := by decide +kernel
theorem dX4_endTalk_42 : decode cX4_endTalk 42 = .ok (.getfield 45, 3) := by decide +kernel
theorem dX4_endTalk_45 : decode cX4_endTalk 45 = .ok (.aload_n 3, 1) := by decide +kernel
theorem dX4_endTalk_46 : decode cX4_endTalk 46 = .ok (.getfield 115, 3) := by decide +kernel
theorem dX4_endTalk_49 : decode cX4_endTalk 49 = .ok (.aload_n 3, 1) := by decide +kernel
theorem dX4_endTalk_50 : decode cX4_endTalk 50 = .ok (.getfield 106, 3) := by decide +kernel
theorem dX4_endTalk_53 : decode cX4_endTalk 53 = .ok (.aload_n 3, 1) := by decide +kernel
theorem dX4_endTalk_54 : decode cX4_endTalk 54 = .ok (.getfield 270, 3) := by decide +kernel
theorem dX4_endTalk_57 : decode cX4_endTalk 57 = .ok (.iload 4, 2) := by decide +kernel
theorem dX4_endTalk_59 : decode cX4_endTalk 59 = .ok (.invokevirtual 297, 3) := by decide +kernel
theorem dX4_endTalk_62 : decode cX4_endTalk 62 = .ok (.aload_n 0, 1) := by decide +kernel
theorem dX4_endTalk_63 : decode cX4_endTalk 63 = .ok (.getfield 21, 3) := by decide +kernel
theorem dX4_endTalk_66 : decode cX4_endTalk 66 = .ok (.aload_n 1, 1) := by decide +kernel
theorem dX4_endTalk_67 : decode cX4_endTalk 67 = .ok (.aload_n 2, 1) := by decide +kernel
theorem dX4_endTalk_68 : decode cX4_endTalk 68 = .ok (.aload_n 1, 1) := by decide +kernel
theorem dX4_endTalk_69 : decode cX4_endTalk 69 = .ok (.getfield 210, 3) := by decide +kernel
theorem dX4_endTalk_72 : decode cX4_endTalk 72 = .ok (.invokevirtual 301, 3) := by decide +kernel
theorem dX4_endTalk_75 : decode cX4_endTalk 75 = .ok (.aload_n 1, 1) := by decide +kernel
theorem dX4_endTalk_76 : decode cX4_endTalk 76 = .ok (.iconst 5, 1) := by decide +kernel
theorem dX4_endTalk_77 : decode cX4_endTalk 77 = .ok (.aload_n 0, 1) := by decide +kernel
theorem dX4_endTalk_78 : decode cX4_endTalk 78 = .ok (.getfield 75, 3) := by decide +kernel
theorem dX4_endTalk_81 : decode cX4_endTalk 81 = .ok (.invokevirtual 78, 3) := by decide +kernel
theorem dX4_endTalk_84 : decode cX4_endTalk 84 = .ok (.aload_n 2, 1) := by decide +kernel
theorem dX4_endTalk_85 : decode cX4_endTalk 85 = .ok (.iconst 5, 1) := by decide +kernel
theorem dX4_endTalk_86 : decode cX4_endTalk 86 = .ok (.aload_n 0, 1) := by decide +kernel
theorem dX4_endTalk_87 : decode cX4_endTalk 87 = .ok (.getfield 75, 3) := by decide +kernel
theorem dX4_endTalk_90 : decode cX4_endTalk 90 = .ok (.invokevirtual 78, 3) := by decide +kernel
theorem dX4_endTalk_93 : decode cX4_endTalk 93 = .ok (.aload_n 2, 1) := by decide +kernel
theorem dX4_endTalk_94 : decode cX4_endTalk 94 = .ok (.areturn, 1) := by decide +kernel
theorem dX4_unitsOf_0 : decode cX4_unitsOf 0 = .ok (.iconst 1, 1) := by decide +kernel
theorem dX4_unitsOf_1 : decode cX4_unitsOf 1 = .ok (.aload_n 0, 1) := by decide +kernel
theorem dX4_unitsOf_2 : decode cX4_unitsOf 2 = .ok (.getfield 75, 3) := by decide +kernel
theorem dX4_unitsOf_5 : decode cX4_unitsOf 5 = .ok (.aload_n 1, 1) := by decide +kernel
theorem dX4_unitsOf_6 : decode cX4_unitsOf 6 = .ok (.getfield 270, 3) := by decide +kernel
theorem dX4_unitsOf_9 : decode cX4_unitsOf 9 = .ok (.isub, 1) := by decide +kernel
theorem dX4_unitsOf_10 : decode cX4_unitsOf 10 = .ok (.bipush 60, 2) := by decide +kernel
theorem dX4_unitsOf_12 : decode cX4_unitsOf 12 = .ok (.idiv, 1) := by decide +kernel
theorem dX4_unitsOf_13 : decode cX4_unitsOf 13 = .ok (.iadd, 1) := by decide +kernel
theorem dX4_unitsOf_14 : decode cX4_unitsOf 14 = .ok (.ireturn, 1) := by decide +kernel
set_option maxRecDepth 20000 in
theorem ggX4_stopRinging_X2_ringsFor : GoodIn wsX4_stopRinging wsX2_ringsFor := goodIn_r _ [10, 11, 12, 39, 40, 41, 42, 43, 44, 45, 46, 47, 48, 49] (by decide +kernel) (by decide +kernel)
set_option maxRecDepth 20000 in
theorem gX4_stopRinging_X2_ringsFor : GoodIn wsX4_stopRinging (wsV RX4 213 RX2 yX2_ringsFor wsX2_ringsFor) := goodIn_app (goodIn_of _ (by decide +kernel)) ggX4_stopRinging_X2_ringsFor
set_option maxRecDepth 20000 in
theorem ggX4_stopRinging_X3_release : GoodIn wsX4_stopRinging wsX3_release := goodIn_r _ [17, 18, 19, 20, 16, 21, 22, 23, 50, 39, 40, 41, 42, 43, 44, 45, 46, 47, 48, 49] (by decide +kernel) (by decide +kernel)
set_option maxRecDepth 20000 in
theorem gX4_stopRinging_X3_release : GoodIn wsX4_stopRinging (wsV RX4 301 RX3 yX3_release wsX3_release) := goodIn_app (goodIn_of _ (by decide +kernel)) ggX4_stopRinging_X3_release
set_option maxRecDepth 20000 in
theorem ggX4_stopRinging_X2_enter : GoodIn wsX4_stopRinging wsX2_enter := goodIn_r _ [27, 11, 28, 12, 29, 30, 31, 39, 40, 41, 42, 43, 44, 45, 46, 47, 48, 49] (by decide +kernel) (by decide +kernel)
set_option maxRecDepth 20000 in
theorem gX4_stopRinging_X2_enter : GoodIn wsX4_stopRinging (wsV RX4 78 RX2 yX2_enter wsX2_enter) := goodIn_app (goodIn_of _ (by decide +kernel)) ggX4_stopRinging_X2_enter
theorem dX4_stopRinging_0 : decode cX4_stopRinging 0 = .ok (.iconst 0, 1) := by decide +kernel
theorem dX4_stopRinging_1 : decode cX4_stopRinging 1 = .ok (.istore_n 2, 1) := by decide +kernel
theorem dX4_stopRinging_2 : decode cX4_stopRinging 2 = .ok (.iload_n 2, 1) := by decide +kernel
theorem dX4_stopRinging_3 : decode cX4_stopRinging 3 = .ok (.bipush 24, 2) := by decide +kernel
theorem dX4_stopRinging_5 : decode cX4_stopRinging 5 = .ok (.if_icmp .ge 49, 3) := by decide +kernel
theorem dX4_stopRinging_8 : decode cX4_stopRinging 8 = .ok (.aload_n 0, 1) := by decide +kernel
theorem dX4_stopRinging_9 : decode cX4_stopRinging 9 = .ok (.getfield 11, 3) := by decide +kernel
theorem dX4_stopRinging_12 : decode cX4_stopRinging 12 = .ok (.iload_n 2, 1) := by decide +kernel
theorem dX4_stopRinging_13 : decode cX4_stopRinging 13 = .ok (.aaload, 1) := by decide +kernel
theorem dX4_stopRinging_14 : decode cX4_stopRinging 14 = .ok (.astore_n 3, 1) := by decide +kernel
theorem dX4_stopRinging_15 : decode cX4_stopRinging 15 = .ok (.aload_n 3, 1) := by decide +kernel
theorem dX4_stopRinging_16 : decode cX4_stopRinging 16 = .ok (.aload_n 1, 1) := by decide +kernel
theorem dX4_stopRinging_17 : decode cX4_stopRinging 17 = .ok (.getfield 115, 3) := by decide +kernel
theorem dX4_stopRinging_20 : decode cX4_stopRinging 20 = .ok (.invokevirtual 213, 3) := by decide +kernel
theorem dX4_stopRinging_23 : decode cX4_stopRinging 23 = .ok (.ifCond .eq 25, 3) := by decide +kernel
theorem dX4_stopRinging_26 : decode cX4_stopRinging 26 = .ok (.aload_n 0, 1) := by decide +kernel
theorem dX4_stopRinging_27 : decode cX4_stopRinging 27 = .ok (.getfield 21, 3) := by decide +kernel
theorem dX4_stopRinging_30 : decode cX4_stopRinging 30 = .ok (.aload_n 1, 1) := by decide +kernel
theorem dX4_stopRinging_31 : decode cX4_stopRinging 31 = .ok (.aload_n 3, 1) := by decide +kernel
theorem dX4_stopRinging_32 : decode cX4_stopRinging 32 = .ok (.aload_n 3, 1) := by decide +kernel
theorem dX4_stopRinging_33 : decode cX4_stopRinging 33 = .ok (.getfield 210, 3) := by decide +kernel
theorem dX4_stopRinging_36 : decode cX4_stopRinging 36 = .ok (.invokevirtual 301, 3) := by decide +kernel
theorem dX4_stopRinging_39 : decode cX4_stopRinging 39 = .ok (.aload_n 3, 1) := by decide +kernel
theorem dX4_stopRinging_40 : decode cX4_stopRinging 40 = .ok (.iconst 0, 1) := by decide +kernel
theorem dX4_stopRinging_41 : decode cX4_stopRinging 41 = .ok (.aload_n 0, 1) := by decide +kernel
theorem dX4_stopRinging_42 : decode cX4_stopRinging 42 = .ok (.getfield 75, 3) := by decide +kernel
theorem dX4_stopRinging_45 : decode cX4_stopRinging 45 = .ok (.invokevirtual 78, 3) := by decide +kernel
theorem dX4_stopRinging_48 : decode cX4_stopRinging 48 = .ok (.iinc 2 1, 3) := by decide +kernel
theorem dX4_stopRinging_51 : decode cX4_stopRinging 51 = .ok (.goto (-49), 3) := by decide +kernel
theorem dX4_stopRinging_54 : decode cX4_stopRinging 54 = .ok (.return_, 1) := by decide +kernel
set_option maxRecDepth 20000 in
theorem ggX4_leave_X4_endTalk : GoodIn wsX4_leave wsX4_endTalk := goodIn_r _ [10, 4, 3, 11, 12, 13, 14, 15, 16, 17, 18, 19, 20, 21, 9, 22, 23, 24, 25, 26, 27, 28, 29, 30, 31, 32, 33, 34, 35, 36, 37, 38, 39, 40, 41, 42, 43, 44, 45, 46, 47, 48, 49, 50, 51, 71, 72, 73, 74, 75, 76, 77, 60, 61, 62, 63, 64, 65, 66, 67, 68, 69, 70, 78, 79, 80] (by decide +kernel) (by decide +kernel)
set_option maxRecDepth 20000 in
theorem gX4_leave_X4_endTalk : GoodIn wsX4_leave (wsV RX4 111 RX4 yX4_endTalk wsX4_endTalk) := goodIn_app (goodIn_of _ (by decide +kernel)) ggX4_leave_X4_endTalk
set_option maxRecDepth 20000 in
theorem ggX4_leave_X4_stopRinging : GoodIn wsX4_leave wsX4_stopRinging := goodIn_r _ [55, 4, 14, 16, 17, 18, 56, 57, 58, 44, 59, 46, 48, 30, 31, 32, 33, 34, 35, 36, 37, 38, 39, 40, 41, 42, 43, 45, 47, 49, 50, 51, 71, 72, 73, 74, 75, 76, 77, 60, 61, 62, 63, 64, 65, 66, 67, 68, 69, 70, 80] (by decide +kernel) (by decide +kernel)
set_option maxRecDepth 20000 in
theorem gX4_leave_X4_stopRinging : GoodIn wsX4_leave (wsV RX4 284 RX4 yX4_stopRinging wsX4_stopRinging) := goodIn_app (goodIn_of _ (by decide +kernel)) ggX4_leave_X4_stopRinging
theorem dX4_leave_0 : decode cX4_leave 0 = .ok (.aload_n 1, 1) := by decide +kernel
theorem dX4_leave_1 : decode cX4_leave 1 = .ok (.getfield 64, 3) := by decide +kernel
theorem dX4_leave_4 : decode cX4_leave 4 = .ok (.tableswitch 86 3 8 #[49, 86, 86, 40, 57, 70], 40) := by decide +kernel
theorem dX4_leave_44 : decode cX4_leave 44 = .ok (.aload_n 0, 1) := by decide +kernel
theorem dX4_leave_45 : decode cX4_leave 45 = .ok (.aload_n 1, 1) := by decide +kernel
theorem dX4_leave_46 : decode cX4_leave 46 = .ok (.invokevirtual 111, 3) := by decide +kernel
theorem dX4_leave_49 : decode cX4_leave 49 = .ok (.pop, 1) := by decide +kernel
theorem dX4_leave_50 : decode cX4_leave 50 = .ok (.goto 40, 3) := by decide +kernel
theorem dX4_leave_53 : decode cX4_leave 53 = .ok (.aload_n 0, 1) := by decide +kernel
theorem dX4_leave_54 : decode cX4_leave 54 = .ok (.aload_n 1, 1) := by decide +kernel
theorem dX4_leave_55 : decode cX4_leave 55 = .ok (.invokevirtual 284, 3) := by decide +kernel
theorem dX4_leave_58 : decode cX4_leave 58 = .ok (.goto 32, 3) := by decide +kernel
theorem dX4_leave_61 : decode cX4_leave 61 = .ok (.aload_n 0, 1) := by decide +kernel
theorem dX4_leave_62 : decode cX4_leave 62 = .ok (.getfield 32, 3) := by decide +kernel
theorem dX4_leave_65 : decode cX4_leave 65 = .ok (.aload_n 1, 1) := by decide +kernel
theorem dX4_leave_66 : decode cX4_leave 66 = .ok (.getfield 106, 3) := by decide +kernel
theorem dX4_leave_69 : decode cX4_leave 69 = .ok (.iconst (-1), 1) := by decide +kernel
theorem dX4_leave_70 : decode cX4_leave 70 = .ok (.iastore, 1) := by decide +kernel
theorem dX4_leave_71 : decode cX4_leave 71 = .ok (.goto 19, 3) := by decide +kernel
theorem dX4_leave_74 : decode cX4_leave 74 = .ok (.aload_n 0, 1) := by decide +kernel
theorem dX4_leave_75 : decode cX4_leave 75 = .ok (.getfield 11, 3) := by decide +kernel
theorem dX4_leave_78 : decode cX4_leave 78 = .ok (.aload_n 1, 1) := by decide +kernel
theorem dX4_leave_79 : decode cX4_leave 79 = .ok (.getfield 106, 3) := by decide +kernel
theorem dX4_leave_82 : decode cX4_leave 82 = .ok (.aaload, 1) := by decide +kernel
theorem dX4_leave_83 : decode cX4_leave 83 = .ok (.iconst (-1), 1) := by decide +kernel
theorem dX4_leave_84 : decode cX4_leave 84 = .ok (.putfield 101, 3) := by decide +kernel
theorem dX4_leave_87 : decode cX4_leave 87 = .ok (.goto 3, 3) := by decide +kernel
theorem dX4_leave_90 : decode cX4_leave 90 = .ok (.return_, 1) := by decide +kernel
set_option maxRecDepth 20000 in
theorem ggX4_callFromCamps_X4_callLine : GoodIn wsX4_callFromCamps wsX4_callLine := goodIn_r _ [8, 9, 10, 3, 11, 12, 13, 14, 15, 16, 17, 18, 19, 20, 21, 22, 23, 24, 25, 26, 7, 27, 28, 29, 30, 31, 32, 33, 34, 35, 36, 37, 38, 39, 40, 41, 42, 43, 44, 45, 46, 47, 48, 49, 50, 51, 52, 53, 54, 62, 63, 64, 65, 66, 67, 68, 69, 70, 71, 72, 55, 56, 57, 58, 59, 60, 61, 73] (by decide +kernel) (by decide +kernel)
set_option maxRecDepth 20000 in
theorem gX4_callFromCamps_X4_callLine : GoodIn wsX4_callFromCamps (wsV RX4 216 RX4 yX4_callLine wsX4_callLine) := goodIn_app (goodIn_of _ (by decide +kernel)) ggX4_callFromCamps_X4_callLine
theorem dX4_callFromCamps_0 : decode cX4_callFromCamps 0 = .ok (.iconst 0, 1) := by decide +kernel
theorem dX4_callFromCamps_1 : decode cX4_callFromCamps 1 = .ok (.istore_n 1, 1) := by decide +kernel
theorem dX4_callFromCamps_2 : decode cX4_callFromCamps 2 = .ok (.iload_n 1, 1) := by decide +kernel
theorem dX4_callFromCamps_3 : decode cX4_callFromCamps 3 = .ok (.bipush 24, 2) := by decide +kernel
theorem dX4_callFromCamps_5 : decode cX4_callFromCamps 5 = .ok (.if_icmp .ge 52, 3) := by decide +kernel
theorem dX4_callFromCamps_8 : decode cX4_callFromCamps 8 = .ok (.aload_n 0, 1) := by decide +kernel
theorem dX4_callFromCamps_9 : decode cX4_callFromCamps 9 = .ok (.getfield 11, 3) := by decide +kernel
theorem dX4_callFromCamps_12 : decode cX4_callFromCamps 12 = .ok (.iload_n 1, 1) := by decide +kernel
theorem dX4_callFromCamps_13 : decode cX4_callFromCamps 13 = .ok (.aaload, 1) := by decide +kernel
theorem dX4_callFromCamps_14 : decode cX4_callFromCamps 14 = .ok (.astore_n 2, 1) := by decide +kernel
theorem dX4_callFromCamps_15 : decode cX4_callFromCamps 15 = .ok (.aload_n 2, 1) := by decide +kernel
theorem dX4_callFromCamps_16 : decode cX4_callFromCamps 16 = .ok (.getfield 101, 3) := by decide +kernel
theorem dX4_callFromCamps_19 : decode cX4_callFromCamps 19 = .ok (.iconst (-1), 1) := by decide +kernel
theorem dX4_callFromCamps_20 : decode cX4_callFromCamps 20 = .ok (.if_icmp .eq 31, 3) := by decide +kernel
theorem dX4_callFromCamps_23 : decode cX4_callFromCamps 23 = .ok (.aload_n 2, 1) := by decide +kernel
theorem dX4_callFromCamps_24 : decode cX4_callFromCamps 24 = .ok (.getfield 64, 3) := by decide +kernel
theorem dX4_callFromCamps_27 : decode cX4_callFromCamps 27 = .ok (.ifCond .ne 24, 3) := by decide +kernel
theorem dX4_callFromCamps_30 : decode cX4_callFromCamps 30 = .ok (.aload_n 0, 1) := by decide +kernel
theorem dX4_callFromCamps_31 : decode cX4_callFromCamps 31 = .ok (.getfield 11, 3) := by decide +kernel
theorem dX4_callFromCamps_34 : decode cX4_callFromCamps 34 = .ok (.aload_n 2, 1) := by decide +kernel
theorem dX4_callFromCamps_35 : decode cX4_callFromCamps 35 = .ok (.getfield 101, 3) := by decide +kernel
theorem dX4_callFromCamps_38 : decode cX4_callFromCamps 38 = .ok (.aaload, 1) := by decide +kernel
theorem dX4_callFromCamps_39 : decode cX4_callFromCamps 39 = .ok (.astore_n 3, 1) := by decide +kernel
theorem dX4_callFromCamps_40 : decode cX4_callFromCamps 40 = .ok (.aload_n 2, 1) := by decide +kernel
theorem dX4_callFromCamps_41 : decode cX4_callFromCamps 41 = .ok (.iconst (-1), 1) := by decide +kernel
theorem dX4_callFromCamps_42 : decode cX4_callFromCamps 42 = .ok (.putfield 101, 3) := by decide +kernel
theorem dX4_callFromCamps_45 : decode cX4_callFromCamps 45 = .ok (.aload_n 0, 1) := by decide +kernel
theorem dX4_callFromCamps_46 : decode cX4_callFromCamps 46 = .ok (.aload_n 3, 1) := by decide +kernel
theorem dX4_callFromCamps_47 : decode cX4_callFromCamps 47 = .ok (.aload_n 2, 1) := by decide +kernel
theorem dX4_callFromCamps_48 : decode cX4_callFromCamps 48 = .ok (.invokevirtual 216, 3) := by decide +kernel
theorem dX4_callFromCamps_51 : decode cX4_callFromCamps 51 = .ok (.iinc 1 1, 3) := by decide +kernel
theorem dX4_callFromCamps_54 : decode cX4_callFromCamps 54 = .ok (.goto (-52), 3) := by decide +kernel
theorem dX4_callFromCamps_57 : decode cX4_callFromCamps 57 = .ok (.return_, 1) := by decide +kernel
set_option maxRecDepth 20000 in
theorem ggX4_earliestDue_X2_due : GoodIn wsX4_earliestDue wsX2_due := goodIn_r _ [11, 12, 13, 14, 22, 23, 24, 25, 26, 27, 28, 29, 30, 31, 32] (by decide +kernel) (by decide +kernel)
set_option maxRecDepth 20000 in
theorem gX4_earliestDue_X2_due : GoodIn wsX4_earliestDue (wsV RX4 304 RX2 yX2_due wsX2_due) := goodIn_app (goodIn_of _ (by decide +kernel)) ggX4_earliestDue_X2_due
theorem dX4_earliestDue_0 : decode cX4_earliestDue 0 = .ok (.ldc_w 269, 3) := by decide +kernel
theorem dX4_earliestDue_3 : decode cX4_earliestDue 3 = .ok (.istore_n 1, 1) := by decide +kernel
theorem dX4_earliestDue_4 : decode cX4_earliestDue 4 = .ok (.iconst 0, 1) := by decide +kernel
theorem dX4_earliestDue_5 : decode cX4_earliestDue 5 = .ok (.istore_n 2, 1) := by decide +kernel
theorem dX4_earliestDue_6 : decode cX4_earliestDue 6 = .ok (.iload_n 2, 1) := by decide +kernel
theorem dX4_earliestDue_7 : decode cX4_earliestDue 7 = .ok (.bipush 24, 2) := by decide +kernel
theorem dX4_earliestDue_9 : decode cX4_earliestDue 9 = .ok (.if_icmp .ge 23, 3) := by decide +kernel
theorem dX4_earliestDue_12 : decode cX4_earliestDue 12 = .ok (.iload_n 1, 1) := by decide +kernel
theorem dX4_earliestDue_13 : decode cX4_earliestDue 13 = .ok (.aload_n 0, 1) := by decide +kernel
theorem dX4_earliestDue_14 : decode cX4_earliestDue 14 = .ok (.getfield 11, 3) := by decide +kernel
theorem dX4_earliestDue_17 : decode cX4_earliestDue 17 = .ok (.iload_n 2, 1) := by decide +kernel
theorem dX4_earliestDue_18 : decode cX4_earliestDue 18 = .ok (.aaload, 1) := by decide +kernel
theorem dX4_earliestDue_19 : decode cX4_earliestDue 19 = .ok (.invokevirtual 304, 3) := by decide +kernel
theorem dX4_earliestDue_22 : decode cX4_earliestDue 22 = .ok (.invokestatic 130, 3) := by decide +kernel
theorem dX4_earliestDue_25 : decode cX4_earliestDue 25 = .ok (.istore_n 1, 1) := by decide +kernel
theorem dX4_earliestDue_26 : decode cX4_earliestDue 26 = .ok (.iinc 2 1, 3) := by decide +kernel
theorem dX4_earliestDue_29 : decode cX4_earliestDue 29 = .ok (.goto (-23), 3) := by decide +kernel
theorem dX4_earliestDue_32 : decode cX4_earliestDue 32 = .ok (.iload_n 1, 1) := by decide +kernel
theorem dX4_earliestDue_33 : decode cX4_earliestDue 33 = .ok (.ireturn, 1) := by decide +kernel
set_option maxRecDepth 20000 in
theorem ggX4_lookAtTimers_X2_due : GoodIn wsX4_lookAtTimers wsX2_due := goodIn_r _ [7, 8, 9, 10, 111, 112, 113, 114, 115, 116, 117, 118, 119, 120, 121] (by decide +kernel) (by decide +kernel)
set_option maxRecDepth 20000 in
theorem gX4_lookAtTimers_X2_due : GoodIn wsX4_lookAtTimers (wsV RX4 304 RX2 yX2_due wsX2_due) := goodIn_app (goodIn_of _ (by decide +kernel)) ggX4_lookAtTimers_X2_due
set_option maxRecDepth 20000 in
theorem ggX4_lookAtTimers_X4_runOut : GoodIn wsX4_lookAtTimers wsX4_runOut := goodIn_r _ [15, 16, 2, 17, 18, 19, 6, 20, 8, 9, 21, 22, 23, 24, 25, 26, 27, 14, 28, 29, 30, 1, 31, 32, 33, 34, 35, 36, 37, 38, 39, 40, 41, 42, 43, 44, 45, 46, 47, 48, 49, 50, 51, 52, 53, 54, 55, 56, 57, 58, 59, 60, 61, 62, 63, 64, 65, 66, 67, 68, 69, 70, 71, 72, 111, 112, 113, 114, 115, 116, 117, 118, 119, 120, 121, 104, 105, 106, 107, 108, 109, 110, 122, 123, 124] (by decide +kernel) (by decide +kernel)
set_option maxRecDepth 20000 in
theorem gX4_lookAtTimers_X4_runOut : GoodIn wsX4_lookAtTimers (wsV RX4 307 RX4 yX4_runOut wsX4_runOut) := goodIn_app (goodIn_of _ (by decide +kernel)) ggX4_lookAtTimers_X4_runOut
set_option maxRecDepth 20000 in
theorem ggX4_lookAtTimers_X4_callFromCamps : GoodIn wsX4_lookAtTimers wsX4_callFromCamps := goodIn_r _ [76, 1, 31, 16, 77, 78, 79, 14, 80, 81, 2, 39, 82, 17, 18, 19, 6, 20, 8, 9, 21, 22, 23, 24, 83, 84, 85, 86, 41, 30, 42, 87, 88, 89, 57, 90, 64, 91, 92, 93, 94, 95, 96, 97, 98, 63, 59, 60, 61, 62, 99, 100, 101, 102, 103, 104, 105, 106, 107, 108, 109, 110, 111, 112, 113, 114, 115, 116, 117, 118, 119, 120, 121, 124] (by decide +kernel) (by decide +kernel)
set_option maxRecDepth 20000 in
theorem gX4_lookAtTimers_X4_callFromCamps : GoodIn wsX4_lookAtTimers (wsV RX4 72 RX4 yX4_callFromCamps wsX4_callFromCamps) := goodIn_app (goodIn_of _ (by decide +kernel)) ggX4_lookAtTimers_X4_callFromCamps
theorem dX4_lookAtTimers_0 : decode cX4_lookAtTimers 0 = .ok (.iconst 0, 1) := by decide +kernel
theorem dX4_lookAtTimers_1 : decode cX4_lookAtTimers 1 = .ok (.istore_n 1, 1) := by decide +kernel
theorem dX4_lookAtTimers_2 : decode cX4_lookAtTimers 2 = .ok (.iload_n 1, 1) := by decide +kernel
theorem dX4_lookAtTimers_3 : decode cX4_lookAtTimers 3 = .ok (.bipush 24, 2) := by decide +kernel
theorem dX4_lookAtTimers_5 : decode cX4_lookAtTimers 5 = .ok (.if_icmp .ge 39, 3) := by decide +kernel
theorem dX4_lookAtTimers_8 : decode cX4_lookAtTimers 8 = .ok (.aload_n 0, 1) := by decide +kernel
theorem dX4_lookAtTimers_9 : decode cX4_lookAtTimers 9 = .ok (.getfield 11, 3) := by decide +kernel
theorem dX4_lookAtTimers_12 : decode cX4_lookAtTimers 12 = .ok (.iload_n 1, 1) := by decide +kernel
theorem dX4_lookAtTimers_13 : decode cX4_lookAtTimers 13 = .ok (.aaload, 1) := by decide +kernel
theorem dX4_lookAtTimers_14 : decode cX4_lookAtTimers 14 = .ok (.invokevirtual 304, 3) := by decide +kernel
theorem dX4_lookAtTimers_17 : decode cX4_lookAtTimers 17 = .ok (.aload_n 0, 1) := by decide +kernel
theorem dX4_lookAtTimers_18 : decode cX4_lookAtTimers 18 = .ok (.getfield 75, 3) := by decide +kernel
theorem dX4_lookAtTimers_21 : decode cX4_lookAtTimers 21 = .ok (.if_icmp .gt 17, 3) := by decide +kernel
theorem dX4_lookAtTimers_24 : decode cX4_lookAtTimers 24 = .ok (.aload_n 0, 1) := by decide +kernel
theorem dX4_lookAtTimers_25 : decode cX4_lookAtTimers 25 = .ok (.aload_n 0, 1) := by decide +kernel
theorem dX4_lookAtTimers_26 : decode cX4_lookAtTimers 26 = .ok (.getfield 11, 3) := by decide +kernel
theorem dX4_lookAtTimers_29 : decode cX4_lookAtTimers 29 = .ok (.iload_n 1, 1) := by decide +kernel
theorem dX4_lookAtTimers_30 : decode cX4_lookAtTimers 30 = .ok (.aaload, 1) := by decide +kernel
theorem dX4_lookAtTimers_31 : decode cX4_lookAtTimers 31 = .ok (.invokevirtual 307, 3) := by decide +kernel
theorem dX4_lookAtTimers_34 : decode cX4_lookAtTimers 34 = .ok (.aload_n 0, 1) := by decide +kernel
theorem dX4_lookAtTimers_35 : decode cX4_lookAtTimers 35 = .ok (.invokevirtual 72, 3) := by decide +kernel
theorem dX4_lookAtTimers_38 : decode cX4_lookAtTimers 38 = .ok (.iinc 1 1, 3) := by decide +kernel
theorem dX4_lookAtTimers_41 : decode cX4_lookAtTimers 41 = .ok (.goto (-39), 3) := by decide +kernel
theorem dX4_lookAtTimers_44 : decode cX4_lookAtTimers 44 = .ok (.return_, 1) := by decide +kernel
set_option maxRecDepth 20000 in
theorem ggX4_runOut_X2_enter : GoodIn wsX4_runOut wsX2_enter := goodIn_r _ [7, 8, 9, 10, 11, 12, 13, 64, 65, 66, 67, 68, 69, 70, 71, 72, 73, 74] (by decide +kernel) (by decide +kernel)
set_option maxRecDepth 20000 in
theorem gX4_runOut_X2_enter : GoodIn wsX4_runOut (wsV RX4 78 RX2 yX2_enter wsX2_enter) := goodIn_app (goodIn_of _ (by decide +kernel)) ggX4_runOut_X2_enter
set_option maxRecDepth 20000 in
theorem ggX4_runOut_X4_leave : GoodIn wsX4_runOut wsX4_leave := goodIn_r _ [18, 1, 19, 20, 21, 22, 23, 24, 25, 17, 26, 27, 28, 29, 30, 31, 32, 33, 2, 34, 35, 36, 37, 38, 39, 40, 41, 42, 43, 44, 45, 46, 47, 48, 49, 50, 51, 52, 53, 54, 55, 3, 4, 5, 6, 7, 8, 9, 10, 11, 12, 13, 56, 57, 58, 59, 60, 61, 62, 63, 64, 65, 66, 67, 68, 69, 70, 71, 72, 73, 74, 75, 76, 77, 78, 79, 80, 81, 82, 83, 84] (by decide +kernel) (by decide +kernel)
set_option maxRecDepth 20000 in
theorem gX4_runOut_X4_leave : GoodIn wsX4_runOut (wsV RX4 84 RX4 yX4_leave wsX4_leave) := goodIn_app (goodIn_of _ (by decide +kernel)) ggX4_runOut_X4_leave
theorem dX4_runOut_0 : decode cX4_runOut 0 = .ok (.aload_n 1, 1) := by decide +kernel
theorem dX4_runOut_1 : decode cX4_runOut 1 = .ok (.getfield 64, 3) := by decide +kernel
theorem dX4_runOut_4 : decode cX4_runOut 4 = .ok (.iconst 1, 1) := by decide +kernel
theorem dX4_runOut_5 : decode cX4_runOut 5 = .ok (.if_icmp .eq 11, 3) := by decide +kernel
theorem dX4_runOut_8 : decode cX4_runOut 8 = .ok (.aload_n 1, 1) := by decide +kernel
theorem dX4_runOut_9 : decode cX4_runOut 9 = .ok (.getfield 64, 3) := by decide +kernel
theorem dX4_runOut_12 : decode cX4_runOut 12 = .ok (.iconst 2, 1) := by decide +kernel
theorem dX4_runOut_13 : decode cX4_runOut 13 = .ok (.if_icmp .ne 16, 3) := by decide +kernel
theorem dX4_runOut_16 : decode cX4_runOut 16 = .ok (.aload_n 1, 1) := by decide +kernel
theorem dX4_runOut_17 : decode cX4_runOut 17 = .ok (.bipush 9, 2) := by decide +kernel
theorem dX4_runOut_19 : decode cX4_runOut 19 = .ok (.aload_n 0, 1) := by decide +kernel
theorem dX4_runOut_20 : decode cX4_runOut 20 = .ok (.getfield 75, 3) := by decide +kernel
theorem dX4_runOut_23 : decode cX4_runOut 23 = .ok (.invokevirtual 78, 3) := by decide +kernel
theorem dX4_runOut_26 : decode cX4_runOut 26 = .ok (.goto 17, 3) := by decide +kernel
theorem dX4_runOut_29 : decode cX4_runOut 29 = .ok (.aload_n 0, 1) := by decide +kernel
theorem dX4_runOut_30 : decode cX4_runOut 30 = .ok (.aload_n 1, 1) := by decide +kernel
theorem dX4_runOut_31 : decode cX4_runOut 31 = .ok (.invokevirtual 84, 3) := by decide +kernel
theorem dX4_runOut_34 : decode cX4_runOut 34 = .ok (.aload_n 1, 1) := by decide +kernel
theorem dX4_runOut_35 : decode cX4_runOut 35 = .ok (.iconst 5, 1) := by decide +kernel
theorem dX4_runOut_36 : decode cX4_runOut 36 = .ok (.aload_n 0, 1) := by decide +kernel
theorem dX4_runOut_37 : decode cX4_runOut 37 = .ok (.getfield 75, 3) := by decide +kernel
theorem dX4_runOut_40 : decode cX4_runOut 40 = .ok (.invokevirtual 78, 3) := by decide +kernel
theorem dX4_runOut_43 : decode cX4_runOut 43 = .ok (.return_, 1) := by decide +kernel
theorem dX5_init_0 : decode cX5_init 0 = .ok (.aload_n 0, 1) := by decide +kernel
theorem dX5_init_1 : decode cX5_init 1 = .ok (.invokespecial 1, 3) := by decide +kernel
theorem dX5_init_4 : decode cX5_init 4 = .ok (.aload_n 0, 1) := by decide +kernel
theorem dX5_init_5 : decode cX5_init 5 = .ok (.bipush 24, 2) := by decide +kernel
theorem dX5_init_7 : decode cX5_init 7 = .ok (.newarray .int, 2) := by decide +kernel
theorem dX5_init_9 : decode cX5_init 9 = .ok (.putfield 7, 3) := by decide +kernel
theorem dX5_init_12 : decode cX5_init 12 = .ok (.aload_n 0, 1) := by decide +kernel
theorem dX5_init_13 : decode cX5_init 13 = .ok (.bipush 24, 2) := by decide +kernel
theorem dX5_init_15 : decode cX5_init 15 = .ok (.newarray .int, 2) := by decide +kernel
theorem dX5_init_17 : decode cX5_init 17 = .ok (.putfield 13, 3) := by decide +kernel
theorem dX5_init_20 : decode cX5_init 20 = .ok (.aload_n 0, 1) := by decide +kernel
theorem dX5_init_21 : decode cX5_init 21 = .ok (.bipush 24, 2) := by decide +kernel
theorem dX5_init_23 : decode cX5_init 23 = .ok (.newarray .int, 2) := by decide +kernel
theorem dX5_init_25 : decode cX5_init 25 = .ok (.putfield 16, 3) := by decide +kernel
theorem dX5_init_28 : decode cX5_init 28 = .ok (.aload_n 0, 1) := by decide +kernel
theorem dX5_init_29 : decode cX5_init 29 = .ok (.bipush 24, 2) := by decide +kernel
theorem dX5_init_31 : decode cX5_init 31 = .ok (.newarray .int, 2) := by decide +kernel
theorem dX5_init_33 : decode cX5_init 33 = .ok (.putfield 19, 3) := by decide +kernel
theorem dX5_init_36 : decode cX5_init 36 = .ok (.aload_n 0, 1) := by decide +kernel
theorem dX5_init_37 : decode cX5_init 37 = .ok (.bipush 24, 2) := by decide +kernel
theorem dX5_init_39 : decode cX5_init 39 = .ok (.newarray .int, 2) := by decide +kernel
theorem dX5_init_41 : decode cX5_init 41 = .ok (.putfield 22, 3) := by decide +kernel
theorem dX5_init_44 : decode cX5_init 44 = .ok (.aload_n 0, 1) := by decide +kernel
theorem dX5_init_45 : decode cX5_init 45 = .ok (.bipush 24, 2) := by decide +kernel
theorem dX5_init_47 : decode cX5_init 47 = .ok (.newarray .int, 2) := by decide +kernel
theorem dX5_init_49 : decode cX5_init 49 = .ok (.putfield 25, 3) := by decide +kernel
theorem dX5_init_52 : decode cX5_init 52 = .ok (.aload_n 0, 1) := by decide +kernel
theorem dX5_init_53 : decode cX5_init 53 = .ok (.bipush 24, 2) := by decide +kernel
theorem dX5_init_55 : decode cX5_init 55 = .ok (.newarray .int, 2) := by decide +kernel
theorem dX5_init_57 : decode cX5_init 57 = .ok (.putfield 28, 3) := by decide +kernel
theorem dX5_init_60 : decode cX5_init 60 = .ok (.aload_n 0, 1) := by decide +kernel
theorem dX5_init_61 : decode cX5_init 61 = .ok (.bipush 24, 2) := by decide +kernel
theorem dX5_init_63 : decode cX5_init 63 = .ok (.newarray .int, 2) := by decide +kernel
theorem dX5_init_65 : decode cX5_init 65 = .ok (.putfield 31, 3) := by decide +kernel
theorem dX5_init_68 : decode cX5_init 68 = .ok (.aload_n 0, 1) := by decide +kernel
theorem dX5_init_69 : decode cX5_init 69 = .ok (.bipush 24, 2) := by decide +kernel
theorem dX5_init_71 : decode cX5_init 71 = .ok (.newarray .boolean, 2) := by decide +kernel
theorem dX5_init_73 : decode cX5_init 73 = .ok (.putfield 34, 3) := by decide +kernel
theorem dX5_init_76 : decode cX5_init 76 = .ok (.aload_n 0, 1) := by decide +kernel
theorem dX5_init_77 : decode cX5_init 77 = .ok (.bipush 24, 2) := by decide +kernel
theorem dX5_init_79 : decode cX5_init 79 = .ok (.newarray .int, 2) := by decide +kernel
theorem dX5_init_81 : decode cX5_init 81 = .ok (.putfield 38, 3) := by decide +kernel
theorem dX5_init_84 : decode cX5_init 84 = .ok (.aload_n 0, 1) := by decide +kernel
theorem dX5_init_85 : decode cX5_init 85 = .ok (.bipush 24, 2) := by decide +kernel
theorem dX5_init_87 : decode cX5_init 87 = .ok (.newarray .boolean, 2) := by decide +kernel
theorem dX5_init_89 : decode cX5_init 89 = .ok (.putfield 41, 3) := by decide +kernel
theorem dX5_init_92 : decode cX5_init 92 = .ok (.aload_n 0, 1) := by decide +kernel
theorem dX5_init_93 : decode cX5_init 93 = .ok (.bipush 24, 2) := by decide +kernel
theorem dX5_init_95 : decode cX5_init 95 = .ok (.newarray .int, 2) := by decide +kernel
theorem dX5_init_97 : decode cX5_init 97 = .ok (.putfield 44, 3) := by decide +kernel
theorem dX5_init_100 : decode cX5_init 100 = .ok (.aload_n 0, 1) := by decide +kernel
theorem dX5_init_101 : decode cX5_init 101 = .ok (.bipush 24, 2) := by decide +kernel
theorem dX5_init_103 : decode cX5_init 103 = .ok (.newarray .int, 2) := by decide +kernel
theorem dX5_init_105 : decode cX5_init 105 = .ok (.putfield 47, 3) := by decide +kernel
theorem dX5_init_108 : decode cX5_init 108 = .ok (.aload_n 0, 1) := by decide +kernel
theorem dX5_init_109 : decode cX5_init 109 = .ok (.iconst 4, 1) := by decide +kernel
theorem dX5_init_110 : decode cX5_init 110 = .ok (.newarray .int, 2) := by decide +kernel
theorem dX5_init_112 : decode cX5_init 112 = .ok (.putfield 50, 3) := by decide +kernel
theorem dX5_init_115 : decode cX5_init 115 = .ok (.aload_n 0, 1) := by decide +kernel
theorem dX5_init_116 : decode cX5_init 116 = .ok (.bipush 32, 2) := by decide +kernel
theorem dX5_init_118 : decode cX5_init 118 = .ok (.newarray .int, 2) := by decide +kernel
theorem dX5_init_120 : decode cX5_init 120 = .ok (.putfield 53, 3) := by decide +kernel
theorem dX5_init_123 : decode cX5_init 123 = .ok (.aload_n 0, 1) := by decide +kernel
theorem dX5_init_124 : decode cX5_init 124 = .ok (.bipush 24, 2) := by decide +kernel
theorem dX5_init_126 : decode cX5_init 126 = .ok (.newarray .int, 2) := by decide +kernel
theorem dX5_init_128 : decode cX5_init 128 = .ok (.putfield 56, 3) := by decide +kernel
theorem dX5_init_131 : decode cX5_init 131 = .ok (.aload_n 0, 1) := by decide +kernel
theorem dX5_init_132 : decode cX5_init 132 = .ok (.iconst 4, 1) := by decide +kernel
theorem dX5_init_133 : decode cX5_init 133 = .ok (.newarray .int, 2) := by decide +kernel
theorem dX5_init_135 : decode cX5_init 135 = .ok (.putfield 59, 3) := by decide +kernel
theorem dX5_init_138 : decode cX5_init 138 = .ok (.aload_n 0, 1) := by decide +kernel
theorem dX5_init_139 : decode cX5_init 139 = .ok (.iconst 4, 1) := by decide +kernel
theorem dX5_init_140 : decode cX5_init 140 = .ok (.newarray .int, 2) := by decide +kernel
theorem dX5_init_142 : decode cX5_init 142 = .ok (.putfield 62, 3) := by decide +kernel
theorem dX5_init_145 : decode cX5_init 145 = .ok (.aload_n 0, 1) := by decide +kernel
theorem dX5_init_146 : decode cX5_init 146 = .ok (.iconst 4, 1) := by decide +kernel
theorem dX5_init_147 : decode cX5_init 147 = .ok (.newarray .int, 2) := by decide +kernel
theorem dX5_init_149 : decode cX5_init 149 = .ok (.putfield 65, 3) := by decide +kernel
theorem dX5_init_152 : decode cX5_init 152 = .ok (.aload_n 0, 1) := by decide +kernel
theorem dX5_init_153 : decode cX5_init 153 = .ok (.sipush 240, 3) := by decide +kernel
theorem dX5_init_156 : decode cX5_init 156 = .ok (.newarray .int, 2) := by decide +kernel
theorem dX5_init_158 : decode cX5_init 158 = .ok (.putfield 68, 3) := by decide +kernel
theorem dX5_init_161 : decode cX5_init 161 = .ok (.iconst 0, 1) := by decide +kernel
theorem dX5_init_162 : decode cX5_init 162 = .ok (.istore_n 1, 1) := by decide +kernel
theorem dX5_init_163 : decode cX5_init 163 = .ok (.iload_n 1, 1) := by decide +kernel
theorem dX5_init_164 : decode cX5_init 164 = .ok (.bipush 24, 2) := by decide +kernel
theorem dX5_init_166 : decode cX5_init 166 = .ok (.if_icmp .ge 44, 3) := by decide +kernel
theorem dX5_init_169 : decode cX5_init 169 = .ok (.aload_n 0, 1) := by decide +kernel
theorem dX5_init_170 : decode cX5_init 170 = .ok (.getfield 16, 3) := by decide +kernel
theorem dX5_init_173 : decode cX5_init 173 = .ok (.iload_n 1, 1) := by decide +kernel
theorem dX5_init_174 : decode cX5_init 174 = .ok (.iconst (-1), 1) := by decide +kernel
theorem dX5_init_175 : decode cX5_init 175 = .ok (.iastore, 1) := by decide +kernel
theorem dX5_init_176 : decode cX5_init 176 = .ok (.aload_n 0, 1) := by decide +kernel
theorem dX5_init_177 : decode cX5_init 177 = .ok (.getfield 22, 3) := by decide +kernel
theorem dX5_init_180 : decode cX5_init 180 = .ok (.iload_n 1, 1) := by decide +kernel
theorem dX5_init_181 : decode cX5_init 181 = .ok (.iconst (-1), 1) := by decide +kernel
theorem dX5_init_182 : decode cX5_init 182 = .ok (.iastore, 1) := by decide +kernel
theorem dX5_init_183 : decode cX5_init 183 = .ok (.aload_n 0, 1) := by decide +kernel
theorem dX5_init_184 : decode cX5_init 184 = .ok (.getfield 25, 3) := by decide +kernel
theorem dX5_init_187 : decode cX5_init 187 = .ok (.iload_n 1, 1) := by decide +kernel
theorem dX5_init_188 : decode cX5_init 188 = .ok (.iconst (-1), 1) := by decide +kernel
theorem dX5_init_189 : decode cX5_init 189 = .ok (.iastore, 1) := by decide +kernel
theorem dX5_init_190 : decode cX5_init 190 = .ok (.aload_n 0, 1) := by decide +kernel
theorem dX5_init_191 : decode cX5_init 191 = .ok (.getfield 31, 3) := by decide +kernel
theorem dX5_init_194 : decode cX5_init 194 = .ok (.iload_n 1, 1) := by decide +kernel
theorem dX5_init_195 : decode cX5_init 195 = .ok (.iconst (-1), 1) := by decide +kernel
theorem dX5_init_196 : decode cX5_init 196 = .ok (.iastore, 1) := by decide +kernel
theorem dX5_init_197 : decode cX5_init 197 = .ok (.aload_n 0, 1) := by decide +kernel
theorem dX5_init_198 : decode cX5_init 198 = .ok (.getfield 47, 3) := by decide +kernel
theorem dX5_init_201 : decode cX5_init 201 = .ok (.iload_n 1, 1) := by decide +kernel
theorem dX5_init_202 : decode cX5_init 202 = .ok (.iconst (-1), 1) := by decide +kernel
theorem dX5_init_203 : decode cX5_init 203 = .ok (.iastore, 1) := by decide +kernel
theorem dX5_init_204 : decode cX5_init 204 = .ok (.iinc 1 1, 3) := by decide +kernel
theorem dX5_init_207 : decode cX5_init 207 = .ok (.goto (-44), 3) := by decide +kernel
theorem dX5_init_210 : decode cX5_init 210 = .ok (.iconst 0, 1) := by decide +kernel
theorem dX5_init_211 : decode cX5_init 211 = .ok (.istore_n 1, 1) := by decide +kernel
theorem dX5_init_212 : decode cX5_init 212 = .ok (.iload_n 1, 1) := by decide +kernel
theorem dX5_init_213 : decode cX5_init 213 = .ok (.iconst 4, 1) := by decide +kernel
theorem dX5_init_214 : decode cX5_init 214 = .ok (.if_icmp .ge 23, 3) := by decide +kernel
theorem dX5_init_217 : decode cX5_init 217 = .ok (.aload_n 0, 1) := by decide +kernel
theorem dX5_init_218 : decode cX5_init 218 = .ok (.getfield 50, 3) := by decide +kernel
theorem dX5_init_221 : decode cX5_init 221 = .ok (.iload_n 1, 1) := by decide +kernel
theorem dX5_init_222 : decode cX5_init 222 = .ok (.iconst (-1), 1) := by decide +kernel
theorem dX5_init_223 : decode cX5_init 223 = .ok (.iastore, 1) := by decide +kernel
theorem dX5_init_224 : decode cX5_init 224 = .ok (.aload_n 0, 1) := by decide +kernel
theorem dX5_init_225 : decode cX5_init 225 = .ok (.getfield 65, 3) := by decide +kernel
theorem dX5_init_228 : decode cX5_init 228 = .ok (.iload_n 1, 1) := by decide +kernel
theorem dX5_init_229 : decode cX5_init 229 = .ok (.iconst (-1), 1) := by decide +kernel
theorem dX5_init_230 : decode cX5_init 230 = .ok (.iastore, 1) := by decide +kernel
theorem dX5_init_231 : decode cX5_init 231 = .ok (.iinc 1 1, 3) := by decide +kernel
theorem dX5_init_234 : decode cX5_init 234 = .ok (.goto (-22), 3) := by decide +kernel
theorem dX5_init_237 : decode cX5_init 237 = .ok (.iconst 0, 1) := by decide +kernel
theorem dX5_init_238 : decode cX5_init 238 = .ok (.istore_n 1, 1) := by decide +kernel
theorem dX5_init_239 : decode cX5_init 239 = .ok (.iload_n 1, 1) := by decide +kernel
theorem dX5_init_240 : decode cX5_init 240 = .ok (.bipush 32, 2) := by decide +kernel
theorem dX5_init_242 : decode cX5_init 242 = .ok (.if_icmp .ge 16, 3) := by decide +kernel
theorem dX5_init_245 : decode cX5_init 245 = .ok (.aload_n 0, 1) := by decide +kernel
theorem dX5_init_246 : decode cX5_init 246 = .ok (.getfield 53, 3) := by decide +kernel
theorem dX5_init_249 : decode cX5_init 249 = .ok (.iload_n 1, 1) := by decide +kernel
theorem dX5_init_250 : decode cX5_init 250 = .ok (.iconst (-1), 1) := by decide +kernel
theorem dX5_init_251 : decode cX5_init 251 = .ok (.iastore, 1) := by decide +kernel
theorem dX5_init_252 : decode cX5_init 252 = .ok (.iinc 1 1, 3) := by decide +kernel
theorem dX5_init_255 : decode cX5_init 255 = .ok (.goto (-16), 3) := by decide +kernel
theorem dX5_init_258 : decode cX5_init 258 = .ok (.return_, 1) := by decide +kernel
theorem dX5_thrown_0 : decode cX5_thrown 0 = .ok (.aload_n 0, 1) := by decide +kernel
theorem dX5_thrown_1 : decode cX5_thrown 1 = .ok (.getfield 71, 3) := by decide +kernel
theorem dX5_thrown_4 : decode cX5_thrown 4 = .ok (.ireturn, 1) := by decide +kernel
theorem dX5_throwing_0 : decode cX5_throwing 0 = .ok (.aload_n 0, 1) := by decide +kernel
theorem dX5_throwing_1 : decode cX5_throwing 1 = .ok (.iload_n 1, 1) := by decide +kernel
theorem dX5_throwing_2 : decode cX5_throwing 2 = .ok (.ifCond .eq 7, 3) := by decide +kernel
theorem dX5_throwing_5 : decode cX5_throwing 5 = .ok (.iconst 1, 1) := by decide +kernel
theorem dX5_throwing_6 : decode cX5_throwing 6 = .ok (.goto 12, 3) := by decide +kernel
theorem dX5_throwing_9 : decode cX5_throwing 9 = .ok (.iload_n 2, 1) := by decide +kernel
theorem dX5_throwing_10 : decode cX5_throwing 10 = .ok (.ifCond .eq 7, 3) := by decide +kernel
theorem dX5_throwing_13 : decode cX5_throwing 13 = .ok (.iconst 2, 1) := by decide +kernel
theorem dX5_throwing_14 : decode cX5_throwing 14 = .ok (.goto 4, 3) := by decide +kernel
theorem dX5_throwing_17 : decode cX5_throwing 17 = .ok (.iconst 0, 1) := by decide +kernel
theorem dX5_throwing_18 : decode cX5_throwing 18 = .ok (.putfield 71, 3) := by decide +kernel
theorem dX5_throwing_21 : decode cX5_throwing 21 = .ok (.aload_n 0, 1) := by decide +kernel
theorem dX5_throwing_22 : decode cX5_throwing 22 = .ok (.getfield 71, 3) := by decide +kernel
theorem dX5_throwing_25 : decode cX5_throwing 25 = .ok (.ifCond .le 7, 3) := by decide +kernel
theorem dX5_throwing_28 : decode cX5_throwing 28 = .ok (.iconst 1, 1) := by decide +kernel
theorem dX5_throwing_29 : decode cX5_throwing 29 = .ok (.goto 4, 3) := by decide +kernel
theorem dX5_throwing_32 : decode cX5_throwing 32 = .ok (.iconst 0, 1) := by decide +kernel
theorem dX5_throwing_33 : decode cX5_throwing 33 = .ok (.ireturn, 1) := by decide +kernel
theorem dX5_in_0 : decode cX5_in 0 = .ok (.iload_n 0, 1) := by decide +kernel
theorem dX5_in_1 : decode cX5_in 1 = .ok (.iload_n 1, 1) := by decide +kernel
theorem dX5_in_2 : decode cX5_in 2 = .ok (.if_icmp .lt 12, 3) := by decide +kernel
theorem dX5_in_5 : decode cX5_in 5 = .ok (.iload_n 0, 1) := by decide +kernel
theorem dX5_in_6 : decode cX5_in 6 = .ok (.iload_n 2, 1) := by decide +kernel
theorem dX5_in_7 : decode cX5_in 7 = .ok (.if_icmp .gt 7, 3) := by decide +kernel
theorem dX5_in_10 : decode cX5_in 10 = .ok (.iconst 1, 1) := by decide +kernel
theorem dX5_in_11 : decode cX5_in 11 = .ok (.goto 4, 3) := by decide +kernel
theorem dX5_in_14 : decode cX5_in 14 = .ok (.iconst 0, 1) := by decide +kernel
theorem dX5_in_15 : decode cX5_in 15 = .ok (.ireturn, 1) := by decide +kernel
set_option maxRecDepth 20000 in
theorem ggX5_isLine_X5_in : GoodIn wsX5_isLine wsX5_in := goodIn_r _ [4] (by decide +kernel) (by decide +kernel)
set_option maxRecDepth 20000 in
theorem gX5_isLine_X5_in : GoodIn wsX5_isLine (va_wsS RX5 75 yX5_in wsX5_in) := goodIn_app (goodIn_of _ (by decide +kernel)) ggX5_isLine_X5_in
theorem dX5_isLine_0 : decode cX5_isLine 0 = .ok (.iload_n 0, 1) := by decide +kernel
theorem dX5_isLine_1 : decode cX5_isLine 1 = .ok (.iconst 0, 1) := by decide +kernel
theorem dX5_isLine_2 : decode cX5_isLine 2 = .ok (.bipush 23, 2) := by decide +kernel
theorem dX5_isLine_4 : decode cX5_isLine 4 = .ok (.invokestatic 75, 3) := by decide +kernel
theorem dX5_isLine_7 : decode cX5_isLine 7 = .ok (.ireturn, 1) := by decide +kernel
theorem dX5_free_0 : decode cX5_free 0 = .ok (.iconst 0, 1) := by decide +kernel
theorem dX5_free_1 : decode cX5_free 1 = .ok (.istore_n 3, 1) := by decide +kernel
theorem dX5_free_2 : decode cX5_free 2 = .ok (.iload_n 3, 1) := by decide +kernel
theorem dX5_free_3 : decode cX5_free 3 = .ok (.bipush 8, 2) := by decide +kernel
theorem dX5_free_5 : decode cX5_free 5 = .ok (.if_icmp .ge 47, 3) := by decide +kernel
theorem dX5_free_8 : decode cX5_free 8 = .ok (.aload_n 0, 1) := by decide +kernel
theorem dX5_free_9 : decode cX5_free 9 = .ok (.getfield 53, 3) := by decide +kernel
theorem dX5_free_12 : decode cX5_free 12 = .ok (.bipush 8, 2) := by decide +kernel
theorem dX5_free_14 : decode cX5_free 14 = .ok (.iload_n 1, 1) := by decide +kernel
theorem dX5_free_15 : decode cX5_free 15 = .ok (.bipush 6, 2) := by decide +kernel
theorem dX5_free_17 : decode cX5_free 17 = .ok (.idiv, 1) := by decide +kernel
theorem dX5_free_18 : decode cX5_free 18 = .ok (.imul, 1) := by decide +kernel
theorem dX5_free_19 : decode cX5_free 19 = .ok (.iload_n 3, 1) := by decide +kernel
theorem dX5_free_20 : decode cX5_free 20 = .ok (.iadd, 1) := by decide +kernel
theorem dX5_free_21 : decode cX5_free 21 = .ok (.iaload, 1) := by decide +kernel
theorem dX5_free_22 : decode cX5_free 22 = .ok (.iconst (-1), 1) := by decide +kernel
theorem dX5_free_23 : decode cX5_free 23 = .ok (.if_icmp .ne 23, 3) := by decide +kernel
theorem dX5_free_26 : decode cX5_free 26 = .ok (.aload_n 0, 1) := by decide +kernel
theorem dX5_free_27 : decode cX5_free 27 = .ok (.getfield 53, 3) := by decide +kernel
theorem dX5_free_30 : decode cX5_free 30 = .ok (.bipush 8, 2) := by decide +kernel
theorem dX5_free_32 : decode cX5_free 32 = .ok (.iload_n 2, 1) := by decide +kernel
theorem dX5_free_33 : decode cX5_free 33 = .ok (.bipush 6, 2) := by decide +kernel
theorem dX5_free_35 : decode cX5_free 35 = .ok (.idiv, 1) := by decide +kernel
theorem dX5_free_36 : decode cX5_free 36 = .ok (.imul, 1) := by decide +kernel
theorem dX5_free_37 : decode cX5_free 37 = .ok (.iload_n 3, 1) := by decide +kernel
theorem dX5_free_38 : decode cX5_free 38 = .ok (.iadd, 1) := by decide +kernel
theorem dX5_free_39 : decode cX5_free 39 = .ok (.iaload, 1) := by decide +kernel
theorem dX5_free_40 : decode cX5_free 40 = .ok (.iconst (-1), 1) := by decide +kernel
theorem dX5_free_41 : decode cX5_free 41 = .ok (.if_icmp .ne 5, 3) := by decide +kernel
theorem dX5_free_44 : decode cX5_free 44 = .ok (.iload_n 3, 1) := by decide +kernel
theorem dX5_free_45 : decode cX5_free 45 = .ok (.ireturn, 1) := by decide +kernel
theorem dX5_free_46 : decode cX5_free 46 = .ok (.iinc 3 1, 3) := by decide +kernel
theorem dX5_free_49 : decode cX5_free 49 = .ok (.goto (-47), 3) := by decide +kernel
theorem dX5_free_52 : decode cX5_free 52 = .ok (.iconst (-1), 1) := by decide +kernel
theorem dX5_free_53 : decode cX5_free 53 = .ok (.ireturn, 1) := by decide +kernel
theorem dX5_use_0 : decode cX5_use 0 = .ok (.aload_n 0, 1) := by decide +kernel
theorem dX5_use_1 : decode cX5_use 1 = .ok (.getfield 53, 3) := by decide +kernel
theorem dX5_use_4 : decode cX5_use 4 = .ok (.bipush 8, 2) := by decide +kernel
theorem dX5_use_6 : decode cX5_use 6 = .ok (.iload_n 1, 1) := by decide +kernel
theorem dX5_use_7 : decode cX5_use 7 = .ok (.bipush 6, 2) := by decide +kernel
theorem dX5_use_9 : decode cX5_use 9 = .ok (.idiv, 1) := by decide +kernel
theorem dX5_use_10 : decode cX5_use 10 = .ok (.imul, 1) := by decide +kernel
theorem dX5_use_11 : decode cX5_use 11 = .ok (.iload_n 3, 1) := by decide +kernel
theorem dX5_use_12 : decode cX5_use 12 = .ok (.iadd, 1) := by decide +kernel
theorem dX5_use_13 : decode cX5_use 13 = .ok (.iload 4, 2) := by decide +kernel
theorem dX5_use_15 : decode cX5_use 15 = .ok (.iastore, 1) := by decide +kernel
theorem dX5_use_16 : decode cX5_use 16 = .ok (.aload_n 0, 1) := by decide +kernel
theorem dX5_use_17 : decode cX5_use 17 = .ok (.getfield 53, 3) := by decide +kernel
theorem dX5_use_20 : decode cX5_use 20 = .ok (.bipush 8, 2) := by decide +kernel
theorem dX5_use_22 : decode cX5_use 22 = .ok (.iload_n 2, 1) := by decide +kernel
theorem dX5_use_23 : decode cX5_use 23 = .ok (.bipush 6, 2) := by decide +kernel
theorem dX5_use_25 : decode cX5_use 25 = .ok (.idiv, 1) := by decide +kernel
theorem dX5_use_26 : decode cX5_use 26 = .ok (.imul, 1) := by decide +kernel
theorem dX5_use_27 : decode cX5_use 27 = .ok (.iload_n 3, 1) := by decide +kernel
theorem dX5_use_28 : decode cX5_use 28 = .ok (.iadd, 1) := by decide +kernel
theorem dX5_use_29 : decode cX5_use 29 = .ok (.iload 4, 2) := by decide +kernel
theorem dX5_use_31 : decode cX5_use 31 = .ok (.iastore, 1) := by decide +kernel
theorem dX5_use_32 : decode cX5_use 32 = .ok (.return_, 1) := by decide +kernel
set_option maxRecDepth 20000 in
theorem ggX5_take_X5_free : GoodIn wsX5_take wsX5_free := goodIn_r _ [5, 6, 11, 12, 13, 14, 15, 16, 17, 18, 19, 20, 21, 22, 23, 24, 25, 26, 27, 28, 29, 30, 31, 32, 33, 34, 35] (by decide +kernel) (by decide +kernel)
set_option maxRecDepth 20000 in
theorem gX5_take_X5_free : GoodIn wsX5_take (wsV RX5 79 RX5 yX5_free wsX5_free) := goodIn_app (goodIn_of _ (by decide +kernel)) ggX5_take_X5_free
set_option maxRecDepth 20000 in
theorem ggX5_take_X5_use : GoodIn wsX5_take wsX5_use := goodIn_r _ [10, 6, 11, 12, 13, 14, 15, 16, 17, 18, 19, 20, 21, 22, 23, 24, 25, 26, 27, 28, 29, 30, 31, 32, 33, 34, 35] (by decide +kernel) (by decide +kernel)
set_option maxRecDepth 20000 in
theorem gX5_take_X5_use : GoodIn wsX5_take (wsV RX5 83 RX5 yX5_use wsX5_use) := goodIn_app (goodIn_of _ (by decide +kernel)) ggX5_take_X5_use
theorem dX5_take_0 : decode cX5_take 0 = .ok (.aload_n 0, 1) := by decide +kernel
theorem dX5_take_1 : decode cX5_take 1 = .ok (.iload_n 1, 1) := by decide +kernel
theorem dX5_take_2 : decode cX5_take 2 = .ok (.iload_n 2, 1) := by decide +kernel
theorem dX5_take_3 : decode cX5_take 3 = .ok (.invokevirtual 79, 3) := by decide +kernel
theorem dX5_take_6 : decode cX5_take 6 = .ok (.istore_n 3, 1) := by decide +kernel
theorem dX5_take_7 : decode cX5_take 7 = .ok (.iload_n 3, 1) := by decide +kernel
theorem dX5_take_8 : decode cX5_take 8 = .ok (.ifCond .lt 20, 3) := by decide +kernel
theorem dX5_take_11 : decode cX5_take 11 = .ok (.aload_n 0, 1) := by decide +kernel
theorem dX5_take_12 : decode cX5_take 12 = .ok (.iload_n 1, 1) := by decide +kernel
theorem dX5_take_13 : decode cX5_take 13 = .ok (.iload_n 2, 1) := by decide +kernel
theorem dX5_take_14 : decode cX5_take 14 = .ok (.iload_n 3, 1) := by decide +kernel
theorem dX5_take_15 : decode cX5_take 15 = .ok (.iload_n 1, 1) := by decide +kernel
theorem dX5_take_16 : decode cX5_take 16 = .ok (.iload_n 2, 1) := by decide +kernel
theorem dX5_take_17 : decode cX5_take 17 = .ok (.if_icmp .ge 7, 3) := by decide +kernel
theorem dX5_take_20 : decode cX5_take 20 = .ok (.iload_n 1, 1) := by decide +kernel
theorem dX5_take_21 : decode cX5_take 21 = .ok (.goto 4, 3) := by decide +kernel
theorem dX5_take_24 : decode cX5_take 24 = .ok (.iload_n 2, 1) := by decide +kernel
theorem dX5_take_25 : decode cX5_take 25 = .ok (.invokevirtual 83, 3) := by decide +kernel
theorem dX5_take_28 : decode cX5_take 28 = .ok (.iload_n 3, 1) := by decide +kernel
theorem dX5_take_29 : decode cX5_take 29 = .ok (.ireturn, 1) := by decide +kernel
theorem dX5_become_0 : decode cX5_become 0 = .ok (.aload_n 0, 1) := by decide +kernel
theorem dX5_become_1 : decode cX5_become 1 = .ok (.getfield 7, 3) := by decide +kernel
theorem dX5_become_4 : decode cX5_become 4 = .ok (.iload_n 1, 1) := by decide +kernel
theorem dX5_become_5 : decode cX5_become 5 = .ok (.iload_n 2, 1) := by decide +kernel
theorem dX5_become_6 : decode cX5_become 6 = .ok (.iastore, 1) := by decide +kernel
theorem dX5_become_7 : decode cX5_become 7 = .ok (.aload_n 0, 1) := by decide +kernel
theorem dX5_become_8 : decode cX5_become 8 = .ok (.getfield 13, 3) := by decide +kernel
theorem dX5_become_11 : decode cX5_become 11 = .ok (.iload_n 1, 1) := by decide +kernel
theorem dX5_become_12 : decode cX5_become 12 = .ok (.aload_n 0, 1) := by decide +kernel
theorem dX5_become_13 : decode cX5_become 13 = .ok (.getfield 87, 3) := by decide +kernel
theorem dX5_become_16 : decode cX5_become 16 = .ok (.iastore, 1) := by decide +kernel
theorem dX5_become_17 : decode cX5_become 17 = .ok (.aload_n 0, 1) := by decide +kernel
theorem dX5_become_18 : decode cX5_become 18 = .ok (.getfield 31, 3) := by decide +kernel
theorem dX5_become_21 : decode cX5_become 21 = .ok (.iload_n 1, 1) := by decide +kernel
theorem dX5_become_22 : decode cX5_become 22 = .ok (.iconst (-1), 1) := by decide +kernel
theorem dX5_become_23 : decode cX5_become 23 = .ok (.iastore, 1) := by decide +kernel
theorem dX5_become_24 : decode cX5_become 24 = .ok (.iload_n 2, 1) := by decide +kernel
theorem dX5_become_25 : decode cX5_become 25 = .ok (.ifCond .eq 4, 3) := by decide +kernel
theorem dX5_become_28 : decode cX5_become 28 = .ok (.return_, 1) := by decide +kernel
theorem dX5_become_29 : decode cX5_become 29 = .ok (.aload_n 0, 1) := by decide +kernel
theorem dX5_become_30 : decode cX5_become 30 = .ok (.getfield 16, 3) := by decide +kernel
theorem dX5_become_33 : decode cX5_become 33 = .ok (.iload_n 1, 1) := by decide +kernel
theorem dX5_become_34 : decode cX5_become 34 = .ok (.aload_n 0, 1) := by decide +kernel
theorem dX5_become_35 : decode cX5_become 35 = .ok (.getfield 87, 3) := by decide +kernel
theorem dX5_become_38 : decode cX5_become 38 = .ok (.iastore, 1) := by decide +kernel
theorem dX5_become_39 : decode cX5_become 39 = .ok (.aload_n 0, 1) := by decide +kernel
theorem dX5_become_40 : decode cX5_become 40 = .ok (.getfield 22, 3) := by decide +kernel
theorem dX5_become_43 : decode cX5_become 43 = .ok (.iload_n 1, 1) := by decide +kernel
theorem dX5_become_44 : decode cX5_become 44 = .ok (.iconst (-1), 1) := by decide +kernel
theorem dX5_become_45 : decode cX5_become 45 = .ok (.iastore, 1) := by decide +kernel
theorem dX5_become_46 : decode cX5_become 46 = .ok (.aload_n 0, 1) := by decide +kernel
theorem dX5_become_47 : decode cX5_become 47 = .ok (.getfield 25, 3) := by decide +kernel
theorem dX5_become_50 : decode cX5_become 50 = .ok (.iload_n 1, 1) := by decide +kernel
theorem dX5_become_51 : decode cX5_become 51 = .ok (.iconst (-1), 1) := by decide +kernel
theorem dX5_become_52 : decode cX5_become 52 = .ok (.iastore, 1) := by decide +kernel
theorem dX5_become_53 : decode cX5_become 53 = .ok (.return_, 1) := by decide +kernel
set_option maxRecDepth 20000 in
theorem ggX5_busy_X5_become : GoodIn wsX5_busy wsX5_become := goodIn_r _ [7, 8, 9, 10, 11, 12, 1, 2, 13, 14, 15, 16, 17, 18, 19, 20, 21, 22, 23, 24, 25, 26, 27, 28, 29, 30, 31, 32, 33, 34, 35, 36, 37] (by decide +kernel) (by decide +kernel)
set_option maxRecDepth 20000 in
theorem gX5_busy_X5_become : GoodIn wsX5_busy (wsV RX5 90 RX5 yX5_become wsX5_become) := goodIn_app (goodIn_of _ (by decide +kernel)) ggX5_busy_X5_become
theorem dX5_busy_0 : decode cX5_busy 0 = .ok (.aload_n 0, 1) := by decide +kernel
theorem dX5_busy_1 : decode cX5_busy 1 = .ok (.iload_n 1, 1) := by decide +kernel
theorem dX5_busy_2 : decode cX5_busy 2 = .ok (.iconst 5, 1) := by decide +kernel
theorem dX5_busy_3 : decode cX5_busy 3 = .ok (.invokevirtual 90, 3) := by decide +kernel
theorem dX5_busy_6 : decode cX5_busy 6 = .ok (.aload_n 0, 1) := by decide +kernel
theorem dX5_busy_7 : decode cX5_busy 7 = .ok (.getfield 22, 3) := by decide +kernel
theorem dX5_busy_10 : decode cX5_busy 10 = .ok (.iload_n 1, 1) := by decide +kernel
theorem dX5_busy_11 : decode cX5_busy 11 = .ok (.iconst (-1), 1) := by decide +kernel
theorem dX5_busy_12 : decode cX5_busy 12 = .ok (.iastore, 1) := by decide +kernel
theorem dX5_busy_13 : decode cX5_busy 13 = .ok (.aload_n 0, 1) := by decide +kernel
theorem dX5_busy_14 : decode cX5_busy 14 = .ok (.getfield 25, 3) := by decide +kernel
theorem dX5_busy_17 : decode cX5_busy 17 = .ok (.iload_n 1, 1) := by decide +kernel
theorem dX5_busy_18 : decode cX5_busy 18 = .ok (.iconst (-1), 1) := by decide +kernel
theorem dX5_busy_19 : decode cX5_busy 19 = .ok (.iastore, 1) := by decide +kernel
theorem dX5_busy_20 : decode cX5_busy 20 = .ok (.return_, 1) := by decide +kernel
set_option maxRecDepth 20000 in
theorem ggX5_ring_X5_become : GoodIn wsX5_ring wsX5_become := goodIn_r _ [10, 5, 11, 12, 13, 14, 1, 2, 15, 16, 17, 18, 19, 20, 21, 22, 23, 24, 25, 26, 27, 28, 29, 30, 31, 32, 33, 34, 35, 36, 37, 38, 39] (by decide +kernel) (by decide +kernel)
set_option maxRecDepth 20000 in
theorem gX5_ring_X5_become : GoodIn wsX5_ring (wsV RX5 90 RX5 yX5_become wsX5_become) := goodIn_app (goodIn_of _ (by decide +kernel)) ggX5_ring_X5_become
theorem dX5_ring_0 : decode cX5_ring 0 = .ok (.aload_n 0, 1) := by decide +kernel
theorem dX5_ring_1 : decode cX5_ring 1 = .ok (.iload_n 2, 1) := by decide +kernel
theorem dX5_ring_2 : decode cX5_ring 2 = .ok (.iconst 4, 1) := by decide +kernel
theorem dX5_ring_3 : decode cX5_ring 3 = .ok (.invokevirtual 90, 3) := by decide +kernel
theorem dX5_ring_6 : decode cX5_ring 6 = .ok (.aload_n 0, 1) := by decide +kernel
theorem dX5_ring_7 : decode cX5_ring 7 = .ok (.getfield 22, 3) := by decide +kernel
theorem dX5_ring_10 : decode cX5_ring 10 = .ok (.iload_n 2, 1) := by decide +kernel
theorem dX5_ring_11 : decode cX5_ring 11 = .ok (.iload_n 1, 1) := by decide +kernel
theorem dX5_ring_12 : decode cX5_ring 12 = .ok (.iastore, 1) := by decide +kernel
theorem dX5_ring_13 : decode cX5_ring 13 = .ok (.aload_n 0, 1) := by decide +kernel
theorem dX5_ring_14 : decode cX5_ring 14 = .ok (.getfield 25, 3) := by decide +kernel
theorem dX5_ring_17 : decode cX5_ring 17 = .ok (.iload_n 2, 1) := by decide +kernel
theorem dX5_ring_18 : decode cX5_ring 18 = .ok (.iload_n 3, 1) := by decide +kernel
theorem dX5_ring_19 : decode cX5_ring 19 = .ok (.iastore, 1) := by decide +kernel
theorem dX5_ring_20 : decode cX5_ring 20 = .ok (.aload_n 0, 1) := by decide +kernel
theorem dX5_ring_21 : decode cX5_ring 21 = .ok (.getfield 28, 3) := by decide +kernel
theorem dX5_ring_24 : decode cX5_ring 24 = .ok (.iload_n 2, 1) := by decide +kernel
theorem dX5_ring_25 : decode cX5_ring 25 = .ok (.aload_n 0, 1) := by decide +kernel
theorem dX5_ring_26 : decode cX5_ring 26 = .ok (.getfield 94, 3) := by decide +kernel
theorem dX5_ring_29 : decode cX5_ring 29 = .ok (.iastore, 1) := by decide +kernel
theorem dX5_ring_30 : decode cX5_ring 30 = .ok (.aload_n 0, 1) := by decide +kernel
theorem dX5_ring_31 : decode cX5_ring 31 = .ok (.dup, 1) := by decide +kernel
theorem dX5_ring_32 : decode cX5_ring 32 = .ok (.getfield 94, 3) := by decide +kernel
theorem dX5_ring_35 : decode cX5_ring 35 = .ok (.iconst 1, 1) := by decide +kernel
theorem dX5_ring_36 : decode cX5_ring 36 = .ok (.iadd, 1) := by decide +kernel
theorem dX5_ring_37 : decode cX5_ring 37 = .ok (.putfield 94, 3) := by decide +kernel
theorem dX5_ring_40 : decode cX5_ring 40 = .ok (.aload_n 0, 1) := by decide +kernel
theorem dX5_ring_41 : decode cX5_ring 41 = .ok (.getfield 7, 3) := by decide +kernel
theorem dX5_ring_44 : decode cX5_ring 44 = .ok (.iload_n 1, 1) := by decide +kernel
theorem dX5_ring_45 : decode cX5_ring 45 = .ok (.iaload, 1) := by decide +kernel
theorem dX5_ring_46 : decode cX5_ring 46 = .ok (.iconst 3, 1) := by decide +kernel
theorem dX5_ring_47 : decode cX5_ring 47 = .ok (.if_icmp .eq 9, 3) := by decide +kernel
theorem dX5_ring_50 : decode cX5_ring 50 = .ok (.aload_n 0, 1) := by decide +kernel
theorem dX5_ring_51 : decode cX5_ring 51 = .ok (.iload_n 1, 1) := by decide +kernel
theorem dX5_ring_52 : decode cX5_ring 52 = .ok (.iconst 3, 1) := by decide +kernel
theorem dX5_ring_53 : decode cX5_ring 53 = .ok (.invokevirtual 90, 3) := by decide +kernel
theorem dX5_ring_56 : decode cX5_ring 56 = .ok (.return_, 1) := by decide +kernel
set_option maxRecDepth 20000 in
theorem ggX5_connect_X5_become : GoodIn wsX5_connect wsX5_become := goodIn_r _ [10, 11, 12, 5, 13, 14, 1, 2, 15, 16, 17, 18, 19, 20, 21, 22, 23, 24, 25, 26, 27, 28, 29, 30, 31, 32, 33, 34, 35, 36, 37, 38, 39] (by decide +kernel) (by decide +kernel)
set_option maxRecDepth 20000 in
theorem gX5_connect_X5_become : GoodIn wsX5_connect (wsV RX5 90 RX5 yX5_become wsX5_become) := goodIn_app (goodIn_of _ (by decide +kernel)) ggX5_connect_X5_become
theorem dX5_connect_0 : decode cX5_connect 0 = .ok (.aload_n 0, 1) := by decide +kernel
theorem dX5_connect_1 : decode cX5_connect 1 = .ok (.iload_n 1, 1) := by decide +kernel
theorem dX5_connect_2 : decode cX5_connect 2 = .ok (.bipush 6, 2) := by decide +kernel
theorem dX5_connect_4 : decode cX5_connect 4 = .ok (.invokevirtual 90, 3) := by decide +kernel
theorem dX5_connect_7 : decode cX5_connect 7 = .ok (.aload_n 0, 1) := by decide +kernel
theorem dX5_connect_8 : decode cX5_connect 8 = .ok (.iload_n 2, 1) := by decide +kernel
theorem dX5_connect_9 : decode cX5_connect 9 = .ok (.bipush 6, 2) := by decide +kernel
theorem dX5_connect_11 : decode cX5_connect 11 = .ok (.invokevirtual 90, 3) := by decide +kernel
theorem dX5_connect_14 : decode cX5_connect 14 = .ok (.aload_n 0, 1) := by decide +kernel
theorem dX5_connect_15 : decode cX5_connect 15 = .ok (.getfield 22, 3) := by decide +kernel
theorem dX5_connect_18 : decode cX5_connect 18 = .ok (.iload_n 1, 1) := by decide +kernel
theorem dX5_connect_19 : decode cX5_connect 19 = .ok (.iload_n 2, 1) := by decide +kernel
theorem dX5_connect_20 : decode cX5_connect 20 = .ok (.iastore, 1) := by decide +kernel
theorem dX5_connect_21 : decode cX5_connect 21 = .ok (.aload_n 0, 1) := by decide +kernel
theorem dX5_connect_22 : decode cX5_connect 22 = .ok (.getfield 22, 3) := by decide +kernel
theorem dX5_connect_25 : decode cX5_connect 25 = .ok (.iload_n 2, 1) := by decide +kernel
theorem dX5_connect_26 : decode cX5_connect 26 = .ok (.iload_n 1, 1) := by decide +kernel
theorem dX5_connect_27 : decode cX5_connect 27 = .ok (.iastore, 1) := by decide +kernel
theorem dX5_connect_28 : decode cX5_connect 28 = .ok (.aload_n 0, 1) := by decide +kernel
theorem dX5_connect_29 : decode cX5_connect 29 = .ok (.getfield 25, 3) := by decide +kernel
theorem dX5_connect_32 : decode cX5_connect 32 = .ok (.iload_n 1, 1) := by decide +kernel
theorem dX5_connect_33 : decode cX5_connect 33 = .ok (.iload_n 3, 1) := by decide +kernel
theorem dX5_connect_34 : decode cX5_connect 34 = .ok (.iastore, 1) := by decide +kernel
theorem dX5_connect_35 : decode cX5_connect 35 = .ok (.aload_n 0, 1) := by decide +kernel
theorem dX5_connect_36 : decode cX5_connect 36 = .ok (.getfield 25, 3) := by decide +kernel
theorem dX5_connect_39 : decode cX5_connect 39 = .ok (.iload_n 2, 1) := by decide +kernel
theorem dX5_connect_40 : decode cX5_connect 40 = .ok (.iload_n 3, 1) := by decide +kernel
theorem dX5_connect_41 : decode cX5_connect 41 = .ok (.iastore, 1) := by decide +kernel
theorem dX5_connect_42 : decode cX5_connect 42 = .ok (.aload_n 0, 1) := by decide +kernel
theorem dX5_connect_43 : decode cX5_connect 43 = .ok (.getfield 41, 3) := by decide +kernel
theorem dX5_connect_46 : decode cX5_connect 46 = .ok (.iload_n 1, 1) := by decide +kernel
theorem dX5_connect_47 : decode cX5_connect 47 = .ok (.iconst 1, 1) := by decide +kernel
theorem dX5_connect_48 : decode cX5_connect 48 = .ok (.bastore, 1) := by decide +kernel
theorem dX5_connect_49 : decode cX5_connect 49 = .ok (.aload_n 0, 1) := by decide +kernel
theorem dX5_connect_50 : decode cX5_connect 50 = .ok (.getfield 41, 3) := by decide +kernel
theorem dX5_connect_53 : decode cX5_connect 53 = .ok (.iload_n 2, 1) := by decide +kernel
theorem dX5_connect_54 : decode cX5_connect 54 = .ok (.iconst 0, 1) := by decide +kernel
theorem dX5_connect_55 : decode cX5_connect 55 = .ok (.bastore, 1) := by decide +kernel
theorem dX5_connect_56 : decode cX5_connect 56 = .ok (.aload_n 0, 1) := by decide +kernel
theorem dX5_connect_57 : decode cX5_connect 57 = .ok (.getfield 44, 3) := by decide +kernel
theorem dX5_connect_60 : decode cX5_connect 60 = .ok (.iload_n 1, 1) := by decide +kernel
theorem dX5_connect_61 : decode cX5_connect 61 = .ok (.aload_n 0, 1) := by decide +kernel
theorem dX5_connect_62 : decode cX5_connect 62 = .ok (.getfield 87, 3) := by decide +kernel
theorem dX5_connect_65 : decode cX5_connect 65 = .ok (.iastore, 1) := by decide +kernel
theorem dX5_connect_66 : decode cX5_connect 66 = .ok (.return_, 1) := by decide +kernel
set_option maxRecDepth 20000 in
theorem ggX5_hush_X5_use : GoodIn wsX5_hush wsX5_use := goodIn_r _ [8, 9, 18, 19, 20, 21, 22, 23, 24, 25, 26, 27, 28, 29, 30, 31, 32, 33, 34, 35, 36, 37, 38, 39, 40, 41, 42] (by decide +kernel) (by decide +kernel)
set_option maxRecDepth 20000 in
theorem gX5_hush_X5_use : GoodIn wsX5_hush (wsV RX5 83 RX5 yX5_use wsX5_use) := goodIn_app (goodIn_of _ (by decide +kernel)) ggX5_hush_X5_use
set_option maxRecDepth 20000 in
theorem ggX5_hush_X5_become : GoodIn wsX5_hush wsX5_become := goodIn_r _ [13, 1, 14, 15, 16, 17, 2, 3, 18, 19, 20, 21, 22, 23, 24, 25, 26, 27, 28, 29, 30, 31, 32, 33, 34, 35, 36, 37, 38, 39, 40, 41, 42] (by decide +kernel) (by decide +kernel)
set_option maxRecDepth 20000 in
theorem gX5_hush_X5_become : GoodIn wsX5_hush (wsV RX5 90 RX5 yX5_become wsX5_become) := goodIn_app (goodIn_of _ (by decide +kernel)) ggX5_hush_X5_become
theorem dX5_hush_0 : decode cX5_hush 0 = .ok (.iconst 0, 1) := by decide +kernel
theorem dX5_hush_1 : decode cX5_hush 1 = .ok (.istore_n 3, 1) := by decide +kernel
theorem dX5_hush_2 : decode cX5_hush 2 = .ok (.iload_n 3, 1) := by decide +kernel
theorem dX5_hush_3 : decode cX5_hush 3 = .ok (.bipush 24, 2) := by decide +kernel
theorem dX5_hush_5 : decode cX5_hush 5 = .ok (.if_icmp .ge 53, 3) := by decide +kernel
theorem dX5_hush_8 : decode cX5_hush 8 = .ok (.aload_n 0, 1) := by decide +kernel
theorem dX5_hush_9 : decode cX5_hush 9 = .ok (.getfield 7, 3) := by decide +kernel
theorem dX5_hush_12 : decode cX5_hush 12 = .ok (.iload_n 3, 1) := by decide +kernel
theorem dX5_hush_13 : decode cX5_hush 13 = .ok (.iaload, 1) := by decide +kernel
theorem dX5_hush_14 : decode cX5_hush 14 = .ok (.iconst 4, 1) := by decide +kernel
theorem dX5_hush_15 : decode cX5_hush 15 = .ok (.if_icmp .ne 37, 3) := by decide +kernel
theorem dX5_hush_18 : decode cX5_hush 18 = .ok (.aload_n 0, 1) := by decide +kernel
theorem dX5_hush_19 : decode cX5_hush 19 = .ok (.getfield 22, 3) := by decide +kernel
theorem dX5_hush_22 : decode cX5_hush 22 = .ok (.iload_n 3, 1) := by decide +kernel
theorem dX5_hush_23 : decode cX5_hush 23 = .ok (.iaload, 1) := by decide +kernel
theorem dX5_hush_24 : decode cX5_hush 24 = .ok (.iload_n 1, 1) := by decide +kernel
theorem dX5_hush_25 : decode cX5_hush 25 = .ok (.if_icmp .ne 27, 3) := by decide +kernel
theorem dX5_hush_28 : decode cX5_hush 28 = .ok (.iload_n 3, 1) := by decide +kernel
theorem dX5_hush_29 : decode cX5_hush 29 = .ok (.iload_n 2, 1) := by decide +kernel
theorem dX5_hush_30 : decode cX5_hush 30 = .ok (.if_icmp .eq 22, 3) := by decide +kernel
theorem dX5_hush_33 : decode cX5_hush 33 = .ok (.aload_n 0, 1) := by decide +kernel
theorem dX5_hush_34 : decode cX5_hush 34 = .ok (.iload_n 1, 1) := by decide +kernel
theorem dX5_hush_35 : decode cX5_hush 35 = .ok (.iload_n 3, 1) := by decide +kernel
theorem dX5_hush_36 : decode cX5_hush 36 = .ok (.aload_n 0, 1) := by decide +kernel
theorem dX5_hush_37 : decode cX5_hush 37 = .ok (.getfield 25, 3) := by decide +kernel
theorem dX5_hush_40 : decode cX5_hush 40 = .ok (.iload_n 3, 1) := by decide +kernel
theorem dX5_hush_41 : decode cX5_hush 41 = .ok (.iaload, 1) := by decide +kernel
theorem dX5_hush_42 : decode cX5_hush 42 = .ok (.iconst (-1), 1) := by decide +kernel
theorem dX5_hush_43 : decode cX5_hush 43 = .ok (.invokevirtual 83, 3) := by decide +kernel
theorem dX5_hush_46 : decode cX5_hush 46 = .ok (.aload_n 0, 1) := by decide +kernel
theorem dX5_hush_47 : decode cX5_hush 47 = .ok (.iload_n 3, 1) := by decide +kernel
theorem dX5_hush_48 : decode cX5_hush 48 = .ok (.iconst 0, 1) := by decide +kernel
theorem dX5_hush_49 : decode cX5_hush 49 = .ok (.invokevirtual 90, 3) := by decide +kernel
theorem dX5_hush_52 : decode cX5_hush 52 = .ok (.iinc 3 1, 3) := by decide +kernel
theorem dX5_hush_55 : decode cX5_hush 55 = .ok (.goto (-53), 3) := by decide +kernel
theorem dX5_hush_58 : decode cX5_hush 58 = .ok (.return_, 1) := by decide +kernel
theorem dX5_unitsOf_0 : decode cX5_unitsOf 0 = .ok (.iconst 1, 1) := by decide +kernel
theorem dX5_unitsOf_1 : decode cX5_unitsOf 1 = .ok (.aload_n 0, 1) := by decide +kernel
theorem dX5_unitsOf_2 : decode cX5_unitsOf 2 = .ok (.getfield 87, 3) := by decide +kernel
theorem dX5_unitsOf_5 : decode cX5_unitsOf 5 = .ok (.aload_n 0, 1) := by decide +kernel
theorem dX5_unitsOf_6 : decode cX5_unitsOf 6 = .ok (.getfield 44, 3) := by decide +kernel
theorem dX5_unitsOf_9 : decode cX5_unitsOf 9 = .ok (.iload_n 1, 1) := by decide +kernel
theorem dX5_unitsOf_10 : decode cX5_unitsOf 10 = .ok (.iaload, 1) := by decide +kernel
theorem dX5_unitsOf_11 : decode cX5_unitsOf 11 = .ok (.isub, 1) := by decide +kernel
theorem dX5_unitsOf_12 : decode cX5_unitsOf 12 = .ok (.bipush 60, 2) := by decide +kernel
theorem dX5_unitsOf_14 : decode cX5_unitsOf 14 = .ok (.idiv, 1) := by decide +kernel
theorem dX5_unitsOf_15 : decode cX5_unitsOf 15 = .ok (.iadd, 1) := by decide +kernel
theorem dX5_unitsOf_16 : decode cX5_unitsOf 16 = .ok (.ireturn, 1) := by decide +kernel
set_option maxRecDepth 20000 in
theorem ggX5_finish_X5_unitsOf : GoodIn wsX5_finish wsX5_unitsOf := goodIn_r _ [12, 13, 5, 19, 20, 21, 22, 23, 24, 25, 26, 27, 28, 29, 30, 31, 32, 33, 34, 35, 36, 37, 38, 39, 40, 41, 42, 43] (by decide +kernel) (by decide +kernel)
set_option maxRecDepth 20000 in
theorem gX5_finish_X5_unitsOf : GoodIn wsX5_finish (wsV RX5 100 RX5 yX5_unitsOf wsX5_unitsOf) := goodIn_app (goodIn_of _ (by decide +kernel)) ggX5_finish_X5_unitsOf
set_option maxRecDepth 20000 in
theorem ggX5_finish_X5_use : GoodIn wsX5_finish wsX5_use := goodIn_r _ [17, 18, 19, 20, 21, 22, 23, 24, 25, 26, 27, 28, 29, 30, 31, 32, 33, 34, 35, 36, 37, 38, 39, 40, 41, 42, 43] (by decide +kernel) (by decide +kernel)
set_option maxRecDepth 20000 in
theorem gX5_finish_X5_use : GoodIn wsX5_finish (wsV RX5 83 RX5 yX5_use wsX5_use) := goodIn_app (goodIn_of _ (by decide +kernel)) ggX5_finish_X5_use
theorem dX5_finish_0 : decode cX5_finish 0 = .ok (.aload_n 0, 1) := by decide +kernel
theorem dX5_finish_1 : decode cX5_finish 1 = .ok (.getfield 22, 3) := by decide +kernel
theorem dX5_finish_4 : decode cX5_finish 4 = .ok (.iload_n 1, 1) := by decide +kernel
theorem dX5_finish_5 : decode cX5_finish 5 = .ok (.iaload, 1) := by decide +kernel
theorem dX5_finish_6 : decode cX5_finish 6 = .ok (.istore_n 2, 1) := by decide +kernel
theorem dX5_finish_7 : decode cX5_finish 7 = .ok (.aload_n 0, 1) := by decide +kernel
theorem dX5_finish_8 : decode cX5_finish 8 = .ok (.getfield 41, 3) := by decide +kernel
theorem dX5_finish_11 : decode cX5_finish 11 = .ok (.iload_n 1, 1) := by decide +kernel
theorem dX5_finish_12 : decode cX5_finish 12 = .ok (.baload, 1) := by decide +kernel
theorem dX5_finish_13 : decode cX5_finish 13 = .ok (.ifCond .eq 7, 3) := by decide +kernel
theorem dX5_finish_16 : decode cX5_finish 16 = .ok (.iload_n 1, 1) := by decide +kernel
theorem dX5_finish_17 : decode cX5_finish 17 = .ok (.goto 4, 3) := by decide +kernel
theorem dX5_finish_20 : decode cX5_finish 20 = .ok (.iload_n 2, 1) := by decide +kernel
theorem dX5_finish_21 : decode cX5_finish 21 = .ok (.istore_n 3, 1) := by decide +kernel
theorem dX5_finish_22 : decode cX5_finish 22 = .ok (.iconst 4, 1) := by decide +kernel
theorem dX5_finish_23 : decode cX5_finish 23 = .ok (.aload_n 0, 1) := by decide +kernel
theorem dX5_finish_24 : decode cX5_finish 24 = .ok (.getfield 97, 3) := by decide +kernel
theorem dX5_finish_27 : decode cX5_finish 27 = .ok (.bipush 60, 2) := by decide +kernel
theorem dX5_finish_29 : decode cX5_finish 29 = .ok (.irem, 1) := by decide +kernel
theorem dX5_finish_30 : decode cX5_finish 30 = .ok (.imul, 1) := by decide +kernel
theorem dX5_finish_31 : decode cX5_finish 31 = .ok (.istore 4, 2) := by decide +kernel
theorem dX5_finish_33 : decode cX5_finish 33 = .ok (.aload_n 0, 1) := by decide +kernel
theorem dX5_finish_34 : decode cX5_finish 34 = .ok (.getfield 68, 3) := by decide +kernel
theorem dX5_finish_37 : decode cX5_finish 37 = .ok (.iload 4, 2) := by decide +kernel
theorem dX5_finish_39 : decode cX5_finish 39 = .ok (.iload_n 3, 1) := by decide +kernel
theorem dX5_finish_40 : decode cX5_finish 40 = .ok (.iastore, 1) := by decide +kernel
theorem dX5_finish_41 : decode cX5_finish 41 = .ok (.aload_n 0, 1) := by decide +kernel
theorem dX5_finish_42 : decode cX5_finish 42 = .ok (.getfield 68, 3) := by decide +kernel
theorem dX5_finish_45 : decode cX5_finish 45 = .ok (.iload 4, 2) := by decide +kernel
theorem dX5_finish_47 : decode cX5_finish 47 = .ok (.iconst 1, 1) := by decide +kernel
