theorem dX0_init_0 : decode cX0_init 0 = .ok (.aload_n 0, 1) := by decide +kernel
theorem dX0_init_1 : decode cX0_init 1 = .ok (.invokespecial 1, 3) := by decide +kernel
theorem dX0_init_4 : decode cX0_init 4 = .ok (.aload_n 0, 1) := by decide +kernel
theorem dX0_init_5 : decode cX0_init 5 = .ok (.sipush 240, 3) := by decide +kernel
theorem dX0_init_8 : decode cX0_init 8 = .ok (.newarray .int, 2) := by decide +kernel
theorem dX0_init_10 : decode cX0_init 10 = .ok (.putfield 9, 3) := by decide +kernel
theorem dX0_init_13 : decode cX0_init 13 = .ok (.return_, 1) := by decide +kernel
theorem dX0_write_0 : decode cX0_write 0 = .ok (.aload_n 0, 1) := by decide +kernel
theorem dX0_write_1 : decode cX0_write 1 = .ok (.getfield 13, 3) := by decide +kernel
theorem dX0_write_4 : decode cX0_write 4 = .ok (.bipush 60, 2) := by decide +kernel
theorem dX0_write_6 : decode cX0_write 6 = .ok (.irem, 1) := by decide +kernel
theorem dX0_write_7 : decode cX0_write 7 = .ok (.iconst 4, 1) := by decide +kernel
theorem dX0_write_8 : decode cX0_write 8 = .ok (.imul, 1) := by decide +kernel
theorem dX0_write_9 : decode cX0_write 9 = .ok (.istore 5, 2) := by decide +kernel
theorem dX0_write_11 : decode cX0_write 11 = .ok (.aload_n 0, 1) := by decide +kernel
theorem dX0_write_12 : decode cX0_write 12 = .ok (.getfield 9, 3) := by decide +kernel
theorem dX0_write_15 : decode cX0_write 15 = .ok (.iload 5, 2) := by decide +kernel
theorem dX0_write_17 : decode cX0_write 17 = .ok (.iload_n 1, 1) := by decide +kernel
theorem dX0_write_18 : decode cX0_write 18 = .ok (.iastore, 1) := by decide +kernel
theorem dX0_write_19 : decode cX0_write 19 = .ok (.aload_n 0, 1) := by decide +kernel
theorem dX0_write_20 : decode cX0_write 20 = .ok (.getfield 9, 3) := by decide +kernel
theorem dX0_write_23 : decode cX0_write 23 = .ok (.iload 5, 2) := by decide +kernel
theorem dX0_write_25 : decode cX0_write 25 = .ok (.iconst 1, 1) := by decide +kernel
theorem dX0_write_26 : decode cX0_write 26 = .ok (.iadd, 1) := by decide +kernel
theorem dX0_write_27 : decode cX0_write 27 = .ok (.iload_n 2, 1) := by decide +kernel
theorem dX0_write_28 : decode cX0_write 28 = .ok (.iastore, 1) := by decide +kernel
theorem dX0_write_29 : decode cX0_write 29 = .ok (.aload_n 0, 1) := by decide +kernel
theorem dX0_write_30 : decode cX0_write 30 = .ok (.getfield 9, 3) := by decide +kernel
theorem dX0_write_33 : decode cX0_write 33 = .ok (.iload 5, 2) := by decide +kernel
theorem dX0_write_35 : decode cX0_write 35 = .ok (.iconst 2, 1) := by decide +kernel
theorem dX0_write_36 : decode cX0_write 36 = .ok (.iadd, 1) := by decide +kernel
theorem dX0_write_37 : decode cX0_write 37 = .ok (.iload_n 3, 1) := by decide +kernel
theorem dX0_write_38 : decode cX0_write 38 = .ok (.iastore, 1) := by decide +kernel
theorem dX0_write_39 : decode cX0_write 39 = .ok (.aload_n 0, 1) := by decide +kernel
theorem dX0_write_40 : decode cX0_write 40 = .ok (.getfield 9, 3) := by decide +kernel
theorem dX0_write_43 : decode cX0_write 43 = .ok (.iload 5, 2) := by decide +kernel
theorem dX0_write_45 : decode cX0_write 45 = .ok (.iconst 3, 1) := by decide +kernel
theorem dX0_write_46 : decode cX0_write 46 = .ok (.iadd, 1) := by decide +kernel
theorem dX0_write_47 : decode cX0_write 47 = .ok (.iload 4, 2) := by decide +kernel
theorem dX0_write_49 : decode cX0_write 49 = .ok (.iastore, 1) := by decide +kernel
theorem dX0_write_50 : decode cX0_write 50 = .ok (.aload_n 0, 1) := by decide +kernel
theorem dX0_write_51 : decode cX0_write 51 = .ok (.dup, 1) := by decide +kernel
theorem dX0_write_52 : decode cX0_write 52 = .ok (.getfield 13, 3) := by decide +kernel
theorem dX0_write_55 : decode cX0_write 55 = .ok (.iconst 1, 1) := by decide +kernel
theorem dX0_write_56 : decode cX0_write 56 = .ok (.iadd, 1) := by decide +kernel
theorem dX0_write_57 : decode cX0_write 57 = .ok (.putfield 13, 3) := by decide +kernel
theorem dX0_write_60 : decode cX0_write 60 = .ok (.return_, 1) := by decide +kernel
theorem dX0_keeps_0 : decode cX0_keeps 0 = .ok (.iload_n 1, 1) := by decide +kernel
theorem dX0_keeps_1 : decode cX0_keeps 1 = .ok (.ifCond .lt 26, 3) := by decide +kernel
theorem dX0_keeps_4 : decode cX0_keeps 4 = .ok (.iload_n 1, 1) := by decide +kernel
theorem dX0_keeps_5 : decode cX0_keeps 5 = .ok (.aload_n 0, 1) := by decide +kernel
theorem dX0_keeps_6 : decode cX0_keeps 6 = .ok (.getfield 13, 3) := by decide +kernel
theorem dX0_keeps_9 : decode cX0_keeps 9 = .ok (.if_icmp .ge 18, 3) := by decide +kernel
theorem dX0_keeps_12 : decode cX0_keeps 12 = .ok (.iload_n 1, 1) := by decide +kernel
theorem dX0_keeps_13 : decode cX0_keeps 13 = .ok (.aload_n 0, 1) := by decide +kernel
theorem dX0_keeps_14 : decode cX0_keeps 14 = .ok (.getfield 13, 3) := by decide +kernel
theorem dX0_keeps_17 : decode cX0_keeps 17 = .ok (.bipush 60, 2) := by decide +kernel
theorem dX0_keeps_19 : decode cX0_keeps 19 = .ok (.isub, 1) := by decide +kernel
theorem dX0_keeps_20 : decode cX0_keeps 20 = .ok (.if_icmp .lt 7, 3) := by decide +kernel
theorem dX0_keeps_23 : decode cX0_keeps 23 = .ok (.iconst 1, 1) := by decide +kernel
theorem dX0_keeps_24 : decode cX0_keeps 24 = .ok (.goto 4, 3) := by decide +kernel
theorem dX0_keeps_27 : decode cX0_keeps 27 = .ok (.iconst 0, 1) := by decide +kernel
theorem dX0_keeps_28 : decode cX0_keeps 28 = .ok (.ireturn, 1) := by decide +kernel
theorem dX0_read_0 : decode cX0_read 0 = .ok (.aload_n 0, 1) := by decide +kernel
theorem dX0_read_1 : decode cX0_read 1 = .ok (.getfield 9, 3) := by decide +kernel
theorem dX0_read_4 : decode cX0_read 4 = .ok (.iload_n 1, 1) := by decide +kernel
theorem dX0_read_5 : decode cX0_read 5 = .ok (.bipush 60, 2) := by decide +kernel
theorem dX0_read_7 : decode cX0_read 7 = .ok (.irem, 1) := by decide +kernel
theorem dX0_read_8 : decode cX0_read 8 = .ok (.iconst 4, 1) := by decide +kernel
theorem dX0_read_9 : decode cX0_read 9 = .ok (.imul, 1) := by decide +kernel
theorem dX0_read_10 : decode cX0_read 10 = .ok (.iload_n 2, 1) := by decide +kernel
theorem dX0_read_11 : decode cX0_read 11 = .ok (.iadd, 1) := by decide +kernel
theorem dX0_read_12 : decode cX0_read 12 = .ok (.iaload, 1) := by decide +kernel
theorem dX0_read_13 : decode cX0_read 13 = .ok (.ireturn, 1) := by decide +kernel
theorem dX1_init_0 : decode cX1_init 0 = .ok (.aload_n 0, 1) := by decide +kernel
theorem dX1_init_1 : decode cX1_init 1 = .ok (.invokespecial 3, 3) := by decide +kernel
theorem dX1_init_4 : decode cX1_init 4 = .ok (.aload_n 0, 1) := by decide +kernel
theorem dX1_init_5 : decode cX1_init 5 = .ok (.bipush 6, 2) := by decide +kernel
theorem dX1_init_7 : decode cX1_init 7 = .ok (.newarray .int, 2) := by decide +kernel
theorem dX1_init_9 : decode cX1_init 9 = .ok (.putfield 9, 3) := by decide +kernel
theorem dX1_init_12 : decode cX1_init 12 = .ok (.aload_n 0, 1) := by decide +kernel
theorem dX1_init_13 : decode cX1_init 13 = .ok (.iconst 0, 1) := by decide +kernel
theorem dX1_init_14 : decode cX1_init 14 = .ok (.putfield 15, 3) := by decide +kernel
theorem dX1_init_17 : decode cX1_init 17 = .ok (.aload_n 0, 1) := by decide +kernel
theorem dX1_init_18 : decode cX1_init 18 = .ok (.iconst (-1), 1) := by decide +kernel
theorem dX1_init_19 : decode cX1_init 19 = .ok (.putfield 19, 3) := by decide +kernel
theorem dX1_init_22 : decode cX1_init 22 = .ok (.return_, 1) := by decide +kernel
theorem dX1_restart_0 : decode cX1_restart 0 = .ok (.aload_n 0, 1) := by decide +kernel
theorem dX1_restart_1 : decode cX1_restart 1 = .ok (.iconst 0, 1) := by decide +kernel
theorem dX1_restart_2 : decode cX1_restart 2 = .ok (.putfield 22, 3) := by decide +kernel
theorem dX1_restart_5 : decode cX1_restart 5 = .ok (.aload_n 0, 1) := by decide +kernel
theorem dX1_restart_6 : decode cX1_restart 6 = .ok (.iload_n 1, 1) := by decide +kernel
theorem dX1_restart_7 : decode cX1_restart 7 = .ok (.putfield 15, 3) := by decide +kernel
theorem dX1_restart_10 : decode cX1_restart 10 = .ok (.aload_n 0, 1) := by decide +kernel
theorem dX1_restart_11 : decode cX1_restart 11 = .ok (.iconst (-1), 1) := by decide +kernel
theorem dX1_restart_12 : decode cX1_restart 12 = .ok (.putfield 19, 3) := by decide +kernel
theorem dX1_restart_15 : decode cX1_restart 15 = .ok (.return_, 1) := by decide +kernel
theorem dX1_has_0 : decode cX1_has 0 = .ok (.iconst 0, 1) := by decide +kernel
theorem dX1_has_1 : decode cX1_has 1 = .ok (.istore_n 2, 1) := by decide +kernel
theorem dX1_has_2 : decode cX1_has 2 = .ok (.iload_n 2, 1) := by decide +kernel
theorem dX1_has_3 : decode cX1_has 3 = .ok (.aload_n 0, 1) := by decide +kernel
theorem dX1_has_4 : decode cX1_has 4 = .ok (.getfield 22, 3) := by decide +kernel
theorem dX1_has_7 : decode cX1_has 7 = .ok (.if_icmp .ge 21, 3) := by decide +kernel
theorem dX1_has_10 : decode cX1_has 10 = .ok (.aload_n 0, 1) := by decide +kernel
theorem dX1_has_11 : decode cX1_has 11 = .ok (.getfield 9, 3) := by decide +kernel
theorem dX1_has_14 : decode cX1_has 14 = .ok (.iload_n 2, 1) := by decide +kernel
theorem dX1_has_15 : decode cX1_has 15 = .ok (.iaload, 1) := by decide +kernel
theorem dX1_has_16 : decode cX1_has 16 = .ok (.iload_n 1, 1) := by decide +kernel
theorem dX1_has_17 : decode cX1_has 17 = .ok (.if_icmp .ne 5, 3) := by decide +kernel
theorem dX1_has_20 : decode cX1_has 20 = .ok (.iconst 1, 1) := by decide +kernel
theorem dX1_has_21 : decode cX1_has 21 = .ok (.ireturn, 1) := by decide +kernel
theorem dX1_has_22 : decode cX1_has 22 = .ok (.iinc 2 1, 3) := by decide +kernel
theorem dX1_has_25 : decode cX1_has 25 = .ok (.goto (-23), 3) := by decide +kernel
theorem dX1_has_28 : decode cX1_has 28 = .ok (.iconst 0, 1) := by decide +kernel
theorem dX1_has_29 : decode cX1_has 29 = .ok (.ireturn, 1) := by decide +kernel
theorem dX1_add_0 : decode cX1_add 0 = .ok (.aload_n 0, 1) := by decide +kernel
theorem dX1_add_1 : decode cX1_add 1 = .ok (.getfield 9, 3) := by decide +kernel
theorem dX1_add_4 : decode cX1_add 4 = .ok (.aload_n 0, 1) := by decide +kernel
theorem dX1_add_5 : decode cX1_add 5 = .ok (.getfield 22, 3) := by decide +kernel
theorem dX1_add_8 : decode cX1_add 8 = .ok (.iload_n 1, 1) := by decide +kernel
theorem dX1_add_9 : decode cX1_add 9 = .ok (.iastore, 1) := by decide +kernel
theorem dX1_add_10 : decode cX1_add 10 = .ok (.aload_n 0, 1) := by decide +kernel
theorem dX1_add_11 : decode cX1_add 11 = .ok (.dup, 1) := by decide +kernel
theorem dX1_add_12 : decode cX1_add 12 = .ok (.getfield 22, 3) := by decide +kernel
theorem dX1_add_15 : decode cX1_add 15 = .ok (.iconst 1, 1) := by decide +kernel
theorem dX1_add_16 : decode cX1_add 16 = .ok (.iadd, 1) := by decide +kernel
theorem dX1_add_17 : decode cX1_add 17 = .ok (.putfield 22, 3) := by decide +kernel
theorem dX1_add_20 : decode cX1_add 20 = .ok (.return_, 1) := by decide +kernel
theorem dX2_init_0 : decode cX2_init 0 = .ok (.aload_n 0, 1) := by decide +kernel
theorem dX2_init_1 : decode cX2_init 1 = .ok (.invokespecial 3, 3) := by decide +kernel
theorem dX2_init_4 : decode cX2_init 4 = .ok (.aload_n 0, 1) := by decide +kernel
theorem dX2_init_5 : decode cX2_init 5 = .ok (.iconst 0, 1) := by decide +kernel
theorem dX2_init_6 : decode cX2_init 6 = .ok (.putfield 9, 3) := by decide +kernel
theorem dX2_init_9 : decode cX2_init 9 = .ok (.aload_n 0, 1) := by decide +kernel
theorem dX2_init_10 : decode cX2_init 10 = .ok (.iconst (-1), 1) := by decide +kernel
theorem dX2_init_11 : decode cX2_init 11 = .ok (.putfield 15, 3) := by decide +kernel
theorem dX2_init_14 : decode cX2_init 14 = .ok (.aload_n 0, 1) := by decide +kernel
theorem dX2_init_15 : decode cX2_init 15 = .ok (.iconst (-1), 1) := by decide +kernel
theorem dX2_init_16 : decode cX2_init 16 = .ok (.putfield 18, 3) := by decide +kernel
theorem dX2_init_19 : decode cX2_init 19 = .ok (.aload_n 0, 1) := by decide +kernel
theorem dX2_init_20 : decode cX2_init 20 = .ok (.iconst (-1), 1) := by decide +kernel
theorem dX2_init_21 : decode cX2_init 21 = .ok (.putfield 21, 3) := by decide +kernel
theorem dX2_init_24 : decode cX2_init 24 = .ok (.aload_n 0, 1) := by decide +kernel
theorem dX2_init_25 : decode cX2_init 25 = .ok (.iconst (-1), 1) := by decide +kernel
theorem dX2_init_26 : decode cX2_init 26 = .ok (.putfield 24, 3) := by decide +kernel
theorem dX2_init_29 : decode cX2_init 29 = .ok (.aload_n 0, 1) := by decide +kernel
theorem dX2_init_30 : decode cX2_init 30 = .ok (.iconst (-1), 1) := by decide +kernel
theorem dX2_init_31 : decode cX2_init 31 = .ok (.putfield 27, 3) := by decide +kernel
theorem dX2_init_34 : decode cX2_init 34 = .ok (.aload_n 0, 1) := by decide +kernel
theorem dX2_init_35 : decode cX2_init 35 = .ok (.iload_n 1, 1) := by decide +kernel
theorem dX2_init_36 : decode cX2_init 36 = .ok (.putfield 30, 3) := by decide +kernel
theorem dX2_init_39 : decode cX2_init 39 = .ok (.return_, 1) := by decide +kernel
theorem dX2_isOnHook_0 : decode cX2_isOnHook 0 = .ok (.aload_n 0, 1) := by decide +kernel
theorem dX2_isOnHook_1 : decode cX2_isOnHook 1 = .ok (.getfield 9, 3) := by decide +kernel
theorem dX2_isOnHook_4 : decode cX2_isOnHook 4 = .ok (.ifCond .eq 11, 3) := by decide +kernel
theorem dX2_isOnHook_7 : decode cX2_isOnHook 7 = .ok (.aload_n 0, 1) := by decide +kernel
theorem dX2_isOnHook_8 : decode cX2_isOnHook 8 = .ok (.getfield 9, 3) := by decide +kernel
theorem dX2_isOnHook_11 : decode cX2_isOnHook 11 = .ok (.iconst 4, 1) := by decide +kernel
theorem dX2_isOnHook_12 : decode cX2_isOnHook 12 = .ok (.if_icmp .ne 7, 3) := by decide +kernel
theorem dX2_isOnHook_15 : decode cX2_isOnHook 15 = .ok (.iconst 1, 1) := by decide +kernel
theorem dX2_isOnHook_16 : decode cX2_isOnHook 16 = .ok (.goto 4, 3) := by decide +kernel
theorem dX2_isOnHook_19 : decode cX2_isOnHook 19 = .ok (.iconst 0, 1) := by decide +kernel
theorem dX2_isOnHook_20 : decode cX2_isOnHook 20 = .ok (.ireturn, 1) := by decide +kernel
theorem dX2_ringsFor_0 : decode cX2_ringsFor 0 = .ok (.aload_n 0, 1) := by decide +kernel
theorem dX2_ringsFor_1 : decode cX2_ringsFor 1 = .ok (.getfield 9, 3) := by decide +kernel
theorem dX2_ringsFor_4 : decode cX2_ringsFor 4 = .ok (.iconst 4, 1) := by decide +kernel
theorem dX2_ringsFor_5 : decode cX2_ringsFor 5 = .ok (.if_icmp .ne 15, 3) := by decide +kernel
theorem dX2_ringsFor_8 : decode cX2_ringsFor 8 = .ok (.aload_n 0, 1) := by decide +kernel
theorem dX2_ringsFor_9 : decode cX2_ringsFor 9 = .ok (.getfield 18, 3) := by decide +kernel
theorem dX2_ringsFor_12 : decode cX2_ringsFor 12 = .ok (.iload_n 1, 1) := by decide +kernel
theorem dX2_ringsFor_13 : decode cX2_ringsFor 13 = .ok (.if_icmp .ne 7, 3) := by decide +kernel
theorem dX2_ringsFor_16 : decode cX2_ringsFor 16 = .ok (.iconst 1, 1) := by decide +kernel
theorem dX2_ringsFor_17 : decode cX2_ringsFor 17 = .ok (.goto 4, 3) := by decide +kernel
theorem dX2_ringsFor_20 : decode cX2_ringsFor 20 = .ok (.iconst 0, 1) := by decide +kernel
theorem dX2_ringsFor_21 : decode cX2_ringsFor 21 = .ok (.ireturn, 1) := by decide +kernel
theorem dX2_enter_0 : decode cX2_enter 0 = .ok (.aload_n 0, 1) := by decide +kernel
theorem dX2_enter_1 : decode cX2_enter 1 = .ok (.iload_n 1, 1) := by decide +kernel
theorem dX2_enter_2 : decode cX2_enter 2 = .ok (.putfield 9, 3) := by decide +kernel
theorem dX2_enter_5 : decode cX2_enter 5 = .ok (.aload_n 0, 1) := by decide +kernel
theorem dX2_enter_6 : decode cX2_enter 6 = .ok (.iload_n 2, 1) := by decide +kernel
theorem dX2_enter_7 : decode cX2_enter 7 = .ok (.putfield 15, 3) := by decide +kernel
theorem dX2_enter_10 : decode cX2_enter 10 = .ok (.aload_n 0, 1) := by decide +kernel
theorem dX2_enter_11 : decode cX2_enter 11 = .ok (.iconst (-1), 1) := by decide +kernel
theorem dX2_enter_12 : decode cX2_enter 12 = .ok (.putfield 18, 3) := by decide +kernel
theorem dX2_enter_15 : decode cX2_enter 15 = .ok (.aload_n 0, 1) := by decide +kernel
theorem dX2_enter_16 : decode cX2_enter 16 = .ok (.iconst (-1), 1) := by decide +kernel
theorem dX2_enter_17 : decode cX2_enter 17 = .ok (.putfield 21, 3) := by decide +kernel
theorem dX2_enter_20 : decode cX2_enter 20 = .ok (.aload_n 0, 1) := by decide +kernel
theorem dX2_enter_21 : decode cX2_enter 21 = .ok (.iconst (-1), 1) := by decide +kernel
theorem dX2_enter_22 : decode cX2_enter 22 = .ok (.putfield 24, 3) := by decide +kernel
theorem dX2_enter_25 : decode cX2_enter 25 = .ok (.aload_n 0, 1) := by decide +kernel
theorem dX2_enter_26 : decode cX2_enter 26 = .ok (.iconst 0, 1) := by decide +kernel
theorem dX2_enter_27 : decode cX2_enter 27 = .ok (.putfield 33, 3) := by decide +kernel
theorem dX2_enter_30 : decode cX2_enter 30 = .ok (.return_, 1) := by decide +kernel
set_option maxRecDepth 20000 in
theorem ggX2_talk_X2_enter : GoodIn wsX2_talk wsX2_enter := goodIn_r _ [7, 8, 9, 1, 2, 10, 11, 12, 13, 14, 15, 16, 17, 18, 19, 20, 21, 22] (by decide +kernel) (by decide +kernel)
set_option maxRecDepth 20000 in
theorem gX2_talk_X2_enter : GoodIn wsX2_talk (wsV RX2 37 RX2 yX2_enter wsX2_enter) := goodIn_app (goodIn_of _ (by decide +kernel)) ggX2_talk_X2_enter
theorem dX2_talk_0 : decode cX2_talk 0 = .ok (.aload_n 0, 1) := by decide +kernel
theorem dX2_talk_1 : decode cX2_talk 1 = .ok (.bipush 6, 2) := by decide +kernel
theorem dX2_talk_3 : decode cX2_talk 3 = .ok (.iload_n 3, 1) := by decide +kernel
theorem dX2_talk_4 : decode cX2_talk 4 = .ok (.invokevirtual 37, 3) := by decide +kernel
theorem dX2_talk_7 : decode cX2_talk 7 = .ok (.aload_n 0, 1) := by decide +kernel
theorem dX2_talk_8 : decode cX2_talk 8 = .ok (.iload_n 1, 1) := by decide +kernel
theorem dX2_talk_9 : decode cX2_talk 9 = .ok (.putfield 18, 3) := by decide +kernel
theorem dX2_talk_12 : decode cX2_talk 12 = .ok (.aload_n 0, 1) := by decide +kernel
theorem dX2_talk_13 : decode cX2_talk 13 = .ok (.iload_n 2, 1) := by decide +kernel
theorem dX2_talk_14 : decode cX2_talk 14 = .ok (.putfield 21, 3) := by decide +kernel
theorem dX2_talk_17 : decode cX2_talk 17 = .ok (.return_, 1) := by decide +kernel
theorem dX2_due_0 : decode cX2_due 0 = .ok (.aload_n 0, 1) := by decide +kernel
theorem dX2_due_1 : decode cX2_due 1 = .ok (.getfield 9, 3) := by decide +kernel
theorem dX2_due_4 : decode cX2_due 4 = .ok (.tableswitch 70 1 7 #[44, 44, 52, 70, 70, 70, 61], 44) := by decide +kernel
theorem dX2_due_48 : decode cX2_due 48 = .ok (.aload_n 0, 1) := by decide +kernel
theorem dX2_due_49 : decode cX2_due 49 = .ok (.getfield 15, 3) := by decide +kernel
theorem dX2_due_52 : decode cX2_due 52 = .ok (.bipush 100, 2) := by decide +kernel
theorem dX2_due_54 : decode cX2_due 54 = .ok (.iadd, 1) := by decide +kernel
theorem dX2_due_55 : decode cX2_due 55 = .ok (.ireturn, 1) := by decide +kernel
theorem dX2_due_56 : decode cX2_due 56 = .ok (.aload_n 0, 1) := by decide +kernel
theorem dX2_due_57 : decode cX2_due 57 = .ok (.getfield 15, 3) := by decide +kernel
theorem dX2_due_60 : decode cX2_due 60 = .ok (.sipush 300, 3) := by decide +kernel
theorem dX2_due_63 : decode cX2_due 63 = .ok (.iadd, 1) := by decide +kernel
theorem dX2_due_64 : decode cX2_due 64 = .ok (.ireturn, 1) := by decide +kernel
theorem dX2_due_65 : decode cX2_due 65 = .ok (.aload_n 0, 1) := by decide +kernel
theorem dX2_due_66 : decode cX2_due 66 = .ok (.getfield 15, 3) := by decide +kernel
theorem dX2_due_69 : decode cX2_due 69 = .ok (.sipush 600, 3) := by decide +kernel
theorem dX2_due_72 : decode cX2_due 72 = .ok (.iadd, 1) := by decide +kernel
theorem dX2_due_73 : decode cX2_due 73 = .ok (.ireturn, 1) := by decide +kernel
theorem dX2_due_74 : decode cX2_due 74 = .ok (.ldc 41, 2) := by decide +kernel
theorem dX2_due_76 : decode cX2_due 76 = .ok (.ireturn, 1) := by decide +kernel
set_option maxRecDepth 20000 in
theorem ggX3_init_J7_fill_53178 : GoodIn wsX3_init wsJ7_fill_53178 := goodIn_r _ [10] (by decide +kernel) (by decide +kernel)
set_option maxRecDepth 20000 in
theorem gX3_init_J7_fill_53178 : GoodIn wsX3_init (va_wsS RX3 16 yJ7_fill_53178 wsJ7_fill_53178) := goodIn_app (goodIn_of _ (by decide +kernel)) ggX3_init_J7_fill_53178
theorem dX3_init_0 : decode cX3_init 0 = .ok (.aload_n 0, 1) := by decide +kernel
theorem dX3_init_1 : decode cX3_init 1 = .ok (.invokespecial 3, 3) := by decide +kernel
theorem dX3_init_4 : decode cX3_init 4 = .ok (.aload_n 0, 1) := by decide +kernel
theorem dX3_init_5 : decode cX3_init 5 = .ok (.iconst 4, 1) := by decide +kernel
theorem dX3_init_6 : decode cX3_init 6 = .ok (.bipush 8, 2) := by decide +kernel
theorem dX3_init_8 : decode cX3_init 8 = .ok (.multianewarray 9 2, 4) := by decide +kernel
theorem dX3_init_12 : decode cX3_init 12 = .ok (.putfield 11, 3) := by decide +kernel
theorem dX3_init_15 : decode cX3_init 15 = .ok (.iconst 0, 1) := by decide +kernel
theorem dX3_init_16 : decode cX3_init 16 = .ok (.istore_n 1, 1) := by decide +kernel
theorem dX3_init_17 : decode cX3_init 17 = .ok (.iload_n 1, 1) := by decide +kernel
theorem dX3_init_18 : decode cX3_init 18 = .ok (.iconst 4, 1) := by decide +kernel
theorem dX3_init_19 : decode cX3_init 19 = .ok (.if_icmp .ge 19, 3) := by decide +kernel
theorem dX3_init_22 : decode cX3_init 22 = .ok (.aload_n 0, 1) := by decide +kernel
theorem dX3_init_23 : decode cX3_init 23 = .ok (.getfield 11, 3) := by decide +kernel
theorem dX3_init_26 : decode cX3_init 26 = .ok (.iload_n 1, 1) := by decide +kernel
theorem dX3_init_27 : decode cX3_init 27 = .ok (.aaload, 1) := by decide +kernel
theorem dX3_init_28 : decode cX3_init 28 = .ok (.iconst (-1), 1) := by decide +kernel
theorem dX3_init_29 : decode cX3_init 29 = .ok (.invokestatic 16, 3) := by decide +kernel
theorem dX3_init_32 : decode cX3_init 32 = .ok (.iinc 1 1, 3) := by decide +kernel
theorem dX3_init_35 : decode cX3_init 35 = .ok (.goto (-18), 3) := by decide +kernel
theorem dX3_init_38 : decode cX3_init 38 = .ok (.return_, 1) := by decide +kernel
theorem dX3_lowestFree_0 : decode cX3_lowestFree 0 = .ok (.aload_n 0, 1) := by decide +kernel
theorem dX3_lowestFree_1 : decode cX3_lowestFree 1 = .ok (.getfield 11, 3) := by decide +kernel
theorem dX3_lowestFree_4 : decode cX3_lowestFree 4 = .ok (.aload_n 1, 1) := by decide +kernel
theorem dX3_lowestFree_5 : decode cX3_lowestFree 5 = .ok (.getfield 22, 3) := by decide +kernel
theorem dX3_lowestFree_8 : decode cX3_lowestFree 8 = .ok (.bipush 6, 2) := by decide +kernel
theorem dX3_lowestFree_10 : decode cX3_lowestFree 10 = .ok (.idiv, 1) := by decide +kernel
theorem dX3_lowestFree_11 : decode cX3_lowestFree 11 = .ok (.aaload, 1) := by decide +kernel
theorem dX3_lowestFree_12 : decode cX3_lowestFree 12 = .ok (.astore_n 3, 1) := by decide +kernel
theorem dX3_lowestFree_13 : decode cX3_lowestFree 13 = .ok (.aload_n 0, 1) := by decide +kernel
theorem dX3_lowestFree_14 : decode cX3_lowestFree 14 = .ok (.getfield 11, 3) := by decide +kernel
theorem dX3_lowestFree_17 : decode cX3_lowestFree 17 = .ok (.aload_n 2, 1) := by decide +kernel
theorem dX3_lowestFree_18 : decode cX3_lowestFree 18 = .ok (.getfield 22, 3) := by decide +kernel
theorem dX3_lowestFree_21 : decode cX3_lowestFree 21 = .ok (.bipush 6, 2) := by decide +kernel
theorem dX3_lowestFree_23 : decode cX3_lowestFree 23 = .ok (.idiv, 1) := by decide +kernel
theorem dX3_lowestFree_24 : decode cX3_lowestFree 24 = .ok (.aaload, 1) := by decide +kernel
theorem dX3_lowestFree_25 : decode cX3_lowestFree 25 = .ok (.astore 4, 2) := by decide +kernel
theorem dX3_lowestFree_27 : decode cX3_lowestFree 27 = .ok (.iconst 0, 1) := by decide +kernel
theorem dX3_lowestFree_28 : decode cX3_lowestFree 28 = .ok (.istore 5, 2) := by decide +kernel
theorem dX3_lowestFree_30 : decode cX3_lowestFree 30 = .ok (.iload 5, 2) := by decide +kernel
theorem dX3_lowestFree_32 : decode cX3_lowestFree 32 = .ok (.bipush 8, 2) := by decide +kernel
theorem dX3_lowestFree_34 : decode cX3_lowestFree 34 = .ok (.if_icmp .ge 29, 3) := by decide +kernel
theorem dX3_lowestFree_37 : decode cX3_lowestFree 37 = .ok (.aload_n 3, 1) := by decide +kernel
theorem dX3_lowestFree_38 : decode cX3_lowestFree 38 = .ok (.iload 5, 2) := by decide +kernel
theorem dX3_lowestFree_40 : decode cX3_lowestFree 40 = .ok (.iaload, 1) := by decide +kernel
theorem dX3_lowestFree_41 : decode cX3_lowestFree 41 = .ok (.iconst (-1), 1) := by decide +kernel
theorem dX3_lowestFree_42 : decode cX3_lowestFree 42 = .ok (.if_icmp .ne 15, 3) := by decide +kernel
theorem dX3_lowestFree_45 : decode cX3_lowestFree 45 = .ok (.aload 4, 2) := by decide +kernel
theorem dX3_lowestFree_47 : decode cX3_lowestFree 47 = .ok (.iload 5, 2) := by decide +kernel
theorem dX3_lowestFree_49 : decode cX3_lowestFree 49 = .ok (.iaload, 1) := by decide +kernel
theorem dX3_lowestFree_50 : decode cX3_lowestFree 50 = .ok (.iconst (-1), 1) := by decide +kernel
theorem dX3_lowestFree_51 : decode cX3_lowestFree 51 = .ok (.if_icmp .ne 6, 3) := by decide +kernel
theorem dX3_lowestFree_54 : decode cX3_lowestFree 54 = .ok (.iload 5, 2) := by decide +kernel
theorem dX3_lowestFree_56 : decode cX3_lowestFree 56 = .ok (.ireturn, 1) := by decide +kernel
theorem dX3_lowestFree_57 : decode cX3_lowestFree 57 = .ok (.iinc 5 1, 3) := by decide +kernel
theorem dX3_lowestFree_60 : decode cX3_lowestFree 60 = .ok (.goto (-30), 3) := by decide +kernel
theorem dX3_lowestFree_63 : decode cX3_lowestFree 63 = .ok (.iconst (-1), 1) := by decide +kernel
theorem dX3_lowestFree_64 : decode cX3_lowestFree 64 = .ok (.ireturn, 1) := by decide +kernel
set_option maxRecDepth 20000 in
theorem ggX3_take_X3_lowestFree : GoodIn wsX3_take wsX3_lowestFree := goodIn_r _ [10, 11, 1, 27, 16, 17, 18, 19, 20, 21, 22, 23, 24, 25, 26] (by decide +kernel) (by decide +kernel)
set_option maxRecDepth 20000 in
theorem gX3_take_X3_lowestFree : GoodIn wsX3_take (wsV RX3 28 RX3 yX3_lowestFree wsX3_lowestFree) := goodIn_app (goodIn_of _ (by decide +kernel)) ggX3_take_X3_lowestFree
set_option maxRecDepth 20000 in
theorem ggX3_take_X3_mark : GoodIn wsX3_take wsX3_mark := goodIn_r _ [15, 11, 1, 27, 16, 17, 18, 19, 20, 21, 22, 23, 24, 25, 26] (by decide +kernel) (by decide +kernel)
set_option maxRecDepth 20000 in
theorem gX3_take_X3_mark : GoodIn wsX3_take (wsV RX3 38 RX3 yX3_mark wsX3_mark) := goodIn_app (goodIn_of _ (by decide +kernel)) ggX3_take_X3_mark
theorem dX3_take_0 : decode cX3_take 0 = .ok (.aload_n 0, 1) := by decide +kernel
theorem dX3_take_1 : decode cX3_take 1 = .ok (.aload_n 1, 1) := by decide +kernel
theorem dX3_take_2 : decode cX3_take 2 = .ok (.aload_n 2, 1) := by decide +kernel
theorem dX3_take_3 : decode cX3_take 3 = .ok (.invokevirtual 28, 3) := by decide +kernel
theorem dX3_take_6 : decode cX3_take 6 = .ok (.istore_n 3, 1) := by decide +kernel
theorem dX3_take_7 : decode cX3_take 7 = .ok (.iload_n 3, 1) := by decide +kernel
theorem dX3_take_8 : decode cX3_take 8 = .ok (.iconst (-1), 1) := by decide +kernel
theorem dX3_take_9 : decode cX3_take 9 = .ok (.if_icmp .eq 21, 3) := by decide +kernel
theorem dX3_take_12 : decode cX3_take 12 = .ok (.aload_n 0, 1) := by decide +kernel
theorem dX3_take_13 : decode cX3_take 13 = .ok (.aload_n 1, 1) := by decide +kernel
theorem dX3_take_14 : decode cX3_take 14 = .ok (.aload_n 2, 1) := by decide +kernel
theorem dX3_take_15 : decode cX3_take 15 = .ok (.iload_n 3, 1) := by decide +kernel
theorem dX3_take_16 : decode cX3_take 16 = .ok (.aload_n 1, 1) := by decide +kernel
theorem dX3_take_17 : decode cX3_take 17 = .ok (.getfield 22, 3) := by decide +kernel
theorem dX3_take_20 : decode cX3_take 20 = .ok (.aload_n 2, 1) := by decide +kernel
theorem dX3_take_21 : decode cX3_take 21 = .ok (.getfield 22, 3) := by decide +kernel
theorem dX3_take_24 : decode cX3_take 24 = .ok (.invokestatic 32, 3) := by decide +kernel
theorem dX3_take_27 : decode cX3_take 27 = .ok (.invokevirtual 38, 3) := by decide +kernel
theorem dX3_take_30 : decode cX3_take 30 = .ok (.iload_n 3, 1) := by decide +kernel
theorem dX3_take_31 : decode cX3_take 31 = .ok (.ireturn, 1) := by decide +kernel
set_option maxRecDepth 20000 in
theorem ggX3_release_X3_mark : GoodIn wsX3_release wsX3_mark := goodIn_r _ [5, 6, 7, 8, 9, 10, 11, 12, 13, 14, 15, 16, 17, 18, 19] (by decide +kernel) (by decide +kernel)
set_option maxRecDepth 20000 in
theorem gX3_release_X3_mark : GoodIn wsX3_release (wsV RX3 38 RX3 yX3_mark wsX3_mark) := goodIn_app (goodIn_of _ (by decide +kernel)) ggX3_release_X3_mark
theorem dX3_release_0 : decode cX3_release 0 = .ok (.aload_n 0, 1) := by decide +kernel
theorem dX3_release_1 : decode cX3_release 1 = .ok (.aload_n 1, 1) := by decide +kernel
theorem dX3_release_2 : decode cX3_release 2 = .ok (.aload_n 2, 1) := by decide +kernel
theorem dX3_release_3 : decode cX3_release 3 = .ok (.iload_n 3, 1) := by decide +kernel
theorem dX3_release_4 : decode cX3_release 4 = .ok (.iconst (-1), 1) := by decide +kernel
theorem dX3_release_5 : decode cX3_release 5 = .ok (.invokevirtual 38, 3) := by decide +kernel
theorem dX3_release_8 : decode cX3_release 8 = .ok (.return_, 1) := by decide +kernel
theorem dX3_mark_0 : decode cX3_mark 0 = .ok (.aload_n 0, 1) := by decide +kernel
theorem dX3_mark_1 : decode cX3_mark 1 = .ok (.getfield 11, 3) := by decide +kernel
theorem dX3_mark_4 : decode cX3_mark 4 = .ok (.aload_n 1, 1) := by decide +kernel
theorem dX3_mark_5 : decode cX3_mark 5 = .ok (.getfield 22, 3) := by decide +kernel
theorem dX3_mark_8 : decode cX3_mark 8 = .ok (.bipush 6, 2) := by decide +kernel
theorem dX3_mark_10 : decode cX3_mark 10 = .ok (.idiv, 1) := by decide +kernel
theorem dX3_mark_11 : decode cX3_mark 11 = .ok (.aaload, 1) := by decide +kernel
theorem dX3_mark_12 : decode cX3_mark 12 = .ok (.iload_n 3, 1) := by decide +kernel
theorem dX3_mark_13 : decode cX3_mark 13 = .ok (.iload 4, 2) := by decide +kernel
theorem dX3_mark_15 : decode cX3_mark 15 = .ok (.iastore, 1) := by decide +kernel
theorem dX3_mark_16 : decode cX3_mark 16 = .ok (.aload_n 0, 1) := by decide +kernel
theorem dX3_mark_17 : decode cX3_mark 17 = .ok (.getfield 11, 3) := by decide +kernel
theorem dX3_mark_20 : decode cX3_mark 20 = .ok (.aload_n 2, 1) := by decide +kernel
theorem dX3_mark_21 : decode cX3_mark 21 = .ok (.getfield 22, 3) := by decide +kernel
theorem dX3_mark_24 : decode cX3_mark 24 = .ok (.bipush 6, 2) := by decide +kernel
theorem dX3_mark_26 : decode cX3_mark 26 = .ok (.idiv, 1) := by decide +kernel
theorem dX3_mark_27 : decode cX3_mark 27 = .ok (.aaload, 1) := by decide +kernel
theorem dX3_mark_28 : decode cX3_mark 28 = .ok (.iload_n 3, 1) := by decide +kernel
theorem dX3_mark_29 : decode cX3_mark 29 = .ok (.iload 4, 2) := by decide +kernel
theorem dX3_mark_31 : decode cX3_mark 31 = .ok (.iastore, 1) := by decide +kernel
theorem dX3_mark_32 : decode cX3_mark 32 = .ok (.return_, 1) := by decide +kernel
theorem dX3_slotsInUse_0 : decode cX3_slotsInUse 0 = .ok (.iconst 0, 1) := by decide +kernel
theorem dX3_slotsInUse_1 : decode cX3_slotsInUse 1 = .ok (.istore_n 1, 1) := by decide +kernel
theorem dX3_slotsInUse_2 : decode cX3_slotsInUse 2 = .ok (.iconst 0, 1) := by decide +kernel
theorem dX3_slotsInUse_3 : decode cX3_slotsInUse 3 = .ok (.istore_n 2, 1) := by decide +kernel
theorem dX3_slotsInUse_4 : decode cX3_slotsInUse 4 = .ok (.iload_n 2, 1) := by decide +kernel
theorem dX3_slotsInUse_5 : decode cX3_slotsInUse 5 = .ok (.iconst 4, 1) := by decide +kernel
theorem dX3_slotsInUse_6 : decode cX3_slotsInUse 6 = .ok (.if_icmp .ge 37, 3) := by decide +kernel
theorem dX3_slotsInUse_9 : decode cX3_slotsInUse 9 = .ok (.iconst 0, 1) := by decide +kernel
theorem dX3_slotsInUse_10 : decode cX3_slotsInUse 10 = .ok (.istore_n 3, 1) := by decide +kernel
theorem dX3_slotsInUse_11 : decode cX3_slotsInUse 11 = .ok (.iload_n 3, 1) := by decide +kernel
theorem dX3_slotsInUse_12 : decode cX3_slotsInUse 12 = .ok (.bipush 8, 2) := by decide +kernel
theorem dX3_slotsInUse_14 : decode cX3_slotsInUse 14 = .ok (.if_icmp .ge 23, 3) := by decide +kernel
theorem dX3_slotsInUse_17 : decode cX3_slotsInUse 17 = .ok (.aload_n 0, 1) := by decide +kernel
theorem dX3_slotsInUse_18 : decode cX3_slotsInUse 18 = .ok (.getfield 11, 3) := by decide +kernel
theorem dX3_slotsInUse_21 : decode cX3_slotsInUse 21 = .ok (.iload_n 2, 1) := by decide +kernel
theorem dX3_slotsInUse_22 : decode cX3_slotsInUse 22 = .ok (.aaload, 1) := by decide +kernel
theorem dX3_slotsInUse_23 : decode cX3_slotsInUse 23 = .ok (.iload_n 3, 1) := by decide +kernel
theorem dX3_slotsInUse_24 : decode cX3_slotsInUse 24 = .ok (.iaload, 1) := by decide +kernel
theorem dX3_slotsInUse_25 : decode cX3_slotsInUse 25 = .ok (.ifCond .lt 6, 3) := by decide +kernel
theorem dX3_slotsInUse_28 : decode cX3_slotsInUse 28 = .ok (.iinc 1 1, 3) := by decide +kernel
theorem dX3_slotsInUse_31 : decode cX3_slotsInUse 31 = .ok (.iinc 3 1, 3) := by decide +kernel
theorem dX3_slotsInUse_34 : decode cX3_slotsInUse 34 = .ok (.goto (-23), 3) := by decide +kernel
theorem dX3_slotsInUse_37 : decode cX3_slotsInUse 37 = .ok (.iinc 2 1, 3) := by decide +kernel
theorem dX3_slotsInUse_40 : decode cX3_slotsInUse 40 = .ok (.goto (-36), 3) := by decide +kernel
theorem dX3_slotsInUse_43 : decode cX3_slotsInUse 43 = .ok (.iload_n 1, 1) := by decide +kernel
theorem dX3_slotsInUse_44 : decode cX3_slotsInUse 44 = .ok (.ireturn, 1) := by decide +kernel
set_option maxRecDepth 20000 in
theorem ggX4_init_X2_init : GoodIn wsX4_init wsX2_init := goodIn_r _ [24, 25, 2, 3, 26, 27, 28, 29, 30, 31, 32, 61, 62, 63, 64, 65, 66, 67, 68, 69, 70, 71] (by decide +kernel) (by decide +kernel)
set_option maxRecDepth 20000 in
theorem gX4_init_X2_init : GoodIn wsX4_init (wsX2_init) := ggX4_init_X2_init
set_option maxRecDepth 20000 in
theorem ggX4_init_X3_init : GoodIn wsX4_init wsX3_init := goodIn_r _ [35, 36, 2, 3, 37, 16, 38, 39, 40, 41, 42, 72] (by decide +kernel) (by decide +kernel)
set_option maxRecDepth 20000 in
theorem gX4_init_X3_init : GoodIn wsX4_init (wsX3_init) := ggX4_init_X3_init
set_option maxRecDepth 20000 in
theorem ggX4_init_X1_init : GoodIn wsX4_init wsX1_init := goodIn_r _ [44, 45, 2, 3, 16, 46, 47, 48, 73, 74, 75, 76] (by decide +kernel) (by decide +kernel)
set_option maxRecDepth 20000 in
theorem gX4_init_X1_init_n31 : GoodIn wsX4_init (wsX1_init) := ggX4_init_X1_init
set_option maxRecDepth 20000 in
theorem ggX4_init_J7_fill_53178 : GoodIn wsX4_init wsJ7_fill_53178 := goodIn_r _ [42] (by decide +kernel) (by decide +kernel)
set_option maxRecDepth 20000 in
theorem gX4_init_J7_fill_53178 : GoodIn wsX4_init (va_wsS RX4 36 yJ7_fill_53178 wsJ7_fill_53178) := goodIn_app (goodIn_of _ (by decide +kernel)) ggX4_init_J7_fill_53178
set_option maxRecDepth 20000 in
theorem ggX4_init_X0_init : GoodIn wsX4_init wsX0_init := goodIn_r _ [51, 52, 2, 3, 16, 53, 77, 78] (by decide +kernel) (by decide +kernel)
set_option maxRecDepth 20000 in
theorem gX4_init_X0_init_n44 : GoodIn wsX4_init (wsX0_init) := ggX4_init_X0_init
theorem dX4_init_0 : decode cX4_init 0 = .ok (.aload_n 0, 1) := by decide +kernel
theorem dX4_init_1 : decode cX4_init 1 = .ok (.invokespecial 1, 3) := by decide +kernel
theorem dX4_init_4 : decode cX4_init 4 = .ok (.aload_n 0, 1) := by decide +kernel
theorem dX4_init_5 : decode cX4_init 5 = .ok (.bipush 24, 2) := by decide +kernel
theorem dX4_init_7 : decode cX4_init 7 = .ok (.anewarray 9, 3) := by decide +kernel
theorem dX4_init_10 : decode cX4_init 10 = .ok (.putfield 11, 3) := by decide +kernel
theorem dX4_init_13 : decode cX4_init 13 = .ok (.iconst 0, 1) := by decide +kernel
theorem dX4_init_14 : decode cX4_init 14 = .ok (.istore_n 1, 1) := by decide +kernel
theorem dX4_init_15 : decode cX4_init 15 = .ok (.iload_n 1, 1) := by decide +kernel
theorem dX4_init_16 : decode cX4_init 16 = .ok (.bipush 24, 2) := by decide +kernel
theorem dX4_init_18 : decode cX4_init 18 = .ok (.if_icmp .ge 23, 3) := by decide +kernel
theorem dX4_init_21 : decode cX4_init 21 = .ok (.aload_n 0, 1) := by decide +kernel
theorem dX4_init_22 : decode cX4_init 22 = .ok (.getfield 11, 3) := by decide +kernel
theorem dX4_init_25 : decode cX4_init 25 = .ok (.iload_n 1, 1) := by decide +kernel
theorem dX4_init_26 : decode cX4_init 26 = .ok (.new 9, 3) := by decide +kernel
theorem dX4_init_29 : decode cX4_init 29 = .ok (.dup, 1) := by decide +kernel
theorem dX4_init_30 : decode cX4_init 30 = .ok (.iload_n 1, 1) := by decide +kernel
theorem dX4_init_31 : decode cX4_init 31 = .ok (.invokespecial 15, 3) := by decide +kernel
theorem dX4_init_34 : decode cX4_init 34 = .ok (.aastore, 1) := by decide +kernel
theorem dX4_init_35 : decode cX4_init 35 = .ok (.iinc 1 1, 3) := by decide +kernel
theorem dX4_init_38 : decode cX4_init 38 = .ok (.goto (-23), 3) := by decide +kernel
theorem dX4_init_41 : decode cX4_init 41 = .ok (.aload_n 0, 1) := by decide +kernel
theorem dX4_init_42 : decode cX4_init 42 = .ok (.new 18, 3) := by decide +kernel
theorem dX4_init_45 : decode cX4_init 45 = .ok (.dup, 1) := by decide +kernel
theorem dX4_init_46 : decode cX4_init 46 = .ok (.invokespecial 20, 3) := by decide +kernel
theorem dX4_init_49 : decode cX4_init 49 = .ok (.putfield 21, 3) := by decide +kernel
theorem dX4_init_52 : decode cX4_init 52 = .ok (.aload_n 0, 1) := by decide +kernel
theorem dX4_init_53 : decode cX4_init 53 = .ok (.iconst 4, 1) := by decide +kernel
theorem dX4_init_54 : decode cX4_init 54 = .ok (.anewarray 25, 3) := by decide +kernel
theorem dX4_init_57 : decode cX4_init 57 = .ok (.putfield 27, 3) := by decide +kernel
theorem dX4_init_60 : decode cX4_init 60 = .ok (.iconst 0, 1) := by decide +kernel
theorem dX4_init_61 : decode cX4_init 61 = .ok (.istore_n 1, 1) := by decide +kernel
theorem dX4_init_62 : decode cX4_init 62 = .ok (.iload_n 1, 1) := by decide +kernel
theorem dX4_init_63 : decode cX4_init 63 = .ok (.iconst 4, 1) := by decide +kernel
theorem dX4_init_64 : decode cX4_init 64 = .ok (.if_icmp .ge 22, 3) := by decide +kernel
theorem dX4_init_67 : decode cX4_init 67 = .ok (.aload_n 0, 1) := by decide +kernel
theorem dX4_init_68 : decode cX4_init 68 = .ok (.getfield 27, 3) := by decide +kernel
theorem dX4_init_71 : decode cX4_init 71 = .ok (.iload_n 1, 1) := by decide +kernel
theorem dX4_init_72 : decode cX4_init 72 = .ok (.new 25, 3) := by decide +kernel
theorem dX4_init_75 : decode cX4_init 75 = .ok (.dup, 1) := by decide +kernel
theorem dX4_init_76 : decode cX4_init 76 = .ok (.invokespecial 31, 3) := by decide +kernel
theorem dX4_init_79 : decode cX4_init 79 = .ok (.aastore, 1) := by decide +kernel
theorem dX4_init_80 : decode cX4_init 80 = .ok (.iinc 1 1, 3) := by decide +kernel
theorem dX4_init_83 : decode cX4_init 83 = .ok (.goto (-21), 3) := by decide +kernel
theorem dX4_init_86 : decode cX4_init 86 = .ok (.aload_n 0, 1) := by decide +kernel
theorem dX4_init_87 : decode cX4_init 87 = .ok (.iconst 4, 1) := by decide +kernel
theorem dX4_init_88 : decode cX4_init 88 = .ok (.newarray .int, 2) := by decide +kernel
theorem dX4_init_90 : decode cX4_init 90 = .ok (.putfield 32, 3) := by decide +kernel
theorem dX4_init_93 : decode cX4_init 93 = .ok (.aload_n 0, 1) := by decide +kernel
theorem dX4_init_94 : decode cX4_init 94 = .ok (.getfield 32, 3) := by decide +kernel
theorem dX4_init_97 : decode cX4_init 97 = .ok (.iconst (-1), 1) := by decide +kernel
theorem dX4_init_98 : decode cX4_init 98 = .ok (.invokestatic 36, 3) := by decide +kernel
theorem dX4_init_101 : decode cX4_init 101 = .ok (.aload_n 0, 1) := by decide +kernel
theorem dX4_init_102 : decode cX4_init 102 = .ok (.new 42, 3) := by decide +kernel
theorem dX4_init_105 : decode cX4_init 105 = .ok (.dup, 1) := by decide +kernel
theorem dX4_init_106 : decode cX4_init 106 = .ok (.invokespecial 44, 3) := by decide +kernel
theorem dX4_init_109 : decode cX4_init 109 = .ok (.putfield 45, 3) := by decide +kernel
theorem dX4_init_112 : decode cX4_init 112 = .ok (.return_, 1) := by decide +kernel
set_option maxRecDepth 20000 in
theorem ggX4_up_X4_lineOf : GoodIn wsX4_up wsX4_lineOf := goodIn_ca (goodIn_r _ [9, 10, 11, 12, 8, 13, 14, 15, 16, 17, 18, 114, 115, 116, 117, 118, 119, 120] (by decide +kernel) (by decide +kernel)) (goodIn_sub (fun _ h => List.mem_cons_of_mem _ (List.mem_append_right _ h)) (by decide +kernel))
set_option maxRecDepth 20000 in
theorem gX4_up_X4_lineOf : GoodIn wsX4_up (wsV RX4 49 RX4 yX4_lineOf wsX4_lineOf) := goodIn_app (goodIn_of _ (by decide +kernel)) ggX4_up_X4_lineOf
set_option maxRecDepth 20000 in
theorem ggX4_up_X2_isOnHook : GoodIn wsX4_up wsX2_isOnHook := goodIn_r _ [23, 24, 103, 104, 105, 106, 107, 108, 109, 110, 111, 112, 113] (by decide +kernel) (by decide +kernel)
set_option maxRecDepth 20000 in
theorem gX4_up_X2_isOnHook : GoodIn wsX4_up (wsV RX4 53 RX2 yX2_isOnHook wsX2_isOnHook) := goodIn_app (goodIn_of _ (by decide +kernel)) ggX4_up_X2_isOnHook
set_option maxRecDepth 20000 in
theorem ggX4_up_X4_answer : GoodIn wsX4_up wsX4_answer := goodIn_r _ [28, 10, 29, 30, 31, 32, 33, 8, 34, 35, 4, 36, 37, 38, 39, 22, 40, 41, 42, 43, 44, 45, 46, 24, 47, 48, 49, 50, 51, 52, 53, 54, 55, 56, 57, 58, 59, 60, 61, 62, 63, 64, 65, 66, 67, 68, 69, 70, 114, 115, 116, 117, 118, 119, 120, 103, 104, 105, 106, 107, 108, 109, 110, 111, 112, 113, 121] (by decide +kernel) (by decide +kernel)
set_option maxRecDepth 20000 in
theorem gX4_up_X4_answer : GoodIn wsX4_up (wsV RX4 68 RX4 yX4_answer wsX4_answer) := goodIn_app (goodIn_of _ (by decide +kernel)) ggX4_up_X4_answer
set_option maxRecDepth 20000 in
theorem ggX4_up_X4_callFromCamps : GoodIn wsX4_up wsX4_callFromCamps := goodIn_r _ [74, 10, 75, 3, 76, 77, 78, 8, 79, 80, 4, 35, 81, 70, 44, 45, 22, 46, 24, 47, 41, 42, 48, 49, 82, 83, 84, 85, 54, 29, 30, 86, 87, 88, 62, 89, 69, 90, 91, 92, 93, 94, 95, 96, 97, 68, 64, 65, 66, 67, 98, 99, 100, 101, 102, 114, 115, 116, 117, 118, 119, 120, 103, 104, 105, 106, 107, 108, 109, 110, 111, 112, 113, 121] (by decide +kernel) (by decide +kernel)
set_option maxRecDepth 20000 in
theorem gX4_up_X4_callFromCamps : GoodIn wsX4_up (wsV RX4 72 RX4 yX4_callFromCamps wsX4_callFromCamps) := goodIn_app (goodIn_of _ (by decide +kernel)) ggX4_up_X4_callFromCamps
set_option maxRecDepth 20000 in
theorem ggX4_up_X2_enter : GoodIn wsX4_up wsX2_enter := goodIn_r _ [46, 24, 47, 41, 42, 48, 49, 103, 104, 105, 106, 107, 108, 109, 110, 111, 112, 113] (by decide +kernel) (by decide +kernel)
set_option maxRecDepth 20000 in
theorem gX4_up_X2_enter : GoodIn wsX4_up (wsV RX4 78 RX2 yX2_enter wsX2_enter) := goodIn_app (goodIn_of _ (by decide +kernel)) ggX4_up_X2_enter
theorem dX4_up_0 : decode cX4_up 0 = .ok (.aload_n 0, 1) := by decide +kernel
theorem dX4_up_1 : decode cX4_up 1 = .ok (.iload_n 1, 1) := by decide +kernel
theorem dX4_up_2 : decode cX4_up 2 = .ok (.invokevirtual 49, 3) := by decide +kernel
theorem dX4_up_5 : decode cX4_up 5 = .ok (.astore_n 2, 1) := by decide +kernel
theorem dX4_up_6 : decode cX4_up 6 = .ok (.aload_n 2, 1) := by decide +kernel
theorem dX4_up_7 : decode cX4_up 7 = .ok (.invokevirtual 53, 3) := by decide +kernel
theorem dX4_up_10 : decode cX4_up 10 = .ok (.ifCond .ne 13, 3) := by decide +kernel
theorem dX4_up_13 : decode cX4_up 13 = .ok (.new 57, 3) := by decide +kernel
theorem dX4_up_16 : decode cX4_up 16 = .ok (.dup, 1) := by decide +kernel
theorem dX4_up_17 : decode cX4_up 17 = .ok (.ldc 59, 2) := by decide +kernel
theorem dX4_up_19 : decode cX4_up 19 = .ok (.invokespecial 61, 3) := by decide +kernel
theorem dX4_up_22 : decode cX4_up 22 = .ok (.athrow, 1) := by decide +kernel
theorem dX4_up_23 : decode cX4_up 23 = .ok (.aload_n 2, 1) := by decide +kernel
theorem dX4_up_24 : decode cX4_up 24 = .ok (.getfield 64, 3) := by decide +kernel
theorem dX4_up_27 : decode cX4_up 27 = .ok (.iconst 4, 1) := by decide +kernel
theorem dX4_up_28 : decode cX4_up 28 = .ok (.if_icmp .ne 15, 3) := by decide +kernel
theorem dX4_up_31 : decode cX4_up 31 = .ok (.aload_n 0, 1) := by decide +kernel
theorem dX4_up_32 : decode cX4_up 32 = .ok (.aload_n 2, 1) := by decide +kernel
theorem dX4_up_33 : decode cX4_up 33 = .ok (.invokevirtual 68, 3) := by decide +kernel
theorem dX4_up_36 : decode cX4_up 36 = .ok (.aload_n 0, 1) := by decide +kernel
theorem dX4_up_37 : decode cX4_up 37 = .ok (.invokevirtual 72, 3) := by decide +kernel
theorem dX4_up_40 : decode cX4_up 40 = .ok (.goto 12, 3) := by decide +kernel
theorem dX4_up_43 : decode cX4_up 43 = .ok (.aload_n 2, 1) := by decide +kernel
theorem dX4_up_44 : decode cX4_up 44 = .ok (.iconst 1, 1) := by decide +kernel
theorem dX4_up_45 : decode cX4_up 45 = .ok (.aload_n 0, 1) := by decide +kernel
theorem dX4_up_46 : decode cX4_up 46 = .ok (.getfield 75, 3) := by decide +kernel
theorem dX4_up_49 : decode cX4_up 49 = .ok (.invokevirtual 78, 3) := by decide +kernel
theorem dX4_up_52 : decode cX4_up 52 = .ok (.aload_n 2, 1) := by decide +kernel
theorem dX4_up_53 : decode cX4_up 53 = .ok (.getfield 64, 3) := by decide +kernel
theorem dX4_up_56 : decode cX4_up 56 = .ok (.ireturn, 1) := by decide +kernel
set_option maxRecDepth 20000 in
theorem ggX4_down_X4_lineOf : GoodIn wsX4_down wsX4_lineOf := goodIn_ca (goodIn_r _ [8, 9, 10, 11, 7, 12, 13, 14, 15, 16, 17, 113, 114, 115, 116, 117, 118, 119] (by decide +kernel) (by decide +kernel)) (goodIn_sub (fun _ h => List.mem_cons_of_mem _ (List.mem_append_right _ h)) (by decide +kernel))
set_option maxRecDepth 20000 in
theorem gX4_down_X4_lineOf : GoodIn wsX4_down (wsV RX4 49 RX4 yX4_lineOf wsX4_lineOf) := goodIn_app (goodIn_of _ (by decide +kernel)) ggX4_down_X4_lineOf
set_option maxRecDepth 20000 in
theorem ggX4_down_X2_isOnHook : GoodIn wsX4_down wsX2_isOnHook := goodIn_r _ [22, 23, 120, 121, 122, 123, 124, 125, 126, 127, 128, 129, 130] (by decide +kernel) (by decide +kernel)
set_option maxRecDepth 20000 in
theorem gX4_down_X2_isOnHook : GoodIn wsX4_down (wsV RX4 53 RX2 yX2_isOnHook wsX2_isOnHook) := goodIn_app (goodIn_of _ (by decide +kernel)) ggX4_down_X2_isOnHook
set_option maxRecDepth 20000 in
theorem ggX4_down_X4_leave : GoodIn wsX4_down wsX4_leave := goodIn_r _ [27, 28, 29, 30, 9, 31, 32, 33, 34, 7, 35, 36, 37, 38, 39, 40, 41, 42, 3, 43, 44, 45, 46, 47, 48, 49, 50, 51, 52, 53, 54, 55, 56, 57, 58, 59, 60, 61, 62, 63, 64, 65, 66, 67, 21, 68, 23, 69, 70, 71, 72, 73, 74, 75, 76, 77, 78, 79, 80, 81, 120, 121, 122, 123, 124, 125, 126, 127, 128, 129, 130, 113, 114, 115, 116, 117, 118, 119, 131, 132, 133] (by decide +kernel) (by decide +kernel)
set_option maxRecDepth 20000 in
theorem gX4_down_X4_leave : GoodIn wsX4_down (wsV RX4 84 RX4 yX4_leave wsX4_leave) := goodIn_app (goodIn_of _ (by decide +kernel)) ggX4_down_X4_leave
set_option maxRecDepth 20000 in
theorem ggX4_down_X2_enter : GoodIn wsX4_down wsX2_enter := goodIn_r _ [68, 23, 69, 70, 71, 72, 73, 120, 121, 122, 123, 124, 125, 126, 127, 128, 129, 130] (by decide +kernel) (by decide +kernel)
set_option maxRecDepth 20000 in
theorem gX4_down_X2_enter : GoodIn wsX4_down (wsV RX4 78 RX2 yX2_enter wsX2_enter) := goodIn_app (goodIn_of _ (by decide +kernel)) ggX4_down_X2_enter
set_option maxRecDepth 20000 in
theorem ggX4_down_X4_callFromCamps : GoodIn wsX4_down wsX4_callFromCamps := goodIn_r _ [85, 9, 31, 28, 86, 87, 88, 7, 89, 90, 3, 39, 91, 65, 66, 67, 21, 68, 23, 69, 70, 71, 72, 73, 92, 93, 94, 95, 41, 30, 42, 96, 97, 98, 57, 99, 64, 100, 101, 102, 103, 104, 105, 106, 107, 63, 59, 60, 61, 62, 108, 109, 110, 111, 112, 113, 114, 115, 116, 117, 118, 119, 120, 121, 122, 123, 124, 125, 126, 127, 128, 129, 130, 133] (by decide +kernel) (by decide +kernel)
set_option maxRecDepth 20000 in
theorem gX4_down_X4_callFromCamps : GoodIn wsX4_down (wsV RX4 72 RX4 yX4_callFromCamps wsX4_callFromCamps) := goodIn_app (goodIn_of _ (by decide +kernel)) ggX4_down_X4_callFromCamps
theorem dX4_down_0 : decode cX4_down 0 = .ok (.aload_n 0, 1) := by decide +kernel
theorem dX4_down_1 : decode cX4_down 1 = .ok (.iload_n 1, 1) := by decide +kernel
theorem dX4_down_2 : decode cX4_down 2 = .ok (.invokevirtual 49, 3) := by decide +kernel
theorem dX4_down_5 : decode cX4_down 5 = .ok (.astore_n 2, 1) := by decide +kernel
theorem dX4_down_6 : decode cX4_down 6 = .ok (.aload_n 2, 1) := by decide +kernel
theorem dX4_down_7 : decode cX4_down 7 = .ok (.invokevirtual 53, 3) := by decide +kernel
theorem dX4_down_10 : decode cX4_down 10 = .ok (.ifCond .eq 13, 3) := by decide +kernel
theorem dX4_down_13 : decode cX4_down 13 = .ok (.new 57, 3) := by decide +kernel
theorem dX4_down_16 : decode cX4_down 16 = .ok (.dup, 1) := by decide +kernel
theorem dX4_down_17 : decode cX4_down 17 = .ok (.ldc 82, 2) := by decide +kernel
theorem dX4_down_19 : decode cX4_down 19 = .ok (.invokespecial 61, 3) := by decide +kernel
theorem dX4_down_22 : decode cX4_down 22 = .ok (.athrow, 1) := by decide +kernel
theorem dX4_down_23 : decode cX4_down 23 = .ok (.aload_n 0, 1) := by decide +kernel
theorem dX4_down_24 : decode cX4_down 24 = .ok (.aload_n 2, 1) := by decide +kernel
theorem dX4_down_25 : decode cX4_down 25 = .ok (.invokevirtual 84, 3) := by decide +kernel
theorem dX4_down_28 : decode cX4_down 28 = .ok (.aload_n 2, 1) := by decide +kernel
theorem dX4_down_29 : decode cX4_down 29 = .ok (.iconst 0, 1) := by decide +kernel
theorem dX4_down_30 : decode cX4_down 30 = .ok (.aload_n 0, 1) := by decide +kernel
theorem dX4_down_31 : decode cX4_down 31 = .ok (.getfield 75, 3) := by decide +kernel
theorem dX4_down_34 : decode cX4_down 34 = .ok (.invokevirtual 78, 3) := by decide +kernel
theorem dX4_down_37 : decode cX4_down 37 = .ok (.aload_n 0, 1) := by decide +kernel
theorem dX4_down_38 : decode cX4_down 38 = .ok (.invokevirtual 72, 3) := by decide +kernel
theorem dX4_down_41 : decode cX4_down 41 = .ok (.return_, 1) := by decide +kernel
set_option maxRecDepth 20000 in
theorem ggX4_digit_X4_lineOf : GoodIn wsX4_digit wsX4_lineOf := goodIn_ca (goodIn_r _ [8, 9, 10, 11, 7, 12, 13, 14, 15, 16, 17, 165, 166, 167, 168, 169, 170, 171] (by decide +kernel) (by decide +kernel)) (goodIn_sub (fun _ h => List.mem_cons_of_mem _ (List.mem_append_right _ h)) (by decide +kernel))
set_option maxRecDepth 20000 in
theorem gX4_digit_X4_lineOf : GoodIn wsX4_digit (wsV RX4 49 RX4 yX4_lineOf wsX4_lineOf) := goodIn_app (goodIn_of _ (by decide +kernel)) ggX4_digit_X4_lineOf
set_option maxRecDepth 20000 in
theorem ggX4_digit_X4_require : GoodIn wsX4_digit wsX4_require := goodIn_ca (goodIn_r _ [15, 16, 17] (by decide +kernel) (by decide +kernel)) (goodIn_sub (fun _ h => List.mem_cons_of_mem _ (List.mem_append_right _ h)) (by decide +kernel))
set_option maxRecDepth 20000 in
theorem gX4_digit_X4_require : GoodIn wsX4_digit (va_wsS RX4 87 yX4_require wsX4_require) := goodIn_app (goodIn_of _ (by decide +kernel)) ggX4_digit_X4_require
set_option maxRecDepth 20000 in
theorem ggX4_digit_X2_enter : GoodIn wsX4_digit wsX2_enter := goodIn_r _ [22, 23, 24, 25, 26, 27, 28, 154, 155, 156, 157, 158, 159, 160, 161, 162, 163, 164] (by decide +kernel) (by decide +kernel)
set_option maxRecDepth 20000 in
theorem gX4_digit_X2_enter : GoodIn wsX4_digit (wsV RX4 78 RX2 yX2_enter wsX2_enter) := goodIn_app (goodIn_of _ (by decide +kernel)) ggX4_digit_X2_enter
set_option maxRecDepth 20000 in
theorem ggX4_digit_X4_call : GoodIn wsX4_digit wsX4_call := goodIn_r _ [32, 9, 33, 34, 2, 35, 36, 37, 7, 38, 1, 39, 40, 18, 19, 20, 21, 22, 23, 24, 25, 26, 27, 28, 41, 42, 43, 44, 45, 46, 47, 48, 49, 50, 51, 52, 53, 54, 55, 56, 57, 58, 59, 60, 61, 62, 63, 64, 65, 66, 67, 68, 69, 70, 71, 72, 73, 74, 75, 76, 77, 78, 79, 80, 81, 82, 83, 84, 85, 86, 87, 88, 89, 90, 91, 92, 93, 94, 95, 96, 97, 98, 99, 100, 101, 102, 103, 104, 105, 106, 107, 108, 109, 110, 111, 112, 113, 114, 115, 116, 117, 118, 119, 120, 121, 122, 123, 124, 125, 126, 127, 128, 129, 130, 131, 132, 133, 134, 135, 136, 137, 138, 139, 140, 141, 142, 143, 144, 145, 146, 147, 148, 165, 166, 167, 168, 169, 170, 171, 154, 155, 156, 157, 158, 159, 160, 161, 162, 163, 164, 172, 173, 174, 175, 176] (by decide +kernel) (by decide +kernel)
set_option maxRecDepth 20000 in
theorem gX4_digit_X4_call : GoodIn wsX4_digit (wsV RX4 94 RX4 yX4_call wsX4_call) := goodIn_app (goodIn_of _ (by decide +kernel)) ggX4_digit_X4_call
set_option maxRecDepth 20000 in
theorem ggX4_digit_X4_callFromCamps : GoodIn wsX4_digit wsX4_callFromCamps := goodIn_r _ [152, 9, 153, 1, 35, 36, 37, 7, 38, 34, 2, 39, 40, 18, 19, 20, 21, 22, 23, 24, 25, 26, 27, 28, 41, 42, 43, 44, 45, 46, 47, 48, 49, 50, 51, 52, 53, 54, 55, 56, 57, 58, 59, 60, 61, 62, 63, 64, 65, 66, 67, 68, 69, 70, 71, 165, 166, 167, 168, 169, 170, 171, 154, 155, 156, 157, 158, 159, 160, 161, 162, 163, 164, 172] (by decide +kernel) (by decide +kernel)
set_option maxRecDepth 20000 in
theorem gX4_digit_X4_callFromCamps : GoodIn wsX4_digit (wsV RX4 72 RX4 yX4_callFromCamps wsX4_callFromCamps) := goodIn_app (goodIn_of _ (by decide +kernel)) ggX4_digit_X4_callFromCamps
theorem dX4_digit_0 : decode cX4_digit 0 = .ok (.aload_n 0, 1) := by decide +kernel
theorem dX4_digit_1 : decode cX4_digit 1 = .ok (.iload_n 1, 1) := by decide +kernel
theorem dX4_digit_2 : decode cX4_digit 2 = .ok (.invokevirtual 49, 3) := by decide +kernel
theorem dX4_digit_5 : decode cX4_digit 5 = .ok (.astore_n 3, 1) := by decide +kernel
theorem dX4_digit_6 : decode cX4_digit 6 = .ok (.iload_n 2, 1) := by decide +kernel
theorem dX4_digit_7 : decode cX4_digit 7 = .ok (.ifCond .lt 13, 3) := by decide +kernel
theorem dX4_digit_10 : decode cX4_digit 10 = .ok (.iload_n 2, 1) := by decide +kernel
theorem dX4_digit_11 : decode cX4_digit 11 = .ok (.bipush 9, 2) := by decide +kernel
theorem dX4_digit_13 : decode cX4_digit 13 = .ok (.if_icmp .gt 7, 3) := by decide +kernel
theorem dX4_digit_16 : decode cX4_digit 16 = .ok (.iconst 1, 1) := by decide +kernel
theorem dX4_digit_17 : decode cX4_digit 17 = .ok (.goto 4, 3) := by decide +kernel
theorem dX4_digit_20 : decode cX4_digit 20 = .ok (.iconst 0, 1) := by decide +kernel
theorem dX4_digit_21 : decode cX4_digit 21 = .ok (.invokestatic 87, 3) := by decide +kernel
theorem dX4_digit_24 : decode cX4_digit 24 = .ok (.aload_n 3, 1) := by decide +kernel
theorem dX4_digit_25 : decode cX4_digit 25 = .ok (.getfield 64, 3) := by decide +kernel
theorem dX4_digit_28 : decode cX4_digit 28 = .ok (.iconst 1, 1) := by decide +kernel
theorem dX4_digit_29 : decode cX4_digit 29 = .ok (.if_icmp .ne 20, 3) := by decide +kernel
theorem dX4_digit_32 : decode cX4_digit 32 = .ok (.aload_n 3, 1) := by decide +kernel
theorem dX4_digit_33 : decode cX4_digit 33 = .ok (.iconst 2, 1) := by decide +kernel
theorem dX4_digit_34 : decode cX4_digit 34 = .ok (.aload_n 0, 1) := by decide +kernel
theorem dX4_digit_35 : decode cX4_digit 35 = .ok (.getfield 75, 3) := by decide +kernel
theorem dX4_digit_38 : decode cX4_digit 38 = .ok (.invokevirtual 78, 3) := by decide +kernel
theorem dX4_digit_41 : decode cX4_digit 41 = .ok (.aload_n 3, 1) := by decide +kernel
theorem dX4_digit_42 : decode cX4_digit 42 = .ok (.iload_n 2, 1) := by decide +kernel
theorem dX4_digit_43 : decode cX4_digit 43 = .ok (.putfield 91, 3) := by decide +kernel
theorem dX4_digit_46 : decode cX4_digit 46 = .ok (.goto 29, 3) := by decide +kernel
theorem dX4_digit_49 : decode cX4_digit 49 = .ok (.aload_n 3, 1) := by decide +kernel
theorem dX4_digit_50 : decode cX4_digit 50 = .ok (.getfield 64, 3) := by decide +kernel
theorem dX4_digit_53 : decode cX4_digit 53 = .ok (.iconst 2, 1) := by decide +kernel
theorem dX4_digit_54 : decode cX4_digit 54 = .ok (.if_icmp .ne 21, 3) := by decide +kernel
theorem dX4_digit_57 : decode cX4_digit 57 = .ok (.aload_n 0, 1) := by decide +kernel
theorem dX4_digit_58 : decode cX4_digit 58 = .ok (.aload_n 3, 1) := by decide +kernel
theorem dX4_digit_59 : decode cX4_digit 59 = .ok (.aload_n 3, 1) := by decide +kernel
theorem dX4_digit_60 : decode cX4_digit 60 = .ok (.getfield 91, 3) := by decide +kernel
theorem dX4_digit_63 : decode cX4_digit 63 = .ok (.bipush 10, 2) := by decide +kernel
theorem dX4_digit_65 : decode cX4_digit 65 = .ok (.imul, 1) := by decide +kernel
theorem dX4_digit_66 : decode cX4_digit 66 = .ok (.iload_n 2, 1) := by decide +kernel
theorem dX4_digit_67 : decode cX4_digit 67 = .ok (.iadd, 1) := by decide +kernel
theorem dX4_digit_68 : decode cX4_digit 68 = .ok (.invokevirtual 94, 3) := by decide +kernel
theorem dX4_digit_71 : decode cX4_digit 71 = .ok (.aload_n 0, 1) := by decide +kernel
theorem dX4_digit_72 : decode cX4_digit 72 = .ok (.invokevirtual 72, 3) := by decide +kernel
theorem dX4_digit_75 : decode cX4_digit 75 = .ok (.aload_n 3, 1) := by decide +kernel
theorem dX4_digit_76 : decode cX4_digit 76 = .ok (.getfield 64, 3) := by decide +kernel
theorem dX4_digit_79 : decode cX4_digit 79 = .ok (.ireturn, 1) := by decide +kernel
set_option maxRecDepth 20000 in
theorem ggX4_camp_X4_lineOf : GoodIn wsX4_camp wsX4_lineOf := goodIn_ca (goodIn_r _ [13, 4, 14, 15, 12, 16, 17, 18, 19, 20, 21, 44, 45, 46, 47, 48, 49, 50] (by decide +kernel) (by decide +kernel)) (goodIn_sub (fun _ h => List.mem_cons_of_mem _ (List.mem_append_right _ h)) (by decide +kernel))
set_option maxRecDepth 20000 in
theorem gX4_camp_X4_lineOf : GoodIn wsX4_camp (wsV RX4 49 RX4 yX4_lineOf wsX4_lineOf) := goodIn_app (goodIn_of _ (by decide +kernel)) ggX4_camp_X4_lineOf
set_option maxRecDepth 20000 in
theorem ggX4_camp_X2_enter : GoodIn wsX4_camp wsX2_enter := goodIn_r _ [26, 27, 28, 29, 30, 31, 32, 33, 34, 35, 36, 37, 38, 39, 40, 41, 42, 43] (by decide +kernel) (by decide +kernel)
set_option maxRecDepth 20000 in
theorem gX4_camp_X2_enter : GoodIn wsX4_camp (wsV RX4 78 RX2 yX2_enter wsX2_enter) := goodIn_app (goodIn_of _ (by decide +kernel)) ggX4_camp_X2_enter
theorem dX4_camp_0 : decode cX4_camp 0 = .ok (.aload_n 0, 1) := by decide +kernel
theorem dX4_camp_1 : decode cX4_camp 1 = .ok (.iload_n 1, 1) := by decide +kernel
theorem dX4_camp_2 : decode cX4_camp 2 = .ok (.invokevirtual 49, 3) := by decide +kernel
theorem dX4_camp_5 : decode cX4_camp 5 = .ok (.astore_n 2, 1) := by decide +kernel
theorem dX4_camp_6 : decode cX4_camp 6 = .ok (.aload_n 2, 1) := by decide +kernel
theorem dX4_camp_7 : decode cX4_camp 7 = .ok (.getfield 98, 3) := by decide +kernel
theorem dX4_camp_10 : decode cX4_camp 10 = .ok (.istore_n 3, 1) := by decide +kernel
theorem dX4_camp_11 : decode cX4_camp 11 = .ok (.iload_n 3, 1) := by decide +kernel
theorem dX4_camp_12 : decode cX4_camp 12 = .ok (.iconst (-1), 1) := by decide +kernel
theorem dX4_camp_13 : decode cX4_camp 13 = .ok (.if_icmp .eq 28, 3) := by decide +kernel
theorem dX4_camp_16 : decode cX4_camp 16 = .ok (.aload_n 0, 1) := by decide +kernel
theorem dX4_camp_17 : decode cX4_camp 17 = .ok (.getfield 11, 3) := by decide +kernel
theorem dX4_camp_20 : decode cX4_camp 20 = .ok (.iload_n 3, 1) := by decide +kernel
theorem dX4_camp_21 : decode cX4_camp 21 = .ok (.aaload, 1) := by decide +kernel
theorem dX4_camp_22 : decode cX4_camp 22 = .ok (.getfield 64, 3) := by decide +kernel
theorem dX4_camp_25 : decode cX4_camp 25 = .ok (.ifCond .eq 16, 3) := by decide +kernel
theorem dX4_camp_28 : decode cX4_camp 28 = .ok (.aload_n 0, 1) := by decide +kernel
theorem dX4_camp_29 : decode cX4_camp 29 = .ok (.getfield 11, 3) := by decide +kernel
theorem dX4_camp_32 : decode cX4_camp 32 = .ok (.iload_n 3, 1) := by decide +kernel
theorem dX4_camp_33 : decode cX4_camp 33 = .ok (.aaload, 1) := by decide +kernel
theorem dX4_camp_34 : decode cX4_camp 34 = .ok (.getfield 101, 3) := by decide +kernel
theorem dX4_camp_37 : decode cX4_camp 37 = .ok (.iconst (-1), 1) := by decide +kernel
theorem dX4_camp_38 : decode cX4_camp 38 = .ok (.if_icmp .eq 13, 3) := by decide +kernel
theorem dX4_camp_41 : decode cX4_camp 41 = .ok (.new 57, 3) := by decide +kernel
theorem dX4_camp_44 : decode cX4_camp 44 = .ok (.dup, 1) := by decide +kernel
theorem dX4_camp_45 : decode cX4_camp 45 = .ok (.ldc 104, 2) := by decide +kernel
theorem dX4_camp_47 : decode cX4_camp 47 = .ok (.invokespecial 61, 3) := by decide +kernel
theorem dX4_camp_50 : decode cX4_camp 50 = .ok (.athrow, 1) := by decide +kernel
theorem dX4_camp_51 : decode cX4_camp 51 = .ok (.aload_n 2, 1) := by decide +kernel
theorem dX4_camp_52 : decode cX4_camp 52 = .ok (.bipush 8, 2) := by decide +kernel
theorem dX4_camp_54 : decode cX4_camp 54 = .ok (.aload_n 0, 1) := by decide +kernel
theorem dX4_camp_55 : decode cX4_camp 55 = .ok (.getfield 75, 3) := by decide +kernel
theorem dX4_camp_58 : decode cX4_camp 58 = .ok (.invokevirtual 78, 3) := by decide +kernel
theorem dX4_camp_61 : decode cX4_camp 61 = .ok (.aload_n 2, 1) := by decide +kernel
theorem dX4_camp_62 : decode cX4_camp 62 = .ok (.iload_n 3, 1) := by decide +kernel
theorem dX4_camp_63 : decode cX4_camp 63 = .ok (.putfield 106, 3) := by decide +kernel
theorem dX4_camp_66 : decode cX4_camp 66 = .ok (.aload_n 0, 1) := by decide +kernel
theorem dX4_camp_67 : decode cX4_camp 67 = .ok (.getfield 11, 3) := by decide +kernel
theorem dX4_camp_70 : decode cX4_camp 70 = .ok (.iload_n 3, 1) := by decide +kernel
theorem dX4_camp_71 : decode cX4_camp 71 = .ok (.aaload, 1) := by decide +kernel
theorem dX4_camp_72 : decode cX4_camp 72 = .ok (.iload_n 1, 1) := by decide +kernel
theorem dX4_camp_73 : decode cX4_camp 73 = .ok (.putfield 101, 3) := by decide +kernel
theorem dX4_camp_76 : decode cX4_camp 76 = .ok (.iload_n 3, 1) := by decide +kernel
theorem dX4_camp_77 : decode cX4_camp 77 = .ok (.ireturn, 1) := by decide +kernel
set_option maxRecDepth 20000 in
theorem ggX4_park_X4_lineOf : GoodIn wsX4_park wsX4_lineOf := goodIn_ca (goodIn_r _ [12, 13, 14, 15, 11, 16, 17, 18, 19, 20, 21, 76, 77, 78, 79, 80, 81, 82] (by decide +kernel) (by decide +kernel)) (goodIn_sub (fun _ h => List.mem_cons_of_mem _ (List.mem_append_right _ h)) (by decide +kernel))
set_option maxRecDepth 20000 in
theorem gX4_park_X4_lineOf : GoodIn wsX4_park (wsV RX4 49 RX4 yX4_lineOf wsX4_lineOf) := goodIn_app (goodIn_of _ (by decide +kernel)) ggX4_park_X4_lineOf
set_option maxRecDepth 20000 in
theorem ggX4_park_X4_require : GoodIn wsX4_park wsX4_require := goodIn_ca (goodIn_r _ [19, 20, 21] (by decide +kernel) (by decide +kernel)) (goodIn_sub (fun _ h => List.mem_cons_of_mem _ (List.mem_append_right _ h)) (by decide +kernel))
set_option maxRecDepth 20000 in
theorem gX4_park_X4_require : GoodIn wsX4_park (va_wsS RX4 87 yX4_require wsX4_require) := goodIn_app (goodIn_of _ (by decide +kernel)) ggX4_park_X4_require
set_option maxRecDepth 20000 in
theorem ggX4_park_X4_endTalk : GoodIn wsX4_park wsX4_endTalk := goodIn_r _ [25, 13, 6, 26, 27, 28, 7, 29, 30, 31, 5, 32, 33, 34, 11, 35, 36, 37, 38, 39, 40, 41, 42, 43, 44, 45, 46, 47, 48, 49, 50, 51, 52, 53, 54, 55, 56, 57, 58, 59, 60, 61, 62, 63, 64, 76, 77, 78, 79, 80, 81, 82, 65, 66, 67, 68, 69, 70, 71, 72, 73, 74, 75, 83, 84, 85] (by decide +kernel) (by decide +kernel)
set_option maxRecDepth 20000 in
theorem gX4_park_X4_endTalk : GoodIn wsX4_park (wsV RX4 111 RX4 yX4_endTalk wsX4_endTalk) := goodIn_app (goodIn_of _ (by decide +kernel)) ggX4_park_X4_endTalk
set_option maxRecDepth 20000 in
theorem ggX4_park_X2_enter : GoodIn wsX4_park wsX2_enter := goodIn_r _ [58, 59, 60, 61, 62, 63, 64, 65, 66, 67, 68, 69, 70, 71, 72, 73, 74, 75] (by decide +kernel) (by decide +kernel)
set_option maxRecDepth 20000 in
theorem gX4_park_X2_enter : GoodIn wsX4_park (wsV RX4 78 RX2 yX2_enter wsX2_enter) := goodIn_app (goodIn_of _ (by decide +kernel)) ggX4_park_X2_enter
theorem dX4_park_0 : decode cX4_park 0 = .ok (.aload_n 0, 1) := by decide +kernel
theorem dX4_park_1 : decode cX4_park 1 = .ok (.iload_n 1, 1) := by decide +kernel
theorem dX4_park_2 : decode cX4_park 2 = .ok (.invokevirtual 49, 3) := by decide +kernel
theorem dX4_park_5 : decode cX4_park 5 = .ok (.astore_n 3, 1) := by decide +kernel
theorem dX4_park_6 : decode cX4_park 6 = .ok (.iload_n 2, 1) := by decide +kernel
theorem dX4_park_7 : decode cX4_park 7 = .ok (.ifCond .lt 12, 3) := by decide +kernel
theorem dX4_park_10 : decode cX4_park 10 = .ok (.iload_n 2, 1) := by decide +kernel
theorem dX4_park_11 : decode cX4_park 11 = .ok (.iconst 4, 1) := by decide +kernel
theorem dX4_park_12 : decode cX4_park 12 = .ok (.if_icmp .ge 7, 3) := by decide +kernel
theorem dX4_park_15 : decode cX4_park 15 = .ok (.iconst 1, 1) := by decide +kernel
theorem dX4_park_16 : decode cX4_park 16 = .ok (.goto 4, 3) := by decide +kernel
theorem dX4_park_19 : decode cX4_park 19 = .ok (.iconst 0, 1) := by decide +kernel
theorem dX4_park_20 : decode cX4_park 20 = .ok (.invokestatic 87, 3) := by decide +kernel
theorem dX4_park_23 : decode cX4_park 23 = .ok (.aload_n 3, 1) := by decide +kernel
theorem dX4_park_24 : decode cX4_park 24 = .ok (.getfield 64, 3) := by decide +kernel
theorem dX4_park_27 : decode cX4_park 27 = .ok (.bipush 6, 2) := by decide +kernel
theorem dX4_park_29 : decode cX4_park 29 = .ok (.if_icmp .ne 13, 3) := by decide +kernel
theorem dX4_park_32 : decode cX4_park 32 = .ok (.aload_n 0, 1) := by decide +kernel
theorem dX4_park_33 : decode cX4_park 33 = .ok (.getfield 32, 3) := by decide +kernel
theorem dX4_park_36 : decode cX4_park 36 = .ok (.iload_n 2, 1) := by decide +kernel
theorem dX4_park_37 : decode cX4_park 37 = .ok (.iaload, 1) := by decide +kernel
theorem dX4_park_38 : decode cX4_park 38 = .ok (.iconst (-1), 1) := by decide +kernel
theorem dX4_park_39 : decode cX4_park 39 = .ok (.if_icmp .eq 13, 3) := by decide +kernel
theorem dX4_park_42 : decode cX4_park 42 = .ok (.new 57, 3) := by decide +kernel
theorem dX4_park_45 : decode cX4_park 45 = .ok (.dup, 1) := by decide +kernel
theorem dX4_park_46 : decode cX4_park 46 = .ok (.ldc 109, 2) := by decide +kernel
theorem dX4_park_48 : decode cX4_park 48 = .ok (.invokespecial 61, 3) := by decide +kernel
theorem dX4_park_51 : decode cX4_park 51 = .ok (.athrow, 1) := by decide +kernel
theorem dX4_park_52 : decode cX4_park 52 = .ok (.aload_n 0, 1) := by decide +kernel
theorem dX4_park_53 : decode cX4_park 53 = .ok (.aload_n 3, 1) := by decide +kernel
theorem dX4_park_54 : decode cX4_park 54 = .ok (.invokevirtual 111, 3) := by decide +kernel
theorem dX4_park_57 : decode cX4_park 57 = .ok (.astore 4, 2) := by decide +kernel
theorem dX4_park_59 : decode cX4_park 59 = .ok (.aload 4, 2) := by decide +kernel
theorem dX4_park_61 : decode cX4_park 61 = .ok (.bipush 7, 2) := by decide +kernel
theorem dX4_park_63 : decode cX4_park 63 = .ok (.aload_n 0, 1) := by decide +kernel
theorem dX4_park_64 : decode cX4_park 64 = .ok (.getfield 75, 3) := by decide +kernel
theorem dX4_park_67 : decode cX4_park 67 = .ok (.invokevirtual 78, 3) := by decide +kernel
theorem dX4_park_70 : decode cX4_park 70 = .ok (.aload 4, 2) := by decide +kernel
theorem dX4_park_72 : decode cX4_park 72 = .ok (.iload_n 2, 1) := by decide +kernel
theorem dX4_park_73 : decode cX4_park 73 = .ok (.putfield 106, 3) := by decide +kernel
theorem dX4_park_76 : decode cX4_park 76 = .ok (.aload_n 0, 1) := by decide +kernel
theorem dX4_park_77 : decode cX4_park 77 = .ok (.getfield 32, 3) := by decide +kernel
theorem dX4_park_80 : decode cX4_park 80 = .ok (.iload_n 2, 1) := by decide +kernel
theorem dX4_park_81 : decode cX4_park 81 = .ok (.aload 4, 2) := by decide +kernel
theorem dX4_park_83 : decode cX4_park 83 = .ok (.getfield 115, 3) := by decide +kernel
theorem dX4_park_86 : decode cX4_park 86 = .ok (.iastore, 1) := by decide +kernel
theorem dX4_park_87 : decode cX4_park 87 = .ok (.aload 4, 2) := by decide +kernel
theorem dX4_park_89 : decode cX4_park 89 = .ok (.getfield 115, 3) := by decide +kernel
theorem dX4_park_92 : decode cX4_park 92 = .ok (.ireturn, 1) := by decide +kernel
set_option maxRecDepth 20000 in
theorem ggX4_transfer_X4_lineOf : GoodIn wsX4_transfer wsX4_lineOf := goodIn_ca (goodIn_r _ [8, 9, 10, 11, 7, 12, 13, 14, 15, 16, 17, 183, 184, 185, 186, 187, 188, 189] (by decide +kernel) (by decide +kernel)) (goodIn_sub (fun _ h => List.mem_cons_of_mem _ (List.mem_append_right _ h)) (by decide +kernel))
set_option maxRecDepth 20000 in
theorem gX4_transfer_X4_lineOf : GoodIn wsX4_transfer (wsV RX4 49 RX4 yX4_lineOf wsX4_lineOf) := goodIn_app (goodIn_of _ (by decide +kernel)) ggX4_transfer_X4_lineOf
set_option maxRecDepth 20000 in
theorem ggX4_transfer_X4_require : GoodIn wsX4_transfer wsX4_require := goodIn_ca (goodIn_r _ [15, 16, 17] (by decide +kernel) (by decide +kernel)) (goodIn_sub (fun _ h => List.mem_cons_of_mem _ (List.mem_append_right _ h)) (by decide +kernel))
set_option maxRecDepth 20000 in
theorem gX4_transfer_X4_require : GoodIn wsX4_transfer (va_wsS RX4 87 yX4_require wsX4_require) := goodIn_app (goodIn_of _ (by decide +kernel)) ggX4_transfer_X4_require
set_option maxRecDepth 20000 in
theorem ggX4_transfer_X4_endTalk : GoodIn wsX4_transfer wsX4_endTalk := goodIn_r _ [21, 9, 22, 23, 24, 25, 26, 27, 28, 29, 30, 31, 32, 33, 7, 34, 35, 36, 37, 38, 39, 40, 41, 42, 43, 44, 45, 46, 47, 48, 49, 50, 51, 52, 53, 54, 55, 56, 57, 58, 59, 60, 61, 62, 63, 183, 184, 185, 186, 187, 188, 189, 172, 173, 174, 175, 176, 177, 178, 179, 180, 181, 182, 190, 191, 192] (by decide +kernel) (by decide +kernel)
set_option maxRecDepth 20000 in
theorem gX4_transfer_X4_endTalk : GoodIn wsX4_transfer (wsV RX4 111 RX4 yX4_endTalk wsX4_endTalk) := goodIn_app (goodIn_of _ (by decide +kernel)) ggX4_transfer_X4_endTalk
set_option maxRecDepth 20000 in
theorem ggX4_transfer_X4_call : GoodIn wsX4_transfer wsX4_call := goodIn_r _ [67, 9, 68, 69, 30, 70, 71, 72, 7, 73, 3, 26, 74, 53, 54, 55, 56, 57, 58, 59, 60, 61, 62, 63, 75, 76, 77, 78, 28, 22, 29, 79, 80, 81, 45, 82, 52, 83, 84, 85, 86, 87, 88, 89, 90, 51, 47, 48, 49, 50, 91, 92, 93, 94, 95, 96, 97, 98, 99, 100, 101, 102, 103, 104, 105, 106, 107, 108, 109, 110, 111, 112, 113, 114, 115, 116, 117, 118, 119, 27, 120, 121, 122, 123, 124, 125, 126, 127, 128, 129, 130, 131, 132, 133, 134, 135, 136, 137, 138, 139, 140, 141, 142, 143, 144, 145, 146, 147, 148, 42, 43, 44, 46, 149, 150, 151, 152, 153, 154, 155, 156, 23, 157, 158, 159, 160, 161, 162, 163, 164, 165, 166, 183, 184, 185, 186, 187, 188, 189, 172, 173, 174, 175, 176, 177, 178, 179, 180, 181, 182, 192, 193, 194, 195, 196] (by decide +kernel) (by decide +kernel)
set_option maxRecDepth 20000 in
theorem gX4_transfer_X4_call : GoodIn wsX4_transfer (wsV RX4 94 RX4 yX4_call wsX4_call) := goodIn_app (goodIn_of _ (by decide +kernel)) ggX4_transfer_X4_call
set_option maxRecDepth 20000 in
theorem ggX4_transfer_X4_callFromCamps : GoodIn wsX4_transfer wsX4_callFromCamps := goodIn_r _ [170, 9, 171, 3, 70, 71, 72, 7, 73, 69, 30, 26, 74, 53, 54, 55, 56, 57, 58, 59, 60, 61, 62, 63, 75, 76, 77, 78, 28, 22, 29, 79, 80, 81, 45, 82, 52, 83, 84, 85, 86, 87, 88, 89, 90, 51, 47, 48, 49, 50, 91, 92, 93, 94, 95, 183, 184, 185, 186, 187, 188, 189, 172, 173, 174, 175, 176, 177, 178, 179, 180, 181, 182, 192] (by decide +kernel) (by decide +kernel)
set_option maxRecDepth 20000 in
theorem gX4_transfer_X4_callFromCamps : GoodIn wsX4_transfer (wsV RX4 72 RX4 yX4_callFromCamps wsX4_callFromCamps) := goodIn_app (goodIn_of _ (by decide +kernel)) ggX4_transfer_X4_callFromCamps
theorem dX4_transfer_0 : decode cX4_transfer 0 = .ok (.aload_n 0, 1) := by decide +kernel
theorem dX4_transfer_1 : decode cX4_transfer 1 = .ok (.iload_n 1, 1) := by decide +kernel
theorem dX4_transfer_2 : decode cX4_transfer 2 = .ok (.invokevirtual 49, 3) := by decide +kernel
theorem dX4_transfer_5 : decode cX4_transfer 5 = .ok (.astore_n 3, 1) := by decide +kernel
theorem dX4_transfer_6 : decode cX4_transfer 6 = .ok (.iload_n 2, 1) := by decide +kernel
theorem dX4_transfer_7 : decode cX4_transfer 7 = .ok (.bipush 10, 2) := by decide +kernel
theorem dX4_transfer_9 : decode cX4_transfer 9 = .ok (.if_icmp .lt 13, 3) := by decide +kernel
theorem dX4_transfer_12 : decode cX4_transfer 12 = .ok (.iload_n 2, 1) := by decide +kernel
theorem dX4_transfer_13 : decode cX4_transfer 13 = .ok (.bipush 99, 2) := by decide +kernel
theorem dX4_transfer_15 : decode cX4_transfer 15 = .ok (.if_icmp .gt 7, 3) := by decide +kernel
theorem dX4_transfer_18 : decode cX4_transfer 18 = .ok (.iconst 1, 1) := by decide +kernel
theorem dX4_transfer_19 : decode cX4_transfer 19 = .ok (.goto 4, 3) := by decide +kernel
theorem dX4_transfer_22 : decode cX4_transfer 22 = .ok (.iconst 0, 1) := by decide +kernel
theorem dX4_transfer_23 : decode cX4_transfer 23 = .ok (.invokestatic 87, 3) := by decide +kernel
theorem dX4_transfer_26 : decode cX4_transfer 26 = .ok (.aload_n 3, 1) := by decide +kernel
theorem dX4_transfer_27 : decode cX4_transfer 27 = .ok (.getfield 64, 3) := by decide +kernel
theorem dX4_transfer_30 : decode cX4_transfer 30 = .ok (.bipush 6, 2) := by decide +kernel
theorem dX4_transfer_32 : decode cX4_transfer 32 = .ok (.if_icmp .eq 13, 3) := by decide +kernel
theorem dX4_transfer_35 : decode cX4_transfer 35 = .ok (.new 57, 3) := by decide +kernel
theorem dX4_transfer_38 : decode cX4_transfer 38 = .ok (.dup, 1) := by decide +kernel
theorem dX4_transfer_39 : decode cX4_transfer 39 = .ok (.ldc 118, 2) := by decide +kernel
theorem dX4_transfer_41 : decode cX4_transfer 41 = .ok (.invokespecial 61, 3) := by decide +kernel
theorem dX4_transfer_44 : decode cX4_transfer 44 = .ok (.athrow, 1) := by decide +kernel
theorem dX4_transfer_45 : decode cX4_transfer 45 = .ok (.aload_n 0, 1) := by decide +kernel
theorem dX4_transfer_46 : decode cX4_transfer 46 = .ok (.aload_n 3, 1) := by decide +kernel
theorem dX4_transfer_47 : decode cX4_transfer 47 = .ok (.invokevirtual 111, 3) := by decide +kernel
theorem dX4_transfer_50 : decode cX4_transfer 50 = .ok (.astore 4, 2) := by decide +kernel
theorem dX4_transfer_52 : decode cX4_transfer 52 = .ok (.aload_n 0, 1) := by decide +kernel
theorem dX4_transfer_53 : decode cX4_transfer 53 = .ok (.aload 4, 2) := by decide +kernel
theorem dX4_transfer_55 : decode cX4_transfer 55 = .ok (.iload_n 2, 1) := by decide +kernel
theorem dX4_transfer_56 : decode cX4_transfer 56 = .ok (.invokevirtual 94, 3) := by decide +kernel
theorem dX4_transfer_59 : decode cX4_transfer 59 = .ok (.aload_n 0, 1) := by decide +kernel
theorem dX4_transfer_60 : decode cX4_transfer 60 = .ok (.invokevirtual 72, 3) := by decide +kernel
theorem dX4_transfer_63 : decode cX4_transfer 63 = .ok (.aload 4, 2) := by decide +kernel
theorem dX4_transfer_65 : decode cX4_transfer 65 = .ok (.getfield 64, 3) := by decide +kernel
theorem dX4_transfer_68 : decode cX4_transfer 68 = .ok (.ireturn, 1) := by decide +kernel
set_option maxRecDepth 20000 in
theorem ggX4_tick_X4_require : GoodIn wsX4_tick wsX4_require := goodIn_ca (goodIn_r _ [12, 13, 14] (by decide +kernel) (by decide +kernel)) (goodIn_sub (fun _ h => List.mem_cons_of_mem _ (List.mem_append_right _ h)) (by decide +kernel))
set_option maxRecDepth 20000 in
theorem gX4_tick_X4_require : GoodIn wsX4_tick (va_wsS RX4 87 yX4_require wsX4_require) := goodIn_app (goodIn_of _ (by decide +kernel)) ggX4_tick_X4_require
set_option maxRecDepth 20000 in
theorem ggX4_tick_X4_earliestDue : GoodIn wsX4_tick wsX4_earliestDue := goodIn_r _ [18, 19, 20, 6, 7, 4, 8, 21, 22, 23, 24, 25, 26, 27, 28, 122, 123, 124, 125, 126, 127, 128, 129, 130, 131, 132, 133, 134, 135, 136, 137, 138, 139] (by decide +kernel) (by decide +kernel)
set_option maxRecDepth 20000 in
theorem gX4_tick_X4_earliestDue : GoodIn wsX4_tick (wsV RX4 120 RX4 yX4_earliestDue wsX4_earliestDue) := goodIn_app (goodIn_of _ (by decide +kernel)) ggX4_tick_X4_earliestDue
set_option maxRecDepth 20000 in
theorem ggX4_tick_X4_lookAtTimers : GoodIn wsX4_tick wsX4_lookAtTimers := goodIn_r _ [32, 20, 1, 21, 22, 23, 24, 25, 26, 27, 28, 33, 34, 35, 11, 36, 37, 38, 39, 40, 41, 42, 43, 44, 45, 46, 47, 48, 49, 50, 51, 52, 53, 54, 55, 56, 57, 58, 59, 60, 61, 62, 63, 64, 65, 66, 67, 68, 69, 70, 71, 72, 73, 74, 75, 76, 77, 78, 79, 80, 81, 82, 83, 84, 85, 86, 87, 88, 89, 90, 91, 92, 93, 94, 95, 96, 97, 98, 99, 100, 101, 102, 103, 104, 105, 106, 107, 108, 109, 110, 111, 112, 7, 4, 8, 113, 114, 115, 116, 117, 118, 119, 120, 121, 122, 123, 124, 125, 126, 127, 128, 129, 130, 131, 132, 133, 134, 135, 136, 137, 138, 139, 140, 141, 142] (by decide +kernel) (by decide +kernel)
set_option maxRecDepth 20000 in
theorem gX4_tick_X4_lookAtTimers : GoodIn wsX4_tick (wsV RX4 133 RX4 yX4_lookAtTimers wsX4_lookAtTimers) := goodIn_app (goodIn_of _ (by decide +kernel)) ggX4_tick_X4_lookAtTimers
theorem dX4_tick_0 : decode cX4_tick 0 = .ok (.iload_n 1, 1) := by decide +kernel
theorem dX4_tick_1 : decode cX4_tick 1 = .ok (.iconst 1, 1) := by decide +kernel
theorem dX4_tick_2 : decode cX4_tick 2 = .ok (.if_icmp .lt 14, 3) := by decide +kernel
theorem dX4_tick_5 : decode cX4_tick 5 = .ok (.iload_n 1, 1) := by decide +kernel
theorem dX4_tick_6 : decode cX4_tick 6 = .ok (.sipush 1000, 3) := by decide +kernel
theorem dX4_tick_9 : decode cX4_tick 9 = .ok (.if_icmp .gt 7, 3) := by decide +kernel
theorem dX4_tick_12 : decode cX4_tick 12 = .ok (.iconst 1, 1) := by decide +kernel
theorem dX4_tick_13 : decode cX4_tick 13 = .ok (.goto 4, 3) := by decide +kernel
theorem dX4_tick_16 : decode cX4_tick 16 = .ok (.iconst 0, 1) := by decide +kernel
theorem dX4_tick_17 : decode cX4_tick 17 = .ok (.invokestatic 87, 3) := by decide +kernel
theorem dX4_tick_20 : decode cX4_tick 20 = .ok (.aload_n 0, 1) := by decide +kernel
theorem dX4_tick_21 : decode cX4_tick 21 = .ok (.getfield 75, 3) := by decide +kernel
theorem dX4_tick_24 : decode cX4_tick 24 = .ok (.iload_n 1, 1) := by decide +kernel
theorem dX4_tick_25 : decode cX4_tick 25 = .ok (.iadd, 1) := by decide +kernel
theorem dX4_tick_26 : decode cX4_tick 26 = .ok (.istore_n 2, 1) := by decide +kernel
theorem dX4_tick_27 : decode cX4_tick 27 = .ok (.iconst 0, 1) := by decide +kernel
theorem dX4_tick_28 : decode cX4_tick 28 = .ok (.istore_n 3, 1) := by decide +kernel
theorem dX4_tick_29 : decode cX4_tick 29 = .ok (.iload_n 3, 1) := by decide +kernel
theorem dX4_tick_30 : decode cX4_tick 30 = .ok (.iload_n 1, 1) := by decide +kernel
theorem dX4_tick_31 : decode cX4_tick 31 = .ok (.if_icmp .ge 42, 3) := by decide +kernel
theorem dX4_tick_34 : decode cX4_tick 34 = .ok (.aload_n 0, 1) := by decide +kernel
theorem dX4_tick_35 : decode cX4_tick 35 = .ok (.getfield 75, 3) := by decide +kernel
theorem dX4_tick_38 : decode cX4_tick 38 = .ok (.iload_n 2, 1) := by decide +kernel
theorem dX4_tick_39 : decode cX4_tick 39 = .ok (.if_icmp .ge 34, 3) := by decide +kernel
theorem dX4_tick_42 : decode cX4_tick 42 = .ok (.aload_n 0, 1) := by decide +kernel
theorem dX4_tick_43 : decode cX4_tick 43 = .ok (.iload_n 2, 1) := by decide +kernel
theorem dX4_tick_44 : decode cX4_tick 44 = .ok (.aload_n 0, 1) := by decide +kernel
theorem dX4_tick_45 : decode cX4_tick 45 = .ok (.getfield 75, 3) := by decide +kernel
theorem dX4_tick_48 : decode cX4_tick 48 = .ok (.iconst 1, 1) := by decide +kernel
theorem dX4_tick_49 : decode cX4_tick 49 = .ok (.iadd, 1) := by decide +kernel
theorem dX4_tick_50 : decode cX4_tick 50 = .ok (.aload_n 0, 1) := by decide +kernel
theorem dX4_tick_51 : decode cX4_tick 51 = .ok (.invokevirtual 120, 3) := by decide +kernel
theorem dX4_tick_54 : decode cX4_tick 54 = .ok (.invokestatic 124, 3) := by decide +kernel
theorem dX4_tick_57 : decode cX4_tick 57 = .ok (.invokestatic 130, 3) := by decide +kernel
theorem dX4_tick_60 : decode cX4_tick 60 = .ok (.putfield 75, 3) := by decide +kernel
theorem dX4_tick_63 : decode cX4_tick 63 = .ok (.aload_n 0, 1) := by decide +kernel
theorem dX4_tick_64 : decode cX4_tick 64 = .ok (.invokevirtual 133, 3) := by decide +kernel
theorem dX4_tick_67 : decode cX4_tick 67 = .ok (.iinc 3 1, 3) := by decide +kernel
theorem dX4_tick_70 : decode cX4_tick 70 = .ok (.goto (-41), 3) := by decide +kernel
theorem dX4_tick_73 : decode cX4_tick 73 = .ok (.aload_n 0, 1) := by decide +kernel
theorem dX4_tick_74 : decode cX4_tick 74 = .ok (.getfield 75, 3) := by decide +kernel
theorem dX4_tick_77 : decode cX4_tick 77 = .ok (.ireturn, 1) := by decide +kernel
set_option maxRecDepth 20000 in
theorem ggX4_group_X4_require : GoodIn wsX4_group wsX4_require := goodIn_ca (goodIn_r _ [8, 9, 10] (by decide +kernel) (by decide +kernel)) (goodIn_sub (fun _ h => List.mem_cons_of_mem _ (List.mem_append_right _ h)) (by decide +kernel))
set_option maxRecDepth 20000 in
theorem gX4_group_X4_require : GoodIn wsX4_group (va_wsS RX4 87 yX4_require wsX4_require) := goodIn_app (goodIn_of _ (by decide +kernel)) ggX4_group_X4_require
set_option maxRecDepth 20000 in
theorem ggX4_group_X1_restart : GoodIn wsX4_group wsX1_restart := goodIn_r _ [15, 16, 17, 18, 38, 39, 40, 41] (by decide +kernel) (by decide +kernel)
set_option maxRecDepth 20000 in
theorem gX4_group_X1_restart : GoodIn wsX4_group (wsV RX4 136 RX1 yX1_restart wsX1_restart) := goodIn_app (goodIn_of _ (by decide +kernel)) ggX4_group_X1_restart
set_option maxRecDepth 20000 in
theorem ggX4_group_X4_isLine : GoodIn wsX4_group wsX4_isLine := goodIn_r _ [21] (by decide +kernel) (by decide +kernel)
set_option maxRecDepth 20000 in
theorem gX4_group_X4_isLine : GoodIn wsX4_group (va_wsS RX4 139 yX4_isLine wsX4_isLine) := goodIn_app (goodIn_of _ (by decide +kernel)) ggX4_group_X4_isLine
set_option maxRecDepth 20000 in
theorem ggX4_group_X1_has : GoodIn wsX4_group wsX1_has := goodIn_r _ [25, 16, 26, 38, 39, 40, 41] (by decide +kernel) (by decide +kernel)
set_option maxRecDepth 20000 in
theorem gX4_group_X1_has : GoodIn wsX4_group (wsV RX4 143 RX1 yX1_has wsX1_has) := goodIn_app (goodIn_of _ (by decide +kernel)) ggX4_group_X1_has
set_option maxRecDepth 20000 in
theorem ggX4_group_X1_add : GoodIn wsX4_group wsX1_add := goodIn_r _ [30, 26, 16, 38, 39, 40, 41] (by decide +kernel) (by decide +kernel)
set_option maxRecDepth 20000 in
theorem gX4_group_X1_add : GoodIn wsX4_group (wsV RX4 151 RX1 yX1_add wsX1_add) := goodIn_app (goodIn_of _ (by decide +kernel)) ggX4_group_X1_add
theorem dX4_group_0 : decode cX4_group 0 = .ok (.iload_n 1, 1) := by decide +kernel
theorem dX4_group_1 : decode cX4_group 1 = .ok (.ifCond .lt 12, 3) := by decide +kernel
theorem dX4_group_4 : decode cX4_group 4 = .ok (.iload_n 1, 1) := by decide +kernel
theorem dX4_group_5 : decode cX4_group 5 = .ok (.iconst 4, 1) := by decide +kernel
theorem dX4_group_6 : decode cX4_group 6 = .ok (.if_icmp .ge 7, 3) := by decide +kernel
theorem dX4_group_9 : decode cX4_group 9 = .ok (.iconst 1, 1) := by decide +kernel
theorem dX4_group_10 : decode cX4_group 10 = .ok (.goto 4, 3) := by decide +kernel
theorem dX4_group_13 : decode cX4_group 13 = .ok (.iconst 0, 1) := by decide +kernel
theorem dX4_group_14 : decode cX4_group 14 = .ok (.invokestatic 87, 3) := by decide +kernel
theorem dX4_group_17 : decode cX4_group 17 = .ok (.aload_n 0, 1) := by decide +kernel
theorem dX4_group_18 : decode cX4_group 18 = .ok (.getfield 27, 3) := by decide +kernel
theorem dX4_group_21 : decode cX4_group 21 = .ok (.iload_n 1, 1) := by decide +kernel
theorem dX4_group_22 : decode cX4_group 22 = .ok (.aaload, 1) := by decide +kernel
theorem dX4_group_23 : decode cX4_group 23 = .ok (.astore 4, 2) := by decide +kernel
theorem dX4_group_25 : decode cX4_group 25 = .ok (.iload_n 2, 1) := by decide +kernel
theorem dX4_group_26 : decode cX4_group 26 = .ok (.iconst (-1), 1) := by decide +kernel
theorem dX4_group_27 : decode cX4_group 27 = .ok (.if_icmp .ne 28, 3) := by decide +kernel
theorem dX4_group_30 : decode cX4_group 30 = .ok (.iload_n 3, 1) := by decide +kernel
theorem dX4_group_31 : decode cX4_group 31 = .ok (.ifCond .lt 12, 3) := by decide +kernel
theorem dX4_group_34 : decode cX4_group 34 = .ok (.iload_n 3, 1) := by decide +kernel
theorem dX4_group_35 : decode cX4_group 35 = .ok (.iconst 3, 1) := by decide +kernel
theorem dX4_group_36 : decode cX4_group 36 = .ok (.if_icmp .gt 7, 3) := by decide +kernel
theorem dX4_group_39 : decode cX4_group 39 = .ok (.iconst 1, 1) := by decide +kernel
theorem dX4_group_40 : decode cX4_group 40 = .ok (.goto 4, 3) := by decide +kernel
theorem dX4_group_43 : decode cX4_group 43 = .ok (.iconst 0, 1) := by decide +kernel
theorem dX4_group_44 : decode cX4_group 44 = .ok (.invokestatic 87, 3) := by decide +kernel
theorem dX4_group_47 : decode cX4_group 47 = .ok (.aload 4, 2) := by decide +kernel
theorem dX4_group_49 : decode cX4_group 49 = .ok (.iload_n 3, 1) := by decide +kernel
theorem dX4_group_50 : decode cX4_group 50 = .ok (.invokevirtual 136, 3) := by decide +kernel
theorem dX4_group_53 : decode cX4_group 53 = .ok (.iconst 0, 1) := by decide +kernel
theorem dX4_group_54 : decode cX4_group 54 = .ok (.ireturn, 1) := by decide +kernel
theorem dX4_group_55 : decode cX4_group 55 = .ok (.iload_n 2, 1) := by decide +kernel
theorem dX4_group_56 : decode cX4_group 56 = .ok (.invokestatic 139, 3) := by decide +kernel
theorem dX4_group_59 : decode cX4_group 59 = .ok (.ifCond .eq 16, 3) := by decide +kernel
theorem dX4_group_62 : decode cX4_group 62 = .ok (.aload 4, 2) := by decide +kernel
theorem dX4_group_64 : decode cX4_group 64 = .ok (.iload_n 2, 1) := by decide +kernel
theorem dX4_group_65 : decode cX4_group 65 = .ok (.invokevirtual 143, 3) := by decide +kernel
theorem dX4_group_68 : decode cX4_group 68 = .ok (.ifCond .ne 7, 3) := by decide +kernel
theorem dX4_group_71 : decode cX4_group 71 = .ok (.iconst 1, 1) := by decide +kernel
theorem dX4_group_72 : decode cX4_group 72 = .ok (.goto 4, 3) := by decide +kernel
theorem dX4_group_75 : decode cX4_group 75 = .ok (.iconst 0, 1) := by decide +kernel
theorem dX4_group_76 : decode cX4_group 76 = .ok (.invokestatic 87, 3) := by decide +kernel
theorem dX4_group_79 : decode cX4_group 79 = .ok (.aload 4, 2) := by decide +kernel
theorem dX4_group_81 : decode cX4_group 81 = .ok (.getfield 146, 3) := by decide +kernel
theorem dX4_group_84 : decode cX4_group 84 = .ok (.bipush 6, 2) := by decide +kernel
theorem dX4_group_86 : decode cX4_group 86 = .ok (.if_icmp .ne 13, 3) := by decide +kernel
theorem dX4_group_89 : decode cX4_group 89 = .ok (.new 57, 3) := by decide +kernel
theorem dX4_group_92 : decode cX4_group 92 = .ok (.dup, 1) := by decide +kernel
theorem dX4_group_93 : decode cX4_group 93 = .ok (.ldc 149, 2) := by decide +kernel
theorem dX4_group_95 : decode cX4_group 95 = .ok (.invokespecial 61, 3) := by decide +kernel
theorem dX4_group_98 : decode cX4_group 98 = .ok (.athrow, 1) := by decide +kernel
theorem dX4_group_99 : decode cX4_group 99 = .ok (.aload 4, 2) := by decide +kernel
theorem dX4_group_101 : decode cX4_group 101 = .ok (.iload_n 2, 1) := by decide +kernel
theorem dX4_group_102 : decode cX4_group 102 = .ok (.invokevirtual 151, 3) := by decide +kernel
theorem dX4_group_105 : decode cX4_group 105 = .ok (.aload 4, 2) := by decide +kernel
theorem dX4_group_107 : decode cX4_group 107 = .ok (.getfield 146, 3) := by decide +kernel
theorem dX4_group_110 : decode cX4_group 110 = .ok (.ireturn, 1) := by decide +kernel
set_option maxRecDepth 20000 in
theorem ggX4_slot_X4_isSlot : GoodIn wsX4_slot wsX4_isSlot := goodIn_r _ [8] (by decide +kernel) (by decide +kernel)
set_option maxRecDepth 20000 in
theorem gX4_slot_X4_isSlot : GoodIn wsX4_slot (va_wsS RX4 154 yX4_isSlot wsX4_isSlot) := goodIn_app (goodIn_of _ (by decide +kernel)) ggX4_slot_X4_isSlot
set_option maxRecDepth 20000 in
theorem ggX4_slot_X4_require : GoodIn wsX4_slot wsX4_require := goodIn_ca (goodIn_r _ [11, 12, 13] (by decide +kernel) (by decide +kernel)) (goodIn_sub (fun _ h => List.mem_cons_of_mem _ (List.mem_append_right _ h)) (by decide +kernel))
set_option maxRecDepth 20000 in
theorem gX4_slot_X4_require : GoodIn wsX4_slot (va_wsS RX4 87 yX4_require wsX4_require) := goodIn_app (goodIn_of _ (by decide +kernel)) ggX4_slot_X4_require
theorem dX4_slot_0 : decode cX4_slot 0 = .ok (.iload_n 1, 1) := by decide +kernel
theorem dX4_slot_1 : decode cX4_slot 1 = .ok (.iload_n 2, 1) := by decide +kernel
theorem dX4_slot_2 : decode cX4_slot 2 = .ok (.invokestatic 154, 3) := by decide +kernel
theorem dX4_slot_5 : decode cX4_slot 5 = .ok (.invokestatic 87, 3) := by decide +kernel
theorem dX4_slot_8 : decode cX4_slot 8 = .ok (.aload_n 0, 1) := by decide +kernel
theorem dX4_slot_9 : decode cX4_slot 9 = .ok (.getfield 21, 3) := by decide +kernel
theorem dX4_slot_12 : decode cX4_slot 12 = .ok (.getfield 158, 3) := by decide +kernel
theorem dX4_slot_15 : decode cX4_slot 15 = .ok (.iload_n 1, 1) := by decide +kernel
theorem dX4_slot_16 : decode cX4_slot 16 = .ok (.aaload, 1) := by decide +kernel
theorem dX4_slot_17 : decode cX4_slot 17 = .ok (.iload_n 2, 1) := by decide +kernel
theorem dX4_slot_18 : decode cX4_slot 18 = .ok (.iaload, 1) := by decide +kernel
theorem dX4_slot_19 : decode cX4_slot 19 = .ok (.ifCond .lt 13, 3) := by decide +kernel
theorem dX4_slot_22 : decode cX4_slot 22 = .ok (.new 57, 3) := by decide +kernel
theorem dX4_slot_25 : decode cX4_slot 25 = .ok (.dup, 1) := by decide +kernel
theorem dX4_slot_26 : decode cX4_slot 26 = .ok (.ldc 162, 2) := by decide +kernel
theorem dX4_slot_28 : decode cX4_slot 28 = .ok (.invokespecial 61, 3) := by decide +kernel
theorem dX4_slot_31 : decode cX4_slot 31 = .ok (.athrow, 1) := by decide +kernel
theorem dX4_slot_32 : decode cX4_slot 32 = .ok (.aload_n 0, 1) := by decide +kernel
theorem dX4_slot_33 : decode cX4_slot 33 = .ok (.getfield 21, 3) := by decide +kernel
theorem dX4_slot_36 : decode cX4_slot 36 = .ok (.getfield 158, 3) := by decide +kernel
theorem dX4_slot_39 : decode cX4_slot 39 = .ok (.iload_n 1, 1) := by decide +kernel
theorem dX4_slot_40 : decode cX4_slot 40 = .ok (.aaload, 1) := by decide +kernel
theorem dX4_slot_41 : decode cX4_slot 41 = .ok (.iload_n 2, 1) := by decide +kernel
theorem dX4_slot_42 : decode cX4_slot 42 = .ok (.iload_n 3, 1) := by decide +kernel
theorem dX4_slot_43 : decode cX4_slot 43 = .ok (.ifCond .eq 7, 3) := by decide +kernel
theorem dX4_slot_46 : decode cX4_slot 46 = .ok (.iconst (-1), 1) := by decide +kernel
theorem dX4_slot_47 : decode cX4_slot 47 = .ok (.goto 5, 3) := by decide +kernel
theorem dX4_slot_50 : decode cX4_slot 50 = .ok (.bipush (-2), 2) := by decide +kernel
theorem dX4_slot_52 : decode cX4_slot 52 = .ok (.iastore, 1) := by decide +kernel
theorem dX4_slot_53 : decode cX4_slot 53 = .ok (.return_, 1) := by decide +kernel
set_option maxRecDepth 20000 in
theorem ggX4_carries_X4_isSlot : GoodIn wsX4_carries wsX4_isSlot := goodIn_r _ [6] (by decide +kernel) (by decide +kernel)
set_option maxRecDepth 20000 in
theorem gX4_carries_X4_isSlot : GoodIn wsX4_carries (va_wsS RX4 154 yX4_isSlot wsX4_isSlot) := goodIn_app (goodIn_of _ (by decide +kernel)) ggX4_carries_X4_isSlot
set_option maxRecDepth 20000 in
theorem ggX4_carries_X4_require : GoodIn wsX4_carries wsX4_require := goodIn_ca (goodIn_r _ [9, 10, 11] (by decide +kernel) (by decide +kernel)) (goodIn_sub (fun _ h => List.mem_cons_of_mem _ (List.mem_append_right _ h)) (by decide +kernel))
set_option maxRecDepth 20000 in
theorem gX4_carries_X4_require : GoodIn wsX4_carries (va_wsS RX4 87 yX4_require wsX4_require) := goodIn_app (goodIn_of _ (by decide +kernel)) ggX4_carries_X4_require
theorem dX4_carries_0 : decode cX4_carries 0 = .ok (.iload_n 1, 1) := by decide +kernel
theorem dX4_carries_1 : decode cX4_carries 1 = .ok (.iload_n 2, 1) := by decide +kernel
theorem dX4_carries_2 : decode cX4_carries 2 = .ok (.invokestatic 154, 3) := by decide +kernel
theorem dX4_carries_5 : decode cX4_carries 5 = .ok (.invokestatic 87, 3) := by decide +kernel
theorem dX4_carries_8 : decode cX4_carries 8 = .ok (.aload_n 0, 1) := by decide +kernel
theorem dX4_carries_9 : decode cX4_carries 9 = .ok (.getfield 21, 3) := by decide +kernel
theorem dX4_carries_12 : decode cX4_carries 12 = .ok (.getfield 158, 3) := by decide +kernel
theorem dX4_carries_15 : decode cX4_carries 15 = .ok (.iload_n 1, 1) := by decide +kernel
theorem dX4_carries_16 : decode cX4_carries 16 = .ok (.aaload, 1) := by decide +kernel
theorem dX4_carries_17 : decode cX4_carries 17 = .ok (.iload_n 2, 1) := by decide +kernel
theorem dX4_carries_18 : decode cX4_carries 18 = .ok (.iaload, 1) := by decide +kernel
theorem dX4_carries_19 : decode cX4_carries 19 = .ok (.ireturn, 1) := by decide +kernel
set_option maxRecDepth 20000 in
theorem ggX4_line_X4_lineOf : GoodIn wsX4_line wsX4_lineOf := goodIn_ca (goodIn_r _ [11, 12, 13, 14, 10, 15, 16, 17, 18, 19, 20, 55, 56, 57, 58, 59, 60, 61] (by decide +kernel) (by decide +kernel)) (goodIn_sub (fun _ h => List.mem_cons_of_mem _ (List.mem_append_right _ h)) (by decide +kernel))
set_option maxRecDepth 20000 in
theorem gX4_line_X4_lineOf : GoodIn wsX4_line (wsV RX4 49 RX4 yX4_lineOf wsX4_lineOf) := goodIn_app (goodIn_of _ (by decide +kernel)) ggX4_line_X4_lineOf
set_option maxRecDepth 20000 in
theorem ggX4_line_X4_require : GoodIn wsX4_line wsX4_require := goodIn_ca (goodIn_r _ [18, 19, 20] (by decide +kernel) (by decide +kernel)) (goodIn_sub (fun _ h => List.mem_cons_of_mem _ (List.mem_append_right _ h)) (by decide +kernel))
set_option maxRecDepth 20000 in
theorem gX4_line_X4_require : GoodIn wsX4_line (va_wsS RX4 87 yX4_require wsX4_require) := goodIn_app (goodIn_of _ (by decide +kernel)) ggX4_line_X4_require
set_option maxRecDepth 20000 in
theorem ggX4_line_X4_lowestRinging : GoodIn wsX4_line wsX4_lowestRinging := goodIn_r _ [24, 12, 25, 26, 27, 28, 29, 30, 31, 55, 56, 57, 58, 59, 60, 61, 44, 45, 46, 47, 48, 49, 50, 51, 52, 53, 54] (by decide +kernel) (by decide +kernel)
set_option maxRecDepth 20000 in
theorem gX4_line_X4_lowestRinging : GoodIn wsX4_line (wsV RX4 164 RX4 yX4_lowestRinging wsX4_lowestRinging) := goodIn_app (goodIn_of _ (by decide +kernel)) ggX4_line_X4_lowestRinging
set_option maxRecDepth 20000 in
theorem ggX4_line_X4_slotOf : GoodIn wsX4_line wsX4_slotOf := goodIn_r _ [35, 1, 36, 37, 12, 21, 22, 23, 10, 24, 25, 26, 27, 28, 29, 30, 31, 44, 45, 46, 47, 48, 49, 50, 51, 52, 53, 54, 55, 56, 57, 58, 59, 60, 61] (by decide +kernel) (by decide +kernel)
set_option maxRecDepth 20000 in
theorem gX4_line_X4_slotOf : GoodIn wsX4_line (wsV RX4 168 RX4 yX4_slotOf wsX4_slotOf) := goodIn_app (goodIn_of _ (by decide +kernel)) ggX4_line_X4_slotOf
set_option maxRecDepth 20000 in
theorem ggX4_line_X4_unitsOf : GoodIn wsX4_line wsX4_unitsOf := goodIn_r _ [41, 42, 43, 55, 56, 57, 58, 59, 60, 61, 44, 45, 46, 47, 48, 49, 50, 51, 52, 53, 54] (by decide +kernel) (by decide +kernel)
set_option maxRecDepth 20000 in
theorem gX4_line_X4_unitsOf : GoodIn wsX4_line (wsV RX4 179 RX4 yX4_unitsOf wsX4_unitsOf) := goodIn_app (goodIn_of _ (by decide +kernel)) ggX4_line_X4_unitsOf
theorem dX4_line_0 : decode cX4_line 0 = .ok (.aload_n 0, 1) := by decide +kernel
theorem dX4_line_1 : decode cX4_line 1 = .ok (.iload_n 1, 1) := by decide +kernel
theorem dX4_line_2 : decode cX4_line 2 = .ok (.invokevirtual 49, 3) := by decide +kernel
theorem dX4_line_5 : decode cX4_line 5 = .ok (.astore_n 3, 1) := by decide +kernel
theorem dX4_line_6 : decode cX4_line 6 = .ok (.iload_n 2, 1) := by decide +kernel
theorem dX4_line_7 : decode cX4_line 7 = .ok (.ifCond .lt 12, 3) := by decide +kernel
theorem dX4_line_10 : decode cX4_line 10 = .ok (.iload_n 2, 1) := by decide +kernel
theorem dX4_line_11 : decode cX4_line 11 = .ok (.iconst 5, 1) := by decide +kernel
theorem dX4_line_12 : decode cX4_line 12 = .ok (.if_icmp .gt 7, 3) := by decide +kernel
theorem dX4_line_15 : decode cX4_line 15 = .ok (.iconst 1, 1) := by decide +kernel
theorem dX4_line_16 : decode cX4_line 16 = .ok (.goto 4, 3) := by decide +kernel
theorem dX4_line_19 : decode cX4_line 19 = .ok (.iconst 0, 1) := by decide +kernel
theorem dX4_line_20 : decode cX4_line 20 = .ok (.invokestatic 87, 3) := by decide +kernel
theorem dX4_line_23 : decode cX4_line 23 = .ok (.iload_n 2, 1) := by decide +kernel
theorem dX4_line_24 : decode cX4_line 24 = .ok (.tableswitch 106 0 4 #[36, 41, 62, 68, 93], 36) := by decide +kernel
theorem dX4_line_60 : decode cX4_line 60 = .ok (.aload_n 3, 1) := by decide +kernel
theorem dX4_line_61 : decode cX4_line 61 = .ok (.getfield 64, 3) := by decide +kernel
theorem dX4_line_64 : decode cX4_line 64 = .ok (.ireturn, 1) := by decide +kernel
theorem dX4_line_65 : decode cX4_line 65 = .ok (.aload_n 3, 1) := by decide +kernel
theorem dX4_line_66 : decode cX4_line 66 = .ok (.getfield 64, 3) := by decide +kernel
theorem dX4_line_69 : decode cX4_line 69 = .ok (.iconst 3, 1) := by decide +kernel
theorem dX4_line_70 : decode cX4_line 70 = .ok (.if_icmp .ne 11, 3) := by decide +kernel
theorem dX4_line_73 : decode cX4_line 73 = .ok (.aload_n 0, 1) := by decide +kernel
theorem dX4_line_74 : decode cX4_line 74 = .ok (.iload_n 1, 1) := by decide +kernel
theorem dX4_line_75 : decode cX4_line 75 = .ok (.invokevirtual 164, 3) := by decide +kernel
theorem dX4_line_78 : decode cX4_line 78 = .ok (.goto 7, 3) := by decide +kernel
theorem dX4_line_81 : decode cX4_line 81 = .ok (.aload_n 3, 1) := by decide +kernel
theorem dX4_line_82 : decode cX4_line 82 = .ok (.getfield 106, 3) := by decide +kernel
theorem dX4_line_85 : decode cX4_line 85 = .ok (.ireturn, 1) := by decide +kernel
theorem dX4_line_86 : decode cX4_line 86 = .ok (.aload_n 0, 1) := by decide +kernel
theorem dX4_line_87 : decode cX4_line 87 = .ok (.aload_n 3, 1) := by decide +kernel
theorem dX4_line_88 : decode cX4_line 88 = .ok (.invokevirtual 168, 3) := by decide +kernel
theorem dX4_line_91 : decode cX4_line 91 = .ok (.ireturn, 1) := by decide +kernel
theorem dX4_line_92 : decode cX4_line 92 = .ok (.aload_n 3, 1) := by decide +kernel
theorem dX4_line_93 : decode cX4_line 93 = .ok (.getfield 172, 3) := by decide +kernel
theorem dX4_line_96 : decode cX4_line 96 = .ok (.ifCond .eq 16, 3) := by decide +kernel
theorem dX4_line_99 : decode cX4_line 99 = .ok (.aload_n 3, 1) := by decide +kernel
theorem dX4_line_100 : decode cX4_line 100 = .ok (.getfield 176, 3) := by decide +kernel
theorem dX4_line_103 : decode cX4_line 103 = .ok (.aload_n 0, 1) := by decide +kernel
theorem dX4_line_104 : decode cX4_line 104 = .ok (.aload_n 3, 1) := by decide +kernel
theorem dX4_line_105 : decode cX4_line 105 = .ok (.invokevirtual 179, 3) := by decide +kernel
theorem dX4_line_108 : decode cX4_line 108 = .ok (.iadd, 1) := by decide +kernel
theorem dX4_line_109 : decode cX4_line 109 = .ok (.goto 7, 3) := by decide +kernel
theorem dX4_line_112 : decode cX4_line 112 = .ok (.aload_n 3, 1) := by decide +kernel
theorem dX4_line_113 : decode cX4_line 113 = .ok (.getfield 176, 3) := by decide +kernel
theorem dX4_line_116 : decode cX4_line 116 = .ok (.ireturn, 1) := by decide +kernel
theorem dX4_line_117 : decode cX4_line 117 = .ok (.aload_n 3, 1) := by decide +kernel
theorem dX4_line_118 : decode cX4_line 118 = .ok (.getfield 182, 3) := by decide +kernel
theorem dX4_line_121 : decode cX4_line 121 = .ok (.ifCond .eq 7, 3) := by decide +kernel
theorem dX4_line_124 : decode cX4_line 124 = .ok (.iconst 1, 1) := by decide +kernel
theorem dX4_line_125 : decode cX4_line 125 = .ok (.goto 4, 3) := by decide +kernel
theorem dX4_line_128 : decode cX4_line 128 = .ok (.iconst 0, 1) := by decide +kernel
theorem dX4_line_129 : decode cX4_line 129 = .ok (.ireturn, 1) := by decide +kernel
theorem dX4_line_130 : decode cX4_line 130 = .ok (.aload_n 3, 1) := by decide +kernel
theorem dX4_line_131 : decode cX4_line 131 = .ok (.getfield 101, 3) := by decide +kernel
theorem dX4_line_134 : decode cX4_line 134 = .ok (.ireturn, 1) := by decide +kernel
set_option maxRecDepth 20000 in
theorem ggX4_count_X4_require : GoodIn wsX4_count wsX4_require := goodIn_ca (goodIn_r _ [8, 9, 10] (by decide +kernel) (by decide +kernel)) (goodIn_sub (fun _ h => List.mem_cons_of_mem _ (List.mem_append_right _ h)) (by decide +kernel))
set_option maxRecDepth 20000 in
theorem gX4_count_X4_require : GoodIn wsX4_count (va_wsS RX4 87 yX4_require wsX4_require) := goodIn_app (goodIn_of _ (by decide +kernel)) ggX4_count_X4_require
set_option maxRecDepth 20000 in
theorem ggX4_count_X3_slotsInUse : GoodIn wsX4_count wsX3_slotsInUse := goodIn_r _ [15, 16, 26] (by decide +kernel) (by decide +kernel)
set_option maxRecDepth 20000 in
theorem gX4_count_X3_slotsInUse : GoodIn wsX4_count (wsV RX4 191 RX3 yX3_slotsInUse wsX3_slotsInUse) := goodIn_app (goodIn_of _ (by decide +kernel)) ggX4_count_X3_slotsInUse
theorem dX4_count_0 : decode cX4_count 0 = .ok (.iload_n 1, 1) := by decide +kernel
theorem dX4_count_1 : decode cX4_count 1 = .ok (.ifCond .lt 12, 3) := by decide +kernel
theorem dX4_count_4 : decode cX4_count 4 = .ok (.iload_n 1, 1) := by decide +kernel
theorem dX4_count_5 : decode cX4_count 5 = .ok (.iconst 2, 1) := by decide +kernel
theorem dX4_count_6 : decode cX4_count 6 = .ok (.if_icmp .gt 7, 3) := by decide +kernel
theorem dX4_count_9 : decode cX4_count 9 = .ok (.iconst 1, 1) := by decide +kernel
theorem dX4_count_10 : decode cX4_count 10 = .ok (.goto 4, 3) := by decide +kernel
theorem dX4_count_13 : decode cX4_count 13 = .ok (.iconst 0, 1) := by decide +kernel
theorem dX4_count_14 : decode cX4_count 14 = .ok (.invokestatic 87, 3) := by decide +kernel
theorem dX4_count_17 : decode cX4_count 17 = .ok (.iload_n 1, 1) := by decide +kernel
theorem dX4_count_18 : decode cX4_count 18 = .ok (.ifCond .ne 8, 3) := by decide +kernel
theorem dX4_count_21 : decode cX4_count 21 = .ok (.aload_n 0, 1) := by decide +kernel
theorem dX4_count_22 : decode cX4_count 22 = .ok (.getfield 185, 3) := by decide +kernel
theorem dX4_count_25 : decode cX4_count 25 = .ok (.ireturn, 1) := by decide +kernel
theorem dX4_count_26 : decode cX4_count 26 = .ok (.iload_n 1, 1) := by decide +kernel
theorem dX4_count_27 : decode cX4_count 27 = .ok (.iconst 1, 1) := by decide +kernel
theorem dX4_count_28 : decode cX4_count 28 = .ok (.if_icmp .ne 13, 3) := by decide +kernel
theorem dX4_count_31 : decode cX4_count 31 = .ok (.aload_n 0, 1) := by decide +kernel
theorem dX4_count_32 : decode cX4_count 32 = .ok (.getfield 45, 3) := by decide +kernel
theorem dX4_count_35 : decode cX4_count 35 = .ok (.getfield 188, 3) := by decide +kernel
theorem dX4_count_38 : decode cX4_count 38 = .ok (.goto 10, 3) := by decide +kernel
theorem dX4_count_41 : decode cX4_count 41 = .ok (.aload_n 0, 1) := by decide +kernel
theorem dX4_count_42 : decode cX4_count 42 = .ok (.getfield 21, 3) := by decide +kernel
theorem dX4_count_45 : decode cX4_count 45 = .ok (.invokevirtual 191, 3) := by decide +kernel
theorem dX4_count_48 : decode cX4_count 48 = .ok (.ireturn, 1) := by decide +kernel
set_option maxRecDepth 20000 in
theorem ggX4_book_X4_require : GoodIn wsX4_book wsX4_require := goodIn_ca (goodIn_r _ [7, 8, 9] (by decide +kernel) (by decide +kernel)) (goodIn_sub (fun _ h => List.mem_cons_of_mem _ (List.mem_append_right _ h)) (by decide +kernel))
set_option maxRecDepth 20000 in
theorem gX4_book_X4_require : GoodIn wsX4_book (va_wsS RX4 87 yX4_require wsX4_require) := goodIn_app (goodIn_of _ (by decide +kernel)) ggX4_book_X4_require
set_option maxRecDepth 20000 in
theorem ggX4_book_X0_keeps : GoodIn wsX4_book wsX0_keeps := goodIn_r _ [14, 15, 28, 29] (by decide +kernel) (by decide +kernel)
set_option maxRecDepth 20000 in
theorem gX4_book_X0_keeps : GoodIn wsX4_book (wsV RX4 194 RX0 yX0_keeps wsX0_keeps) := goodIn_app (goodIn_of _ (by decide +kernel)) ggX4_book_X0_keeps
set_option maxRecDepth 20000 in
theorem ggX4_book_X0_read : GoodIn wsX4_book wsX0_read := goodIn_r _ [19, 20, 28, 29] (by decide +kernel) (by decide +kernel)
set_option maxRecDepth 20000 in
theorem gX4_book_X0_read : GoodIn wsX4_book (wsV RX4 202 RX0 yX0_read wsX0_read) := goodIn_app (goodIn_of _ (by decide +kernel)) ggX4_book_X0_read
theorem dX4_book_0 : decode cX4_book 0 = .ok (.iload_n 2, 1) := by decide +kernel
theorem dX4_book_1 : decode cX4_book 1 = .ok (.ifCond .lt 12, 3) := by decide +kernel
theorem dX4_book_4 : decode cX4_book 4 = .ok (.iload_n 2, 1) := by decide +kernel
theorem dX4_book_5 : decode cX4_book 5 = .ok (.iconst 4, 1) := by decide +kernel
theorem dX4_book_6 : decode cX4_book 6 = .ok (.if_icmp .ge 7, 3) := by decide +kernel
theorem dX4_book_9 : decode cX4_book 9 = .ok (.iconst 1, 1) := by decide +kernel
theorem dX4_book_10 : decode cX4_book 10 = .ok (.goto 4, 3) := by decide +kernel
theorem dX4_book_13 : decode cX4_book 13 = .ok (.iconst 0, 1) := by decide +kernel
theorem dX4_book_14 : decode cX4_book 14 = .ok (.invokestatic 87, 3) := by decide +kernel
theorem dX4_book_17 : decode cX4_book 17 = .ok (.aload_n 0, 1) := by decide +kernel
theorem dX4_book_18 : decode cX4_book 18 = .ok (.getfield 45, 3) := by decide +kernel
theorem dX4_book_21 : decode cX4_book 21 = .ok (.iload_n 1, 1) := by decide +kernel
theorem dX4_book_22 : decode cX4_book 22 = .ok (.invokevirtual 194, 3) := by decide +kernel
theorem dX4_book_25 : decode cX4_book 25 = .ok (.ifCond .ne 13, 3) := by decide +kernel
theorem dX4_book_28 : decode cX4_book 28 = .ok (.new 197, 3) := by decide +kernel
theorem dX4_book_31 : decode cX4_book 31 = .ok (.dup, 1) := by decide +kernel
theorem dX4_book_32 : decode cX4_book 32 = .ok (.ldc 199, 2) := by decide +kernel
theorem dX4_book_34 : decode cX4_book 34 = .ok (.invokespecial 201, 3) := by decide +kernel
theorem dX4_book_37 : decode cX4_book 37 = .ok (.athrow, 1) := by decide +kernel
theorem dX4_book_38 : decode cX4_book 38 = .ok (.aload_n 0, 1) := by decide +kernel
theorem dX4_book_39 : decode cX4_book 39 = .ok (.getfield 45, 3) := by decide +kernel
theorem dX4_book_42 : decode cX4_book 42 = .ok (.iload_n 1, 1) := by decide +kernel
theorem dX4_book_43 : decode cX4_book 43 = .ok (.iload_n 2, 1) := by decide +kernel
theorem dX4_book_44 : decode cX4_book 44 = .ok (.invokevirtual 202, 3) := by decide +kernel
theorem dX4_book_47 : decode cX4_book 47 = .ok (.ireturn, 1) := by decide +kernel
theorem dX4_require_0 : decode cX4_require 0 = .ok (.iload_n 0, 1) := by decide +kernel
theorem dX4_require_1 : decode cX4_require 1 = .ok (.ifCond .ne 13, 3) := by decide +kernel
theorem dX4_require_4 : decode cX4_require 4 = .ok (.new 205, 3) := by decide +kernel
theorem dX4_require_7 : decode cX4_require 7 = .ok (.dup, 1) := by decide +kernel
theorem dX4_require_8 : decode cX4_require 8 = .ok (.ldc 207, 2) := by decide +kernel
theorem dX4_require_10 : decode cX4_require 10 = .ok (.invokespecial 209, 3) := by decide +kernel
theorem dX4_require_13 : decode cX4_require 13 = .ok (.athrow, 1) := by decide +kernel
theorem dX4_require_14 : decode cX4_require 14 = .ok (.return_, 1) := by decide +kernel
theorem dX4_isLine_0 : decode cX4_isLine 0 = .ok (.iload_n 0, 1) := by decide +kernel
theorem dX4_isLine_1 : decode cX4_isLine 1 = .ok (.ifCond .lt 13, 3) := by decide +kernel
theorem dX4_isLine_4 : decode cX4_isLine 4 = .ok (.iload_n 0, 1) := by decide +kernel
theorem dX4_isLine_5 : decode cX4_isLine 5 = .ok (.bipush 24, 2) := by decide +kernel
theorem dX4_isLine_7 : decode cX4_isLine 7 = .ok (.if_icmp .ge 7, 3) := by decide +kernel
theorem dX4_isLine_10 : decode cX4_isLine 10 = .ok (.iconst 1, 1) := by decide +kernel
theorem dX4_isLine_11 : decode cX4_isLine 11 = .ok (.goto 4, 3) := by decide +kernel
theorem dX4_isLine_14 : decode cX4_isLine 14 = .ok (.iconst 0, 1) := by decide +kernel
theorem dX4_isLine_15 : decode cX4_isLine 15 = .ok (.ireturn, 1) := by decide +kernel
theorem dX4_isSlot_0 : decode cX4_isSlot 0 = .ok (.iload_n 0, 1) := by decide +kernel
theorem dX4_isSlot_1 : decode cX4_isSlot 1 = .ok (.ifCond .lt 22, 3) := by decide +kernel
theorem dX4_isSlot_4 : decode cX4_isSlot 4 = .ok (.iload_n 0, 1) := by decide +kernel
theorem dX4_isSlot_5 : decode cX4_isSlot 5 = .ok (.iconst 4, 1) := by decide +kernel
theorem dX4_isSlot_6 : decode cX4_isSlot 6 = .ok (.if_icmp .ge 17, 3) := by decide +kernel
theorem dX4_isSlot_9 : decode cX4_isSlot 9 = .ok (.iload_n 1, 1) := by decide +kernel
theorem dX4_isSlot_10 : decode cX4_isSlot 10 = .ok (.ifCond .lt 13, 3) := by decide +kernel
theorem dX4_isSlot_13 : decode cX4_isSlot 13 = .ok (.iload_n 1, 1) := by decide +kernel
theorem dX4_isSlot_14 : decode cX4_isSlot 14 = .ok (.bipush 8, 2) := by decide +kernel
theorem dX4_isSlot_16 : decode cX4_isSlot 16 = .ok (.if_icmp .ge 7, 3) := by decide +kernel
theorem dX4_isSlot_19 : decode cX4_isSlot 19 = .ok (.iconst 1, 1) := by decide +kernel
theorem dX4_isSlot_20 : decode cX4_isSlot 20 = .ok (.goto 4, 3) := by decide +kernel
theorem dX4_isSlot_23 : decode cX4_isSlot 23 = .ok (.iconst 0, 1) := by decide +kernel
theorem dX4_isSlot_24 : decode cX4_isSlot 24 = .ok (.ireturn, 1) := by decide +kernel
set_option maxRecDepth 20000 in
theorem ggX4_lineOf_X4_isLine : GoodIn wsX4_lineOf wsX4_isLine := goodIn_r _ [5] (by decide +kernel) (by decide +kernel)
set_option maxRecDepth 20000 in
theorem gX4_lineOf_X4_isLine : GoodIn wsX4_lineOf (va_wsS RX4 139 yX4_isLine wsX4_isLine) := goodIn_app (goodIn_of _ (by decide +kernel)) ggX4_lineOf_X4_isLine
set_option maxRecDepth 20000 in
theorem ggX4_lineOf_X4_require : GoodIn wsX4_lineOf wsX4_require := goodIn_ca (goodIn_r _ [8, 9, 10] (by decide +kernel) (by decide +kernel)) (goodIn_sub (fun _ h => List.mem_cons_of_mem _ (List.mem_append_right _ h)) (by decide +kernel))
set_option maxRecDepth 20000 in
theorem gX4_lineOf_X4_require : GoodIn wsX4_lineOf (va_wsS RX4 87 yX4_require wsX4_require) := goodIn_app (goodIn_of _ (by decide +kernel)) ggX4_lineOf_X4_require
theorem dX4_lineOf_0 : decode cX4_lineOf 0 = .ok (.iload_n 1, 1) := by decide +kernel
theorem dX4_lineOf_1 : decode cX4_lineOf 1 = .ok (.invokestatic 139, 3) := by decide +kernel
theorem dX4_lineOf_4 : decode cX4_lineOf 4 = .ok (.invokestatic 87, 3) := by decide +kernel
theorem dX4_lineOf_7 : decode cX4_lineOf 7 = .ok (.aload_n 0, 1) := by decide +kernel
theorem dX4_lineOf_8 : decode cX4_lineOf 8 = .ok (.getfield 11, 3) := by decide +kernel
theorem dX4_lineOf_11 : decode cX4_lineOf 11 = .ok (.iload_n 1, 1) := by decide +kernel
theorem dX4_lineOf_12 : decode cX4_lineOf 12 = .ok (.aaload, 1) := by decide +kernel
theorem dX4_lineOf_13 : decode cX4_lineOf 13 = .ok (.areturn, 1) := by decide +kernel
set_option maxRecDepth 20000 in
theorem ggX4_slotOf_X4_lowestRinging : GoodIn wsX4_slotOf wsX4_lowestRinging := goodIn_r _ [9, 4, 10, 11, 12, 13, 14, 15, 16, 28, 29, 30, 31, 32, 33, 34, 17, 18, 19, 20, 21, 22, 23, 24, 25, 26, 27] (by decide +kernel) (by decide +kernel)
set_option maxRecDepth 20000 in
theorem gX4_slotOf_X4_lowestRinging : GoodIn wsX4_slotOf (wsV RX4 164 RX4 yX4_lowestRinging wsX4_lowestRinging) := goodIn_app (goodIn_of _ (by decide +kernel)) ggX4_slotOf_X4_lowestRinging
theorem dX4_slotOf_0 : decode cX4_slotOf 0 = .ok (.aload_n 1, 1) := by decide +kernel
theorem dX4_slotOf_1 : decode cX4_slotOf 1 = .ok (.getfield 64, 3) := by decide +kernel
theorem dX4_slotOf_4 : decode cX4_slotOf 4 = .ok (.iconst 3, 1) := by decide +kernel
theorem dX4_slotOf_5 : decode cX4_slotOf 5 = .ok (.if_icmp .eq 8, 3) := by decide +kernel
theorem dX4_slotOf_8 : decode cX4_slotOf 8 = .ok (.aload_n 1, 1) := by decide +kernel
theorem dX4_slotOf_9 : decode cX4_slotOf 9 = .ok (.getfield 210, 3) := by decide +kernel
theorem dX4_slotOf_12 : decode cX4_slotOf 12 = .ok (.ireturn, 1) := by decide +kernel
theorem dX4_slotOf_13 : decode cX4_slotOf 13 = .ok (.aload_n 0, 1) := by decide +kernel
theorem dX4_slotOf_14 : decode cX4_slotOf 14 = .ok (.aload_n 1, 1) := by decide +kernel
theorem dX4_slotOf_15 : decode cX4_slotOf 15 = .ok (.getfield 115, 3) := by decide +kernel
theorem dX4_slotOf_18 : decode cX4_slotOf 18 = .ok (.invokevirtual 164, 3) := by decide +kernel
theorem dX4_slotOf_21 : decode cX4_slotOf 21 = .ok (.istore_n 2, 1) := by decide +kernel
theorem dX4_slotOf_22 : decode cX4_slotOf 22 = .ok (.iload_n 2, 1) := by decide +kernel
theorem dX4_slotOf_23 : decode cX4_slotOf 23 = .ok (.iconst (-1), 1) := by decide +kernel
theorem dX4_slotOf_24 : decode cX4_slotOf 24 = .ok (.if_icmp .ne 7, 3) := by decide +kernel
theorem dX4_slotOf_27 : decode cX4_slotOf 27 = .ok (.iconst (-1), 1) := by decide +kernel
theorem dX4_slotOf_28 : decode cX4_slotOf 28 = .ok (.goto 12, 3) := by decide +kernel
theorem dX4_slotOf_31 : decode cX4_slotOf 31 = .ok (.aload_n 0, 1) := by decide +kernel
theorem dX4_slotOf_32 : decode cX4_slotOf 32 = .ok (.getfield 11, 3) := by decide +kernel
theorem dX4_slotOf_35 : decode cX4_slotOf 35 = .ok (.iload_n 2, 1) := by decide +kernel
theorem dX4_slotOf_36 : decode cX4_slotOf 36 = .ok (.aaload, 1) := by decide +kernel
theorem dX4_slotOf_37 : decode cX4_slotOf 37 = .ok (.getfield 210, 3) := by decide +kernel
theorem dX4_slotOf_40 : decode cX4_slotOf 40 = .ok (.ireturn, 1) := by decide +kernel
set_option maxRecDepth 20000 in
theorem ggX4_lowestRinging_X2_ringsFor : GoodIn wsX4_lowestRinging wsX2_ringsFor := goodIn_r _ [6, 7, 8, 16, 17, 18, 19, 20, 21, 22, 23, 24, 25, 26] (by decide +kernel) (by decide +kernel)
set_option maxRecDepth 20000 in
theorem gX4_lowestRinging_X2_ringsFor : GoodIn wsX4_lowestRinging (wsV RX4 213 RX2 yX2_ringsFor wsX2_ringsFor) := goodIn_app (goodIn_of _ (by decide +kernel)) ggX4_lowestRinging_X2_ringsFor
theorem dX4_lowestRinging_0 : decode cX4_lowestRinging 0 = .ok (.iconst 0, 1) := by decide +kernel
theorem dX4_lowestRinging_1 : decode cX4_lowestRinging 1 = .ok (.istore_n 2, 1) := by decide +kernel
theorem dX4_lowestRinging_2 : decode cX4_lowestRinging 2 = .ok (.iload_n 2, 1) := by decide +kernel
theorem dX4_lowestRinging_3 : decode cX4_lowestRinging 3 = .ok (.bipush 24, 2) := by decide +kernel
theorem dX4_lowestRinging_5 : decode cX4_lowestRinging 5 = .ok (.if_icmp .ge 24, 3) := by decide +kernel
theorem dX4_lowestRinging_8 : decode cX4_lowestRinging 8 = .ok (.aload_n 0, 1) := by decide +kernel
theorem dX4_lowestRinging_9 : decode cX4_lowestRinging 9 = .ok (.getfield 11, 3) := by decide +kernel
theorem dX4_lowestRinging_12 : decode cX4_lowestRinging 12 = .ok (.iload_n 2, 1) := by decide +kernel
theorem dX4_lowestRinging_13 : decode cX4_lowestRinging 13 = .ok (.aaload, 1) := by decide +kernel
theorem dX4_lowestRinging_14 : decode cX4_lowestRinging 14 = .ok (.iload_n 1, 1) := by decide +kernel
theorem dX4_lowestRinging_15 : decode cX4_lowestRinging 15 = .ok (.invokevirtual 213, 3) := by decide +kernel
theorem dX4_lowestRinging_18 : decode cX4_lowestRinging 18 = .ok (.ifCond .eq 5, 3) := by decide +kernel
theorem dX4_lowestRinging_21 : decode cX4_lowestRinging 21 = .ok (.iload_n 2, 1) := by decide +kernel
theorem dX4_lowestRinging_22 : decode cX4_lowestRinging 22 = .ok (.ireturn, 1) := by decide +kernel
theorem dX4_lowestRinging_23 : decode cX4_lowestRinging 23 = .ok (.iinc 2 1, 3) := by decide +kernel
theorem dX4_lowestRinging_26 : decode cX4_lowestRinging 26 = .ok (.goto (-24), 3) := by decide +kernel
theorem dX4_lowestRinging_29 : decode cX4_lowestRinging 29 = .ok (.iconst (-1), 1) := by decide +kernel
theorem dX4_lowestRinging_30 : decode cX4_lowestRinging 30 = .ok (.ireturn, 1) := by decide +kernel
set_option maxRecDepth 20000 in
theorem ggX4_call_X4_callLine : GoodIn wsX4_call wsX4_callLine := goodIn_r _ [9, 3, 4, 10, 11, 12, 13, 14, 15, 16, 17, 18, 19, 20, 21, 22, 23, 24, 25, 26, 8, 27, 28, 29, 30, 31, 32, 33, 34, 35, 36, 37, 38, 39, 40, 41, 42, 43, 44, 45, 46, 47, 48, 49, 50, 51, 52, 53, 54, 139, 140, 141, 142, 143, 144, 145, 146, 147, 148, 149, 132, 133, 134, 135, 136, 137, 138, 150] (by decide +kernel) (by decide +kernel)
set_option maxRecDepth 20000 in
theorem gX4_call_X4_callLine : GoodIn wsX4_call (wsV RX4 216 RX4 yX4_callLine wsX4_callLine) := goodIn_app (goodIn_of _ (by decide +kernel)) ggX4_call_X4_callLine
set_option maxRecDepth 20000 in
theorem ggX4_call_X4_callGroup : GoodIn wsX4_call wsX4_callGroup := goodIn_r _ [58, 59, 4, 60, 61, 62, 8, 63, 64, 1, 65, 66, 67, 68, 10, 3, 24, 25, 26, 27, 28, 11, 29, 30, 31, 32, 33, 34, 35, 36, 37, 38, 39, 40, 41, 42, 43, 44, 45, 46, 47, 48, 49, 13, 14, 15, 16, 17, 18, 19, 20, 21, 22, 23, 69, 70, 71, 72, 73, 74, 75, 76, 77, 78, 79, 80, 81, 82, 83, 84, 85, 86, 87, 88, 89, 90, 91, 92, 50, 51, 52, 53, 54, 151, 152, 153, 154, 132, 133, 134, 135, 136, 137, 138, 139, 140, 141, 142, 143, 144, 145, 146, 147, 148, 149, 150] (by decide +kernel) (by decide +kernel)
set_option maxRecDepth 20000 in
theorem gX4_call_X4_callGroup : GoodIn wsX4_call (wsV RX4 220 RX4 yX4_callGroup wsX4_callGroup) := goodIn_app (goodIn_of _ (by decide +kernel)) ggX4_call_X4_callGroup
set_option maxRecDepth 20000 in
theorem ggX4_call_X4_pickUp : GoodIn wsX4_call wsX4_pickUp := goodIn_r _ [96, 11, 4, 1, 29, 97, 98, 99, 8, 100, 78, 10, 79, 13, 14, 15, 16, 17, 18, 19, 20, 21, 22, 23, 101, 102, 103, 104, 28, 30, 105, 106, 107, 108, 109, 110, 111, 34, 112, 46, 47, 48, 49, 45, 36, 113, 114, 115, 116, 31, 32, 33, 35, 37, 38, 39, 40, 41, 42, 43, 44, 117, 118, 119, 120, 121, 122, 123, 124, 125, 126, 50, 51, 52, 53, 54, 139, 140, 141, 142, 143, 144, 145, 146, 147, 148, 149, 132, 133, 134, 135, 136, 137, 138, 150] (by decide +kernel) (by decide +kernel)
set_option maxRecDepth 20000 in
theorem gX4_call_X4_pickUp : GoodIn wsX4_call (wsV RX4 224 RX4 yX4_pickUp wsX4_pickUp) := goodIn_app (goodIn_of _ (by decide +kernel)) ggX4_call_X4_pickUp
set_option maxRecDepth 20000 in
theorem ggX4_call_X4_takeParked : GoodIn wsX4_call wsX4_takeParked := goodIn_r _ [130, 131, 4, 1, 13, 14, 15, 16, 17, 18, 19, 20, 21, 22, 23, 113, 114, 115, 8, 116, 28, 31, 32, 33, 34, 35, 36, 37, 38, 39, 40, 41, 42, 43, 44, 45, 46, 47, 48, 49, 117, 118, 119, 120, 11, 121, 122, 123, 124, 125, 126, 50, 51, 52, 53, 54, 132, 133, 134, 135, 136, 137, 138, 139, 140, 141, 142, 143, 144, 145, 146, 147, 148, 149, 150] (by decide +kernel) (by decide +kernel)
set_option maxRecDepth 20000 in
theorem gX4_call_X4_takeParked : GoodIn wsX4_call (wsV RX4 227 RX4 yX4_takeParked wsX4_takeParked) := goodIn_app (goodIn_of _ (by decide +kernel)) ggX4_call_X4_takeParked
set_option maxRecDepth 20000 in
theorem ggX4_call_X2_enter : GoodIn wsX4_call wsX2_enter := goodIn_r _ [17, 18, 19, 20, 21, 22, 23, 139, 140, 141, 142, 143, 144, 145, 146, 147, 148, 149] (by decide +kernel) (by decide +kernel)
set_option maxRecDepth 20000 in
theorem gX4_call_X2_enter : GoodIn wsX4_call (wsV RX4 78 RX2 yX2_enter wsX2_enter) := goodIn_app (goodIn_of _ (by decide +kernel)) ggX4_call_X2_enter
theorem dX4_call_0 : decode cX4_call 0 = .ok (.iload_n 2, 1) := by decide +kernel
theorem dX4_call_1 : decode cX4_call 1 = .ok (.bipush 10, 2) := by decide +kernel
theorem dX4_call_3 : decode cX4_call 3 = .ok (.if_icmp .lt 26, 3) := by decide +kernel
theorem dX4_call_6 : decode cX4_call 6 = .ok (.iload_n 2, 1) := by decide +kernel
theorem dX4_call_7 : decode cX4_call 7 = .ok (.bipush 34, 2) := by decide +kernel
theorem dX4_call_9 : decode cX4_call 9 = .ok (.if_icmp .ge 20, 3) := by decide +kernel
theorem dX4_call_12 : decode cX4_call 12 = .ok (.aload_n 0, 1) := by decide +kernel
theorem dX4_call_13 : decode cX4_call 13 = .ok (.aload_n 1, 1) := by decide +kernel
theorem dX4_call_14 : decode cX4_call 14 = .ok (.aload_n 0, 1) := by decide +kernel
theorem dX4_call_15 : decode cX4_call 15 = .ok (.getfield 11, 3) := by decide +kernel
theorem dX4_call_18 : decode cX4_call 18 = .ok (.iload_n 2, 1) := by decide +kernel
theorem dX4_call_19 : decode cX4_call 19 = .ok (.bipush 10, 2) := by decide +kernel
theorem dX4_call_21 : decode cX4_call 21 = .ok (.isub, 1) := by decide +kernel
theorem dX4_call_22 : decode cX4_call 22 = .ok (.aaload, 1) := by decide +kernel
theorem dX4_call_23 : decode cX4_call 23 = .ok (.invokevirtual 216, 3) := by decide +kernel
theorem dX4_call_26 : decode cX4_call 26 = .ok (.goto 106, 3) := by decide +kernel
theorem dX4_call_29 : decode cX4_call 29 = .ok (.iload_n 2, 1) := by decide +kernel
theorem dX4_call_30 : decode cX4_call 30 = .ok (.bipush 40, 2) := by decide +kernel
theorem dX4_call_32 : decode cX4_call 32 = .ok (.if_icmp .lt 26, 3) := by decide +kernel
theorem dX4_call_35 : decode cX4_call 35 = .ok (.iload_n 2, 1) := by decide +kernel
theorem dX4_call_36 : decode cX4_call 36 = .ok (.bipush 44, 2) := by decide +kernel
theorem dX4_call_38 : decode cX4_call 38 = .ok (.if_icmp .ge 20, 3) := by decide +kernel
theorem dX4_call_41 : decode cX4_call 41 = .ok (.aload_n 0, 1) := by decide +kernel
theorem dX4_call_42 : decode cX4_call 42 = .ok (.aload_n 1, 1) := by decide +kernel
theorem dX4_call_43 : decode cX4_call 43 = .ok (.aload_n 0, 1) := by decide +kernel
theorem dX4_call_44 : decode cX4_call 44 = .ok (.getfield 27, 3) := by decide +kernel
theorem dX4_call_47 : decode cX4_call 47 = .ok (.iload_n 2, 1) := by decide +kernel
theorem dX4_call_48 : decode cX4_call 48 = .ok (.bipush 40, 2) := by decide +kernel
theorem dX4_call_50 : decode cX4_call 50 = .ok (.isub, 1) := by decide +kernel
theorem dX4_call_51 : decode cX4_call 51 = .ok (.aaload, 1) := by decide +kernel
theorem dX4_call_52 : decode cX4_call 52 = .ok (.invokevirtual 220, 3) := by decide +kernel
theorem dX4_call_55 : decode cX4_call 55 = .ok (.goto 77, 3) := by decide +kernel
theorem dX4_call_58 : decode cX4_call 58 = .ok (.iload_n 2, 1) := by decide +kernel
theorem dX4_call_59 : decode cX4_call 59 = .ok (.bipush 50, 2) := by decide +kernel
theorem dX4_call_61 : decode cX4_call 61 = .ok (.if_icmp .ne 11, 3) := by decide +kernel
theorem dX4_call_64 : decode cX4_call 64 = .ok (.aload_n 0, 1) := by decide +kernel
theorem dX4_call_65 : decode cX4_call 65 = .ok (.aload_n 1, 1) := by decide +kernel
theorem dX4_call_66 : decode cX4_call 66 = .ok (.invokevirtual 224, 3) := by decide +kernel
theorem dX4_call_69 : decode cX4_call 69 = .ok (.goto 63, 3) := by decide +kernel
theorem dX4_call_72 : decode cX4_call 72 = .ok (.iload_n 2, 1) := by decide +kernel
theorem dX4_call_73 : decode cX4_call 73 = .ok (.bipush 60, 2) := by decide +kernel
theorem dX4_call_75 : decode cX4_call 75 = .ok (.if_icmp .lt 21, 3) := by decide +kernel
theorem dX4_call_78 : decode cX4_call 78 = .ok (.iload_n 2, 1) := by decide +kernel
theorem dX4_call_79 : decode cX4_call 79 = .ok (.bipush 64, 2) := by decide +kernel
theorem dX4_call_81 : decode cX4_call 81 = .ok (.if_icmp .ge 15, 3) := by decide +kernel
theorem dX4_call_84 : decode cX4_call 84 = .ok (.aload_n 0, 1) := by decide +kernel
theorem dX4_call_85 : decode cX4_call 85 = .ok (.aload_n 1, 1) := by decide +kernel
theorem dX4_call_86 : decode cX4_call 86 = .ok (.iload_n 2, 1) := by decide +kernel
theorem dX4_call_87 : decode cX4_call 87 = .ok (.bipush 60, 2) := by decide +kernel
theorem dX4_call_89 : decode cX4_call 89 = .ok (.isub, 1) := by decide +kernel
theorem dX4_call_90 : decode cX4_call 90 = .ok (.invokevirtual 227, 3) := by decide +kernel
theorem dX4_call_93 : decode cX4_call 93 = .ok (.goto 39, 3) := by decide +kernel
theorem dX4_call_96 : decode cX4_call 96 = .ok (.iload_n 2, 1) := by decide +kernel
theorem dX4_call_97 : decode cX4_call 97 = .ok (.bipush 51, 2) := by decide +kernel
theorem dX4_call_99 : decode cX4_call 99 = .ok (.if_icmp .eq 9, 3) := by decide +kernel
theorem dX4_call_102 : decode cX4_call 102 = .ok (.iload_n 2, 1) := by decide +kernel
theorem dX4_call_103 : decode cX4_call 103 = .ok (.bipush 52, 2) := by decide +kernel
theorem dX4_call_105 : decode cX4_call 105 = .ok (.if_icmp .ne 18, 3) := by decide +kernel
theorem dX4_call_108 : decode cX4_call 108 = .ok (.aload_n 1, 1) := by decide +kernel
theorem dX4_call_109 : decode cX4_call 109 = .ok (.iload_n 2, 1) := by decide +kernel
theorem dX4_call_110 : decode cX4_call 110 = .ok (.bipush 51, 2) := by decide +kernel
theorem dX4_call_112 : decode cX4_call 112 = .ok (.if_icmp .ne 7, 3) := by decide +kernel
theorem dX4_call_115 : decode cX4_call 115 = .ok (.iconst 1, 1) := by decide +kernel
theorem dX4_call_116 : decode cX4_call 116 = .ok (.goto 4, 3) := by decide +kernel
theorem dX4_call_119 : decode cX4_call 119 = .ok (.iconst 0, 1) := by decide +kernel
theorem dX4_call_120 : decode cX4_call 120 = .ok (.putfield 182, 3) := by decide +kernel
theorem dX4_call_123 : decode cX4_call 123 = .ok (.aload_n 1, 1) := by decide +kernel
theorem dX4_call_124 : decode cX4_call 124 = .ok (.iconst 5, 1) := by decide +kernel
theorem dX4_call_125 : decode cX4_call 125 = .ok (.aload_n 0, 1) := by decide +kernel
theorem dX4_call_126 : decode cX4_call 126 = .ok (.getfield 75, 3) := by decide +kernel
theorem dX4_call_129 : decode cX4_call 129 = .ok (.invokevirtual 78, 3) := by decide +kernel
theorem dX4_call_132 : decode cX4_call 132 = .ok (.return_, 1) := by decide +kernel
set_option maxRecDepth 20000 in
theorem ggX4_callLine_X2_enter : GoodIn wsX4_callLine wsX2_enter := goodIn_r _ [10, 11, 12, 13, 14, 15, 16, 49, 50, 51, 52, 53, 54, 55, 56, 57, 58, 59] (by decide +kernel) (by decide +kernel)
set_option maxRecDepth 20000 in
theorem gX4_callLine_X2_enter : GoodIn wsX4_callLine (wsV RX4 78 RX2 yX2_enter wsX2_enter) := goodIn_app (goodIn_of _ (by decide +kernel)) ggX4_callLine_X2_enter
set_option maxRecDepth 20000 in
theorem ggX4_callLine_X4_ring : GoodIn wsX4_callLine wsX4_ring := goodIn_r _ [21, 22, 2, 4, 23, 24, 25, 26, 27, 28, 29, 30, 31, 32, 33, 34, 35, 36, 37, 38, 39, 40, 41, 42, 43, 6, 7, 8, 9, 10, 11, 12, 13, 14, 15, 16, 60, 61, 62, 63, 64, 65, 66, 49, 50, 51, 52, 53, 54, 55, 56, 57, 58, 59, 67] (by decide +kernel) (by decide +kernel)
set_option maxRecDepth 20000 in
theorem gX4_callLine_X4_ring : GoodIn wsX4_callLine (wsV RX4 230 RX4 yX4_ring wsX4_ring) := goodIn_app (goodIn_of _ (by decide +kernel)) ggX4_callLine_X4_ring
set_option maxRecDepth 20000 in
theorem ggX4_callLine_X4_block : GoodIn wsX4_callLine wsX4_block := goodIn_r _ [47, 2, 48, 6, 7, 8, 9, 10, 11, 12, 13, 14, 15, 16, 60, 61, 62, 63, 64, 65, 66, 49, 50, 51, 52, 53, 54, 55, 56, 57, 58, 59] (by decide +kernel) (by decide +kernel)
set_option maxRecDepth 20000 in
theorem gX4_callLine_X4_block : GoodIn wsX4_callLine (wsV RX4 234 RX4 yX4_block wsX4_block) := goodIn_app (goodIn_of _ (by decide +kernel)) ggX4_callLine_X4_block
theorem dX4_callLine_0 : decode cX4_callLine 0 = .ok (.aload_n 2, 1) := by decide +kernel
theorem dX4_callLine_1 : decode cX4_callLine 1 = .ok (.aload_n 1, 1) := by decide +kernel
theorem dX4_callLine_2 : decode cX4_callLine 2 = .ok (.if_acmp .eq 10, 3) := by decide +kernel
theorem dX4_callLine_5 : decode cX4_callLine 5 = .ok (.aload_n 2, 1) := by decide +kernel
theorem dX4_callLine_6 : decode cX4_callLine 6 = .ok (.getfield 182, 3) := by decide +kernel
theorem dX4_callLine_9 : decode cX4_callLine 9 = .ok (.ifCond .eq 15, 3) := by decide +kernel
theorem dX4_callLine_12 : decode cX4_callLine 12 = .ok (.aload_n 1, 1) := by decide +kernel
theorem dX4_callLine_13 : decode cX4_callLine 13 = .ok (.iconst 5, 1) := by decide +kernel
theorem dX4_callLine_14 : decode cX4_callLine 14 = .ok (.aload_n 0, 1) := by decide +kernel
theorem dX4_callLine_15 : decode cX4_callLine 15 = .ok (.getfield 75, 3) := by decide +kernel
theorem dX4_callLine_18 : decode cX4_callLine 18 = .ok (.invokevirtual 78, 3) := by decide +kernel
theorem dX4_callLine_21 : decode cX4_callLine 21 = .ok (.goto 56, 3) := by decide +kernel
theorem dX4_callLine_24 : decode cX4_callLine 24 = .ok (.aload_n 2, 1) := by decide +kernel
theorem dX4_callLine_25 : decode cX4_callLine 25 = .ok (.getfield 64, 3) := by decide +kernel
theorem dX4_callLine_28 : decode cX4_callLine 28 = .ok (.ifCond .eq 23, 3) := by decide +kernel
theorem dX4_callLine_31 : decode cX4_callLine 31 = .ok (.aload_n 1, 1) := by decide +kernel
theorem dX4_callLine_32 : decode cX4_callLine 32 = .ok (.iconst 5, 1) := by decide +kernel
theorem dX4_callLine_33 : decode cX4_callLine 33 = .ok (.aload_n 0, 1) := by decide +kernel
theorem dX4_callLine_34 : decode cX4_callLine 34 = .ok (.getfield 75, 3) := by decide +kernel
theorem dX4_callLine_37 : decode cX4_callLine 37 = .ok (.invokevirtual 78, 3) := by decide +kernel
theorem dX4_callLine_40 : decode cX4_callLine 40 = .ok (.aload_n 1, 1) := by decide +kernel
theorem dX4_callLine_41 : decode cX4_callLine 41 = .ok (.aload_n 2, 1) := by decide +kernel
theorem dX4_callLine_42 : decode cX4_callLine 42 = .ok (.getfield 115, 3) := by decide +kernel
theorem dX4_callLine_45 : decode cX4_callLine 45 = .ok (.putfield 98, 3) := by decide +kernel
theorem dX4_callLine_48 : decode cX4_callLine 48 = .ok (.goto 29, 3) := by decide +kernel
theorem dX4_callLine_51 : decode cX4_callLine 51 = .ok (.aload_n 0, 1) := by decide +kernel
theorem dX4_callLine_52 : decode cX4_callLine 52 = .ok (.aload_n 1, 1) := by decide +kernel
theorem dX4_callLine_53 : decode cX4_callLine 53 = .ok (.aload_n 2, 1) := by decide +kernel
theorem dX4_callLine_54 : decode cX4_callLine 54 = .ok (.invokevirtual 230, 3) := by decide +kernel
theorem dX4_callLine_57 : decode cX4_callLine 57 = .ok (.ifCond .eq 15, 3) := by decide +kernel
