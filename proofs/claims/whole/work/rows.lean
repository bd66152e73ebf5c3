section
-- ===== PART A: goes FIRST, ahead of the names: the tables' words, and 'selects' of the private methods out of them =====
/-- a private method of a class that the tables say can be made, by its rows of tables_1 -/
def lw_okq (q : MethodName × Nat) : Prop := (q.1.cls ≠ "java/lang/invoke/MethodHandle" ∧ q.1.cls ≠ "java/lang/invoke/VarHandle") ∧ Cond.instantiable q.1.cls q.2 ∈ tables_1 ∧ Cond.privateMethod q.1 ∈ tables_1 ∧ Cond.instanceMethod q.1 ∈ tables_1
theorem lw_p0 : lw_okq (⟨"ExchangeDesk", "lineOf", "(I)LExchangeDesk$Line;"⟩, 7) := ⟨⟨by decide +kernel, by decide +kernel⟩, List.mem_of_getElem? (i := 16) (by decide +kernel), List.mem_of_getElem? (i := 161) (by decide +kernel), List.mem_of_getElem? (i := 162) (by decide +kernel)⟩
theorem lw_p1 : lw_okq (⟨"java/lang/Throwable", "fillInStackTrace", "(I)Ljava/lang/Throwable;"⟩, 6) := ⟨⟨by decide +kernel, by decide +kernel⟩, List.mem_of_getElem? (i := 209) (by decide +kernel), List.mem_of_getElem? (i := 207) (by decide +kernel), List.mem_of_getElem? (i := 208) (by decide +kernel)⟩
theorem lw_p2 : lw_okq (⟨"ExchangeDesk", "answer", "(LExchangeDesk$Line;)V"⟩, 7) := ⟨⟨by decide +kernel, by decide +kernel⟩, List.mem_of_getElem? (i := 16) (by decide +kernel), List.mem_of_getElem? (i := 259) (by decide +kernel), List.mem_of_getElem? (i := 260) (by decide +kernel)⟩
theorem lw_p3 : lw_okq (⟨"ExchangeDesk", "beginTalk", "(LExchangeDesk$Line;LExchangeDesk$Line;I)V"⟩, 7) := ⟨⟨by decide +kernel, by decide +kernel⟩, List.mem_of_getElem? (i := 16) (by decide +kernel), List.mem_of_getElem? (i := 263) (by decide +kernel), List.mem_of_getElem? (i := 264) (by decide +kernel)⟩
theorem lw_p4 : lw_okq (⟨"ExchangeDesk", "stopRinging", "(LExchangeDesk$Line;)V"⟩, 7) := ⟨⟨by decide +kernel, by decide +kernel⟩, List.mem_of_getElem? (i := 16) (by decide +kernel), List.mem_of_getElem? (i := 275) (by decide +kernel), List.mem_of_getElem? (i := 276) (by decide +kernel)⟩
theorem lw_p5 : lw_okq (⟨"ExchangeDesk$Switch", "mark", "(LExchangeDesk$Line;LExchangeDesk$Line;II)V"⟩, 1) := ⟨⟨by decide +kernel, by decide +kernel⟩, List.mem_of_getElem? (i := 74) (by decide +kernel), List.mem_of_getElem? (i := 287) (by decide +kernel), List.mem_of_getElem? (i := 288) (by decide +kernel)⟩
theorem lw_p6 : lw_okq (⟨"ExchangeDesk", "callFromCamps", "()V"⟩, 7) := ⟨⟨by decide +kernel, by decide +kernel⟩, List.mem_of_getElem? (i := 16) (by decide +kernel), List.mem_of_getElem? (i := 292) (by decide +kernel), List.mem_of_getElem? (i := 293) (by decide +kernel)⟩
theorem lw_p7 : lw_okq (⟨"ExchangeDesk", "callLine", "(LExchangeDesk$Line;LExchangeDesk$Line;)V"⟩, 7) := ⟨⟨by decide +kernel, by decide +kernel⟩, List.mem_of_getElem? (i := 16) (by decide +kernel), List.mem_of_getElem? (i := 296) (by decide +kernel), List.mem_of_getElem? (i := 297) (by decide +kernel)⟩
theorem lw_p8 : lw_okq (⟨"ExchangeDesk", "ring", "(LExchangeDesk$Line;LExchangeDesk$Line;)Z"⟩, 7) := ⟨⟨by decide +kernel, by decide +kernel⟩, List.mem_of_getElem? (i := 16) (by decide +kernel), List.mem_of_getElem? (i := 300) (by decide +kernel), List.mem_of_getElem? (i := 301) (by decide +kernel)⟩
theorem lw_p9 : lw_okq (⟨"ExchangeDesk", "block", "(LExchangeDesk$Line;)V"⟩, 7) := ⟨⟨by decide +kernel, by decide +kernel⟩, List.mem_of_getElem? (i := 16) (by decide +kernel), List.mem_of_getElem? (i := 315) (by decide +kernel), List.mem_of_getElem? (i := 316) (by decide +kernel)⟩
theorem lw_p10 : lw_okq (⟨"ExchangeDesk", "leave", "(LExchangeDesk$Line;)V"⟩, 7) := ⟨⟨by decide +kernel, by decide +kernel⟩, List.mem_of_getElem? (i := 16) (by decide +kernel), List.mem_of_getElem? (i := 327) (by decide +kernel), List.mem_of_getElem? (i := 328) (by decide +kernel)⟩
theorem lw_p11 : lw_okq (⟨"ExchangeDesk", "endTalk", "(LExchangeDesk$Line;)LExchangeDesk$Line;"⟩, 7) := ⟨⟨by decide +kernel, by decide +kernel⟩, List.mem_of_getElem? (i := 16) (by decide +kernel), List.mem_of_getElem? (i := 331) (by decide +kernel), List.mem_of_getElem? (i := 332) (by decide +kernel)⟩
theorem lw_p12 : lw_okq (⟨"ExchangeDesk", "unitsOf", "(LExchangeDesk$Line;)I"⟩, 7) := ⟨⟨by decide +kernel, by decide +kernel⟩, List.mem_of_getElem? (i := 16) (by decide +kernel), List.mem_of_getElem? (i := 335) (by decide +kernel), List.mem_of_getElem? (i := 336) (by decide +kernel)⟩
theorem lw_p13 : lw_okq (⟨"ExchangeDesk", "call", "(LExchangeDesk$Line;I)V"⟩, 7) := ⟨⟨by decide +kernel, by decide +kernel⟩, List.mem_of_getElem? (i := 16) (by decide +kernel), List.mem_of_getElem? (i := 350) (by decide +kernel), List.mem_of_getElem? (i := 351) (by decide +kernel)⟩
theorem lw_p14 : lw_okq (⟨"ExchangeDesk", "callGroup", "(LExchangeDesk$Line;LExchangeDesk$Group;)V"⟩, 7) := ⟨⟨by decide +kernel, by decide +kernel⟩, List.mem_of_getElem? (i := 16) (by decide +kernel), List.mem_of_getElem? (i := 354) (by decide +kernel), List.mem_of_getElem? (i := 355) (by decide +kernel)⟩
theorem lw_p15 : lw_okq (⟨"ExchangeDesk", "ringAll", "(LExchangeDesk$Line;LExchangeDesk$Group;)Z"⟩, 7) := ⟨⟨by decide +kernel, by decide +kernel⟩, List.mem_of_getElem? (i := 16) (by decide +kernel), List.mem_of_getElem? (i := 358) (by decide +kernel), List.mem_of_getElem? (i := 359) (by decide +kernel)⟩
def lw_privs_1 : List (MethodName × Nat) := [(⟨"ExchangeDesk", "lineOf", "(I)LExchangeDesk$Line;"⟩, 7), (⟨"java/lang/Throwable", "fillInStackTrace", "(I)Ljava/lang/Throwable;"⟩, 6), (⟨"ExchangeDesk", "answer", "(LExchangeDesk$Line;)V"⟩, 7), (⟨"ExchangeDesk", "beginTalk", "(LExchangeDesk$Line;LExchangeDesk$Line;I)V"⟩, 7), (⟨"ExchangeDesk", "stopRinging", "(LExchangeDesk$Line;)V"⟩, 7), (⟨"ExchangeDesk$Switch", "mark", "(LExchangeDesk$Line;LExchangeDesk$Line;II)V"⟩, 1), (⟨"ExchangeDesk", "callFromCamps", "()V"⟩, 7), (⟨"ExchangeDesk", "callLine", "(LExchangeDesk$Line;LExchangeDesk$Line;)V"⟩, 7), (⟨"ExchangeDesk", "ring", "(LExchangeDesk$Line;LExchangeDesk$Line;)Z"⟩, 7), (⟨"ExchangeDesk", "block", "(LExchangeDesk$Line;)V"⟩, 7), (⟨"ExchangeDesk", "leave", "(LExchangeDesk$Line;)V"⟩, 7), (⟨"ExchangeDesk", "endTalk", "(LExchangeDesk$Line;)LExchangeDesk$Line;"⟩, 7), (⟨"ExchangeDesk", "unitsOf", "(LExchangeDesk$Line;)I"⟩, 7), (⟨"ExchangeDesk", "call", "(LExchangeDesk$Line;I)V"⟩, 7), (⟨"ExchangeDesk", "callGroup", "(LExchangeDesk$Line;LExchangeDesk$Group;)V"⟩, 7), (⟨"ExchangeDesk", "ringAll", "(LExchangeDesk$Line;LExchangeDesk$Group;)Z"⟩, 7)]
theorem lw_r1 : ∀ q ∈ lw_privs_1, lw_okq q := List.forall_mem_cons.mpr ⟨lw_p0, List.forall_mem_cons.mpr ⟨lw_p1, List.forall_mem_cons.mpr ⟨lw_p2, List.forall_mem_cons.mpr ⟨lw_p3, List.forall_mem_cons.mpr ⟨lw_p4, List.forall_mem_cons.mpr ⟨lw_p5, List.forall_mem_cons.mpr ⟨lw_p6, List.forall_mem_cons.mpr ⟨lw_p7, List.forall_mem_cons.mpr ⟨lw_p8, List.forall_mem_cons.mpr ⟨lw_p9, List.forall_mem_cons.mpr ⟨lw_p10, List.forall_mem_cons.mpr ⟨lw_p11, List.forall_mem_cons.mpr ⟨lw_p12, List.forall_mem_cons.mpr ⟨lw_p13, List.forall_mem_cons.mpr ⟨lw_p14, List.forall_mem_cons.mpr ⟨lw_p15, fun _ h => absurd h List.not_mem_nil⟩⟩⟩⟩⟩⟩⟩⟩⟩⟩⟩⟩⟩⟩⟩⟩
theorem lw_p16 : lw_okq (⟨"ExchangeDesk", "ringOne", "(LExchangeDesk$Line;LExchangeDesk$Group;)Z"⟩, 7) := ⟨⟨by decide +kernel, by decide +kernel⟩, List.mem_of_getElem? (i := 16) (by decide +kernel), List.mem_of_getElem? (i := 365) (by decide +kernel), List.mem_of_getElem? (i := 366) (by decide +kernel)⟩
theorem lw_p17 : lw_okq (⟨"ExchangeDesk", "longestIdle", "(LExchangeDesk$Line;LExchangeDesk$Group;)I"⟩, 7) := ⟨⟨by decide +kernel, by decide +kernel⟩, List.mem_of_getElem? (i := 16) (by decide +kernel), List.mem_of_getElem? (i := 369) (by decide +kernel), List.mem_of_getElem? (i := 370) (by decide +kernel)⟩
theorem lw_p18 : lw_okq (⟨"ExchangeDesk", "canTake", "(LExchangeDesk$Line;LExchangeDesk$Line;)Z"⟩, 7) := ⟨⟨by decide +kernel, by decide +kernel⟩, List.mem_of_getElem? (i := 16) (by decide +kernel), List.mem_of_getElem? (i := 374) (by decide +kernel), List.mem_of_getElem? (i := 375) (by decide +kernel)⟩
theorem lw_p19 : lw_okq (⟨"ExchangeDesk", "firstToTake", "(LExchangeDesk$Line;LExchangeDesk$Group;)I"⟩, 7) := ⟨⟨by decide +kernel, by decide +kernel⟩, List.mem_of_getElem? (i := 16) (by decide +kernel), List.mem_of_getElem? (i := 379) (by decide +kernel), List.mem_of_getElem? (i := 380) (by decide +kernel)⟩
theorem lw_p20 : lw_okq (⟨"ExchangeDesk", "hasWilling", "(LExchangeDesk$Line;LExchangeDesk$Group;)Z"⟩, 7) := ⟨⟨by decide +kernel, by decide +kernel⟩, List.mem_of_getElem? (i := 16) (by decide +kernel), List.mem_of_getElem? (i := 383) (by decide +kernel), List.mem_of_getElem? (i := 384) (by decide +kernel)⟩
theorem lw_p21 : lw_okq (⟨"ExchangeDesk", "pickUp", "(LExchangeDesk$Line;)V"⟩, 7) := ⟨⟨by decide +kernel, by decide +kernel⟩, List.mem_of_getElem? (i := 16) (by decide +kernel), List.mem_of_getElem? (i := 387) (by decide +kernel), List.mem_of_getElem? (i := 388) (by decide +kernel)⟩
theorem lw_p22 : lw_okq (⟨"ExchangeDesk", "firstRinging", "(I)LExchangeDesk$Line;"⟩, 7) := ⟨⟨by decide +kernel, by decide +kernel⟩, List.mem_of_getElem? (i := 16) (by decide +kernel), List.mem_of_getElem? (i := 391) (by decide +kernel), List.mem_of_getElem? (i := 392) (by decide +kernel)⟩
theorem lw_p23 : lw_okq (⟨"ExchangeDesk", "talkByNewPath", "(LExchangeDesk$Line;LExchangeDesk$Line;)Z"⟩, 7) := ⟨⟨by decide +kernel, by decide +kernel⟩, List.mem_of_getElem? (i := 16) (by decide +kernel), List.mem_of_getElem? (i := 395) (by decide +kernel), List.mem_of_getElem? (i := 396) (by decide +kernel)⟩
theorem lw_p24 : lw_okq (⟨"ExchangeDesk", "takeParked", "(LExchangeDesk$Line;I)V"⟩, 7) := ⟨⟨by decide +kernel, by decide +kernel⟩, List.mem_of_getElem? (i := 16) (by decide +kernel), List.mem_of_getElem? (i := 399) (by decide +kernel), List.mem_of_getElem? (i := 400) (by decide +kernel)⟩
theorem lw_p25 : lw_okq (⟨"ExchangeDesk", "earliestDue", "()I"⟩, 7) := ⟨⟨by decide +kernel, by decide +kernel⟩, List.mem_of_getElem? (i := 16) (by decide +kernel), List.mem_of_getElem? (i := 434) (by decide +kernel), List.mem_of_getElem? (i := 435) (by decide +kernel)⟩
theorem lw_p26 : lw_okq (⟨"ExchangeDesk", "lookAtTimers", "()V"⟩, 7) := ⟨⟨by decide +kernel, by decide +kernel⟩, List.mem_of_getElem? (i := 16) (by decide +kernel), List.mem_of_getElem? (i := 447) (by decide +kernel), List.mem_of_getElem? (i := 448) (by decide +kernel)⟩
theorem lw_p27 : lw_okq (⟨"ExchangeDesk", "runOut", "(LExchangeDesk$Line;)V"⟩, 7) := ⟨⟨by decide +kernel, by decide +kernel⟩, List.mem_of_getElem? (i := 16) (by decide +kernel), List.mem_of_getElem? (i := 451) (by decide +kernel), List.mem_of_getElem? (i := 452) (by decide +kernel)⟩
theorem lw_p28 : lw_okq (⟨"ExchangeDesk", "lowestRinging", "(I)I"⟩, 7) := ⟨⟨by decide +kernel, by decide +kernel⟩, List.mem_of_getElem? (i := 16) (by decide +kernel), List.mem_of_getElem? (i := 500) (by decide +kernel), List.mem_of_getElem? (i := 501) (by decide +kernel)⟩
theorem lw_p29 : lw_okq (⟨"ExchangeDesk", "slotOf", "(LExchangeDesk$Line;)I"⟩, 7) := ⟨⟨by decide +kernel, by decide +kernel⟩, List.mem_of_getElem? (i := 16) (by decide +kernel), List.mem_of_getElem? (i := 504) (by decide +kernel), List.mem_of_getElem? (i := 505) (by decide +kernel)⟩
theorem lw_p30 : lw_okq (⟨"ExchangeDeskModel", "throwing", "(ZZ)Z"⟩, 25) := ⟨⟨by decide +kernel, by decide +kernel⟩, List.mem_of_getElem? (i := 551) (by decide +kernel), List.mem_of_getElem? (i := 648) (by decide +kernel), List.mem_of_getElem? (i := 649) (by decide +kernel)⟩
theorem lw_p31 : lw_okq (⟨"ExchangeDeskModel", "become", "(II)V"⟩, 25) := ⟨⟨by decide +kernel, by decide +kernel⟩, List.mem_of_getElem? (i := 551) (by decide +kernel), List.mem_of_getElem? (i := 652) (by decide +kernel), List.mem_of_getElem? (i := 653) (by decide +kernel)⟩
def lw_privs_2 : List (MethodName × Nat) := [(⟨"ExchangeDesk", "ringOne", "(LExchangeDesk$Line;LExchangeDesk$Group;)Z"⟩, 7), (⟨"ExchangeDesk", "longestIdle", "(LExchangeDesk$Line;LExchangeDesk$Group;)I"⟩, 7), (⟨"ExchangeDesk", "canTake", "(LExchangeDesk$Line;LExchangeDesk$Line;)Z"⟩, 7), (⟨"ExchangeDesk", "firstToTake", "(LExchangeDesk$Line;LExchangeDesk$Group;)I"⟩, 7), (⟨"ExchangeDesk", "hasWilling", "(LExchangeDesk$Line;LExchangeDesk$Group;)Z"⟩, 7), (⟨"ExchangeDesk", "pickUp", "(LExchangeDesk$Line;)V"⟩, 7), (⟨"ExchangeDesk", "firstRinging", "(I)LExchangeDesk$Line;"⟩, 7), (⟨"ExchangeDesk", "talkByNewPath", "(LExchangeDesk$Line;LExchangeDesk$Line;)Z"⟩, 7), (⟨"ExchangeDesk", "takeParked", "(LExchangeDesk$Line;I)V"⟩, 7), (⟨"ExchangeDesk", "earliestDue", "()I"⟩, 7), (⟨"ExchangeDesk", "lookAtTimers", "()V"⟩, 7), (⟨"ExchangeDesk", "runOut", "(LExchangeDesk$Line;)V"⟩, 7), (⟨"ExchangeDesk", "lowestRinging", "(I)I"⟩, 7), (⟨"ExchangeDesk", "slotOf", "(LExchangeDesk$Line;)I"⟩, 7), (⟨"ExchangeDeskModel", "throwing", "(ZZ)Z"⟩, 25), (⟨"ExchangeDeskModel", "become", "(II)V"⟩, 25)]
theorem lw_r2 : ∀ q ∈ lw_privs_2, lw_okq q := List.forall_mem_cons.mpr ⟨lw_p16, List.forall_mem_cons.mpr ⟨lw_p17, List.forall_mem_cons.mpr ⟨lw_p18, List.forall_mem_cons.mpr ⟨lw_p19, List.forall_mem_cons.mpr ⟨lw_p20, List.forall_mem_cons.mpr ⟨lw_p21, List.forall_mem_cons.mpr ⟨lw_p22, List.forall_mem_cons.mpr ⟨lw_p23, List.forall_mem_cons.mpr ⟨lw_p24, List.forall_mem_cons.mpr ⟨lw_p25, List.forall_mem_cons.mpr ⟨lw_p26, List.forall_mem_cons.mpr ⟨lw_p27, List.forall_mem_cons.mpr ⟨lw_p28, List.forall_mem_cons.mpr ⟨lw_p29, List.forall_mem_cons.mpr ⟨lw_p30, List.forall_mem_cons.mpr ⟨lw_p31, fun _ h => absurd h List.not_mem_nil⟩⟩⟩⟩⟩⟩⟩⟩⟩⟩⟩⟩⟩⟩⟩⟩
theorem lw_p32 : lw_okq (⟨"ExchangeDeskModel", "hush", "(II)V"⟩, 25) := ⟨⟨by decide +kernel, by decide +kernel⟩, List.mem_of_getElem? (i := 551) (by decide +kernel), List.mem_of_getElem? (i := 656) (by decide +kernel), List.mem_of_getElem? (i := 657) (by decide +kernel)⟩
theorem lw_p33 : lw_okq (⟨"ExchangeDeskModel", "use", "(IIII)V"⟩, 25) := ⟨⟨by decide +kernel, by decide +kernel⟩, List.mem_of_getElem? (i := 551) (by decide +kernel), List.mem_of_getElem? (i := 660) (by decide +kernel), List.mem_of_getElem? (i := 661) (by decide +kernel)⟩
theorem lw_p34 : lw_okq (⟨"ExchangeDeskModel", "connect", "(III)V"⟩, 25) := ⟨⟨by decide +kernel, by decide +kernel⟩, List.mem_of_getElem? (i := 551) (by decide +kernel), List.mem_of_getElem? (i := 664) (by decide +kernel), List.mem_of_getElem? (i := 665) (by decide +kernel)⟩
theorem lw_p35 : lw_okq (⟨"ExchangeDeskModel", "settle", "()V"⟩, 25) := ⟨⟨by decide +kernel, by decide +kernel⟩, List.mem_of_getElem? (i := 551) (by decide +kernel), List.mem_of_getElem? (i := 668) (by decide +kernel), List.mem_of_getElem? (i := 669) (by decide +kernel)⟩
theorem lw_p36 : lw_okq (⟨"ExchangeDeskModel", "callLine", "(II)V"⟩, 25) := ⟨⟨by decide +kernel, by decide +kernel⟩, List.mem_of_getElem? (i := 551) (by decide +kernel), List.mem_of_getElem? (i := 672) (by decide +kernel), List.mem_of_getElem? (i := 673) (by decide +kernel)⟩
theorem lw_p37 : lw_okq (⟨"ExchangeDeskModel", "busy", "(I)V"⟩, 25) := ⟨⟨by decide +kernel, by decide +kernel⟩, List.mem_of_getElem? (i := 551) (by decide +kernel), List.mem_of_getElem? (i := 676) (by decide +kernel), List.mem_of_getElem? (i := 677) (by decide +kernel)⟩
theorem lw_p38 : lw_okq (⟨"ExchangeDeskModel", "take", "(II)I"⟩, 25) := ⟨⟨by decide +kernel, by decide +kernel⟩, List.mem_of_getElem? (i := 551) (by decide +kernel), List.mem_of_getElem? (i := 680) (by decide +kernel), List.mem_of_getElem? (i := 681) (by decide +kernel)⟩
theorem lw_p39 : lw_okq (⟨"ExchangeDeskModel", "free", "(II)I"⟩, 25) := ⟨⟨by decide +kernel, by decide +kernel⟩, List.mem_of_getElem? (i := 551) (by decide +kernel), List.mem_of_getElem? (i := 684) (by decide +kernel), List.mem_of_getElem? (i := 685) (by decide +kernel)⟩
theorem lw_p40 : lw_okq (⟨"ExchangeDeskModel", "ring", "(III)V"⟩, 25) := ⟨⟨by decide +kernel, by decide +kernel⟩, List.mem_of_getElem? (i := 551) (by decide +kernel), List.mem_of_getElem? (i := 688) (by decide +kernel), List.mem_of_getElem? (i := 689) (by decide +kernel)⟩
theorem lw_p41 : lw_okq (⟨"ExchangeDeskModel", "leave", "(I)V"⟩, 25) := ⟨⟨by decide +kernel, by decide +kernel⟩, List.mem_of_getElem? (i := 551) (by decide +kernel), List.mem_of_getElem? (i := 696) (by decide +kernel), List.mem_of_getElem? (i := 697) (by decide +kernel)⟩
theorem lw_p42 : lw_okq (⟨"ExchangeDeskModel", "finish", "(I)V"⟩, 25) := ⟨⟨by decide +kernel, by decide +kernel⟩, List.mem_of_getElem? (i := 551) (by decide +kernel), List.mem_of_getElem? (i := 700) (by decide +kernel), List.mem_of_getElem? (i := 701) (by decide +kernel)⟩
theorem lw_p43 : lw_okq (⟨"ExchangeDeskModel", "unitsOf", "(I)I"⟩, 25) := ⟨⟨by decide +kernel, by decide +kernel⟩, List.mem_of_getElem? (i := 551) (by decide +kernel), List.mem_of_getElem? (i := 704) (by decide +kernel), List.mem_of_getElem? (i := 705) (by decide +kernel)⟩
theorem lw_p44 : lw_okq (⟨"ExchangeDeskModel", "call", "(II)V"⟩, 25) := ⟨⟨by decide +kernel, by decide +kernel⟩, List.mem_of_getElem? (i := 551) (by decide +kernel), List.mem_of_getElem? (i := 712) (by decide +kernel), List.mem_of_getElem? (i := 713) (by decide +kernel)⟩
theorem lw_p45 : lw_okq (⟨"ExchangeDeskModel", "callGroup", "(II)V"⟩, 25) := ⟨⟨by decide +kernel, by decide +kernel⟩, List.mem_of_getElem? (i := 551) (by decide +kernel), List.mem_of_getElem? (i := 716) (by decide +kernel), List.mem_of_getElem? (i := 717) (by decide +kernel)⟩
theorem lw_p46 : lw_okq (⟨"ExchangeDeskModel", "mayRing", "(II)Z"⟩, 25) := ⟨⟨by decide +kernel, by decide +kernel⟩, List.mem_of_getElem? (i := 551) (by decide +kernel), List.mem_of_getElem? (i := 720) (by decide +kernel), List.mem_of_getElem? (i := 721) (by decide +kernel)⟩
theorem lw_p47 : lw_okq (⟨"ExchangeDeskModel", "pick", "(I)V"⟩, 25) := ⟨⟨by decide +kernel, by decide +kernel⟩, List.mem_of_getElem? (i := 551) (by decide +kernel), List.mem_of_getElem? (i := 724) (by decide +kernel), List.mem_of_getElem? (i := 725) (by decide +kernel)⟩
def lw_privs_3 : List (MethodName × Nat) := [(⟨"ExchangeDeskModel", "hush", "(II)V"⟩, 25), (⟨"ExchangeDeskModel", "use", "(IIII)V"⟩, 25), (⟨"ExchangeDeskModel", "connect", "(III)V"⟩, 25), (⟨"ExchangeDeskModel", "settle", "()V"⟩, 25), (⟨"ExchangeDeskModel", "callLine", "(II)V"⟩, 25), (⟨"ExchangeDeskModel", "busy", "(I)V"⟩, 25), (⟨"ExchangeDeskModel", "take", "(II)I"⟩, 25), (⟨"ExchangeDeskModel", "free", "(II)I"⟩, 25), (⟨"ExchangeDeskModel", "ring", "(III)V"⟩, 25), (⟨"ExchangeDeskModel", "leave", "(I)V"⟩, 25), (⟨"ExchangeDeskModel", "finish", "(I)V"⟩, 25), (⟨"ExchangeDeskModel", "unitsOf", "(I)I"⟩, 25), (⟨"ExchangeDeskModel", "call", "(II)V"⟩, 25), (⟨"ExchangeDeskModel", "callGroup", "(II)V"⟩, 25), (⟨"ExchangeDeskModel", "mayRing", "(II)Z"⟩, 25), (⟨"ExchangeDeskModel", "pick", "(I)V"⟩, 25)]
theorem lw_r3 : ∀ q ∈ lw_privs_3, lw_okq q := List.forall_mem_cons.mpr ⟨lw_p32, List.forall_mem_cons.mpr ⟨lw_p33, List.forall_mem_cons.mpr ⟨lw_p34, List.forall_mem_cons.mpr ⟨lw_p35, List.forall_mem_cons.mpr ⟨lw_p36, List.forall_mem_cons.mpr ⟨lw_p37, List.forall_mem_cons.mpr ⟨lw_p38, List.forall_mem_cons.mpr ⟨lw_p39, List.forall_mem_cons.mpr ⟨lw_p40, List.forall_mem_cons.mpr ⟨lw_p41, List.forall_mem_cons.mpr ⟨lw_p42, List.forall_mem_cons.mpr ⟨lw_p43, List.forall_mem_cons.mpr ⟨lw_p44, List.forall_mem_cons.mpr ⟨lw_p45, List.forall_mem_cons.mpr ⟨lw_p46, List.forall_mem_cons.mpr ⟨lw_p47, fun _ h => absurd h List.not_mem_nil⟩⟩⟩⟩⟩⟩⟩⟩⟩⟩⟩⟩⟩⟩⟩⟩
theorem lw_p48 : lw_okq (⟨"ExchangeDeskModel", "unpark", "(II)V"⟩, 25) := ⟨⟨by decide +kernel, by decide +kernel⟩, List.mem_of_getElem? (i := 551) (by decide +kernel), List.mem_of_getElem? (i := 728) (by decide +kernel), List.mem_of_getElem? (i := 729) (by decide +kernel)⟩
theorem lw_p49 : lw_okq (⟨"ExchangeDeskModel", "watch", "(I)V"⟩, 25) := ⟨⟨by decide +kernel, by decide +kernel⟩, List.mem_of_getElem? (i := 551) (by decide +kernel), List.mem_of_getElem? (i := 748) (by decide +kernel), List.mem_of_getElem? (i := 749) (by decide +kernel)⟩
theorem lw_p50 : lw_okq (⟨"ExchangeDeskModel", "ringer", "(I)I"⟩, 25) := ⟨⟨by decide +kernel, by decide +kernel⟩, List.mem_of_getElem? (i := 551) (by decide +kernel), List.mem_of_getElem? (i := 768) (by decide +kernel), List.mem_of_getElem? (i := 769) (by decide +kernel)⟩
def lw_privs_4 : List (MethodName × Nat) := [(⟨"ExchangeDeskModel", "unpark", "(II)V"⟩, 25), (⟨"ExchangeDeskModel", "watch", "(I)V"⟩, 25), (⟨"ExchangeDeskModel", "ringer", "(I)I"⟩, 25)]
theorem lw_r4 : ∀ q ∈ lw_privs_4, lw_okq q := List.forall_mem_cons.mpr ⟨lw_p48, List.forall_mem_cons.mpr ⟨lw_p49, List.forall_mem_cons.mpr ⟨lw_p50, fun _ h => absurd h List.not_mem_nil⟩⟩⟩
def lw_privs : List (MethodName × Nat) := lw_privs_1 ++ (lw_privs_2 ++ (lw_privs_3 ++ (lw_privs_4)))
def lw_tbl : List Cond := k2_sels lw_privs ++ tables_1
theorem lw_privs_ok : ∀ q ∈ lw_privs, lw_okq q := by
  show ∀ q ∈ lw_privs_1 ++ (lw_privs_2 ++ (lw_privs_3 ++ (lw_privs_4))), lw_okq q
  exact List.forall_mem_append.mpr ⟨lw_r1, List.forall_mem_append.mpr ⟨lw_r2, List.forall_mem_append.mpr ⟨lw_r3, lw_r4⟩⟩⟩
-- ===== end of PART A; then your names; then what follows =====
end
section
/-! ===== BEGIN words of one list among another's, by their places ===== -/
theorem goodIn_r {big : List Cond} (ws : List Cond) (ps : List Nat) (hp : ws = ps.filterMap (fun i => big[i]?)) (h : ws.all goodWord = true) : GoodIn big ws := by
  intro w hw
  have h1 := List.all_eq_true.mp h w hw
  rw [hp] at hw
  obtain ⟨i, -, hi⟩ := List.mem_filterMap.mp hw
  have hm : w ∈ big := by first | exact List.mem_of_getElem? hi | exact List.getElem?_mem hi
  exact ⟨hm, good_of_word h1⟩
theorem goodIn_app {big a b : List Cond} (ha : GoodIn big a) (hb : GoodIn big b) : GoodIn big (a ++ b) := fun w h => (List.mem_append.mp h).elim (ha w) (hb w)
theorem goodIn_ca {big a b : List Cond} {c : Cond} (ha : GoodIn big (c :: a)) (hb : GoodIn big b) : GoodIn big (c :: (a ++ b)) := fun w h => (List.mem_cons.mp h).elim (fun e => ha w (List.mem_cons.mpr (Or.inl e))) (fun h => (List.mem_append.mp h).elim (fun h => ha w (List.mem_cons.mpr (Or.inr h))) (hb w))
theorem goodIn_sub {big ws : List Cond} (hm : ∀ w ∈ ws, w ∈ big) (h : ws.all goodWord = true) : GoodIn big ws := fun w hw => ⟨hm w hw, good_of_word (List.all_eq_true.mp h w hw)⟩
/-! ===== END ===== -/

/-! ===== BEGIN exceptions that leave a method, and their catching by the caller (launches without stack traces) ===== -/
section VXA
/-! The laws vx_back, vx_callV, vx_callS, vx_callSW, vx_throw0, vx_throwS follow proofs of the library, with one case more: JvmDerived/Free/Laws.lean (Back.of_free), Shelf42/LK1.lean (callV, callS), Shelf/KitTraced.lean (throwNew0V, throwNewS). -/
/-- where a method has thrown q: the class by its name, the cell, what was written, the world -/
def vx_T (XC : String → State → State → Prop) (st : State) (q : Addr) (t : State) (mc ms : Nat) (free : Addr → Prop) : Prop :=
  ∃ (E : String) (ce : Cell) (L : List Loc), XC E st t ∧ t.heap[q]? = some ce ∧ ce.vm = .none ∧ st.vm.findClass E = some ce.cls ∧ st.WarmedH t.vm ∧ st.sameButNew ({ t with vm := st.vm } : State) L mc ms ∧ ∀ z ∈ L, free z.base
def vx_Q (Qc : Array Value → State → Outcome → State → Prop) (XC : String → State → State → Prop) (mc ms : Nat) (free : Addr → Prop) : Array Value → State → Outcome → State → Prop := fun a st o t =>
  (Qc a st o t ∧ ∃ L, FrameEnd st o t L mc ms ∧ ∀ q ∈ L, free q.base) ∨ ∃ q, o = .threw q ∧ vx_T XC st q t mc ms free
/-- a callee that returns or throws -/
def vx_Met (l : Launch) (y : MethodName) (ws : List Cond) (rm : Room) (Pc : Array Value → State → Prop) (Qc : Array Value → State → Outcome → State → Prop) (XC : String → State → State → Prop) (mc ms : Nat) (free : Addr → Prop) : Prop :=
  MetFree l y (headSpec ws rm) Pc (fun _ _ _ _ _ => True) (vx_Q Qc XC mc ms free)
def vx_Post (XC : String → State → State → Prop) (mc ms : Nat) (free : Addr → Prop) : Pt → Array Value → Addr → Pt → Prop := fun A a q B =>
  ∃ (g : JFrame) (mk : MethodId) (t : State) (L : List Loc) (E : String) (ce : Cell), B.U.heap = t.heap ∧ B.U.vm = t.vm ∧ XC E (A.U.calling g mk a) t ∧ t.heap[q]? = some ce ∧ ce.vm = .none ∧ A.U.vm.findClass E = some ce.cls ∧ B.locs = A.locs ++ L ∧ (∀ z ∈ L, free z.base) ∧ B.cells = A.cells + mc ∧ B.slots = A.slots + ms
def vx_Back (l : Launch) (R : Room) (p : Program) (e : Env) (below : List Frame) (s : State) (sargs : Array Value) (y : MethodName) (len W9 : Nat)
    (Pre : Pt → Array Value → Prop) (Post : Pt → Array Value → Option Value → Pt → Prop) (PostX : Pt → Array Value → Addr → Pt → Prop) : Prop :=
  ∀ (m : MethodId) (meth : Method) (c : Code) (A : Pt) (g : JFrame) (ig : Instr) (mk : MethodId) (a : Array Value),
    Stand p l e R s m sargs below meth c A.U A.locs A.cells A.slots → g.method = m → g.locals.size = c.maxLocals → decode c.code g.pc = .ok (ig, len) →
    2 * g.monitorRoom + (g.stack.map fun v => v.category).sum ≤ W9 → A.U.methodNamed? y = some mk → Pre A a →
    (∃ (v : Option Value) (B : Pt), Stand p l e R s m sargs below meth c B.U B.locs B.cells B.slots ∧ Post A a v B ∧
      Steps p.tables e below (doInvoke e (A.U.setTop g) [] mk a).1 (B.U.setTop { g with pc := g.pc + len, stack := v.toList ++ g.stack })) ∨
    (∃ (q : Addr) (B : Pt), Stand p l e R s m sargs below meth c B.U B.locs B.cells B.slots ∧ PostX A a q B ∧
      Steps p.tables e below (doInvoke e (A.U.setTop g) [] mk a).1 ((B.U.setTop g).pushFrame (.throwing q)))
section Payer
variable {l : Launch} {R : Room} {p : Program} {e : Env} {below : List Frame} {s : State} {sargs : Array Value} {y : MethodName} {len W9 : Nat}
theorem vx_back {ws : List Cond} {rm : Room} {Pc : Array Value → State → Prop} {Qc : Array Value → State → Outcome → State → Prop} {XC : String → State → State → Prop} {mc ms : Nat} {free : Addr → Prop} {bytes : ByteArray} {maxL : Nat} {ret : Option FieldType}
    (hM : vx_Met l y ws rm Pc Qc XC mc ms free) (hblind : FrameBlind Pc) (hrc : rm.cells = mc) (hrs : rm.slots = ms)
    (hframes : rm.frames + 1 ≤ R.frames) (hlocals : W9 + (maxL + 11) + rm.locals ≤ R.locals)
    (hws : ∀ w ∈ ws, ∀ a' U, s.WarmedH U.vm → w.before a' U = true) (hcode : Cond.code y bytes maxL ret ∈ ws) (hinit : ∀ a' U, s.WarmedH U.vm → (Cond.initialized y.cls).before a' U = true) :
    vx_Back l R p e below s sargs y len W9 (PreOf R mc ms Pc) (PostOf Qc mc ms free) (vx_Post XC mc ms free) := by
  intro m meth c A g ig mk a X hg hsize hdg hW hn hp
  have h1 : (headSpec ws rm).pre.before a A.U = true := atoms_intro fun w hw => hws w hw _ _ X.warmed
  have h2 : (Cond.code y bytes maxL ret).before a A.U = true := hws _ hcode _ _ X.warmed
  have h3 : (Cond.initialized y.cls).before a A.U = true := hinit _ _ X.warmed
  have h4 : A.cells + (headSpec ws rm).room.cells ≤ R.cells := by rw [show (headSpec ws rm).room.cells = mc from hrc]; exact hp.1
  have h5 : A.slots + (headSpec ws rm).room.slots ≤ R.slots := by rw [show (headSpec ws rm).room.slots = ms from hrs]; exact hp.2.1
  have hPc : Pc a (A.U.calling g mk a) := hblind _ _ _ _ hp.2.2
  obtain ⟨U, Ls, c0, s0⟩ := A
  dsimp only [Pt.U, Pt.locs, Pt.cells, Pt.slots] at h1 h2 h3 h4 h5 X hn hPc ⊢
  obtain ⟨methY, cY, hmY, hcY, -, hlY, -, -, -, -⟩ := Cond.code_spec hn h2
  obtain ⟨kY, hkY, -⟩ := className_of_methodNamed hn
  have hinitY : kY.init = .initialized := Cond.initialized_spec (findClass_of_methodNamed hn) hkY h3
  have h : At U g.method c below := by rw [hg]; exact X.here
  have hlocals9 : W9 + (maxL + 11) + (headSpec ws rm).room.locals ≤ R.locals := hlocals
  have happ : (headSpec ws rm).appliesLoose y e.platform (U.calling g mk a) = true :=
    Spec.appliesLoose_calling (g := g) h hdg hn hkY hinitY
      (X.room_calling (g := g) (R' := (headSpec ws rm).room) hsize hmY hcY hframes (by rw [hlY]; omega) h4 h5) h1
  obtain ⟨mid, hmid⟩ := h.above
  have hfr : (U.setTop g).frames = (.java g :: mid) ++ below := by rw [State.frames_setTop' g h.top, hmid]; rfl
  obtain ⟨o, s₂, hsteps, -, hend, hq⟩ := Steps.callFree hM p X.admits X.cas X.clock (acts := []) hfr happ hPc trivial
  have hq' : vx_Q Qc XC mc ms free a (U.calling g mk a) o s₂ := hq
  rw [State.frames_setTop' g h.top] at hend
  obtain ⟨g₀, hg0⟩ := Option.isSome_iff_exists.mp h.top
  obtain ⟨r, hr⟩ := State.topJava?_eq_some.mp hg0
  have hr' : (({ U with heap := s₂.heap, slotsUsed := s₂.slotsUsed } : State).setVm s₂.vm).frames = .java g₀ :: r := hr
  rcases hq' with ⟨hqc, L, hfe, hL⟩ | ⟨q, rfl, E, ce, L, hx, hce, hcv, hcl, hW₂, hsm, hL⟩
  · obtain ⟨⟨v, rfl⟩, hW₂, e2, q2, q3, q4, q5, q6⟩ := id hfe
    have e3 : s₂ = ({ (U.calling g mk a).setFrames s₂.frames with heap := s₂.heap, slotsUsed := s₂.slotsUsed } : State).setVm s₂.vm := by
      have : s₂ = ({ s₂ with vm := (U.calling g mk a).vm } : State).setVm s₂.vm := rfl
      rw [e2] at this
      exact this
    obtain ⟨c₂, i₂, len₂, hc₂, hd₂, hf₂⟩ := hend
    have hW' : U.WarmedH s₂.vm := hW₂
    have hcc : c₂ = c := by
      have h1 : s₂.code? g.method = U.code? g.method := by
        rw [State.code?_eq, State.code?_eq, hW'.alike.method?]
      exact Option.some.inj (hc₂.symm.trans (h1.trans h.code))
    subst hcc
    have hlen : len₂ = len := by rw [hdg] at hd₂; cases hd₂; rfl
    subst hlen
    have hs₂ : s₂ = (({ U with heap := s₂.heap, slotsUsed := s₂.slotsUsed } : State).setVm s₂.vm).setTop { g with pc := g.pc + len₂, stack := v.toList ++ g.stack } := by
      refine e3.trans ?_
      rw [hf₂, State.calling_eq h.top, State.setFrames_setFrames, State.setTop_of_frames _ hr', hr]
      rfl
    have hsame : U.sameButNew ({ U with heap := s₂.heap, slotsUsed := s₂.slotsUsed } : State) L mc ms := by
      refine ⟨?_, q2, q3, q4, q5, q6⟩
      obtain ⟨t, ht, -⟩ := State.frames_cons hr
      show ({ U with heap := s₂.heap, slotsUsed := s₂.slotsUsed } : State) = { U.setFrames U.frames with heap := s₂.heap, slotsUsed := s₂.slotsUsed }
      rw [State.setFrames_self ht]
    subst hg
    refine Or.inl ⟨v, ⟨(({ U with heap := s₂.heap, slotsUsed := s₂.slotsUsed } : State).setVm s₂.vm), Ls ++ L, c0 + mc, s0 + ms⟩,
      ⟨X.admits, X.cas, X.clock, X.frames, X.room, X.hears, X.method, X.code, (X.here.setHeapUsed s₂.heap s₂.slotsUsed).setVm hW'.alike, X.tail, State.WarmedH.trans X.warmed hW', X.limits, X.bytes, X.same.trans (hsame.setVm s.vm)⟩,
      ⟨g, mk, s₂, L, rfl, rfl, hqc, rfl, hL, rfl, rfl⟩, ?_⟩
    show Steps p.tables e below _ ((({ U with heap := s₂.heap, slotsUsed := s₂.slotsUsed } : State).setVm s₂.vm).setTop { g with pc := g.pc + len₂, stack := v.toList ++ g.stack })
    rw [← hs₂]
    exact hsteps
  · obtain ⟨e2, q2, q3, q4, q5, q6⟩ := id hsm
    have e3 : s₂ = ({ (U.calling g mk a).setFrames s₂.frames with heap := s₂.heap, slotsUsed := s₂.slotsUsed } : State).setVm s₂.vm := by
      have : s₂ = ({ s₂ with vm := (U.calling g mk a).vm } : State).setVm s₂.vm := rfl
      rw [e2] at this
      exact this
    have hf₂ : s₂.frames = .throwing q :: .java g :: U.frames.tail := hend
    have hW' : U.WarmedH s₂.vm := hW₂
    have hs₂ : s₂ = ((({ U with heap := s₂.heap, slotsUsed := s₂.slotsUsed } : State).setVm s₂.vm).setTop g).pushFrame (.throwing q) := by
      refine e3.trans ?_
      rw [hf₂, State.calling_eq h.top, State.setFrames_setFrames, State.pushFrame, State.frames_setTop _ hr', State.setTop_of_frames _ hr', State.setFrames_setFrames, hr]
      rfl
    have hsame : U.sameButNew ({ U with heap := s₂.heap, slotsUsed := s₂.slotsUsed } : State) L mc ms := by
      refine ⟨?_, q2, q3, q4, q5, q6⟩
      obtain ⟨t, ht, -⟩ := State.frames_cons hr
      show ({ U with heap := s₂.heap, slotsUsed := s₂.slotsUsed } : State) = { U.setFrames U.frames with heap := s₂.heap, slotsUsed := s₂.slotsUsed }
      rw [State.setFrames_self ht]
    subst hg
    refine Or.inr ⟨q, ⟨(({ U with heap := s₂.heap, slotsUsed := s₂.slotsUsed } : State).setVm s₂.vm), Ls ++ L, c0 + mc, s0 + ms⟩,
      ⟨X.admits, X.cas, X.clock, X.frames, X.room, X.hears, X.method, X.code, (X.here.setHeapUsed s₂.heap s₂.slotsUsed).setVm hW'.alike, X.tail, State.WarmedH.trans X.warmed hW', X.limits, X.bytes, X.same.trans (hsame.setVm s.vm)⟩,
      ⟨g, mk, s₂, L, E, ce, rfl, rfl, hx, hce, hcv, hcl, rfl, hL, rfl, rfl⟩, ?_⟩
    show Steps p.tables e below _ (((({ U with heap := s₂.heap, slotsUsed := s₂.slotsUsed } : State).setVm s₂.vm).setTop g).pushFrame (.throwing q))
    rw [← hs₂]
    exact hsteps
end Payer
section Calls
variable {p : Program} {l : Launch} {e : Env} {R : Room} {s : State} {m : MethodId} {args : Array Value} {below : List Frame} {meth : Method} {c : Code} {T : State} {locs : List Loc} {cells slots : Nat}
theorem vx_callV (X : Stand p l e R s m args below meth c T locs cells slots) (hexec : p.tables.exec = Jvm.exec) {own C : String} {index : Nat} {y : MethodName} {bytes : ByteArray} {maxL : Nat} {ret : Option FieldType}
    (hown : s.vm.findClass own = some m.cls) (hlink : (Cond.methodLink own index y).before args s = true) (hinst : (Cond.instanceMethod y).before args s = true) (hsel : (Cond.selects C y y).before args s = true)
    (hcode : (Cond.code y bytes maxL ret).before args s = true) (hy : y.cls ≠ "java/lang/invoke/MethodHandle" ∧ y.cls ≠ "java/lang/invoke/VarHandle")
    {W9 : Nat} {Pre : Pt → Array Value → Prop} {Post : Pt → Array Value → Option Value → Pt → Prop} {PostX : Pt → Array Value → Addr → Pt → Prop} (hK : vx_Back l R p e below s args y 3 W9 Pre Post PostX)
    {b : Addr} {cellB : Cell} (hcell : T.heap[b]? = some cellB) (hobj : cellB.vm.isStatics = false) (hcls : s.vm.findClass C = some cellB.cls)
    {g : JFrame} (hg : g.method = m) (hsize : g.locals.size = c.maxLocals) {argsL rest : List Value} (hlen : ∀ sig, parseMethodDescriptor y.desc = some sig → argsL.length = sig.parameters.length)
    (hstack : g.stack = argsL.reverse ++ .ref b :: rest) (hW : 2 * g.monitorRoom + (rest.map fun v => v.category).sum ≤ W9) (hdg : decode c.code g.pc = .ok (.invokevirtual index, 3))
    (hpre : ∀ vm₁, s.WarmedH vm₁ → Pre ⟨T.setVm vm₁, locs, cells, slots⟩ (Value.ref b :: argsL).toArray) :
    (∃ (v : Option Value) (vm₁ : Vm) (B : Pt), s.WarmedH vm₁ ∧ Stand p l e R s m args below meth c B.U B.locs B.cells B.slots ∧ Post ⟨T.setVm vm₁, locs, cells, slots⟩ (Value.ref b :: argsL).toArray v B ∧
      ∀ target, Steps p.tables e below (B.U.setTop { g with pc := g.pc + 3, stack := v.toList ++ rest }) target → Steps p.tables e below (T.setTop g) target) ∨
    (∃ (q : Addr) (vm₁ : Vm) (B : Pt), s.WarmedH vm₁ ∧ Stand p l e R s m args below meth c B.U B.locs B.cells B.slots ∧ PostX ⟨T.setVm vm₁, locs, cells, slots⟩ (Value.ref b :: argsL).toArray q B ∧
      Steps p.tables e below (T.setTop g) ((B.U.setTop { g with stack := rest }).pushFrame (.throwing q))) := by
  obtain ⟨mk, methM, hnamed, hmethM, hstM, habM⟩ := Cond.instanceMethod_spec hinst
  obtain ⟨methM', cM, hmethM', -, -, -, -, -, -, hsigM⟩ := Cond.code_spec hnamed hcode
  cases hmethM.symm.trans hmethM'
  obtain ⟨c2, r2, m2, q1, q2, q3, q4, kP, hkP, hkPi⟩ := Cond.selects_spec hsel
  cases hcls.symm.trans q1
  cases (State.methodFound?_of_named hnamed hy).symm.trans q2
  cases hnamed.symm.trans q3
  have hselP : selectMethod e.platform s.vm cellB.cls mk = .method mk := by rw [Launch.admits_selectMethod X.admits]; exact q4
  obtain ⟨vm₁, X₁, hstep₁⟩ := X.invokevirtual hexec hown hlink hnamed hmethM hstM hkP hkPi hy (a := b) (cell := cellB) hcell
    (fun z h => by rw [h] at hobj; cases hobj) hselP hmethM habM hkP hkPi (g := g) hg (argsL := argsL) (rest := rest) (hlen _ hsigM) hstack hdg
  rcases hK m meth c ⟨T.setVm vm₁, locs, cells, slots⟩ { g with stack := rest } (.invokevirtual index) mk (Value.ref b :: argsL).toArray X₁ hg hsize hdg hW (X₁.named hnamed) (hpre vm₁ X₁.warmed) with ⟨v, B, X', hpost, hsteps⟩ | ⟨q, B, X', hpost, hsteps⟩
  · exact Or.inl ⟨v, vm₁, B, X₁.warmed, X', hpost, fun target h => hstep₁ _ fun acts => by rw [doInvoke_state]; exact hsteps.trans h⟩
  · exact Or.inr ⟨q, vm₁, B, X₁.warmed, X', hpost, hstep₁ _ fun acts => by rw [doInvoke_state]; exact hsteps⟩
theorem vx_callS (X : Stand p l e R s m args below meth c T locs cells slots) (hexec : p.tables.exec = Jvm.exec) {own : String} {index : Nat} {y : MethodName} {bytes : ByteArray} {maxL : Nat} {ret : Option FieldType}
    (hown : s.vm.findClass own = some m.cls) (hlink : (Cond.methodLink own index y).before args s = true) (hstat : (Cond.static y).before args s = true) (hinit : (Cond.initialized y.cls).before args s = true)
    (hcode : (Cond.code y bytes maxL ret).before args s = true) (hy : y.cls ≠ "java/lang/invoke/MethodHandle" ∧ y.cls ≠ "java/lang/invoke/VarHandle")
    {W9 : Nat} {Pre : Pt → Array Value → Prop} {Post : Pt → Array Value → Option Value → Pt → Prop} {PostX : Pt → Array Value → Addr → Pt → Prop} (hK : vx_Back l R p e below s args y 3 W9 Pre Post PostX)
    {g : JFrame} (hg : g.method = m) (hsize : g.locals.size = c.maxLocals) {argsL rest : List Value} (hlen : ∀ sig, parseMethodDescriptor y.desc = some sig → argsL.length = sig.parameters.length)
    (hstack : g.stack = argsL.reverse ++ rest) (hW : 2 * g.monitorRoom + (rest.map fun v => v.category).sum ≤ W9) (hdg : decode c.code g.pc = .ok (.invokestatic index, 3))
    (hpre : ∀ vm₁, s.WarmedH vm₁ → Pre ⟨T.setVm vm₁, locs, cells, slots⟩ argsL.toArray) :
    (∃ (v : Option Value) (vm₁ : Vm) (B : Pt), s.WarmedH vm₁ ∧ Stand p l e R s m args below meth c B.U B.locs B.cells B.slots ∧ Post ⟨T.setVm vm₁, locs, cells, slots⟩ argsL.toArray v B ∧
      ∀ target, Steps p.tables e below (B.U.setTop { g with pc := g.pc + 3, stack := v.toList ++ rest }) target → Steps p.tables e below (T.setTop g) target) ∨
    (∃ (q : Addr) (vm₁ : Vm) (B : Pt), s.WarmedH vm₁ ∧ Stand p l e R s m args below meth c B.U B.locs B.cells B.slots ∧ PostX ⟨T.setVm vm₁, locs, cells, slots⟩ argsL.toArray q B ∧
      Steps p.tables e below (T.setTop g) ((B.U.setTop { g with stack := rest }).pushFrame (.throwing q))) := by
  obtain ⟨mk, hnamed⟩ := Cond.code_named hcode
  obtain ⟨methM, cM, hmethM, -, -, -, -, -, -, hsigM⟩ := Cond.code_spec hnamed hcode
  have hstatic : methM.isStatic = true := Cond.static_spec hnamed hmethM hstat
  obtain ⟨kP, hkP, -⟩ := className_of_methodNamed hnamed
  have hinitP : kP.init = .initialized := Cond.initialized_spec (findClass_of_methodNamed hnamed) hkP hinit
  obtain ⟨vm₁, X₁, hstep₁⟩ := X.invokestatic hexec hown hlink hnamed hmethM hstatic hkP hinitP hy (g := g) hg (argsL := argsL) (rest := rest) (hlen _ hsigM) hstack hdg
  rcases hK m meth c ⟨T.setVm vm₁, locs, cells, slots⟩ { g with stack := rest } (.invokestatic index) mk argsL.toArray X₁ hg hsize hdg hW (X₁.named hnamed) (hpre vm₁ X₁.warmed) with ⟨v, B, X', hpost, hsteps⟩ | ⟨q, B, X', hpost, hsteps⟩
  · exact Or.inl ⟨v, vm₁, B, X₁.warmed, X', hpost, fun target h => hstep₁ _ fun acts => by rw [doInvoke_state]; exact hsteps.trans h⟩
  · exact Or.inr ⟨q, vm₁, B, X₁.warmed, X', hpost, hstep₁ _ fun acts => by rw [doInvoke_state]; exact hsteps⟩
end Calls
theorem vx_cls {s : State} {T : State} {vm₁ : Vm} {E : String} {k : ClassId} (hW : s.WarmedH vm₁) (h : (T.setVm vm₁).vm.findClass E = some k) : s.vm.findClass E = some k := by
  have h1 : vm₁.findClass E = some k := h
  rw [hW.alike.findClass] at h1
  exact h1
/-- the method's frame g, with q thrown over it -/
def vx_W (p : Program) (l : Launch) (e : Env) (R : Room) (s : State) (m : MethodId) (args : Array Value) (below : List Frame) (meth : Method) (c : Code) (H : Heap) (locs : List Loc) (cells slots : Nat) (Q : State → Prop) (g : JFrame) (q : Addr) : Prop :=
  ∀ T : State, T.heap = H → Stand p l e R s m args below meth c T locs cells slots → ∃ t, Steps p.tables e below ((T.setTop g).pushFrame (.throwing q)) t ∧ Q t
def vx_Run (p : Program) (l : Launch) (e : Env) (R : Room) (s : State) (m : MethodId) (args : Array Value) (below : List Frame) (meth : Method) (c : Code) (H : Heap) (locs : List Loc) (cells slots mc ms : Nat) (g : JFrame) (rest : List Value) (Qa : State → Outcome → State → Prop) (XC : String → State → State → Prop) (free : Addr → Prop) : Prop :=
  ∀ T : State, T.heap = H → Stand p l e R s m args below meth c T locs cells slots →
    (∃ (v : Option Value) (st₀ t T' : State) (L : List Loc), st₀.heap = H ∧ Stand p l e R s m args below meth c T' (locs ++ L) (cells + mc) (slots + ms) ∧ (∀ q ∈ L, free q.base) ∧ T'.heap = t.heap ∧ T'.vm = t.vm ∧ Qa st₀ (.returned v) t ∧
      Goes p e below T g T' { g with pc := g.pc + 3, stack := v.toList ++ rest }) ∨
    (∃ (q : Addr) (st₀ t T' : State) (L : List Loc) (E : String) (ce : Cell), st₀.heap = H ∧ Stand p l e R s m args below meth c T' (locs ++ L) (cells + mc) (slots + ms) ∧ (∀ z ∈ L, free z.base) ∧ T'.heap = t.heap ∧ T'.vm = t.vm ∧ XC E st₀ t ∧ t.heap[q]? = some ce ∧ ce.vm = .none ∧ s.vm.findClass E = some ce.cls ∧
      Steps p.tables e below (T.setTop g) ((T'.setTop { g with stack := rest }).pushFrame (.throwing q)))
def vx_X {S : Type} (px : S → Prop) (B : String → S → State → Prop) (A : Nat → Prop) : String → State → State → Prop := fun E st t => ∃ u : S, px u ∧ B E u t ∧ va_F A st t
section Runs
variable {p : Program} {l : Launch} {e : Env} {R : Room} {s : State} {m : MethodId} {args : Array Value} {below : List Frame} {meth : Method} {c : Code} {H : Heap} {locs : List Loc} {cells slots : Nat}
variable {y : MethodName} {bytes cc : ByteArray} {maxL nL mc ms n index : Nat} {ret : Option FieldType} {ws : List Cond} {rm : Room} {Pc : Array Value → State → Prop} {Qc : Array Value → State → Outcome → State → Prop} {XC : String → State → State → Prop} {free : Addr → Prop} {Ts : List Cond} {own C : String} {b : Addr} {As rest : List Value} {g : JFrame}
theorem vx_callBack (cb : CallB R s args own index y bytes maxL ret ws rm mc ms n) (hM : vx_Met l y ws rm Pc Qc XC mc ms free) (hbl : FrameBlind Pc) : vx_Back l R p e below s args y 3 8 (PreOf R mc ms Pc) (PostOf Qc mc ms free) (vx_Post XC mc ms free) := by
  obtain ⟨hrc, hrs, hfr, hlo, hws, hcw, -, hini, -⟩ := cb
  exact vx_back (bytes := bytes) (maxL := maxL) (ret := ret) hM hbl hrc hrs hfr hlo hws hcw (fun a' U hW => word_at hW (Or.inl (by first | rfl | simp [Cond.onTables, Cond.keeps, Cond.steady])) hini)
theorem vx_runV (S : CallFix p m c cc nL s args Ts own) (hM : vx_Met l y ws rm Pc Qc XC mc ms free) (cw : CallW R s args own C index y bytes maxL ret ws rm mc ms n) (hp : PreV s H C b Pc As)
    (hg : g.method = m) (hn : As.length = n) (hsize : g.locals.size = nL) (hstack : g.stack = As.reverse ++ .ref b :: rest) (hW : 2 * g.monitorRoom + (rest.map fun v => v.category).sum ≤ 8) (hdg : decode cc g.pc = .ok (.invokevirtual index, 3)) (hf : cells + mc ≤ R.cells ∧ slots + ms ≤ R.slots) :
    vx_Run p l e R s m args below meth c H locs cells slots mc ms g rest (Qc (Value.ref b :: As).toArray) XC free := by
  have hK : vx_Back l R p e below s args y 3 8 (PreOf R mc ms Pc) (PostOf Qc mc ms free) (vx_Post XC mc ms free) := vx_callBack cw.1 hM hp.1
  obtain ⟨⟨-, -, -, -, -, -, hcode, -, hy, hlen, hl⟩, hin, hse⟩ := cw
  obtain ⟨hx, hb, hml, ho, -⟩ := S
  obtain ⟨-, ⟨cellB, hcB, hoB, hclB⟩, hPc⟩ := hp
  intro T hT X
  rcases vx_callV X hx (C := C) (bytes := bytes) (maxL := maxL) (ret := ret) ho hl hin hse hcode hy hK (by rw [hT]; exact hcB) hoB hclB hg (hsize.trans hml.symm) (argsL := As) (rest := rest) (fun sig h => hn.trans (hlen sig h)) hstack hW (by rw [hb]; exact hdg)
    (fun vm₁ hW₁ => ⟨hf.1, hf.2, hPc (T.setVm vm₁) hT hW₁⟩) with ⟨v, vm₁, ⟨U', l2, c2, s2⟩, hW₁, X', ⟨g', mk, t, L, e1, e2, hq, h1, hL, h2, h3⟩, st⟩ | ⟨q, vm₁, ⟨U', l2, c2, s2⟩, hW₁, X', ⟨g', mk, t, L, E, ce, e1, e2, hq, hce, hcv, hcl, h1, hL, h2, h3⟩, st⟩
  · dsimp only [Pt.U, Pt.locs, Pt.cells, Pt.slots] at X' e1 e2 h1 h2 h3 st
    subst h1; subst h2; subst h3
    exact Or.inl ⟨v, (T.setVm vm₁).calling g' mk (Value.ref b :: As).toArray, t, U', L, hT, X', hL, e1, e2, hq, st⟩
  · dsimp only [Pt.U, Pt.locs, Pt.cells, Pt.slots] at X' e1 e2 h1 h2 h3 st hcl
    subst h1; subst h2; subst h3
    exact Or.inr ⟨q, (T.setVm vm₁).calling g' mk (Value.ref b :: As).toArray, t, U', L, E, ce, hT, X', hL, e1, e2, hq, hce, hcv, vx_cls hW₁ hcl, st⟩
theorem vx_runS (S : CallFix p m c cc nL s args Ts own) (hM : vx_Met l y ws rm Pc Qc XC mc ms free) (cw : CallB R s args own index y bytes maxL ret ws rm mc ms n ∧ (Cond.static y).before args s = true) (hp : PreS s H Pc As)
    (hg : g.method = m) (hn : As.length = n) (hsize : g.locals.size = nL) (hstack : g.stack = As.reverse ++ rest) (hW : 2 * g.monitorRoom + (rest.map fun v => v.category).sum ≤ 8) (hdg : decode cc g.pc = .ok (.invokestatic index, 3)) (hf : cells + mc ≤ R.cells ∧ slots + ms ≤ R.slots) :
    vx_Run p l e R s m args below meth c H locs cells slots mc ms g rest (Qc As.toArray) XC free := by
  have hK : vx_Back l R p e below s args y 3 8 (PreOf R mc ms Pc) (PostOf Qc mc ms free) (vx_Post XC mc ms free) := vx_callBack cw.1 hM hp.1
  obtain ⟨⟨-, -, -, -, -, -, hcode, hini, hy, hlen, hl⟩, hstt⟩ := cw
  obtain ⟨hx, hb, hml, ho, -⟩ := S
  intro T hT X
  rcases vx_callS X hx (bytes := bytes) (maxL := maxL) (ret := ret) ho hl hstt hini hcode hy hK hg (hsize.trans hml.symm) (argsL := As) (rest := rest) (fun sig h => hn.trans (hlen sig h)) hstack hW (by rw [hb]; exact hdg)
    (fun vm₁ hW₁ => ⟨hf.1, hf.2, hp.2 (T.setVm vm₁) hT hW₁⟩) with ⟨v, vm₁, ⟨U', l2, c2, s2⟩, hW₁, X', ⟨g', mk, t, L, e1, e2, hq, h1, hL, h2, h3⟩, st⟩ | ⟨q, vm₁, ⟨U', l2, c2, s2⟩, hW₁, X', ⟨g', mk, t, L, E, ce, e1, e2, hq, hce, hcv, hcl, h1, hL, h2, h3⟩, st⟩
  · dsimp only [Pt.U, Pt.locs, Pt.cells, Pt.slots] at X' e1 e2 h1 h2 h3 st
    subst h1; subst h2; subst h3
    exact Or.inl ⟨v, (T.setVm vm₁).calling g' mk As.toArray, t, U', L, hT, X', hL, e1, e2, hq, st⟩
  · dsimp only [Pt.U, Pt.locs, Pt.cells, Pt.slots] at X' e1 e2 h1 h2 h3 st hcl
    subst h1; subst h2; subst h3
    exact Or.inr ⟨q, (T.setVm vm₁).calling g' mk As.toArray, t, U', L, E, ce, hT, X', hL, e1, e2, hq, hce, hcv, vx_cls hW₁ hcl, st⟩
end Runs
section Rows
variable {p : Program} {l : Launch} {e : Env} {R : Room} {s : State} {m : MethodId} {args : Array Value} {below : List Frame} {meth : Method} {c : Code} {H : Heap} {locs : List Loc} {cells slots : Nat} {Q : State → Prop}
variable {mc ms : Nat} {free : Addr → Prop} {A0 A1 : Nat → Prop} {H0 : Heap} {a : Array Value} {pc : Nat} {ls : Array Slot} {st0 rest : List Value}
theorem vx_keep {st₀ t T' : State} {L : List Loc} (h0 : st₀.heap = H) (e1 : T'.heap = t.heap) (hS : va_S A0 H0 H locs) (hA : ∀ q, q < H.size → A1 q → A0 q) (hf : ∀ q, free q → A0 q) (hL : ∀ q ∈ L, free q.base) (hF : va_F A1 st₀ t) :
    H.size ≤ T'.heap.size ∧ (∀ q : Nat, q < H.size → ¬ A1 q → T'.heap[q]? = H[q]?) ∧ va_S A0 H0 T'.heap (locs ++ L) := by
  obtain ⟨hz, hk⟩ := hF
  rw [h0] at hz hk
  exact ⟨by rw [e1]; exact hz, fun q h1 h2 => by rw [e1]; exact hk q h1 h2,
    ⟨Nat.le_trans hS.1 (by rw [e1]; exact hz), fun q h1 h2 => by rw [e1, hk q (Nat.lt_of_lt_of_le h1 hS.1) (fun z => h2 (hA q (Nat.lt_of_lt_of_le h1 hS.1) z))]; exact hS.2.1 q h1 h2, fun q hq => by
      rcases List.mem_append.mp hq with h | h
      · exact hS.2.2 q h
      · exact hf _ (hL q h)⟩⟩
theorem vx_calli {S SX : Type} {post : Int32 → S → Prop} {px : SX → Prop} {B : S → State → Prop} {BX : String → SX → State → Prop} {AX : Nat → Prop} (hr : vx_Run p l e R s m args below meth c H locs cells slots mc ms (F0 m pc ls st0) rest (va_Qi post B A1 a) (vx_X px BX AX) free) (hS : va_S A0 H0 H locs) (hA : ∀ q, q < H.size → A1 q → A0 q) (hf : ∀ q, free q → A0 q) (hAX : ∀ q, q < H.size → AX q → A0 q)
    (kx : ∀ (E : String) (ce : Cell) (q9 : Addr) (u : SX) (t : State) (H1 : Heap) (locs1 : List Loc), t.heap = H1 → s.vm.Alike t.vm → px u → BX E u t → H.size ≤ H1.size → (∀ q : Nat, q < H.size → ¬ AX q → H1[q]? = H[q]?) → va_S A0 H0 H1 locs1 → H1[q9]? = some ce → ce.vm = .none → s.vm.findClass E = some ce.cls → vx_W p l e R s m args below meth c H1 locs1 (cells + mc) (slots + ms) Q (F0 m pc ls rest) q9)
    (kk : ∀ (r : Int32) (u : S) (t : State) (H1 : Heap) (locs1 : List Loc), t.heap = H1 → s.vm.Alike t.vm → post r u → B u t → H.size ≤ H1.size → (∀ q : Nat, q < H.size → ¬ A1 q → H1[q]? = H[q]?) → va_S A0 H0 H1 locs1 → W p l e R s m args below meth c H1 locs1 (cells + mc) (slots + ms) Q (F0 m (pc + 3) ls (.int r :: rest))) : W p l e R s m args below meth c H locs cells slots Q (F0 m pc ls st0) := by
  intro T hT X
  rcases hr T hT X with ⟨v, st₀, t, T', L, h0, X', hL, e1, e2, ⟨⟨r, u, hv, hp, hb⟩, hF⟩, st⟩ | ⟨q, st₀, t, T', L, E, ce, h0, X', hL, e1, e2, ⟨u, hp, hb, hF⟩, hce, hcv, hcl, st⟩
  · cases hv
    obtain ⟨k1, k2, k3⟩ := vx_keep h0 e1 hS hA hf hL hF
    obtain ⟨t2, a1, b1⟩ := kk r u t T'.heap (locs ++ L) e1.symm (by rw [← e2]; exact X'.warmed.alike) hp hb k1 k2 k3 T' rfl X'
    exact ⟨t2, st t2 a1, b1⟩
  · obtain ⟨k1, k2, k3⟩ := vx_keep h0 e1 hS hAX hf hL hF
    obtain ⟨t2, a1, b1⟩ := kx E ce q u t T'.heap (locs ++ L) e1.symm (by rw [← e2]; exact X'.warmed.alike) hp hb k1 k2 k3 (by rw [e1]; exact hce) hcv hcl T' rfl X'
    exact ⟨t2, st.trans a1, b1⟩
theorem vx_calll {S SX : Type} {post : Int64 → S → Prop} {px : SX → Prop} {B : S → State → Prop} {BX : String → SX → State → Prop} {AX : Nat → Prop} (hr : vx_Run p l e R s m args below meth c H locs cells slots mc ms (F0 m pc ls st0) rest (va_Ql post B A1 a) (vx_X px BX AX) free) (hS : va_S A0 H0 H locs) (hA : ∀ q, q < H.size → A1 q → A0 q) (hf : ∀ q, free q → A0 q) (hAX : ∀ q, q < H.size → AX q → A0 q)
    (kx : ∀ (E : String) (ce : Cell) (q9 : Addr) (u : SX) (t : State) (H1 : Heap) (locs1 : List Loc), t.heap = H1 → s.vm.Alike t.vm → px u → BX E u t → H.size ≤ H1.size → (∀ q : Nat, q < H.size → ¬ AX q → H1[q]? = H[q]?) → va_S A0 H0 H1 locs1 → H1[q9]? = some ce → ce.vm = .none → s.vm.findClass E = some ce.cls → vx_W p l e R s m args below meth c H1 locs1 (cells + mc) (slots + ms) Q (F0 m pc ls rest) q9)
    (kk : ∀ (r : Int64) (u : S) (t : State) (H1 : Heap) (locs1 : List Loc), t.heap = H1 → s.vm.Alike t.vm → post r u → B u t → H.size ≤ H1.size → (∀ q : Nat, q < H.size → ¬ A1 q → H1[q]? = H[q]?) → va_S A0 H0 H1 locs1 → W p l e R s m args below meth c H1 locs1 (cells + mc) (slots + ms) Q (F0 m (pc + 3) ls (.long r :: rest))) : W p l e R s m args below meth c H locs cells slots Q (F0 m pc ls st0) := by
  intro T hT X
  rcases hr T hT X with ⟨v, st₀, t, T', L, h0, X', hL, e1, e2, ⟨⟨r, u, hv, hp, hb⟩, hF⟩, st⟩ | ⟨q, st₀, t, T', L, E, ce, h0, X', hL, e1, e2, ⟨u, hp, hb, hF⟩, hce, hcv, hcl, st⟩
  · cases hv
    obtain ⟨k1, k2, k3⟩ := vx_keep h0 e1 hS hA hf hL hF
    obtain ⟨t2, a1, b1⟩ := kk r u t T'.heap (locs ++ L) e1.symm (by rw [← e2]; exact X'.warmed.alike) hp hb k1 k2 k3 T' rfl X'
    exact ⟨t2, st t2 a1, b1⟩
  · obtain ⟨k1, k2, k3⟩ := vx_keep h0 e1 hS hAX hf hL hF
    obtain ⟨t2, a1, b1⟩ := kx E ce q u t T'.heap (locs ++ L) e1.symm (by rw [← e2]; exact X'.warmed.alike) hp hb k1 k2 k3 (by rw [e1]; exact hce) hcv hcl T' rfl X'
    exact ⟨t2, st.trans a1, b1⟩
theorem vx_callf {S SX : Type} {post : UInt32 → S → Prop} {px : SX → Prop} {B : S → State → Prop} {BX : String → SX → State → Prop} {AX : Nat → Prop} (hr : vx_Run p l e R s m args below meth c H locs cells slots mc ms (F0 m pc ls st0) rest (va_Qf post B A1 a) (vx_X px BX AX) free) (hS : va_S A0 H0 H locs) (hA : ∀ q, q < H.size → A1 q → A0 q) (hf : ∀ q, free q → A0 q) (hAX : ∀ q, q < H.size → AX q → A0 q)
    (kx : ∀ (E : String) (ce : Cell) (q9 : Addr) (u : SX) (t : State) (H1 : Heap) (locs1 : List Loc), t.heap = H1 → s.vm.Alike t.vm → px u → BX E u t → H.size ≤ H1.size → (∀ q : Nat, q < H.size → ¬ AX q → H1[q]? = H[q]?) → va_S A0 H0 H1 locs1 → H1[q9]? = some ce → ce.vm = .none → s.vm.findClass E = some ce.cls → vx_W p l e R s m args below meth c H1 locs1 (cells + mc) (slots + ms) Q (F0 m pc ls rest) q9)
    (kk : ∀ (r : UInt32) (u : S) (t : State) (H1 : Heap) (locs1 : List Loc), t.heap = H1 → s.vm.Alike t.vm → post r u → B u t → H.size ≤ H1.size → (∀ q : Nat, q < H.size → ¬ A1 q → H1[q]? = H[q]?) → va_S A0 H0 H1 locs1 → W p l e R s m args below meth c H1 locs1 (cells + mc) (slots + ms) Q (F0 m (pc + 3) ls (.float r :: rest))) : W p l e R s m args below meth c H locs cells slots Q (F0 m pc ls st0) := by
  intro T hT X
  rcases hr T hT X with ⟨v, st₀, t, T', L, h0, X', hL, e1, e2, ⟨⟨r, u, hv, hp, hb⟩, hF⟩, st⟩ | ⟨q, st₀, t, T', L, E, ce, h0, X', hL, e1, e2, ⟨u, hp, hb, hF⟩, hce, hcv, hcl, st⟩
  · cases hv
    obtain ⟨k1, k2, k3⟩ := vx_keep h0 e1 hS hA hf hL hF
    obtain ⟨t2, a1, b1⟩ := kk r u t T'.heap (locs ++ L) e1.symm (by rw [← e2]; exact X'.warmed.alike) hp hb k1 k2 k3 T' rfl X'
    exact ⟨t2, st t2 a1, b1⟩
  · obtain ⟨k1, k2, k3⟩ := vx_keep h0 e1 hS hAX hf hL hF
    obtain ⟨t2, a1, b1⟩ := kx E ce q u t T'.heap (locs ++ L) e1.symm (by rw [← e2]; exact X'.warmed.alike) hp hb k1 k2 k3 (by rw [e1]; exact hce) hcv hcl T' rfl X'
    exact ⟨t2, st.trans a1, b1⟩
theorem vx_calld {S SX : Type} {post : UInt64 → S → Prop} {px : SX → Prop} {B : S → State → Prop} {BX : String → SX → State → Prop} {AX : Nat → Prop} (hr : vx_Run p l e R s m args below meth c H locs cells slots mc ms (F0 m pc ls st0) rest (va_Qd post B A1 a) (vx_X px BX AX) free) (hS : va_S A0 H0 H locs) (hA : ∀ q, q < H.size → A1 q → A0 q) (hf : ∀ q, free q → A0 q) (hAX : ∀ q, q < H.size → AX q → A0 q)
    (kx : ∀ (E : String) (ce : Cell) (q9 : Addr) (u : SX) (t : State) (H1 : Heap) (locs1 : List Loc), t.heap = H1 → s.vm.Alike t.vm → px u → BX E u t → H.size ≤ H1.size → (∀ q : Nat, q < H.size → ¬ AX q → H1[q]? = H[q]?) → va_S A0 H0 H1 locs1 → H1[q9]? = some ce → ce.vm = .none → s.vm.findClass E = some ce.cls → vx_W p l e R s m args below meth c H1 locs1 (cells + mc) (slots + ms) Q (F0 m pc ls rest) q9)
    (kk : ∀ (r : UInt64) (u : S) (t : State) (H1 : Heap) (locs1 : List Loc), t.heap = H1 → s.vm.Alike t.vm → post r u → B u t → H.size ≤ H1.size → (∀ q : Nat, q < H.size → ¬ A1 q → H1[q]? = H[q]?) → va_S A0 H0 H1 locs1 → W p l e R s m args below meth c H1 locs1 (cells + mc) (slots + ms) Q (F0 m (pc + 3) ls (.double r :: rest))) : W p l e R s m args below meth c H locs cells slots Q (F0 m pc ls st0) := by
  intro T hT X
  rcases hr T hT X with ⟨v, st₀, t, T', L, h0, X', hL, e1, e2, ⟨⟨r, u, hv, hp, hb⟩, hF⟩, st⟩ | ⟨q, st₀, t, T', L, E, ce, h0, X', hL, e1, e2, ⟨u, hp, hb, hF⟩, hce, hcv, hcl, st⟩
  · cases hv
    obtain ⟨k1, k2, k3⟩ := vx_keep h0 e1 hS hA hf hL hF
    obtain ⟨t2, a1, b1⟩ := kk r u t T'.heap (locs ++ L) e1.symm (by rw [← e2]; exact X'.warmed.alike) hp hb k1 k2 k3 T' rfl X'
    exact ⟨t2, st t2 a1, b1⟩
  · obtain ⟨k1, k2, k3⟩ := vx_keep h0 e1 hS hAX hf hL hF
    obtain ⟨t2, a1, b1⟩ := kx E ce q u t T'.heap (locs ++ L) e1.symm (by rw [← e2]; exact X'.warmed.alike) hp hb k1 k2 k3 (by rw [e1]; exact hce) hcv hcl T' rfl X'
    exact ⟨t2, st.trans a1, b1⟩
theorem vx_callv {S SX : Type} {post : S → Prop} {px : SX → Prop} {B : S → State → Prop} {BX : String → SX → State → Prop} {AX : Nat → Prop} (hr : vx_Run p l e R s m args below meth c H locs cells slots mc ms (F0 m pc ls st0) rest (va_Qv post B A1 a) (vx_X px BX AX) free) (hS : va_S A0 H0 H locs) (hA : ∀ q, q < H.size → A1 q → A0 q) (hf : ∀ q, free q → A0 q) (hAX : ∀ q, q < H.size → AX q → A0 q)
    (kx : ∀ (E : String) (ce : Cell) (q9 : Addr) (u : SX) (t : State) (H1 : Heap) (locs1 : List Loc), t.heap = H1 → s.vm.Alike t.vm → px u → BX E u t → H.size ≤ H1.size → (∀ q : Nat, q < H.size → ¬ AX q → H1[q]? = H[q]?) → va_S A0 H0 H1 locs1 → H1[q9]? = some ce → ce.vm = .none → s.vm.findClass E = some ce.cls → vx_W p l e R s m args below meth c H1 locs1 (cells + mc) (slots + ms) Q (F0 m pc ls rest) q9)
    (kk : ∀ (u : S) (t : State) (H1 : Heap) (locs1 : List Loc), t.heap = H1 → s.vm.Alike t.vm → post u → B u t → H.size ≤ H1.size → (∀ q : Nat, q < H.size → ¬ A1 q → H1[q]? = H[q]?) → va_S A0 H0 H1 locs1 → W p l e R s m args below meth c H1 locs1 (cells + mc) (slots + ms) Q (F0 m (pc + 3) ls (rest))) : W p l e R s m args below meth c H locs cells slots Q (F0 m pc ls st0) := by
  intro T hT X
  rcases hr T hT X with ⟨v, st₀, t, T', L, h0, X', hL, e1, e2, ⟨⟨u, hv, hp, hb⟩, hF⟩, st⟩ | ⟨q, st₀, t, T', L, E, ce, h0, X', hL, e1, e2, ⟨u, hp, hb, hF⟩, hce, hcv, hcl, st⟩
  · cases hv
    obtain ⟨k1, k2, k3⟩ := vx_keep h0 e1 hS hA hf hL hF
    obtain ⟨t2, a1, b1⟩ := kk u t T'.heap (locs ++ L) e1.symm (by rw [← e2]; exact X'.warmed.alike) hp hb k1 k2 k3 T' rfl X'
    exact ⟨t2, st t2 a1, b1⟩
  · obtain ⟨k1, k2, k3⟩ := vx_keep h0 e1 hS hAX hf hL hF
    obtain ⟨t2, a1, b1⟩ := kx E ce q u t T'.heap (locs ++ L) e1.symm (by rw [← e2]; exact X'.warmed.alike) hp hb k1 k2 k3 (by rw [e1]; exact hce) hcv hcl T' rfl X'
    exact ⟨t2, st.trans a1, b1⟩
end Rows
section Ends
variable {p : Program} {l : Launch} {e : Env} {R : Room} {s : State} {m : MethodId} {args : Array Value} {below : List Frame} {meth : Method} {c : Code} {H : Heap} {locs : List Loc} {cells slots : Nat} {Q : State → Prop}
variable {mc ms : Nat} {free : Addr → Prop} {A0 A1 : Nat → Prop} {H0 : Heap} {a : Array Value} {ls : Array Slot} {st0 rest : List Value}
variable {Qc : Array Value → State → Outcome → State → Prop} {XC : String → State → State → Prop}
/-- what a body that may throw owes at its end -/
def vx_MQ (below : List Frame) (Qc : Array Value → State → Outcome → State → Prop) (XC : String → State → State → Prop) (a : Array Value) (s : State) (mc ms : Nat) (free : Addr → Prop) : State → Prop := fun t =>
  ∃ o, t.status = .running ∧ Ended t below o ∧ vx_Q Qc XC mc ms free a s o t
theorem vx_ret {g : JFrame} {mc ms : Nat} (k : W p l e R s m args below meth c H locs cells slots (MQ below Qc args s mc ms free) g) : W p l e R s m args below meth c H locs cells slots (vx_MQ below Qc XC args s mc ms free) g := by
  intro T hT X
  obtain ⟨t, a1, o, b1, b2, b3, b4⟩ := k T hT X
  exact ⟨t, a1, o, b1, b2, Or.inl ⟨b3, b4⟩⟩
/-- not caught here: it goes on to the caller -/
theorem vx_widen {g : JFrame} {q : Addr} {k n : Nat} (h1 : cells ≤ k) (h2 : slots ≤ n) (kk : vx_W p l e R s m args below meth c H locs k n Q g q) : vx_W p l e R s m args below meth c H locs cells slots Q g q := fun T hT X => kk T hT (stand_widen X h1 h2)
theorem vx_out {pc : Nat} {E : String} {ce : Cell} {q : Addr} {mc ms : Nat} (hout : ∀ x ∈ c.exceptionTable.toList, covers x pc = false) (hlocks : meth.locks = false) (hcell : H[q]? = some ce) (hv : ce.vm = .none) (hcl : s.vm.findClass E = some ce.cls)
    (hx : ∀ t : State, t.heap = H → s.vm.Alike t.vm → XC E s t) (hf : ∀ z ∈ locs, free z.base) (hc : cells ≤ mc) (hs : slots ≤ ms) :
    vx_W p l e R s m args below meth c H locs cells slots (vx_MQ below Qc XC args s mc ms free) (F0 m pc ls rest) q := by
  intro T hT X
  obtain ⟨st1, hrun, hend, hW, hsm⟩ := X.leaveThrown q (g := F0 m pc ls rest) rfl rfl rfl hout hlocks
  have hcell9 : (T.setFrames (.throwing q :: below)).heap[q]? = some ce := by
    show T.heap[q]? = some ce
    rw [hT]; exact hcell
  exact ⟨_, st1, .threw q, hrun, hend, Or.inr ⟨q, rfl, E, ce, locs, hx _ hT hW.alike, hcell9, hv, hcl, hW, hsm.mono hc hs, hf⟩⟩
theorem vx_frame {U : State} {k n : Nat} (h : s.sameButNew ({ U with vm := s.vm } : State) locs k n) : s.heap.size ≤ U.heap.size ∧ ∀ q : Nat, q < s.heap.size → (∀ z ∈ locs, z.base ≠ q) → U.heap[q]? = s.heap[q]? := by
  obtain ⟨-, h2, -, -, -, h6⟩ := h
  refine ⟨h2, fun q hq hz => ?_⟩
  obtain ⟨c9, e1, e2, e3, e4⟩ := h6 q _ (Array.getElem?_eq_getElem hq)
  have hs : c9.slots = (s.heap[q]).slots := Array.ext_getElem? fun i => e4 i fun hm => hz _ hm rfl
  have h9 : c9 = s.heap[q] := by
    rw [hs] at e2
    exact e2
  have e5 : U.heap[q]? = some c9 := e1
  rw [e5, h9, Array.getElem?_eq_getElem hq]
/-- the words of a throw but the four that speak of the heap -/
def vx_no (w : Cond) : Bool := decide (w ≠ .isRef (.static Bundle.tN "UNASSIGNED_STACK" Bundle.steD)) && decide (w ≠ .isRef (.static Bundle.tN "SUPPRESSED_SENTINEL" Bundle.listD)) && decide (w ≠ .laysStatic Bundle.tN "UNASSIGNED_STACK" Bundle.steD) && decide (w ≠ .laysStatic Bundle.tN "SUPPRESSED_SENTINEL" Bundle.listD)
def vx_at0 (own : String) (ic : Nat) (X : String) (names : List String) : List Cond := (Bundle.ownAtoms0 own ic X names).filter vx_no
def vx_atS (own : String) (ic : Nat) (X : String) (names : List String) : List Cond := (Bundle.ownAtoms own ic X names).filter vx_no
/-- a word that the tables alone decide, or a good one -/
def vx_ot (w : Cond) : Bool := w.onTables || goodWord w
theorem vx_ot_at {args a' : Array Value} {s U : State} {w : Cond} (hW : s.WarmedH U.vm) (hvm : s.vm = U.vm) (hg : vx_ot w = true) (h : w.before args s = true) : w.before a' U = true := by
  simp only [vx_ot, Bool.or_eq_true] at hg
  rcases hg with hg | hg
  · exact va_tabs hg hvm h
  · exact word_at hW (good_of_word hg) h
/-- a list's words: the good ones out of the method's own list, the others by premises of their own -/
theorem vx_hat {args : Array Value} {s : State} {L B : List Cond} (h1 : ∀ w ∈ L.filter goodWord, w.before args s = true) (h2 : ∀ w ∈ L.filter (fun w => !goodWord w), w ∈ B) (h3 : ∀ w ∈ B, w.before args s = true) : ∀ w ∈ L, w.before args s = true := by
  intro w hw
  by_cases g : goodWord w = true
  · exact h1 w (List.mem_filter.mpr ⟨hw, g⟩)
  · refine h3 w (h2 w (List.mem_filter.mpr ⟨hw, ?_⟩))
    show (!goodWord w) = true
    cases hgw : goodWord w
    · rfl
    · exact absurd hgw g
theorem vx_c {args : Array Value} {s : State} {w : Cond} {B : List Cond} (h : w.before args s = true) (t : ∀ w ∈ B, w.before args s = true) : ∀ w' ∈ w :: B, w'.before args s = true := fun w' h' => (List.mem_cons.mp h').elim (fun e => by rw [e]; exact h) (t w')
theorem vx_n {args : Array Value} {s : State} : ∀ w ∈ ([] : List Cond), w.before args s = true := fun _ h => nomatch h
theorem vx_own {args : Array Value} {s : State} {L : List Cond} (h1 : ∀ w ∈ L.filter vx_no, w.before args s = true)
    (hU : (Cond.isRef (.static Bundle.tN "UNASSIGNED_STACK" Bundle.steD)).before args s = true) (hN : (Cond.isRef (.static Bundle.tN "SUPPRESSED_SENTINEL" Bundle.listD)).before args s = true)
    (lU : (Cond.laysStatic Bundle.tN "UNASSIGNED_STACK" Bundle.steD).before args s = true) (lN : (Cond.laysStatic Bundle.tN "SUPPRESSED_SENTINEL" Bundle.listD).before args s = true) : ∀ w ∈ L, w.before args s = true := by
  intro w hw
  by_cases e1 : w = .isRef (.static Bundle.tN "UNASSIGNED_STACK" Bundle.steD)
  · rw [e1]; exact hU
  · by_cases e2 : w = .isRef (.static Bundle.tN "SUPPRESSED_SENTINEL" Bundle.listD)
    · rw [e2]; exact hN
    · by_cases e3 : w = .laysStatic Bundle.tN "UNASSIGNED_STACK" Bundle.steD
      · rw [e3]; exact lU
      · by_cases e4 : w = .laysStatic Bundle.tN "SUPPRESSED_SENTINEL" Bundle.listD
        · rw [e4]; exact lN
        · exact h1 w (List.mem_filter.mpr ⟨hw, by unfold vx_no; rw [decide_eq_true e1, decide_eq_true e2, decide_eq_true e3, decide_eq_true e4]; rfl⟩)
/-- where a static field lies, its class's statics cell in H -/
def vx_L (C n d : String) (A : Nat → Prop) (U : State) (H : Heap) : Prop := ∃ (c : ClassId) (k : Class) (i : Nat) (f : Field) (a : Nat) (cell : Cell), U.vm.findClass C = some c ∧ U.fieldFound? C n d = some (c, k, i, f) ∧ f.isStatic = true ∧ k.statics = some a ∧ H[a]? = some cell ∧ cell.vm.isStatics = true ∧ cell.cls = c ∧ f.slot < cell.slots.size ∧ k.staticTypes[f.slot]? = some f.type ∧ ¬ A a
theorem vx_L.moved {C n d : String} {A : Nat → Prop} {u U : State} {H : Heap} (hvm : u.vm.Alike U.vm) (h : vx_L C n d A u H) : vx_L C n d A U H := by
  obtain ⟨c, k, i, f, a, cell, h1, h2, h3, h4, h5, h6, h7, h8, h9, h10⟩ := h
  obtain ⟨k', hi', he⟩ := State.fieldFound?_setVm hvm h2
  exact ⟨c, k', i, f, a, cell, by rw [hvm.findClass]; exact h1, hi', h3, by rw [he]; exact h4, h5, h6, h7, h8, by rw [he]; exact h9, h10⟩
theorem vx_L.kept {C n d : String} {A : Nat → Prop} {U : State} {H H1 : Heap} (h : vx_L C n d A U H) (hq : ∀ a : Nat, a < H.size → ¬ A a → H1[a]? = H[a]?) : vx_L C n d A U H1 := by
  obtain ⟨c, k, i, f, a, cell, h1, h2, h3, h4, h5, h6, h7, h8, h9, h10⟩ := h
  exact ⟨c, k, i, f, a, cell, h1, h2, h3, h4, by rw [hq a (Array.getElem?_eq_some_iff.mp h5).1 h10]; exact h5, h6, h7, h8, h9, h10⟩
theorem vx_L.narrow {C n d : String} {A B : Nat → Prop} {U : State} {H : Heap} (h : vx_L C n d A U H) (hAB : ∀ q, B q → A q) : vx_L C n d B U H := by
  obtain ⟨c, k, i, f, a, cell, h1, h2, h3, h4, h5, h6, h7, h8, h9, h10⟩ := h
  exact ⟨c, k, i, f, a, cell, h1, h2, h3, h4, h5, h6, h7, h8, h9, fun z => h10 (hAB _ z)⟩
theorem vx_L.word {C n d : String} {A : Nat → Prop} {s : State} {args : Array Value} (h : vx_L C n d A s s.heap) : (Cond.laysStatic C n d).before args s = true := by
  obtain ⟨c, k, i, f, a, cell, h1, h2, h3, h4, h5, h6, h7, h8, h9, -⟩ := h
  show (Cond.laysStatic C n d).holds args s none s [] = true
  exact Cond.laysStatic_of h1 h2 h3 h4 h5 h6 h7 h8 h9
/-- .. and what it holds: null or some reference -/
def vx_Zq (C n d : String) (A : Nat → Prop) (U : State) (H : Heap) : Prop := va_Zq C n d A U H ∧ vx_L C n d A U H
theorem vx_Zq.moved {C n d : String} {A : Nat → Prop} {u U : State} {H : Heap} (hvm : u.vm.Alike U.vm) (h : vx_Zq C n d A u H) : vx_Zq C n d A U H := ⟨va_Zq.moved hvm h.1, vx_L.moved hvm h.2⟩
theorem vx_Zq.kept {C n d : String} {A : Nat → Prop} {U : State} {H H1 : Heap} (h : vx_Zq C n d A U H) (hq : ∀ a : Nat, a < H.size → ¬ A a → H1[a]? = H[a]?) : vx_Zq C n d A U H1 := ⟨va_Zq.kept h.1 hq, vx_L.kept h.2 hq⟩
theorem vx_Zq.narrow {C n d : String} {A B : Nat → Prop} {U : State} {H : Heap} (h : vx_Zq C n d A U H) (hAB : ∀ q, B q → A q) : vx_Zq C n d B U H := ⟨va_Zq.narrow h.1 hAB, vx_L.narrow h.2 hAB⟩
theorem vx_Zqof {args : Array Value} {s : State} {C n d : String} {A : Nat → Prop} (hl : (Cond.laysStatic C n d).before args s = true) (hini : (Cond.initialized C).before args s = true) (h : (Cond.isRef (.static C n d)).before args s = true) (hA : ∀ a : Nat, a < s.heap.size → ¬ A a) : vx_Zq C n d A s s.heap := by
  refine ⟨va_Zqof hl hini h hA, ?_⟩
  obtain ⟨c, k, i, f, a, cell, h1, h2, h3, h4, h5, h6, h7, h8, h9⟩ := Cond.laysStatic_spec hl
  exact ⟨c, k, i, f, a, cell, h1, h2, h3, h4, h5, h6, h7, h8, h9, hA a (Array.getElem?_eq_some_iff.mp h5).1⟩
theorem vx_isRef {C n d : String} {v : Value} {A : Nat → Prop} {s : State} {args : Array Value} (h : va_Z C n d v A s s.heap) (hv : v.isRef = true) : (Cond.isRef (.static C n d)).before args s = true := by
  obtain ⟨cf, kf, fi, f, a, cell, h1, h2, h3, h4, h5, h6, h7, -⟩ := h
  have he : (Term.static C n d).eval args s none [] s = some v := by
    simp [Term.eval, State.fieldNamed?, h1, h2, h4, h5, h6, h7]
  simp only [Cond.before, Cond.holds, Cond.value, he]
  cases v <;> simp_all [Value.isRef]
theorem vx_isRefq {C n d : String} {A : Nat → Prop} {s : State} {args : Array Value} (h : va_Zq C n d A s s.heap) : (Cond.isRef (.static C n d)).before args s = true := by
  rcases h with h | ⟨t, h⟩
  · exact vx_isRef h rfl
  · exact vx_isRef h rfl
/-- the same frame, seen from here: as if the method were called anew in this heap -/
theorem vx_rebase {T : State} (X : Stand p l e R s m args below meth c T locs cells slots) {R' : Room} (hf : R'.frames ≤ R.frames) (hl : R'.locals ≤ R.locals) (hc : cells + R'.cells ≤ R.cells) (hs : slots + R'.slots ≤ R.slots) :
    Stand p l e R' ((T.setVm s.vm).setFrames (.invoking m args :: below)) m args below meth c T [] 0 0 := by
  have htop : (T.setVm s.vm).topJava?.isSome := X.here.top
  have hF : ((T.setVm s.vm).setFrames (.invoking m args :: below)).frames = .invoking m args :: below := State.frames_setFrames _ (State.cur_lt_of_top htop)
  obtain ⟨g₀, hg0⟩ := Option.isSome_iff_exists.mp htop
  obtain ⟨r, hr⟩ := State.topJava?_eq_some.mp hg0
  have hl9 : e.platform.stackLimits (T.setVm s.vm).me = e.platform.stackLimits s.me := X.limits
  have hb9 : (T.setVm s.vm).me.stackBytes = s.me.stackBytes := X.bytes
  refine ⟨X.admits, X.cas, X.clock, hF, ?_, X.hears, X.method, X.code, X.here, X.tail, X.warmed, ?_, ?_, ?_⟩
  · have h := X.room
    have hU : ((T.setVm s.vm).setFrames (.invoking m args :: below)).localsInUse = s.localsInUse := by
      rw [State.localsInUse_invoking hF (meth := meth) (c := c) X.method X.code, State.localsInUse_invoking X.frames X.method X.code]
    simp only [State.hasRoom, Bool.and_eq_true, decide_eq_true_eq] at h ⊢
    obtain ⟨⟨⟨⟨h1, h2, h3, h4, h5, h6⟩, h7⟩, h8⟩, h9⟩ := h
    rw [X.frames, List.length_cons] at h2 h3
    have q1 := X.heapSize
    have q2 := X.used
    simp only [hF, hU, List.length_cons, State.stackLimits_setFrames, State.stackBytes_setFrames, hl9, hb9]
    refine ⟨⟨⟨⟨by omega, by omega, by omega, by omega, by omega, h6⟩, ?_⟩, ?_⟩, X.book⟩
    · show T.heap.size + R'.cells ≤ e.platform.maxCells
      omega
    · show T.slotsUsed + R'.slots ≤ e.platform.maxSlots
      omega
  · rw [State.stackLimits_setFrames]; rfl
  · rw [State.stackBytes_setFrames]; rfl
  · refine ⟨?_, Nat.le_refl _, Nat.le_refl _, ?_, ?_, fun a c9 h9 => ⟨c9, h9, rfl, rfl, fun _ _ => rfl⟩⟩
    · obtain ⟨t, ht, -⟩ := State.frames_cons hr
      show T.setVm s.vm = { ((T.setVm s.vm).setFrames (.invoking m args :: below)).setFrames (T.setVm s.vm).frames with heap := T.heap, slotsUsed := T.slotsUsed }
      rw [State.setFrames_setFrames, State.setFrames_self ht]
      rfl
    · show T.slotsUsed = T.slotsUsed + ((T.heap.toList.drop T.heap.size).map (·.slots.size)).sum
      rw [List.drop_eq_nil_of_le (Nat.le_of_eq Array.length_toList)]
      rfl
    · show ((T.heap.toList.drop T.heap.size).map (·.slots.size)).sum ≤ 0
      rw [List.drop_eq_nil_of_le (Nat.le_of_eq Array.length_toList)]
      exact Nat.le_refl _
/-- 'throw new E()': new; dup; invokespecial; athrow -/
theorem vx_throw0 {cc : ByteArray} {pc : Nat} (hexec : p.tables.exec = Jvm.exec) (hb : c.code = cc) (hl : l.stackTraces = false) {own cls : String} {names : List String} {ik ic mc ms : Nat} {A : Nat → Prop}
    (hown : s.vm.findClass own = some m.cls) (hcls : Bundle.fit cls = true) (hnames : ∀ n ∈ names, Bundle.fit n = true)
    (hk : (Cond.classLink own ik cls).before args s = true) (hini : (Cond.initialized cls).before args s = true) (hat : ∀ w ∈ vx_at0 own ic cls names, w.before args s = true)
    (hgood : ∀ w ∈ Cond.classLink own ik cls :: Cond.initialized cls :: vx_at0 own ic cls names, vx_ot w = true)
    (hU : vx_Zq Bundle.tN "UNASSIGNED_STACK" Bundle.steD A s s.heap) (hN : vx_Zq Bundle.tN "SUPPRESSED_SENTINEL" Bundle.listD A s s.heap) (hS : va_S A s.heap H locs) (hsize : ls.size = c.maxLocals)
    (d0 : decode cc pc = .ok (.new ik, 3)) (d3 : decode cc (pc + 3) = .ok (.dup, 1)) (d4 : decode cc (pc + 4) = .ok (.invokespecial ic, 3)) (d7 : decode cc (pc + 7) = .ok (.athrow, 1))
    (hout : ∀ x ∈ c.exceptionTable.toList, covers x (pc + 7) = false)
    (hRframes : names.length + 3 < R.frames) (hRlocals : (rest.map fun v => v.category).sum + (13 * (names.length + 1) + 42) ≤ R.locals) (hRcells : cells + 1 ≤ R.cells) (hRslots : slots + 6 ≤ R.slots) (hlocks : meth.locks = false)
    (hx : ∀ t : State, s.vm.Alike t.vm → H.size ≤ t.heap.size → (∀ q : Nat, q < H.size → t.heap[q]? = H[q]?) → XC cls s t)
    (hf : ∀ z ∈ locs, free z.base) (hc : cells + 1 ≤ mc) (hs : slots + 6 ≤ ms) :
    W p l e R s m args below meth c H locs cells slots (vx_MQ below Qc XC args s mc ms free) (F0 m pc ls rest) := by
  intro T hT X
  have htr : e.platform.stackTraces = false := (show e.platform.stackTraces = l.stackTraces by rw [X.admits.platform]).trans hl
  have Y := vx_rebase X (R' := { frames := R.frames, locals := R.locals, cells := 1, slots := 6 }) (Nat.le_refl _) (Nat.le_refl _) hRcells hRslots
  obtain ⟨s', hA⟩ : ∃ z, z = (T.setVm s.vm).setFrames (.invoking m args :: below) := ⟨_, rfl⟩
  rw [← hA] at Y
  have hvm : s'.vm = s.vm := by rw [hA]; rfl
  have hhp : s'.heap = H := by rw [hA]; exact hT
  have hW0 : s.WarmedH s'.vm := by rw [hvm]; exact State.WarmedH.refl s
  have hat' : ∀ w ∈ vx_at0 own ic cls names, w.before args s' = true := fun w hw => vx_ot_at hW0 hvm.symm (hgood w (List.mem_cons_of_mem _ (List.mem_cons_of_mem _ hw))) (hat w hw)
  have hk' : (Cond.classLink own ik cls).before args s' = true := vx_ot_at hW0 hvm.symm (hgood _ List.mem_cons_self) hk
  have hini' : (Cond.initialized cls).before args s' = true := vx_ot_at hW0 hvm.symm (hgood _ (List.mem_cons_of_mem _ List.mem_cons_self)) hini
  have hU' : vx_Zq Bundle.tN "UNASSIGNED_STACK" Bundle.steD A s' s'.heap := by rw [hhp]; exact vx_Zq.moved hW0.alike (hU.kept hS.2.1)
  have hN' : vx_Zq Bundle.tN "SUPPRESSED_SENTINEL" Bundle.listD A s' s'.heap := by rw [hhp]; exact vx_Zq.moved hW0.alike (hN.kept hS.2.1)
  have h : ∀ w ∈ Bundle.ownAtoms0 own ic cls names, w.before args s' = true := vx_own hat' (vx_isRefq hU'.1) (vx_isRefq hN'.1) hU'.2.word hN'.2.word
  have hown' : s'.vm.findClass own = some m.cls := by rw [hvm]; exact hown
  have hins : (Cond.instantiable cls 6).before args s' = true := h _ (by simp [Bundle.ownAtoms0])
  obtain ⟨vm₁, cX, kX, hfX, hkX, -, -, X₁, st1⟩ := Y.newCold hexec (own := own) (C := cls) (index := ik) (n := 6) hown' hk' hins hini'
    (g := F0 m pc ls rest) rfl (by rw [hb]; exact d0) (Nat.le_refl _) (Nat.le_refl _)
  generalize hT1 : (T.setVm vm₁).pushCell { cls := cX, slots := kX.instanceTypes.map defaultValue, vm := .none } = T1 at X₁ st1
  have hcat : (Value.ref T.heap.size).category = 1 := rfl
  have hcellA : T1.heap[T.heap.size]? = some (freshCell cX kX) := by rw [← hT1]; exact State.heap_pushCell_size _ _
  have d3' : decode c.code (pc + 3) = .ok (.dup, 1) := by rw [hb]; exact d3
  obtain ⟨U, hsteps, hrun, hend, hW, hsame, ce, hce, hO⟩ := X₁.ctorThrow0 hexec htr (own := own) (cls := cls) (names := names) (ic := ic) hown' hcls hnames h (fun x hx => nomatch hx) hfX hkX hcellA (by rw [hhp, hT]; exact Nat.le_refl _)
    (g := { method := m, pc := pc + 4, locals := ls, stack := .ref T.heap.size :: .ref T.heap.size :: rest, locked := none }) rfl hsize rfl rfl (rest := rest) rfl
    (by rw [hb]; exact d4) (by rw [hb]; exact d7) hout hRframes (by simp only [List.map_cons, List.sum_cons, hcat]; omega) hlocks
  obtain ⟨f1, f2⟩ := vx_frame hsame
  rw [hhp] at f1 f2
  have hWs : s.WarmedH U.vm := State.WarmedH.trans hW0 hW
  have hcl : s.vm.findClass cls = some ce.cls := by
    have h9 := hO.cls
    rw [hvm] at h9
    exact h9
  have hall : s.sameButNew ({ U with vm := s.vm } : State) locs mc ms := by
    subst hA
    obtain ⟨e1, e2⟩ := hsame
    rw [State.setFrames_setFrames] at e1
    have h2 : (T.setVm s.vm).sameButNew ({ U with vm := s.vm } : State) [] (0 + 1) (0 + 6) := ⟨e1, e2⟩
    have h3 := X.same.trans h2
    rw [List.append_nil] at h3
    exact h3.mono hc hs
  refine ⟨U, ?_, .threw T.heap.size, hrun, hend, Or.inr ⟨T.heap.size, rfl, cls, ce, locs, hx U hWs.alike f1 (fun q hq => f2 q hq (fun z hz => nomatch hz)), hce, hO.vm, hcl, hWs, hall, hf⟩⟩
  refine st1 _ ?_
  show Steps p.tables e below (T1.setTop { method := m, pc := pc + 3, locals := ls, stack := .ref T.heap.size :: rest, locked := none }) _
  jvm_step X₁.here [X₁.here.top, hexec, d3', Value.category]
  exact hsteps
/-- 'throw new E("text")': new; dup; ldc; invokespecial; athrow -/
theorem vx_throwS {cc : ByteArray} {pc : Nat} (hexec : p.tables.exec = Jvm.exec) (hb : c.code = cc) (hl : l.stackTraces = false) {own cls text : String} {names : List String} {ik is ic mc ms sa : Nat} {A : Nat → Prop}
    (hown : s.vm.findClass own = some m.cls) (hcls : Bundle.fit cls = true) (hnames : ∀ n ∈ names, Bundle.fit n = true)
    (hk : (Cond.classLink own ik cls).before args s = true) (hini : (Cond.initialized cls).before args s = true) (hstr : vk_R own is text sa s) (hat : ∀ w ∈ vx_atS own ic cls names, w.before args s = true)
    (hgood : ∀ w ∈ Cond.classLink own ik cls :: Cond.initialized cls :: vx_atS own ic cls names, vx_ot w = true)
    (hU : vx_Zq Bundle.tN "UNASSIGNED_STACK" Bundle.steD A s s.heap) (hN : vx_Zq Bundle.tN "SUPPRESSED_SENTINEL" Bundle.listD A s s.heap) (hS : va_S A s.heap H locs) (hsize : ls.size = c.maxLocals)
    (d0 : decode cc pc = .ok (.new ik, 3)) (d3 : decode cc (pc + 3) = .ok (.dup, 1)) (d4 : decode cc (pc + 4) = .ok (.ldc is, 2)) (d6 : decode cc (pc + 6) = .ok (.invokespecial ic, 3)) (d9 : decode cc (pc + 9) = .ok (.athrow, 1))
    (hout : ∀ x ∈ c.exceptionTable.toList, covers x (pc + 9) = false)
    (hRframes : names.length + 3 < R.frames) (hRlocals : (rest.map fun v => v.category).sum + (13 * (names.length + 1) + 43) ≤ R.locals) (hRcells : cells + 1 ≤ R.cells) (hRslots : slots + 6 ≤ R.slots) (hlocks : meth.locks = false)
    (hx : ∀ t : State, s.vm.Alike t.vm → H.size ≤ t.heap.size → (∀ q : Nat, q < H.size → t.heap[q]? = H[q]?) → XC cls s t)
    (hf : ∀ z ∈ locs, free z.base) (hc : cells + 1 ≤ mc) (hs : slots + 6 ≤ ms) :
    W p l e R s m args below meth c H locs cells slots (vx_MQ below Qc XC args s mc ms free) (F0 m pc ls rest) := by
  intro T hT X
  have htr : e.platform.stackTraces = false := (show e.platform.stackTraces = l.stackTraces by rw [X.admits.platform]).trans hl
  have Y := vx_rebase X (R' := { frames := R.frames, locals := R.locals, cells := 1, slots := 6 }) (Nat.le_refl _) (Nat.le_refl _) hRcells hRslots
  obtain ⟨s', hA⟩ : ∃ z, z = (T.setVm s.vm).setFrames (.invoking m args :: below) := ⟨_, rfl⟩
  rw [← hA] at Y
  have hvm : s'.vm = s.vm := by rw [hA]; rfl
  have hhp : s'.heap = H := by rw [hA]; exact hT
  have hW0 : s.WarmedH s'.vm := by rw [hvm]; exact State.WarmedH.refl s
  have hat' : ∀ w ∈ vx_atS own ic cls names, w.before args s' = true := fun w hw => vx_ot_at hW0 hvm.symm (hgood w (List.mem_cons_of_mem _ (List.mem_cons_of_mem _ hw))) (hat w hw)
  have hk' : (Cond.classLink own ik cls).before args s' = true := vx_ot_at hW0 hvm.symm (hgood _ List.mem_cons_self) hk
  have hini' : (Cond.initialized cls).before args s' = true := vx_ot_at hW0 hvm.symm (hgood _ (List.mem_cons_of_mem _ List.mem_cons_self)) hini
  have hU' : vx_Zq Bundle.tN "UNASSIGNED_STACK" Bundle.steD A s' s'.heap := by rw [hhp]; exact vx_Zq.moved hW0.alike (hU.kept hS.2.1)
  have hN' : vx_Zq Bundle.tN "SUPPRESSED_SENTINEL" Bundle.listD A s' s'.heap := by rw [hhp]; exact vx_Zq.moved hW0.alike (hN.kept hS.2.1)
  have h : ∀ w ∈ Bundle.ownAtoms own ic cls names, w.before args s' = true := vx_own hat' (vx_isRefq hU'.1) (vx_isRefq hN'.1) hU'.2.word hN'.2.word
  have hown' : s'.vm.findClass own = some m.cls := by rw [hvm]; exact hown
  have hins : (Cond.instantiable cls 6).before args s' = true := h _ (by simp [Bundle.ownAtoms])
  obtain ⟨vm₁, cX, kX, hfX, hkX, -, -, X₁, st1⟩ := Y.newCold hexec (own := own) (C := cls) (index := ik) (n := 6) hown' hk' hins hini'
    (g := F0 m pc ls rest) rfl (by rw [hb]; exact d0) (Nat.le_refl _) (Nat.le_refl _)
  generalize hT1 : (T.setVm vm₁).pushCell { cls := cX, slots := kX.instanceTypes.map defaultValue, vm := .none } = T1 at X₁ st1
  have hcat : (Value.ref T.heap.size).category = 1 := rfl
  have hcellA : T1.heap[T.heap.size]? = some (freshCell cX kX) := by rw [← hT1]; exact State.heap_pushCell_size _ _
  have d3' : decode c.code (pc + 3) = .ok (.dup, 1) := by rw [hb]; exact d3
  have d4' : decode c.code (pc + 4) = .ok (.ldc is, 2) := by rw [hb]; exact d4
  have hstr' : vk_R own is text sa s' := vk_R.warm hW0 hstr
  obtain ⟨U, hsteps, hrun, hend, hW, hsame, ce, hce, hO⟩ := X₁.ctorThrowS hexec htr (own := own) (cls := cls) (names := names) (ic := ic) hown' hcls hnames h (fun x hx => nomatch hx) hfX hkX hcellA (by rw [hhp, hT]; exact Nat.le_refl _) (msg := .ref sa) rfl
    (g := { method := m, pc := pc + 6, locals := ls, stack := .ref sa :: .ref T.heap.size :: .ref T.heap.size :: rest, locked := none }) rfl hsize rfl rfl (rest := rest) rfl
    (by rw [hb]; exact d6) (by rw [hb]; exact d9) hout hRframes (by simp only [List.map_cons, List.sum_cons, hcat]; omega) hlocks
  obtain ⟨f1, f2⟩ := vx_frame hsame
  rw [hhp] at f1 f2
  have hWs : s.WarmedH U.vm := State.WarmedH.trans hW0 hW
  have hcl : s.vm.findClass cls = some ce.cls := by
    have h9 := hO.cls
    rw [hvm] at h9
    exact h9
  have hall : s.sameButNew ({ U with vm := s.vm } : State) locs mc ms := by
    subst hA
    obtain ⟨e1, e2⟩ := hsame
    rw [State.setFrames_setFrames] at e1
    have h2 : (T.setVm s.vm).sameButNew ({ U with vm := s.vm } : State) [] (0 + 1) (0 + 6) := ⟨e1, e2⟩
    have h3 := X.same.trans h2
    rw [List.append_nil] at h3
    exact h3.mono hc hs
  refine ⟨U, ?_, .threw T.heap.size, hrun, hend, Or.inr ⟨T.heap.size, rfl, cls, ce, locs, hx U hWs.alike f1 (fun q hq => f2 q hq (fun z hz => nomatch hz)), hce, hO.vm, hcl, hWs, hall, hf⟩⟩
  refine st1 _ ?_
  show Steps p.tables e below (T1.setTop { method := m, pc := pc + 3, locals := ls, stack := .ref T.heap.size :: rest, locked := none }) _
  jvm_step X₁.here [X₁.here.top, hexec, d3', Value.category]
  exact X₁.ldcString hexec (own := own) (text := text) (index := is) (a := sa) hown' hstr'.1 hstr'.2
    (g := { method := m, pc := pc + 4, locals := ls, stack := .ref T.heap.size :: .ref T.heap.size :: rest, locked := none }) rfl d4' _ hsteps
/-- 'throw new E("text")', the text by a wide index -/
theorem vx_throwSW {cc : ByteArray} {pc : Nat} (hexec : p.tables.exec = Jvm.exec) (hb : c.code = cc) (hl : l.stackTraces = false) {own cls text : String} {names : List String} {ik is ic mc ms sa : Nat} {A : Nat → Prop}
    (hown : s.vm.findClass own = some m.cls) (hcls : Bundle.fit cls = true) (hnames : ∀ n ∈ names, Bundle.fit n = true)
    (hk : (Cond.classLink own ik cls).before args s = true) (hini : (Cond.initialized cls).before args s = true) (hstr : vk_R own is text sa s) (hat : ∀ w ∈ vx_atS own ic cls names, w.before args s = true)
    (hgood : ∀ w ∈ Cond.classLink own ik cls :: Cond.initialized cls :: vx_atS own ic cls names, vx_ot w = true)
    (hU : vx_Zq Bundle.tN "UNASSIGNED_STACK" Bundle.steD A s s.heap) (hN : vx_Zq Bundle.tN "SUPPRESSED_SENTINEL" Bundle.listD A s s.heap) (hS : va_S A s.heap H locs) (hsize : ls.size = c.maxLocals)
    (d0 : decode cc pc = .ok (.new ik, 3)) (d3 : decode cc (pc + 3) = .ok (.dup, 1)) (d4 : decode cc (pc + 4) = .ok (.ldc_w is, 3)) (d7 : decode cc (pc + 7) = .ok (.invokespecial ic, 3)) (d10 : decode cc (pc + 10) = .ok (.athrow, 1))
    (hout : ∀ x ∈ c.exceptionTable.toList, covers x (pc + 10) = false)
    (hRframes : names.length + 3 < R.frames) (hRlocals : (rest.map fun v => v.category).sum + (13 * (names.length + 1) + 43) ≤ R.locals) (hRcells : cells + 1 ≤ R.cells) (hRslots : slots + 6 ≤ R.slots) (hlocks : meth.locks = false)
    (hx : ∀ t : State, s.vm.Alike t.vm → H.size ≤ t.heap.size → (∀ q : Nat, q < H.size → t.heap[q]? = H[q]?) → XC cls s t)
    (hf : ∀ z ∈ locs, free z.base) (hc : cells + 1 ≤ mc) (hs : slots + 6 ≤ ms) :
    W p l e R s m args below meth c H locs cells slots (vx_MQ below Qc XC args s mc ms free) (F0 m pc ls rest) := by
  intro T hT X
  have htr : e.platform.stackTraces = false := (show e.platform.stackTraces = l.stackTraces by rw [X.admits.platform]).trans hl
  have Y := vx_rebase X (R' := { frames := R.frames, locals := R.locals, cells := 1, slots := 6 }) (Nat.le_refl _) (Nat.le_refl _) hRcells hRslots
  obtain ⟨s', hA⟩ : ∃ z, z = (T.setVm s.vm).setFrames (.invoking m args :: below) := ⟨_, rfl⟩
  rw [← hA] at Y
  have hvm : s'.vm = s.vm := by rw [hA]; rfl
  have hhp : s'.heap = H := by rw [hA]; exact hT
  have hW0 : s.WarmedH s'.vm := by rw [hvm]; exact State.WarmedH.refl s
  have hat' : ∀ w ∈ vx_atS own ic cls names, w.before args s' = true := fun w hw => vx_ot_at hW0 hvm.symm (hgood w (List.mem_cons_of_mem _ (List.mem_cons_of_mem _ hw))) (hat w hw)
  have hk' : (Cond.classLink own ik cls).before args s' = true := vx_ot_at hW0 hvm.symm (hgood _ List.mem_cons_self) hk
  have hini' : (Cond.initialized cls).before args s' = true := vx_ot_at hW0 hvm.symm (hgood _ (List.mem_cons_of_mem _ List.mem_cons_self)) hini
  have hU' : vx_Zq Bundle.tN "UNASSIGNED_STACK" Bundle.steD A s' s'.heap := by rw [hhp]; exact vx_Zq.moved hW0.alike (hU.kept hS.2.1)
  have hN' : vx_Zq Bundle.tN "SUPPRESSED_SENTINEL" Bundle.listD A s' s'.heap := by rw [hhp]; exact vx_Zq.moved hW0.alike (hN.kept hS.2.1)
  have h : ∀ w ∈ Bundle.ownAtoms own ic cls names, w.before args s' = true := vx_own hat' (vx_isRefq hU'.1) (vx_isRefq hN'.1) hU'.2.word hN'.2.word
  have hown' : s'.vm.findClass own = some m.cls := by rw [hvm]; exact hown
  have hins : (Cond.instantiable cls 6).before args s' = true := h _ (by simp [Bundle.ownAtoms])
  obtain ⟨vm₁, cX, kX, hfX, hkX, -, -, X₁, st1⟩ := Y.newCold hexec (own := own) (C := cls) (index := ik) (n := 6) hown' hk' hins hini'
    (g := F0 m pc ls rest) rfl (by rw [hb]; exact d0) (Nat.le_refl _) (Nat.le_refl _)
  generalize hT1 : (T.setVm vm₁).pushCell { cls := cX, slots := kX.instanceTypes.map defaultValue, vm := .none } = T1 at X₁ st1
  have hcat : (Value.ref T.heap.size).category = 1 := rfl
  have hcellA : T1.heap[T.heap.size]? = some (freshCell cX kX) := by rw [← hT1]; exact State.heap_pushCell_size _ _
  have d3' : decode c.code (pc + 3) = .ok (.dup, 1) := by rw [hb]; exact d3
  have d4' : decode c.code (pc + 4) = .ok (.ldc_w is, 3) := by rw [hb]; exact d4
  have hstr' : vk_R own is text sa s' := vk_R.warm hW0 hstr
  obtain ⟨U, hsteps, hrun, hend, hW, hsame, ce, hce, hO⟩ := X₁.ctorThrowS hexec htr (own := own) (cls := cls) (names := names) (ic := ic) hown' hcls hnames h (fun x hx => nomatch hx) hfX hkX hcellA (by rw [hhp, hT]; exact Nat.le_refl _) (msg := .ref sa) rfl
    (g := { method := m, pc := pc + 7, locals := ls, stack := .ref sa :: .ref T.heap.size :: .ref T.heap.size :: rest, locked := none }) rfl hsize rfl rfl (rest := rest) rfl
    (by rw [hb]; exact d7) (by rw [hb]; exact d10) hout hRframes (by simp only [List.map_cons, List.sum_cons, hcat]; omega) hlocks
  obtain ⟨f1, f2⟩ := vx_frame hsame
  rw [hhp] at f1 f2
  have hWs : s.WarmedH U.vm := State.WarmedH.trans hW0 hW
  have hcl : s.vm.findClass cls = some ce.cls := by
    have h9 := hO.cls
    rw [hvm] at h9
    exact h9
  have hall : s.sameButNew ({ U with vm := s.vm } : State) locs mc ms := by
    subst hA
    obtain ⟨e1, e2⟩ := hsame
    rw [State.setFrames_setFrames] at e1
    have h2 : (T.setVm s.vm).sameButNew ({ U with vm := s.vm } : State) [] (0 + 1) (0 + 6) := ⟨e1, e2⟩
    have h3 := X.same.trans h2
    rw [List.append_nil] at h3
    exact h3.mono hc hs
  refine ⟨U, ?_, .threw T.heap.size, hrun, hend, Or.inr ⟨T.heap.size, rfl, cls, ce, locs, hx U hWs.alike f1 (fun q hq => f2 q hq (fun z hz => nomatch hz)), hce, hO.vm, hcl, hWs, hall, hf⟩⟩
  refine st1 _ ?_
  show Steps p.tables e below (T1.setTop { method := m, pc := pc + 3, locals := ls, stack := .ref T.heap.size :: rest, locked := none }) _
  jvm_step X₁.here [X₁.here.top, hexec, d3', Value.category]
  exact X₁.ldcStringW hexec (own := own) (text := text) (index := is) (a := sa) hown' hstr'.1 hstr'.2
    (g := { method := m, pc := pc + 4, locals := ls, stack := .ref T.heap.size :: .ref T.heap.size :: rest, locked := none }) rfl d4' _ hsteps
end Ends
section Bodies
variable {l : Launch}
theorem vx_ofW {y : MethodName} {ws ws' : List Cond} {rm : Room} {Pc : Array Value → State → Prop} {Qc : Array Value → State → Outcome → State → Prop} {XC : String → State → State → Prop} {mc ms : Nat} {free : Addr → Prop} {cc : ByteArray} {maxL : Nat} {ret : Option FieldType}
    (hy : plainName y.cls = true) (hw : ws = Cond.code y cc maxL ret :: ws')
    (body : ∀ p e s m args below meth c s₁, BodyLoose p l y (headSpec ws rm) cc maxL ret e s m args below meth c s₁ → c.maxLocals = maxL → (∀ x ∈ c.exceptionTable.toList, False) → Pc args s →
      W p l e (headSpec ws rm).room s m args below meth c s.heap [] 0 0 (vx_MQ below Qc XC args s mc ms free) (entryFrame m args maxL)) : vx_Met l y ws rm Pc Qc XC mc ms free := by
  refine MetFree.of_bodyS (code := cc) (maxLocals := maxL) (ret := ret) hy ?_ ?_
  · intro args s m h hn
    obtain ⟨meth, c, h1, h2, h3, h4, h5, h6, -, -⟩ := Cond.code_spec hn (atoms_spec (ws := ws) h _ (by rw [hw]; exact List.mem_cons_self))
    exact ⟨meth, c, h1, h2, h3, h4, h5, h6⟩
  · intro p e s m args below meth c s₁ B hml hP _
    have hh0 : s₁.heap = s.heap := by rw [B.state]; rfl
    have ht : ∀ x ∈ c.exceptionTable.toList, False := by
      obtain ⟨meth9, c9, h1, h2, -, -, -, -, h7, -⟩ := Cond.code_spec B.named (atoms_spec (ws := ws) B.pre _ (by rw [hw]; exact List.mem_cons_self))
      cases Option.some.inj (h1.symm.trans B.method)
      cases Option.some.inj (h2.symm.trans (Stand.of_body B).code)
      intro x hx
      rw [Array.isEmpty_iff.mp h7] at hx
      cases hx
    obtain ⟨t, a1, o, b1, b2, b3⟩ := body p e s m args below meth c s₁ B hml ht hP s₁ hh0 (Stand.of_body B)
    exact ⟨t, o, a1, b1, b2, b3⟩
/-- the table of a body with handlers -/
theorem vx_table {p : Program} {x y : MethodName} {S : Spec} {cc bytes : ByteArray} {maxL maxL' : Nat} {ret ret' : Option FieldType} {e : Env} {s s₁ : State} {m : MethodId} {args : Array Value} {below : List Frame} {meth : Method} {c : Code} {hh : List (Nat × Nat × Nat × Nat)}
    (B : BodyLoose p l y S cc maxL ret e s m args below meth c s₁) (h : (Cond.codeWith y bytes maxL' ret' hh).before args s = true) : c.exceptionTable.toList = tableOf hh := by
  obtain ⟨m9, meth9, c9, hn9, h1, h2, -, -, h6, -⟩ := Cond.codeWith_spec h
  cases Option.some.inj (hn9.symm.trans B.named)
  cases Option.some.inj (h1.symm.trans B.method)
  cases Option.some.inj (h2.symm.trans (Stand.of_body B).code)
  rw [← h6, table_eq]
end Bodies
end VXA
/-! ===== END ===== -/
/-! ===== BEGIN a static call of a method with an exception table ===== -/
section VXS
variable {p : Program} {l : Launch} {e : Env} {R : Room} {s : State} {m : MethodId} {args : Array Value} {below : List Frame} {meth : Method} {c : Code} {T : State} {H : Heap} {locs : List Loc} {cells slots : Nat}
abbrev vx_CSW (R : Room) (s : State) (args : Array Value) (own : String) (index : Nat) (y : MethodName) (bytes : ByteArray) (maxL : Nat) (ret : Option FieldType) (hh : List (Nat × Nat × Nat × Nat)) (ws : List Cond) (rm : Room) (mc ms n : Nat) : Prop :=
  (rm.cells = mc ∧ rm.slots = ms ∧ rm.frames + 1 ≤ R.frames ∧ 8 + (maxL + 11) + rm.locals ≤ R.locals ∧ (∀ w ∈ ws, ∀ (a' : Array Value) (U : State), s.WarmedH U.vm → w.before a' U = true) ∧ Cond.codeWith y bytes maxL ret hh ∈ ws) ∧
  (Cond.codeWith y bytes maxL ret hh).before args s = true ∧ (Cond.initialized y.cls).before args s = true ∧ (y.cls ≠ "java/lang/invoke/MethodHandle" ∧ y.cls ≠ "java/lang/invoke/VarHandle") ∧
  (∀ sig, parseMethodDescriptor y.desc = some sig → n = sig.parameters.length) ∧ (Cond.methodLink own index y).before args s = true ∧ (Cond.static y).before args s = true
theorem vx_cwSW {own : String} {index maxL mc ms : Nat} {y : MethodName} {bytes : ByteArray} {ret : Option FieldType} {hh : List (Nat × Nat × Nat × Nat)} {Ts ws ws' : List Cond} {rm : Room} (n : Nat) (ht : ∀ w ∈ Ts, w.before args s = true) (hT : GoodIn Ts (va_wsS own index y ws)) (hw : ws = Cond.codeWith y bytes maxL ret hh :: ws') (hrc : rm.cells = mc) (hrs : rm.slots = ms)
    (hd : y.cls ≠ "java/lang/invoke/MethodHandle" ∧ y.cls ≠ "java/lang/invoke/VarHandle" ∧ (parseMethodDescriptor y.desc).map (fun d => d.parameters.length) = some n) (hR : rm.frames + 1 ≤ R.frames ∧ 8 + (maxL + 11) + rm.locals ≤ R.locals) :
    vx_CSW R s args own index y bytes maxL ret hh ws rm mc ms n := by
  have ok : ∀ w ∈ va_wsS own index y ws, w.before args s = true := fun w h => ht w (hT w h).1
  have hG : GoodIn Ts ws := fun w h => hT w (by unfold va_wsS; exact List.mem_append_right _ h)
  have hc : Cond.codeWith y bytes maxL ret hh ∈ ws := by rw [hw]; exact List.mem_cons_self
  refine ⟨⟨hrc, hrs, hR.1, hR.2, pay_in ht hG, hc⟩, ht _ (hG _ hc).1, ok _ (by simp [va_wsS]), ⟨hd.1, hd.2.1⟩, fun sig h => ?_, ok _ (by simp [va_wsS]), ok _ (by simp [va_wsS])⟩
  have h2 := hd.2.2
  rw [h] at h2
  exact (Option.some.inj h2).symm
theorem vx_callSW (X : Stand p l e R s m args below meth c T locs cells slots) (hexec : p.tables.exec = Jvm.exec) {own : String} {index : Nat} {y : MethodName} {bytes : ByteArray} {maxL : Nat} {ret : Option FieldType} {hh : List (Nat × Nat × Nat × Nat)}
    (hown : s.vm.findClass own = some m.cls) (hlink : (Cond.methodLink own index y).before args s = true) (hstat : (Cond.static y).before args s = true) (hinit : (Cond.initialized y.cls).before args s = true)
    (hcode : (Cond.codeWith y bytes maxL ret hh).before args s = true) (hy : y.cls ≠ "java/lang/invoke/MethodHandle" ∧ y.cls ≠ "java/lang/invoke/VarHandle")
    {W9 : Nat} {Pre : Pt → Array Value → Prop} {Post : Pt → Array Value → Option Value → Pt → Prop} (hK : Back l R p e below s args y 3 W9 Pre Post)
    {g : JFrame} (hg : g.method = m) (hsize : g.locals.size = c.maxLocals) {argsL rest : List Value} (hlen : ∀ sig, parseMethodDescriptor y.desc = some sig → argsL.length = sig.parameters.length)
    (hstack : g.stack = argsL.reverse ++ rest) (hW : 2 * g.monitorRoom + (rest.map fun v => v.category).sum ≤ W9) (hdg : decode c.code g.pc = .ok (.invokestatic index, 3))
    (hpre : ∀ vm₁, s.WarmedH vm₁ → Pre ⟨T.setVm vm₁, locs, cells, slots⟩ argsL.toArray) :
    ∃ (v : Option Value) (vm₁ : Vm) (B : Pt), s.WarmedH vm₁ ∧ Stand p l e R s m args below meth c B.U B.locs B.cells B.slots ∧ Post ⟨T.setVm vm₁, locs, cells, slots⟩ argsL.toArray v B ∧
      ∀ target, Steps p.tables e below (B.U.setTop { g with pc := g.pc + 3, stack := v.toList ++ rest }) target → Steps p.tables e below (T.setTop g) target := by
  obtain ⟨mk, methM, cM, hnamed, hmethM, -, -, -, -, -, -, hsigM⟩ := Cond.codeWith_spec hcode
  have hstatic : methM.isStatic = true := Cond.static_spec hnamed hmethM hstat
  obtain ⟨kP, hkP, -⟩ := className_of_methodNamed hnamed
  have hinitP : kP.init = .initialized := Cond.initialized_spec (findClass_of_methodNamed hnamed) hkP hinit
  obtain ⟨vm₁, X₁, hstep₁⟩ := X.invokestatic hexec hown hlink hnamed hmethM hstatic hkP hinitP hy (g := g) hg (argsL := argsL) (rest := rest) (hlen _ hsigM) hstack hdg
  obtain ⟨v, B, X', hpost, hsteps⟩ := hK m meth c ⟨T.setVm vm₁, locs, cells, slots⟩ { g with stack := rest } (.invokestatic index) mk argsL.toArray X₁ hg hsize hdg hW (X₁.named hnamed) (hpre vm₁ X₁.warmed)
  exact ⟨v, vm₁, B, X₁.warmed, X', hpost, fun target h => hstep₁ _ fun acts => by rw [doInvoke_state]; exact hsteps.trans h⟩
theorem vx_runSW {y : MethodName} {bytes cc : ByteArray} {maxL nL mc ms n index : Nat} {ret : Option FieldType} {hh : List (Nat × Nat × Nat × Nat)} {ws : List Cond} {rm : Room} {Pc : Array Value → State → Prop} {Qc : Array Value → State → Outcome → State → Prop} {free : Addr → Prop} {Ts : List Cond} {own : String} {As rest : List Value} {g : JFrame}
    (S : CallFix p m c cc nL s args Ts own) (hM : Met l y ws rm Pc Qc mc ms free) (cw : vx_CSW R s args own index y bytes maxL ret hh ws rm mc ms n) (hp : PreS s H Pc As)
    (hg : g.method = m) (hn : As.length = n) (hsize : g.locals.size = nL) (hstack : g.stack = As.reverse ++ rest) (hW : 2 * g.monitorRoom + (rest.map fun v => v.category).sum ≤ 8) (hdg : decode cc g.pc = .ok (.invokestatic index, 3)) (hf : cells + mc ≤ R.cells ∧ slots + ms ≤ R.slots) :
    va_Run p l e R s m args below meth c H locs cells slots mc ms g rest (Qc As.toArray) (free) := by
  obtain ⟨⟨hrc, hrs, hfr, hlo, hws, hcw⟩, hcode, hini, hy, hlen, hl, hstt⟩ := cw
  have hK : Back l R p e below s args y 3 8 (PreOf R mc ms Pc) (PostOf Qc mc ms free) := va_backW (hh := hh) (bytes := bytes) (maxL := maxL) (ret := ret) hM hp.1 hrc hrs hfr hlo hws hcw (fun a' U hW => word_at hW (Or.inl (by first | rfl | simp [Cond.onTables, Cond.keeps, Cond.steady])) hini)
  obtain ⟨hx, hb, hml, ho, -⟩ := S
  intro T hT X
  obtain ⟨v, vm₁, ⟨U', l2, c2, s2⟩, hW₁, X', ⟨g', mk, t, L, e1, e2, hq, h1, hL, h2, h3⟩, st⟩ := vx_callSW X hx (hh := hh) (bytes := bytes) (maxL := maxL) (ret := ret) ho hl hstt hini hcode hy hK hg (hsize.trans hml.symm) (argsL := As) (rest := rest) (fun sig h => hn.trans (hlen sig h)) hstack hW (by rw [hb]; exact hdg)
    (fun vm₁ hW₁ => ⟨hf.1, hf.2, hp.2 (T.setVm vm₁) hT hW₁⟩)
  dsimp only [Pt.U, Pt.locs, Pt.cells, Pt.slots] at X' e1 e2 h1 h2 h3 st
  subst h1; subst h2; subst h3
  exact ⟨v, (T.setVm vm₁).calling g' mk As.toArray, t, U', L, hT, X', hL, e1, e2, hq, st⟩
/-- a thing of a world lies in the heap -/
theorem vx_lt {D : va_G} {cl : List vw_C} {ws : va_W} {H1 : Heap} (h : va_P D cl ws H1) {k : Nat} {q : Nat × va_E} (hk : ws[k]? = some q) : q.1 < H1.size := (h k q hk).lt
end VXS
/-! ===== END ===== -/
/-! ===== BEGIN methods with a table of their own: called by a name, returning or throwing ===== -/
section VXH
/-! vx_backW, vx_callVX, vx_callSX, vx_callVW, vx_runVW, vx_runVX, vx_runSX, vx_ofWH follow the same proofs as their sisters above (Free/Laws.lean, Shelf42/LK1.lean); vx_outP calls Shelf42/NT130.lean (outThrough). -/
section
variable {l : Launch} {R : Room} {p : Program} {e : Env} {below : List Frame} {s : State} {sargs : Array Value} {y : MethodName} {len W9 : Nat}
theorem vx_backW {ws : List Cond} {rm : Room} {Pc : Array Value → State → Prop} {Qc : Array Value → State → Outcome → State → Prop} {XC : String → State → State → Prop} {mc ms : Nat} {free : Addr → Prop} {bytes : ByteArray} {maxL : Nat} {ret : Option FieldType} {hh : List (Nat × Nat × Nat × Nat)}
    (hM : vx_Met l y ws rm Pc Qc XC mc ms free) (hblind : FrameBlind Pc) (hrc : rm.cells = mc) (hrs : rm.slots = ms)
    (hframes : rm.frames + 1 ≤ R.frames) (hlocals : W9 + (maxL + 11) + rm.locals ≤ R.locals)
    (hws : ∀ w ∈ ws, ∀ a' U, s.WarmedH U.vm → w.before a' U = true) (hcode : Cond.codeWith y bytes maxL ret hh ∈ ws) (hinit : ∀ a' U, s.WarmedH U.vm → (Cond.initialized y.cls).before a' U = true) :
    vx_Back l R p e below s sargs y len W9 (PreOf R mc ms Pc) (PostOf Qc mc ms free) (vx_Post XC mc ms free) := by
  intro m meth c A g ig mk a X hg hsize hdg hW hn hp
  have h1 : (headSpec ws rm).pre.before a A.U = true := atoms_intro fun w hw => hws w hw _ _ X.warmed
  have h2 : (Cond.codeWith y bytes maxL ret hh).before a A.U = true := hws _ hcode _ _ X.warmed
  have h3 : (Cond.initialized y.cls).before a A.U = true := hinit _ _ X.warmed
  have h4 : A.cells + (headSpec ws rm).room.cells ≤ R.cells := by rw [show (headSpec ws rm).room.cells = mc from hrc]; exact hp.1
  have h5 : A.slots + (headSpec ws rm).room.slots ≤ R.slots := by rw [show (headSpec ws rm).room.slots = ms from hrs]; exact hp.2.1
  have hPc : Pc a (A.U.calling g mk a) := hblind _ _ _ _ hp.2.2
  obtain ⟨U, Ls, c0, s0⟩ := A
  dsimp only [Pt.U, Pt.locs, Pt.cells, Pt.slots] at h1 h2 h3 h4 h5 X hn hPc ⊢
  obtain ⟨m9, methY, cY, hn9, hmY, hcY, -, hlY, -⟩ := Cond.codeWith_spec h2
  cases Option.some.inj (hn9.symm.trans hn)
  obtain ⟨kY, hkY, -⟩ := className_of_methodNamed hn
  have hinitY : kY.init = .initialized := Cond.initialized_spec (findClass_of_methodNamed hn) hkY h3
  have h : At U g.method c below := by rw [hg]; exact X.here
  have hlocals9 : W9 + (maxL + 11) + (headSpec ws rm).room.locals ≤ R.locals := hlocals
  have happ : (headSpec ws rm).appliesLoose y e.platform (U.calling g mk a) = true :=
    Spec.appliesLoose_calling (g := g) h hdg hn hkY hinitY
      (X.room_calling (g := g) (R' := (headSpec ws rm).room) hsize hmY hcY hframes (by rw [hlY]; omega) h4 h5) h1
  obtain ⟨mid, hmid⟩ := h.above
  have hfr : (U.setTop g).frames = (.java g :: mid) ++ below := by rw [State.frames_setTop' g h.top, hmid]; rfl
  obtain ⟨o, s₂, hsteps, -, hend, hq⟩ := Steps.callFree hM p X.admits X.cas X.clock (acts := []) hfr happ hPc trivial
  have hq' : vx_Q Qc XC mc ms free a (U.calling g mk a) o s₂ := hq
  rw [State.frames_setTop' g h.top] at hend
  obtain ⟨g₀, hg0⟩ := Option.isSome_iff_exists.mp h.top
  obtain ⟨r, hr⟩ := State.topJava?_eq_some.mp hg0
  have hr' : (({ U with heap := s₂.heap, slotsUsed := s₂.slotsUsed } : State).setVm s₂.vm).frames = .java g₀ :: r := hr
  rcases hq' with ⟨hqc, L, hfe, hL⟩ | ⟨q, rfl, E, ce, L, hx, hce, hcv, hcl, hW₂, hsm, hL⟩
  · obtain ⟨⟨v, rfl⟩, hW₂, e2, q2, q3, q4, q5, q6⟩ := id hfe
    have e3 : s₂ = ({ (U.calling g mk a).setFrames s₂.frames with heap := s₂.heap, slotsUsed := s₂.slotsUsed } : State).setVm s₂.vm := by
      have : s₂ = ({ s₂ with vm := (U.calling g mk a).vm } : State).setVm s₂.vm := rfl
      rw [e2] at this
      exact this
    obtain ⟨c₂, i₂, len₂, hc₂, hd₂, hf₂⟩ := hend
    have hW' : U.WarmedH s₂.vm := hW₂
    have hcc : c₂ = c := by
      have h1 : s₂.code? g.method = U.code? g.method := by
        rw [State.code?_eq, State.code?_eq, hW'.alike.method?]
      exact Option.some.inj (hc₂.symm.trans (h1.trans h.code))
    subst hcc
    have hlen : len₂ = len := by rw [hdg] at hd₂; cases hd₂; rfl
    subst hlen
    have hs₂ : s₂ = (({ U with heap := s₂.heap, slotsUsed := s₂.slotsUsed } : State).setVm s₂.vm).setTop { g with pc := g.pc + len₂, stack := v.toList ++ g.stack } := by
      refine e3.trans ?_
      rw [hf₂, State.calling_eq h.top, State.setFrames_setFrames, State.setTop_of_frames _ hr', hr]
      rfl
    have hsame : U.sameButNew ({ U with heap := s₂.heap, slotsUsed := s₂.slotsUsed } : State) L mc ms := by
      refine ⟨?_, q2, q3, q4, q5, q6⟩
      obtain ⟨t, ht, -⟩ := State.frames_cons hr
      show ({ U with heap := s₂.heap, slotsUsed := s₂.slotsUsed } : State) = { U.setFrames U.frames with heap := s₂.heap, slotsUsed := s₂.slotsUsed }
      rw [State.setFrames_self ht]
    subst hg
    refine Or.inl ⟨v, ⟨(({ U with heap := s₂.heap, slotsUsed := s₂.slotsUsed } : State).setVm s₂.vm), Ls ++ L, c0 + mc, s0 + ms⟩,
      ⟨X.admits, X.cas, X.clock, X.frames, X.room, X.hears, X.method, X.code, (X.here.setHeapUsed s₂.heap s₂.slotsUsed).setVm hW'.alike, X.tail, State.WarmedH.trans X.warmed hW', X.limits, X.bytes, X.same.trans (hsame.setVm s.vm)⟩,
      ⟨g, mk, s₂, L, rfl, rfl, hqc, rfl, hL, rfl, rfl⟩, ?_⟩
    show Steps p.tables e below _ ((({ U with heap := s₂.heap, slotsUsed := s₂.slotsUsed } : State).setVm s₂.vm).setTop { g with pc := g.pc + len₂, stack := v.toList ++ g.stack })
    rw [← hs₂]
    exact hsteps
  · obtain ⟨e2, q2, q3, q4, q5, q6⟩ := id hsm
    have e3 : s₂ = ({ (U.calling g mk a).setFrames s₂.frames with heap := s₂.heap, slotsUsed := s₂.slotsUsed } : State).setVm s₂.vm := by
      have : s₂ = ({ s₂ with vm := (U.calling g mk a).vm } : State).setVm s₂.vm := rfl
      rw [e2] at this
      exact this
    have hf₂ : s₂.frames = .throwing q :: .java g :: U.frames.tail := hend
    have hW' : U.WarmedH s₂.vm := hW₂
    have hs₂ : s₂ = ((({ U with heap := s₂.heap, slotsUsed := s₂.slotsUsed } : State).setVm s₂.vm).setTop g).pushFrame (.throwing q) := by
      refine e3.trans ?_
      rw [hf₂, State.calling_eq h.top, State.setFrames_setFrames, State.pushFrame, State.frames_setTop _ hr', State.setTop_of_frames _ hr', State.setFrames_setFrames, hr]
      rfl
    have hsame : U.sameButNew ({ U with heap := s₂.heap, slotsUsed := s₂.slotsUsed } : State) L mc ms := by
      refine ⟨?_, q2, q3, q4, q5, q6⟩
      obtain ⟨t, ht, -⟩ := State.frames_cons hr
      show ({ U with heap := s₂.heap, slotsUsed := s₂.slotsUsed } : State) = { U.setFrames U.frames with heap := s₂.heap, slotsUsed := s₂.slotsUsed }
      rw [State.setFrames_self ht]
    subst hg
    refine Or.inr ⟨q, ⟨(({ U with heap := s₂.heap, slotsUsed := s₂.slotsUsed } : State).setVm s₂.vm), Ls ++ L, c0 + mc, s0 + ms⟩,
      ⟨X.admits, X.cas, X.clock, X.frames, X.room, X.hears, X.method, X.code, (X.here.setHeapUsed s₂.heap s₂.slotsUsed).setVm hW'.alike, X.tail, State.WarmedH.trans X.warmed hW', X.limits, X.bytes, X.same.trans (hsame.setVm s.vm)⟩,
      ⟨g, mk, s₂, L, E, ce, rfl, rfl, hx, hce, hcv, hcl, rfl, hL, rfl, rfl⟩, ?_⟩
    show Steps p.tables e below _ (((({ U with heap := s₂.heap, slotsUsed := s₂.slotsUsed } : State).setVm s₂.vm).setTop g).pushFrame (.throwing q))
    rw [← hs₂]
    exact hsteps
end
variable {p : Program} {l : Launch} {e : Env} {R : Room} {s : State} {m : MethodId} {args : Array Value} {below : List Frame} {meth : Method} {c : Code} {T : State} {H : Heap} {locs : List Loc} {cells slots : Nat}
theorem vx_callVX (X : Stand p l e R s m args below meth c T locs cells slots) (hexec : p.tables.exec = Jvm.exec) {own C : String} {index : Nat} {y : MethodName} {bytes : ByteArray} {maxL : Nat} {ret : Option FieldType} {hh : List (Nat × Nat × Nat × Nat)}
    (hown : s.vm.findClass own = some m.cls) (hlink : (Cond.methodLink own index y).before args s = true) (hinst : (Cond.instanceMethod y).before args s = true) (hsel : (Cond.selects C y y).before args s = true)
    (hcode : (Cond.codeWith y bytes maxL ret hh).before args s = true) (hy : y.cls ≠ "java/lang/invoke/MethodHandle" ∧ y.cls ≠ "java/lang/invoke/VarHandle")
    {W9 : Nat} {Pre : Pt → Array Value → Prop} {Post : Pt → Array Value → Option Value → Pt → Prop} {PostX : Pt → Array Value → Addr → Pt → Prop} (hK : vx_Back l R p e below s args y 3 W9 Pre Post PostX)
    {b : Addr} {cellB : Cell} (hcell : T.heap[b]? = some cellB) (hobj : cellB.vm.isStatics = false) (hcls : s.vm.findClass C = some cellB.cls)
    {g : JFrame} (hg : g.method = m) (hsize : g.locals.size = c.maxLocals) {argsL rest : List Value} (hlen : ∀ sig, parseMethodDescriptor y.desc = some sig → argsL.length = sig.parameters.length)
    (hstack : g.stack = argsL.reverse ++ .ref b :: rest) (hW : 2 * g.monitorRoom + (rest.map fun v => v.category).sum ≤ W9) (hdg : decode c.code g.pc = .ok (.invokevirtual index, 3))
    (hpre : ∀ vm₁, s.WarmedH vm₁ → Pre ⟨T.setVm vm₁, locs, cells, slots⟩ (Value.ref b :: argsL).toArray) :
    (∃ (v : Option Value) (vm₁ : Vm) (B : Pt), s.WarmedH vm₁ ∧ Stand p l e R s m args below meth c B.U B.locs B.cells B.slots ∧ Post ⟨T.setVm vm₁, locs, cells, slots⟩ (Value.ref b :: argsL).toArray v B ∧
      ∀ target, Steps p.tables e below (B.U.setTop { g with pc := g.pc + 3, stack := v.toList ++ rest }) target → Steps p.tables e below (T.setTop g) target) ∨
    (∃ (q : Addr) (vm₁ : Vm) (B : Pt), s.WarmedH vm₁ ∧ Stand p l e R s m args below meth c B.U B.locs B.cells B.slots ∧ PostX ⟨T.setVm vm₁, locs, cells, slots⟩ (Value.ref b :: argsL).toArray q B ∧
      Steps p.tables e below (T.setTop g) ((B.U.setTop { g with stack := rest }).pushFrame (.throwing q))) := by
  obtain ⟨mk, methM, hnamed, hmethM, hstM, habM⟩ := Cond.instanceMethod_spec hinst
  obtain ⟨m8, methM', cM, hn8, hmethM', -, -, -, -, -, -, hsigM⟩ := Cond.codeWith_spec hcode
  cases Option.some.inj (hn8.symm.trans hnamed)
  cases hmethM.symm.trans hmethM'
  obtain ⟨c2, r2, m2, q1, q2, q3, q4, kP, hkP, hkPi⟩ := Cond.selects_spec hsel
  cases hcls.symm.trans q1
  cases (State.methodFound?_of_named hnamed hy).symm.trans q2
  cases hnamed.symm.trans q3
  have hselP : selectMethod e.platform s.vm cellB.cls mk = .method mk := by rw [Launch.admits_selectMethod X.admits]; exact q4
  obtain ⟨vm₁, X₁, hstep₁⟩ := X.invokevirtual hexec hown hlink hnamed hmethM hstM hkP hkPi hy (a := b) (cell := cellB) hcell
    (fun z h => by rw [h] at hobj; cases hobj) hselP hmethM habM hkP hkPi (g := g) hg (argsL := argsL) (rest := rest) (hlen _ hsigM) hstack hdg
  rcases hK m meth c ⟨T.setVm vm₁, locs, cells, slots⟩ { g with stack := rest } (.invokevirtual index) mk (Value.ref b :: argsL).toArray X₁ hg hsize hdg hW (X₁.named hnamed) (hpre vm₁ X₁.warmed) with ⟨v, B, X', hpost, hsteps⟩ | ⟨q, B, X', hpost, hsteps⟩
  · exact Or.inl ⟨v, vm₁, B, X₁.warmed, X', hpost, fun target h => hstep₁ _ fun acts => by rw [doInvoke_state]; exact hsteps.trans h⟩
  · exact Or.inr ⟨q, vm₁, B, X₁.warmed, X', hpost, hstep₁ _ fun acts => by rw [doInvoke_state]; exact hsteps⟩
theorem vx_callSX (X : Stand p l e R s m args below meth c T locs cells slots) (hexec : p.tables.exec = Jvm.exec) {own : String} {index : Nat} {y : MethodName} {bytes : ByteArray} {maxL : Nat} {ret : Option FieldType} {hh : List (Nat × Nat × Nat × Nat)}
    (hown : s.vm.findClass own = some m.cls) (hlink : (Cond.methodLink own index y).before args s = true) (hstat : (Cond.static y).before args s = true) (hinit : (Cond.initialized y.cls).before args s = true)
    (hcode : (Cond.codeWith y bytes maxL ret hh).before args s = true) (hy : y.cls ≠ "java/lang/invoke/MethodHandle" ∧ y.cls ≠ "java/lang/invoke/VarHandle")
    {W9 : Nat} {Pre : Pt → Array Value → Prop} {Post : Pt → Array Value → Option Value → Pt → Prop} {PostX : Pt → Array Value → Addr → Pt → Prop} (hK : vx_Back l R p e below s args y 3 W9 Pre Post PostX)
    {g : JFrame} (hg : g.method = m) (hsize : g.locals.size = c.maxLocals) {argsL rest : List Value} (hlen : ∀ sig, parseMethodDescriptor y.desc = some sig → argsL.length = sig.parameters.length)
    (hstack : g.stack = argsL.reverse ++ rest) (hW : 2 * g.monitorRoom + (rest.map fun v => v.category).sum ≤ W9) (hdg : decode c.code g.pc = .ok (.invokestatic index, 3))
    (hpre : ∀ vm₁, s.WarmedH vm₁ → Pre ⟨T.setVm vm₁, locs, cells, slots⟩ argsL.toArray) :
    (∃ (v : Option Value) (vm₁ : Vm) (B : Pt), s.WarmedH vm₁ ∧ Stand p l e R s m args below meth c B.U B.locs B.cells B.slots ∧ Post ⟨T.setVm vm₁, locs, cells, slots⟩ argsL.toArray v B ∧
      ∀ target, Steps p.tables e below (B.U.setTop { g with pc := g.pc + 3, stack := v.toList ++ rest }) target → Steps p.tables e below (T.setTop g) target) ∨
    (∃ (q : Addr) (vm₁ : Vm) (B : Pt), s.WarmedH vm₁ ∧ Stand p l e R s m args below meth c B.U B.locs B.cells B.slots ∧ PostX ⟨T.setVm vm₁, locs, cells, slots⟩ argsL.toArray q B ∧
      Steps p.tables e below (T.setTop g) ((B.U.setTop { g with stack := rest }).pushFrame (.throwing q))) := by
  obtain ⟨mk, methM, cM, hnamed, hmethM, -, -, -, -, -, -, hsigM⟩ := Cond.codeWith_spec hcode
  have hstatic : methM.isStatic = true := Cond.static_spec hnamed hmethM hstat
  obtain ⟨kP, hkP, -⟩ := className_of_methodNamed hnamed
  have hinitP : kP.init = .initialized := Cond.initialized_spec (findClass_of_methodNamed hnamed) hkP hinit
  obtain ⟨vm₁, X₁, hstep₁⟩ := X.invokestatic hexec hown hlink hnamed hmethM hstatic hkP hinitP hy (g := g) hg (argsL := argsL) (rest := rest) (hlen _ hsigM) hstack hdg
  rcases hK m meth c ⟨T.setVm vm₁, locs, cells, slots⟩ { g with stack := rest } (.invokestatic index) mk argsL.toArray X₁ hg hsize hdg hW (X₁.named hnamed) (hpre vm₁ X₁.warmed) with ⟨v, B, X', hpost, hsteps⟩ | ⟨q, B, X', hpost, hsteps⟩
  · exact Or.inl ⟨v, vm₁, B, X₁.warmed, X', hpost, fun target h => hstep₁ _ fun acts => by rw [doInvoke_state]; exact hsteps.trans h⟩
  · exact Or.inr ⟨q, vm₁, B, X₁.warmed, X', hpost, hstep₁ _ fun acts => by rw [doInvoke_state]; exact hsteps⟩
theorem vx_callVW (X : Stand p l e R s m args below meth c T locs cells slots) (hexec : p.tables.exec = Jvm.exec) {own C : String} {index : Nat} {y : MethodName} {bytes : ByteArray} {maxL : Nat} {ret : Option FieldType} {hh : List (Nat × Nat × Nat × Nat)}
    (hown : s.vm.findClass own = some m.cls) (hlink : (Cond.methodLink own index y).before args s = true) (hinst : (Cond.instanceMethod y).before args s = true) (hsel : (Cond.selects C y y).before args s = true)
    (hcode : (Cond.codeWith y bytes maxL ret hh).before args s = true) (hy : y.cls ≠ "java/lang/invoke/MethodHandle" ∧ y.cls ≠ "java/lang/invoke/VarHandle")
    {W9 : Nat} {Pre : Pt → Array Value → Prop} {Post : Pt → Array Value → Option Value → Pt → Prop} (hK : Back l R p e below s args y 3 W9 Pre Post)
    {b : Addr} {cellB : Cell} (hcell : T.heap[b]? = some cellB) (hobj : cellB.vm.isStatics = false) (hcls : s.vm.findClass C = some cellB.cls)
    {g : JFrame} (hg : g.method = m) (hsize : g.locals.size = c.maxLocals) {argsL rest : List Value} (hlen : ∀ sig, parseMethodDescriptor y.desc = some sig → argsL.length = sig.parameters.length)
    (hstack : g.stack = argsL.reverse ++ .ref b :: rest) (hW : 2 * g.monitorRoom + (rest.map fun v => v.category).sum ≤ W9) (hdg : decode c.code g.pc = .ok (.invokevirtual index, 3))
    (hpre : ∀ vm₁, s.WarmedH vm₁ → Pre ⟨T.setVm vm₁, locs, cells, slots⟩ (Value.ref b :: argsL).toArray) :
    ∃ (v : Option Value) (vm₁ : Vm) (B : Pt), s.WarmedH vm₁ ∧ Stand p l e R s m args below meth c B.U B.locs B.cells B.slots ∧ Post ⟨T.setVm vm₁, locs, cells, slots⟩ (Value.ref b :: argsL).toArray v B ∧
      ∀ target, Steps p.tables e below (B.U.setTop { g with pc := g.pc + 3, stack := v.toList ++ rest }) target → Steps p.tables e below (T.setTop g) target := by
  obtain ⟨mk, methM, hnamed, hmethM, hstM, habM⟩ := Cond.instanceMethod_spec hinst
  obtain ⟨m8, methM', cM, hn8, hmethM', -, -, -, -, -, -, hsigM⟩ := Cond.codeWith_spec hcode
  cases Option.some.inj (hn8.symm.trans hnamed)
  cases hmethM.symm.trans hmethM'
  obtain ⟨c2, r2, m2, q1, q2, q3, q4, kP, hkP, hkPi⟩ := Cond.selects_spec hsel
  cases hcls.symm.trans q1
  cases (State.methodFound?_of_named hnamed hy).symm.trans q2
  cases hnamed.symm.trans q3
  have hselP : selectMethod e.platform s.vm cellB.cls mk = .method mk := by rw [Launch.admits_selectMethod X.admits]; exact q4
  obtain ⟨vm₁, X₁, hstep₁⟩ := X.invokevirtual hexec hown hlink hnamed hmethM hstM hkP hkPi hy (a := b) (cell := cellB) hcell
    (fun z h => by rw [h] at hobj; cases hobj) hselP hmethM habM hkP hkPi (g := g) hg (argsL := argsL) (rest := rest) (hlen _ hsigM) hstack hdg
  obtain ⟨v, B, X', hpost, hsteps⟩ := hK m meth c ⟨T.setVm vm₁, locs, cells, slots⟩ { g with stack := rest } (.invokevirtual index) mk (Value.ref b :: argsL).toArray X₁ hg hsize hdg hW (X₁.named hnamed) (hpre vm₁ X₁.warmed)
  exact ⟨v, vm₁, B, X₁.warmed, X', hpost, fun target h => hstep₁ _ fun acts => by rw [doInvoke_state]; exact hsteps.trans h⟩
abbrev vx_CVW (R : Room) (s : State) (args : Array Value) (own C : String) (index : Nat) (y : MethodName) (bytes : ByteArray) (maxL : Nat) (ret : Option FieldType) (hh : List (Nat × Nat × Nat × Nat)) (ws : List Cond) (rm : Room) (mc ms n : Nat) : Prop :=
  (rm.cells = mc ∧ rm.slots = ms ∧ rm.frames + 1 ≤ R.frames ∧ 8 + (maxL + 11) + rm.locals ≤ R.locals ∧ (∀ w ∈ ws, ∀ (a' : Array Value) (U : State), s.WarmedH U.vm → w.before a' U = true) ∧ Cond.codeWith y bytes maxL ret hh ∈ ws) ∧
  (Cond.codeWith y bytes maxL ret hh).before args s = true ∧ (Cond.initialized y.cls).before args s = true ∧ (y.cls ≠ "java/lang/invoke/MethodHandle" ∧ y.cls ≠ "java/lang/invoke/VarHandle") ∧
  (∀ sig, parseMethodDescriptor y.desc = some sig → n = sig.parameters.length) ∧ (Cond.methodLink own index y).before args s = true ∧ (Cond.instanceMethod y).before args s = true ∧ (Cond.selects C y y).before args s = true
theorem vx_cwVW {own C : String} {index maxL mc ms : Nat} {y : MethodName} {bytes : ByteArray} {ret : Option FieldType} {hh : List (Nat × Nat × Nat × Nat)} {Ts ws ws' : List Cond} {rm : Room} (n : Nat) (ht : ∀ w ∈ Ts, w.before args s = true) (hT : GoodIn Ts (wsV own index C y ws)) (hw : ws = Cond.codeWith y bytes maxL ret hh :: ws') (hrc : rm.cells = mc) (hrs : rm.slots = ms)
    (hd : y.cls = C ∧ y.cls ≠ "java/lang/invoke/MethodHandle" ∧ y.cls ≠ "java/lang/invoke/VarHandle" ∧ (parseMethodDescriptor y.desc).map (fun d => d.parameters.length) = some n) (hR : rm.frames + 1 ≤ R.frames ∧ 8 + (maxL + 11) + rm.locals ≤ R.locals) :
    vx_CVW R s args own C index y bytes maxL ret hh ws rm mc ms n := by
  obtain ⟨hC, hd⟩ := hd
  subst hC
  have ok : ∀ w ∈ wsV own index y.cls y ws, w.before args s = true := fun w h => ht w (hT w h).1
  have hG : GoodIn Ts ws := fun w h => hT w (by unfold wsV; exact List.mem_append_right _ h)
  have hc : Cond.codeWith y bytes maxL ret hh ∈ ws := by rw [hw]; exact List.mem_cons_self
  refine ⟨⟨hrc, hrs, hR.1, hR.2, pay_in ht hG, hc⟩, ht _ (hG _ hc).1, ok _ (by simp [wsV]), ⟨hd.1, hd.2.1⟩, fun sig h => ?_, ok _ (by simp [wsV]), ok _ (by simp [wsV]), ok _ (by simp [wsV])⟩
  have h2 := hd.2.2
  rw [h] at h2
  exact (Option.some.inj h2).symm
theorem vx_runVW {y : MethodName} {bytes cc : ByteArray} {maxL nL mc ms n index : Nat} {ret : Option FieldType} {hh : List (Nat × Nat × Nat × Nat)} {ws : List Cond} {rm : Room} {Pc : Array Value → State → Prop} {Qc : Array Value → State → Outcome → State → Prop} {free : Addr → Prop} {Ts : List Cond} {own C : String} {b : Addr} {As rest : List Value} {g : JFrame}
    (S : CallFix p m c cc nL s args Ts own) (hM : Met l y ws rm Pc Qc mc ms free) (cw : vx_CVW R s args own C index y bytes maxL ret hh ws rm mc ms n) (hp : PreV s H C b Pc As)
    (hg : g.method = m) (hn : As.length = n) (hsize : g.locals.size = nL) (hstack : g.stack = As.reverse ++ .ref b :: rest) (hW : 2 * g.monitorRoom + (rest.map fun v => v.category).sum ≤ 8) (hdg : decode cc g.pc = .ok (.invokevirtual index, 3)) (hf : cells + mc ≤ R.cells ∧ slots + ms ≤ R.slots) :
    va_Run p l e R s m args below meth c H locs cells slots mc ms g rest (Qc (Value.ref b :: As).toArray) free := by
  obtain ⟨⟨hrc, hrs, hfr, hlo, hws, hcw⟩, hcode, hini, hy, hlen, hl, hin, hse⟩ := cw
  have hK : Back l R p e below s args y 3 8 (PreOf R mc ms Pc) (PostOf Qc mc ms free) := va_backW (hh := hh) (bytes := bytes) (maxL := maxL) (ret := ret) hM hp.1 hrc hrs hfr hlo hws hcw (fun a' U hW => word_at hW (Or.inl (by first | rfl | simp [Cond.onTables, Cond.keeps, Cond.steady])) hini)
  obtain ⟨hx, hb, hml, ho, -⟩ := S
  obtain ⟨-, ⟨cellB, hcB, hoB, hclB⟩, hPc⟩ := hp
  intro T hT X
  obtain ⟨v, vm₁, ⟨U', l2, c2, s2⟩, hW₁, X', ⟨g', mk, t, L, e1, e2, hq, h1, hL, h2, h3⟩, st⟩ := vx_callVW X hx (C := C) (hh := hh) (bytes := bytes) (maxL := maxL) (ret := ret) ho hl hin hse hcode hy hK (by rw [hT]; exact hcB) hoB hclB hg (hsize.trans hml.symm) (argsL := As) (rest := rest) (fun sig h => hn.trans (hlen sig h)) hstack hW (by rw [hb]; exact hdg)
    (fun vm₁ hW₁ => ⟨hf.1, hf.2, hPc (T.setVm vm₁) hT hW₁⟩)
  dsimp only [Pt.U, Pt.locs, Pt.cells, Pt.slots] at X' e1 e2 h1 h2 h3 st
  subst h1; subst h2; subst h3
  exact ⟨v, (T.setVm vm₁).calling g' mk (Value.ref b :: As).toArray, t, U', L, hT, X', hL, e1, e2, hq, st⟩
section
variable {y : MethodName} {bytes cc : ByteArray} {maxL nL mc ms n index : Nat} {ret : Option FieldType} {ws : List Cond} {rm : Room} {Pc : Array Value → State → Prop} {Qc : Array Value → State → Outcome → State → Prop} {XC : String → State → State → Prop} {free : Addr → Prop} {Ts : List Cond} {own C : String} {b : Addr} {As rest : List Value} {g : JFrame}
theorem vx_runVX {hh : List (Nat × Nat × Nat × Nat)} (S : CallFix p m c cc nL s args Ts own) (hM : vx_Met l y ws rm Pc Qc XC mc ms free) (cw : vx_CVW R s args own C index y bytes maxL ret hh ws rm mc ms n) (hp : PreV s H C b Pc As)
    (hg : g.method = m) (hn : As.length = n) (hsize : g.locals.size = nL) (hstack : g.stack = As.reverse ++ .ref b :: rest) (hW : 2 * g.monitorRoom + (rest.map fun v => v.category).sum ≤ 8) (hdg : decode cc g.pc = .ok (.invokevirtual index, 3)) (hf : cells + mc ≤ R.cells ∧ slots + ms ≤ R.slots) :
    vx_Run p l e R s m args below meth c H locs cells slots mc ms g rest (Qc (Value.ref b :: As).toArray) XC free := by
  obtain ⟨⟨hrc, hrs, hfr, hlo, hws, hcw⟩, hcode, hini, hy, hlen, hl, hin, hse⟩ := cw
  have hK : vx_Back l R p e below s args y 3 8 (PreOf R mc ms Pc) (PostOf Qc mc ms free) (vx_Post XC mc ms free) := vx_backW (hh := hh) (bytes := bytes) (maxL := maxL) (ret := ret) hM hp.1 hrc hrs hfr hlo hws hcw (fun a' U hW => word_at hW (Or.inl (by first | rfl | simp [Cond.onTables, Cond.keeps, Cond.steady])) hini)
  obtain ⟨hx, hb, hml, ho, -⟩ := S
  obtain ⟨-, ⟨cellB, hcB, hoB, hclB⟩, hPc⟩ := hp
  intro T hT X
  rcases vx_callVX X hx (C := C) (hh := hh) (bytes := bytes) (maxL := maxL) (ret := ret) ho hl hin hse hcode hy hK (by rw [hT]; exact hcB) hoB hclB hg (hsize.trans hml.symm) (argsL := As) (rest := rest) (fun sig h => hn.trans (hlen sig h)) hstack hW (by rw [hb]; exact hdg)
    (fun vm₁ hW₁ => ⟨hf.1, hf.2, hPc (T.setVm vm₁) hT hW₁⟩) with ⟨v, vm₁, ⟨U', l2, c2, s2⟩, hW₁, X', ⟨g', mk, t, L, e1, e2, hq, h1, hL, h2, h3⟩, st⟩ | ⟨q, vm₁, ⟨U', l2, c2, s2⟩, hW₁, X', ⟨g', mk, t, L, E, ce, e1, e2, hq, hce, hcv, hcl, h1, hL, h2, h3⟩, st⟩
  · dsimp only [Pt.U, Pt.locs, Pt.cells, Pt.slots] at X' e1 e2 h1 h2 h3 st
    subst h1; subst h2; subst h3
    exact Or.inl ⟨v, (T.setVm vm₁).calling g' mk (Value.ref b :: As).toArray, t, U', L, hT, X', hL, e1, e2, hq, st⟩
  · dsimp only [Pt.U, Pt.locs, Pt.cells, Pt.slots] at X' e1 e2 h1 h2 h3 st hcl
    subst h1; subst h2; subst h3
    exact Or.inr ⟨q, (T.setVm vm₁).calling g' mk (Value.ref b :: As).toArray, t, U', L, E, ce, hT, X', hL, e1, e2, hq, hce, hcv, vx_cls hW₁ hcl, st⟩
theorem vx_runSX {hh : List (Nat × Nat × Nat × Nat)} (S : CallFix p m c cc nL s args Ts own) (hM : vx_Met l y ws rm Pc Qc XC mc ms free) (cw : vx_CSW R s args own index y bytes maxL ret hh ws rm mc ms n) (hp : PreS s H Pc As)
    (hg : g.method = m) (hn : As.length = n) (hsize : g.locals.size = nL) (hstack : g.stack = As.reverse ++ rest) (hW : 2 * g.monitorRoom + (rest.map fun v => v.category).sum ≤ 8) (hdg : decode cc g.pc = .ok (.invokestatic index, 3)) (hf : cells + mc ≤ R.cells ∧ slots + ms ≤ R.slots) :
    vx_Run p l e R s m args below meth c H locs cells slots mc ms g rest (Qc As.toArray) XC free := by
  obtain ⟨⟨hrc, hrs, hfr, hlo, hws, hcw⟩, hcode, hini, hy, hlen, hl, hstt⟩ := cw
  have hK : vx_Back l R p e below s args y 3 8 (PreOf R mc ms Pc) (PostOf Qc mc ms free) (vx_Post XC mc ms free) := vx_backW (hh := hh) (bytes := bytes) (maxL := maxL) (ret := ret) hM hp.1 hrc hrs hfr hlo hws hcw (fun a' U hW => word_at hW (Or.inl (by first | rfl | simp [Cond.onTables, Cond.keeps, Cond.steady])) hini)
  obtain ⟨hx, hb, hml, ho, -⟩ := S
  intro T hT X
  rcases vx_callSX X hx (hh := hh) (bytes := bytes) (maxL := maxL) (ret := ret) ho hl hstt hini hcode hy hK hg (hsize.trans hml.symm) (argsL := As) (rest := rest) (fun sig h => hn.trans (hlen sig h)) hstack hW (by rw [hb]; exact hdg)
    (fun vm₁ hW₁ => ⟨hf.1, hf.2, hp.2 (T.setVm vm₁) hT hW₁⟩) with ⟨v, vm₁, ⟨U', l2, c2, s2⟩, hW₁, X', ⟨g', mk, t, L, e1, e2, hq, h1, hL, h2, h3⟩, st⟩ | ⟨q, vm₁, ⟨U', l2, c2, s2⟩, hW₁, X', ⟨g', mk, t, L, E, ce, e1, e2, hq, hce, hcv, hcl, h1, hL, h2, h3⟩, st⟩
  · dsimp only [Pt.U, Pt.locs, Pt.cells, Pt.slots] at X' e1 e2 h1 h2 h3 st
    subst h1; subst h2; subst h3
    exact Or.inl ⟨v, (T.setVm vm₁).calling g' mk As.toArray, t, U', L, hT, X', hL, e1, e2, hq, st⟩
  · dsimp only [Pt.U, Pt.locs, Pt.cells, Pt.slots] at X' e1 e2 h1 h2 h3 st hcl
    subst h1; subst h2; subst h3
    exact Or.inr ⟨q, (T.setVm vm₁).calling g' mk As.toArray, t, U', L, E, ce, hT, X', hL, e1, e2, hq, hce, hcv, vx_cls hW₁ hcl, st⟩
end
end VXH
theorem vx_ofWH {l : Launch} {y : MethodName} {ws ws' : List Cond} {rm : Room} {Pc : Array Value → State → Prop} {Qc : Array Value → State → Outcome → State → Prop} {XC : String → State → State → Prop} {mc ms : Nat} {free : Addr → Prop} {cc : ByteArray} {maxL : Nat} {ret : Option FieldType} {hh : List (Nat × Nat × Nat × Nat)}
    (hy : plainName y.cls = true) (hw : ws = Cond.codeWith y cc maxL ret hh :: ws')
    (body : ∀ p e s m args below meth c s₁, BodyLoose p l y (headSpec ws rm) cc maxL ret e s m args below meth c s₁ → c.maxLocals = maxL → Pc args s →
      W p l e (headSpec ws rm).room s m args below meth c s.heap [] 0 0 (vx_MQ below Qc XC args s mc ms free) (entryFrame m args maxL)) : vx_Met l y ws rm Pc Qc XC mc ms free := by
  refine MetFree.of_bodyS (code := cc) (maxLocals := maxL) (ret := ret) hy ?_ ?_
  · intro args s m h hn
    obtain ⟨m9, meth, c, hn9, h1, h2, h3, h4, -, h5, h6, -⟩ := Cond.codeWith_spec (atoms_spec (ws := ws) h _ (by rw [hw]; exact List.mem_cons_self))
    cases hn.symm.trans hn9
    exact ⟨meth, c, h1, h2, h3, h4, h5, h6⟩
  · intro p e s m args below meth c s₁ B hml hP _
    have hh0 : s₁.heap = s.heap := by rw [B.state]; rfl
    obtain ⟨t, a1, o, b1, b2, b3⟩ := body p e s m args below meth c s₁ B hml hP s₁ hh0 (Stand.of_body B)
    exact ⟨t, o, a1, b1, b2, b3⟩
/-! ===== END ===== -/
end
section
/-! ===== BEGIN printed: names, fields, word lists, decode rows ===== -/
def RX0 : String := "ExchangeDesk$Book"
def TX0 : u_T := fun k => match k with
  | 0 => ("ExchangeDesk$Book", "entries", "[I", true)
  | _ => ("ExchangeDesk$Book", "written", "I", false)
def tyX0 : Nat → FieldType := fun k => match k with
  | 0 => .array .int
  | _ => .int
abbrev wsX00 : List Cond := u_ws RX0 TX0 2
theorem nmX0 : ∀ a, a < 2 → ∀ b, b < 2 → a ≠ b → (TX0 a).2.1 ≠ (TX0 b).2.1 := by decide +kernel
theorem tyX0_ok : ∀ k, k < 2 → parseFieldDescriptor (TX0 k).2.2.1 = some (tyX0 k) := by decide +kernel
abbrev cX0_init : ByteArray := prog_2_method_1_code
def yX0_init : MethodName := ⟨RX0, "<init>", "()V"⟩
abbrev cX0_write : ByteArray := prog_2_method_2_code
def yX0_write : MethodName := ⟨RX0, "write", "(IIII)V"⟩
abbrev cX0_keeps : ByteArray := prog_2_method_3_code
def yX0_keeps : MethodName := ⟨RX0, "keeps", "(I)Z"⟩
abbrev cX0_read : ByteArray := prog_2_method_4_code
def yX0_read : MethodName := ⟨RX0, "read", "(II)I"⟩
def RX1 : String := "ExchangeDesk$Group"
def TX1 : u_T := fun k => match k with
  | 0 => ("ExchangeDesk$Group", "row", "[I", true)
  | 1 => ("ExchangeDesk$Group", "size", "I", false)
  | 2 => ("ExchangeDesk$Group", "order", "I", false)
  | _ => ("ExchangeDesk$Group", "last", "I", false)
def tyX1 : Nat → FieldType := fun k => match k with
  | 0 => .array .int
  | 1 => .int
  | 2 => .int
  | _ => .int
abbrev wsX10 : List Cond := u_ws RX1 TX1 4
theorem nmX1 : ∀ a, a < 4 → ∀ b, b < 4 → a ≠ b → (TX1 a).2.1 ≠ (TX1 b).2.1 := by decide +kernel
theorem tyX1_ok : ∀ k, k < 4 → parseFieldDescriptor (TX1 k).2.2.1 = some (tyX1 k) := by decide +kernel
abbrev cX1_init : ByteArray := prog_3_method_1_code
def yX1_init : MethodName := ⟨RX1, "<init>", "()V"⟩
abbrev cX1_restart : ByteArray := prog_3_method_2_code
def yX1_restart : MethodName := ⟨RX1, "restart", "(I)V"⟩
abbrev cX1_has : ByteArray := prog_3_method_3_code
def yX1_has : MethodName := ⟨RX1, "has", "(I)Z"⟩
abbrev cX1_add : ByteArray := prog_3_method_4_code
def yX1_add : MethodName := ⟨RX1, "add", "(I)V"⟩
def RX2 : String := "ExchangeDesk$Line"
def TX2 : u_T := fun k => match k with
  | 0 => ("ExchangeDesk$Line", "number", "I", true)
  | 1 => ("ExchangeDesk$Line", "state", "I", false)
  | 2 => ("ExchangeDesk$Line", "since", "I", false)
  | 3 => ("ExchangeDesk$Line", "other", "I", false)
  | 4 => ("ExchangeDesk$Line", "slot", "I", false)
  | 5 => ("ExchangeDesk$Line", "lateFor", "I", false)
  | 6 => ("ExchangeDesk$Line", "firstDigit", "I", false)
  | 7 => ("ExchangeDesk$Line", "pays", "Z", false)
  | 8 => ("ExchangeDesk$Line", "paid", "I", false)
  | 9 => ("ExchangeDesk$Line", "rests", "Z", false)
  | _ => ("ExchangeDesk$Line", "camper", "I", false)
def tyX2 : Nat → FieldType := fun k => match k with
  | 0 => .int
  | 1 => .int
  | 2 => .int
  | 3 => .int
  | 4 => .int
  | 5 => .int
  | 6 => .int
  | 7 => .boolean
  | 8 => .int
  | 9 => .boolean
  | _ => .int
abbrev wsX20 : List Cond := u_ws RX2 TX2 11
theorem nmX2 : ∀ a, a < 11 → ∀ b, b < 11 → a ≠ b → (TX2 a).2.1 ≠ (TX2 b).2.1 := by decide +kernel
theorem tyX2_ok : ∀ k, k < 11 → parseFieldDescriptor (TX2 k).2.2.1 = some (tyX2 k) := by decide +kernel
abbrev cX2_init : ByteArray := prog_4_method_1_code
def yX2_init : MethodName := ⟨RX2, "<init>", "(I)V"⟩
abbrev cX2_isOnHook : ByteArray := prog_4_method_2_code
def yX2_isOnHook : MethodName := ⟨RX2, "isOnHook", "()Z"⟩
abbrev cX2_ringsFor : ByteArray := prog_4_method_3_code
def yX2_ringsFor : MethodName := ⟨RX2, "ringsFor", "(I)Z"⟩
abbrev cX2_enter : ByteArray := prog_4_method_4_code
def yX2_enter : MethodName := ⟨RX2, "enter", "(II)V"⟩
abbrev cX2_talk : ByteArray := prog_4_method_5_code
def yX2_talk : MethodName := ⟨RX2, "talk", "(III)V"⟩
abbrev cX2_due : ByteArray := prog_4_method_6_code
def yX2_due : MethodName := ⟨RX2, "due", "()I"⟩
def RX3 : String := "ExchangeDesk$Switch"
def TX3 : u_T := fun k => match k with
  | _ => ("ExchangeDesk$Switch", "carried", "[[I", true)
def tyX3 : Nat → FieldType := fun k => match k with
  | _ => .array (.array .int)
abbrev wsX30 : List Cond := u_ws RX3 TX3 1
theorem nmX3 : ∀ a, a < 1 → ∀ b, b < 1 → a ≠ b → (TX3 a).2.1 ≠ (TX3 b).2.1 := by decide +kernel
theorem tyX3_ok : ∀ k, k < 1 → parseFieldDescriptor (TX3 k).2.2.1 = some (tyX3 k) := by decide +kernel
abbrev cX3_init : ByteArray := prog_5_method_1_code
def yX3_init : MethodName := ⟨RX3, "<init>", "()V"⟩
abbrev cX3_lowestFree : ByteArray := prog_5_method_2_code
def yX3_lowestFree : MethodName := ⟨RX3, "lowestFree", "(LExchangeDesk$Line;LExchangeDesk$Line;)I"⟩
abbrev cX3_take : ByteArray := prog_5_method_3_code
def yX3_take : MethodName := ⟨RX3, "take", "(LExchangeDesk$Line;LExchangeDesk$Line;)I"⟩
abbrev cX3_release : ByteArray := prog_5_method_4_code
def yX3_release : MethodName := ⟨RX3, "release", "(LExchangeDesk$Line;LExchangeDesk$Line;I)V"⟩
abbrev cX3_mark : ByteArray := prog_5_method_5_code
def yX3_mark : MethodName := ⟨RX3, "mark", "(LExchangeDesk$Line;LExchangeDesk$Line;II)V"⟩
abbrev cX3_slotsInUse : ByteArray := prog_5_method_6_code
def yX3_slotsInUse : MethodName := ⟨RX3, "slotsInUse", "()I"⟩
def RX4 : String := "ExchangeDesk"
def TX4 : u_T := fun k => match k with
  | 0 => ("ExchangeDesk", "lines", "[LExchangeDesk$Line;", true)
  | 1 => ("ExchangeDesk", "paths", "LExchangeDesk$Switch;", true)
  | 2 => ("ExchangeDesk", "groups", "[LExchangeDesk$Group;", true)
  | 3 => ("ExchangeDesk", "places", "[I", true)
  | 4 => ("ExchangeDesk", "ended", "LExchangeDesk$Book;", true)
  | 5 => ("ExchangeDesk", "time", "I", false)
  | _ => ("ExchangeDesk", "blocked", "I", false)
def tyX4 : Nat → FieldType := fun k => match k with
  | 0 => .array (.object "ExchangeDesk$Line")
  | 1 => .object "ExchangeDesk$Switch"
  | 2 => .array (.object "ExchangeDesk$Group")
  | 3 => .array .int
  | 4 => .object "ExchangeDesk$Book"
  | 5 => .int
  | _ => .int
abbrev wsX40 : List Cond := u_ws RX4 TX4 7
theorem nmX4 : ∀ a, a < 7 → ∀ b, b < 7 → a ≠ b → (TX4 a).2.1 ≠ (TX4 b).2.1 := by decide +kernel
theorem tyX4_ok : ∀ k, k < 7 → parseFieldDescriptor (TX4 k).2.2.1 = some (tyX4 k) := by decide +kernel
abbrev cX4_init : ByteArray := prog_1_method_1_code
def yX4_init : MethodName := ⟨RX4, "<init>", "()V"⟩
abbrev cX4_up : ByteArray := prog_1_method_2_code
def yX4_up : MethodName := ⟨RX4, "up", "(I)I"⟩
abbrev cX4_down : ByteArray := prog_1_method_3_code
def yX4_down : MethodName := ⟨RX4, "down", "(I)V"⟩
abbrev cX4_digit : ByteArray := prog_1_method_4_code
def yX4_digit : MethodName := ⟨RX4, "digit", "(II)I"⟩
abbrev cX4_camp : ByteArray := prog_1_method_5_code
def yX4_camp : MethodName := ⟨RX4, "camp", "(I)I"⟩
abbrev cX4_park : ByteArray := prog_1_method_6_code
def yX4_park : MethodName := ⟨RX4, "park", "(II)I"⟩
abbrev cX4_transfer : ByteArray := prog_1_method_7_code
def yX4_transfer : MethodName := ⟨RX4, "transfer", "(II)I"⟩
abbrev cX4_tick : ByteArray := prog_1_method_8_code
def yX4_tick : MethodName := ⟨RX4, "tick", "(I)I"⟩
abbrev cX4_group : ByteArray := prog_1_method_9_code
def yX4_group : MethodName := ⟨RX4, "group", "(III)I"⟩
abbrev cX4_slot : ByteArray := prog_1_method_10_code
def yX4_slot : MethodName := ⟨RX4, "slot", "(IIZ)V"⟩
abbrev cX4_carries : ByteArray := prog_1_method_11_code
def yX4_carries : MethodName := ⟨RX4, "carries", "(II)I"⟩
abbrev cX4_line : ByteArray := prog_1_method_12_code
def yX4_line : MethodName := ⟨RX4, "line", "(II)I"⟩
abbrev cX4_count : ByteArray := prog_1_method_13_code
def yX4_count : MethodName := ⟨RX4, "count", "(I)I"⟩
abbrev cX4_book : ByteArray := prog_1_method_14_code
def yX4_book : MethodName := ⟨RX4, "book", "(II)I"⟩
abbrev cX4_require : ByteArray := prog_1_method_15_code
def yX4_require : MethodName := ⟨RX4, "require", "(Z)V"⟩
abbrev cX4_isLine : ByteArray := prog_1_method_16_code
def yX4_isLine : MethodName := ⟨RX4, "isLine", "(I)Z"⟩
abbrev cX4_isSlot : ByteArray := prog_1_method_17_code
def yX4_isSlot : MethodName := ⟨RX4, "isSlot", "(II)Z"⟩
abbrev cX4_lineOf : ByteArray := prog_1_method_18_code
def yX4_lineOf : MethodName := ⟨RX4, "lineOf", "(I)LExchangeDesk$Line;"⟩
abbrev cX4_slotOf : ByteArray := prog_1_method_19_code
def yX4_slotOf : MethodName := ⟨RX4, "slotOf", "(LExchangeDesk$Line;)I"⟩
abbrev cX4_lowestRinging : ByteArray := prog_1_method_20_code
def yX4_lowestRinging : MethodName := ⟨RX4, "lowestRinging", "(I)I"⟩
abbrev cX4_call : ByteArray := prog_1_method_21_code
def yX4_call : MethodName := ⟨RX4, "call", "(LExchangeDesk$Line;I)V"⟩
abbrev cX4_callLine : ByteArray := prog_1_method_22_code
def yX4_callLine : MethodName := ⟨RX4, "callLine", "(LExchangeDesk$Line;LExchangeDesk$Line;)V"⟩
abbrev cX4_callGroup : ByteArray := prog_1_method_23_code
def yX4_callGroup : MethodName := ⟨RX4, "callGroup", "(LExchangeDesk$Line;LExchangeDesk$Group;)V"⟩
abbrev cX4_ringAll : ByteArray := prog_1_method_24_code
def yX4_ringAll : MethodName := ⟨RX4, "ringAll", "(LExchangeDesk$Line;LExchangeDesk$Group;)Z"⟩
abbrev cX4_ringOne : ByteArray := prog_1_method_25_code
def yX4_ringOne : MethodName := ⟨RX4, "ringOne", "(LExchangeDesk$Line;LExchangeDesk$Group;)Z"⟩
abbrev cX4_firstToTake : ByteArray := prog_1_method_26_code
def yX4_firstToTake : MethodName := ⟨RX4, "firstToTake", "(LExchangeDesk$Line;LExchangeDesk$Group;)I"⟩
abbrev cX4_longestIdle : ByteArray := prog_1_method_27_code
def yX4_longestIdle : MethodName := ⟨RX4, "longestIdle", "(LExchangeDesk$Line;LExchangeDesk$Group;)I"⟩
abbrev cX4_hasWilling : ByteArray := prog_1_method_28_code
def yX4_hasWilling : MethodName := ⟨RX4, "hasWilling", "(LExchangeDesk$Line;LExchangeDesk$Group;)Z"⟩
abbrev cX4_isWilling : ByteArray := prog_1_method_29_code
def yX4_isWilling : MethodName := ⟨RX4, "isWilling", "(LExchangeDesk$Line;LExchangeDesk$Line;)Z"⟩
abbrev cX4_canTake : ByteArray := prog_1_method_30_code
def yX4_canTake : MethodName := ⟨RX4, "canTake", "(LExchangeDesk$Line;LExchangeDesk$Line;)Z"⟩
abbrev cX4_ring : ByteArray := prog_1_method_31_code
def yX4_ring : MethodName := ⟨RX4, "ring", "(LExchangeDesk$Line;LExchangeDesk$Line;)Z"⟩
abbrev cX4_block : ByteArray := prog_1_method_32_code
def yX4_block : MethodName := ⟨RX4, "block", "(LExchangeDesk$Line;)V"⟩
abbrev cX4_answer : ByteArray := prog_1_method_33_code
def yX4_answer : MethodName := ⟨RX4, "answer", "(LExchangeDesk$Line;)V"⟩
abbrev cX4_pickUp : ByteArray := prog_1_method_34_code
def yX4_pickUp : MethodName := ⟨RX4, "pickUp", "(LExchangeDesk$Line;)V"⟩
abbrev cX4_firstRinging : ByteArray := prog_1_method_35_code
def yX4_firstRinging : MethodName := ⟨RX4, "firstRinging", "(I)LExchangeDesk$Line;"⟩
abbrev cX4_takeParked : ByteArray := prog_1_method_36_code
def yX4_takeParked : MethodName := ⟨RX4, "takeParked", "(LExchangeDesk$Line;I)V"⟩
abbrev cX4_talkByNewPath : ByteArray := prog_1_method_37_code
def yX4_talkByNewPath : MethodName := ⟨RX4, "talkByNewPath", "(LExchangeDesk$Line;LExchangeDesk$Line;)Z"⟩
abbrev cX4_beginTalk : ByteArray := prog_1_method_38_code
def yX4_beginTalk : MethodName := ⟨RX4, "beginTalk", "(LExchangeDesk$Line;LExchangeDesk$Line;I)V"⟩
abbrev cX4_endTalk : ByteArray := prog_1_method_39_code
def yX4_endTalk : MethodName := ⟨RX4, "endTalk", "(LExchangeDesk$Line;)LExchangeDesk$Line;"⟩
abbrev cX4_unitsOf : ByteArray := prog_1_method_40_code
def yX4_unitsOf : MethodName := ⟨RX4, "unitsOf", "(LExchangeDesk$Line;)I"⟩
abbrev cX4_stopRinging : ByteArray := prog_1_method_41_code
def yX4_stopRinging : MethodName := ⟨RX4, "stopRinging", "(LExchangeDesk$Line;)V"⟩
abbrev cX4_leave : ByteArray := prog_1_method_42_code
def yX4_leave : MethodName := ⟨RX4, "leave", "(LExchangeDesk$Line;)V"⟩
abbrev cX4_callFromCamps : ByteArray := prog_1_method_43_code
def yX4_callFromCamps : MethodName := ⟨RX4, "callFromCamps", "()V"⟩
abbrev cX4_earliestDue : ByteArray := prog_1_method_44_code
def yX4_earliestDue : MethodName := ⟨RX4, "earliestDue", "()I"⟩
abbrev cX4_lookAtTimers : ByteArray := prog_1_method_45_code
def yX4_lookAtTimers : MethodName := ⟨RX4, "lookAtTimers", "()V"⟩
abbrev cX4_runOut : ByteArray := prog_1_method_46_code
def yX4_runOut : MethodName := ⟨RX4, "runOut", "(LExchangeDesk$Line;)V"⟩
def RX5 : String := "ExchangeDeskModel"
def TX5 : u_T := fun k => match k with
  | 0 => ("ExchangeDeskModel", "thrown", "I", false)
  | 1 => ("ExchangeDeskModel", "now", "I", false)
  | 2 => ("ExchangeDeskModel", "state", "[I", true)
  | 3 => ("ExchangeDeskModel", "since", "[I", true)
  | 4 => ("ExchangeDeskModel", "idleSince", "[I", true)
  | 5 => ("ExchangeDeskModel", "digits", "[I", true)
  | 6 => ("ExchangeDeskModel", "other", "[I", true)
  | 7 => ("ExchangeDeskModel", "slotOf", "[I", true)
  | 8 => ("ExchangeDeskModel", "rank", "[I", true)
  | 9 => ("ExchangeDeskModel", "ranks", "I", false)
  | 10 => ("ExchangeDeskModel", "late", "[I", true)
  | 11 => ("ExchangeDeskModel", "quiet", "[Z", true)
  | 12 => ("ExchangeDeskModel", "paid", "[I", true)
  | 13 => ("ExchangeDeskModel", "pays", "[Z", true)
  | 14 => ("ExchangeDeskModel", "begun", "[I", true)
  | 15 => ("ExchangeDeskModel", "camper", "[I", true)
  | 16 => ("ExchangeDeskModel", "parked", "[I", true)
  | 17 => ("ExchangeDeskModel", "slots", "[I", true)
  | 18 => ("ExchangeDeskModel", "members", "[I", true)
  | 19 => ("ExchangeDeskModel", "many", "[I", true)
  | 20 => ("ExchangeDeskModel", "orders", "[I", true)
  | 21 => ("ExchangeDeskModel", "taken", "[I", true)
  | 22 => ("ExchangeDeskModel", "blocked", "I", false)
  | 23 => ("ExchangeDeskModel", "entries", "I", false)
  | _ => ("ExchangeDeskModel", "entry", "[I", true)
def tyX5 : Nat → FieldType := fun k => match k with
  | 0 => .int
  | 1 => .int
  | 2 => .array .int
  | 3 => .array .int
  | 4 => .array .int
  | 5 => .array .int
  | 6 => .array .int
  | 7 => .array .int
  | 8 => .array .int
  | 9 => .int
  | 10 => .array .int
  | 11 => .array .boolean
  | 12 => .array .int
  | 13 => .array .boolean
  | 14 => .array .int
  | 15 => .array .int
  | 16 => .array .int
  | 17 => .array .int
  | 18 => .array .int
  | 19 => .array .int
  | 20 => .array .int
  | 21 => .array .int
  | 22 => .int
  | 23 => .int
  | _ => .array .int
abbrev wsX50 : List Cond := u_ws RX5 TX5 25
theorem nmX5 : ∀ a, a < 25 → ∀ b, b < 25 → a ≠ b → (TX5 a).2.1 ≠ (TX5 b).2.1 := by decide +kernel
theorem tyX5_ok : ∀ k, k < 25 → parseFieldDescriptor (TX5 k).2.2.1 = some (tyX5 k) := by decide +kernel
abbrev cX5_init : ByteArray := prog_7_method_1_code
def yX5_init : MethodName := ⟨RX5, "<init>", "()V"⟩
abbrev cX5_thrown : ByteArray := prog_7_method_2_code
def yX5_thrown : MethodName := ⟨RX5, "thrown", "()I"⟩
abbrev cX5_throwing : ByteArray := prog_7_method_3_code
def yX5_throwing : MethodName := ⟨RX5, "throwing", "(ZZ)Z"⟩
abbrev cX5_in : ByteArray := prog_7_method_4_code
def yX5_in : MethodName := ⟨RX5, "in", "(III)Z"⟩
abbrev cX5_isLine : ByteArray := prog_7_method_5_code
def yX5_isLine : MethodName := ⟨RX5, "isLine", "(I)Z"⟩
abbrev cX5_free : ByteArray := prog_7_method_6_code
def yX5_free : MethodName := ⟨RX5, "free", "(II)I"⟩
abbrev cX5_use : ByteArray := prog_7_method_7_code
def yX5_use : MethodName := ⟨RX5, "use", "(IIII)V"⟩
abbrev cX5_take : ByteArray := prog_7_method_8_code
def yX5_take : MethodName := ⟨RX5, "take", "(II)I"⟩
abbrev cX5_become : ByteArray := prog_7_method_9_code
def yX5_become : MethodName := ⟨RX5, "become", "(II)V"⟩
abbrev cX5_busy : ByteArray := prog_7_method_10_code
def yX5_busy : MethodName := ⟨RX5, "busy", "(I)V"⟩
abbrev cX5_ring : ByteArray := prog_7_method_11_code
def yX5_ring : MethodName := ⟨RX5, "ring", "(III)V"⟩
abbrev cX5_connect : ByteArray := prog_7_method_12_code
def yX5_connect : MethodName := ⟨RX5, "connect", "(III)V"⟩
abbrev cX5_hush : ByteArray := prog_7_method_13_code
def yX5_hush : MethodName := ⟨RX5, "hush", "(II)V"⟩
abbrev cX5_unitsOf : ByteArray := prog_7_method_14_code
def yX5_unitsOf : MethodName := ⟨RX5, "unitsOf", "(I)I"⟩
abbrev cX5_finish : ByteArray := prog_7_method_15_code
def yX5_finish : MethodName := ⟨RX5, "finish", "(I)V"⟩
abbrev cX5_call : ByteArray := prog_7_method_16_code
def yX5_call : MethodName := ⟨RX5, "call", "(II)V"⟩
abbrev cX5_callLine : ByteArray := prog_7_method_17_code
def yX5_callLine : MethodName := ⟨RX5, "callLine", "(II)V"⟩
abbrev cX5_mayRing : ByteArray := prog_7_method_18_code
def yX5_mayRing : MethodName := ⟨RX5, "mayRing", "(II)Z"⟩
abbrev cX5_callGroup : ByteArray := prog_7_method_19_code
def yX5_callGroup : MethodName := ⟨RX5, "callGroup", "(II)V"⟩
abbrev cX5_pick : ByteArray := prog_7_method_20_code
def yX5_pick : MethodName := ⟨RX5, "pick", "(I)V"⟩
abbrev cX5_unpark : ByteArray := prog_7_method_21_code
def yX5_unpark : MethodName := ⟨RX5, "unpark", "(II)V"⟩
abbrev cX5_settle : ByteArray := prog_7_method_22_code
def yX5_settle : MethodName := ⟨RX5, "settle", "()V"⟩
abbrev cX5_up : ByteArray := prog_7_method_23_code
def yX5_up : MethodName := ⟨RX5, "up", "(I)I"⟩
abbrev cX5_leave : ByteArray := prog_7_method_24_code
def yX5_leave : MethodName := ⟨RX5, "leave", "(I)V"⟩
abbrev cX5_down : ByteArray := prog_7_method_25_code
def yX5_down : MethodName := ⟨RX5, "down", "(I)V"⟩
abbrev cX5_digit : ByteArray := prog_7_method_26_code
def yX5_digit : MethodName := ⟨RX5, "digit", "(II)I"⟩
abbrev cX5_camp : ByteArray := prog_7_method_27_code
def yX5_camp : MethodName := ⟨RX5, "camp", "(I)I"⟩
abbrev cX5_park : ByteArray := prog_7_method_28_code
def yX5_park : MethodName := ⟨RX5, "park", "(II)I"⟩
abbrev cX5_transfer : ByteArray := prog_7_method_29_code
def yX5_transfer : MethodName := ⟨RX5, "transfer", "(II)I"⟩
abbrev cX5_tick : ByteArray := prog_7_method_30_code
def yX5_tick : MethodName := ⟨RX5, "tick", "(I)I"⟩
abbrev cX5_watch : ByteArray := prog_7_method_31_code
def yX5_watch : MethodName := ⟨RX5, "watch", "(I)V"⟩
abbrev cX5_group : ByteArray := prog_7_method_32_code
def yX5_group : MethodName := ⟨RX5, "group", "(III)I"⟩
abbrev cX5_slot : ByteArray := prog_7_method_33_code
def yX5_slot : MethodName := ⟨RX5, "slot", "(IIZ)V"⟩
abbrev cX5_carries : ByteArray := prog_7_method_34_code
def yX5_carries : MethodName := ⟨RX5, "carries", "(II)I"⟩
abbrev cX5_ringer : ByteArray := prog_7_method_35_code
def yX5_ringer : MethodName := ⟨RX5, "ringer", "(I)I"⟩
abbrev cX5_line : ByteArray := prog_7_method_36_code
def yX5_line : MethodName := ⟨RX5, "line", "(II)I"⟩
abbrev cX5_count : ByteArray := prog_7_method_37_code
def yX5_count : MethodName := ⟨RX5, "count", "(I)I"⟩
abbrev cX5_book : ByteArray := prog_7_method_38_code
def yX5_book : MethodName := ⟨RX5, "book", "(II)I"⟩
def RJ9 : String := "java/lang/Math"
def TJ9 : u_T := fun k => match k with
  | _ => ("", "", "", false)
def tyJ9 : Nat → FieldType := fun k => match k with
  | _ => .int
abbrev wsJ90 : List Cond := u_ws RJ9 TJ9 0
theorem nmJ9 : ∀ a, a < 0 → ∀ b, b < 0 → a ≠ b → (TJ9 a).2.1 ≠ (TJ9 b).2.1 := by decide +kernel
theorem tyJ9_ok : ∀ k, k < 0 → parseFieldDescriptor (TJ9 k).2.2.1 = some (tyJ9 k) := by decide +kernel
abbrev cJ9_max_7cf53 : ByteArray := prog_12_method_65_code
def yJ9_max_7cf53 : MethodName := ⟨RJ9, "max", "(II)I"⟩
abbrev cJ9_min_7cf53 : ByteArray := prog_12_method_69_code
def yJ9_min_7cf53 : MethodName := ⟨RJ9, "min", "(II)I"⟩
def RJ0 : String := "java/lang/String"
def TJ0 : u_T := fun k => match k with
  | _ => ("", "", "", false)
def tyJ0 : Nat → FieldType := fun k => match k with
  | _ => .int
abbrev wsJ00 : List Cond := u_ws RJ0 TJ0 0
theorem nmJ0 : ∀ a, a < 0 → ∀ b, b < 0 → a ≠ b → (TJ0 a).2.1 ≠ (TJ0 b).2.1 := by decide +kernel
theorem tyJ0_ok : ∀ k, k < 0 → parseFieldDescriptor (TJ0 k).2.2.1 = some (tyJ0 k) := by decide +kernel
def RJ7 : String := "java/util/Arrays"
def TJ7 : u_T := fun k => match k with
  | _ => ("", "", "", false)
def tyJ7 : Nat → FieldType := fun k => match k with
  | _ => .int
abbrev wsJ70 : List Cond := u_ws RJ7 TJ7 0
theorem nmJ7 : ∀ a, a < 0 → ∀ b, b < 0 → a ≠ b → (TJ7 a).2.1 ≠ (TJ7 b).2.1 := by decide +kernel
theorem tyJ7_ok : ∀ k, k < 0 → parseFieldDescriptor (TJ7 k).2.2.1 = some (tyJ7 k) := by decide +kernel
abbrev cJ7_fill_53178 : ByteArray := prog_16_method_103_code
def yJ7_fill_53178 : MethodName := ⟨RJ7, "fill", "([II)V"⟩
def RL : String := "ExchangeDeskLaw"
abbrev cL_up : ByteArray := method_3_code
def yL_up : MethodName := ⟨RL, "up", "(LExchangeDesk;I[J)I"⟩
abbrev cL_down : ByteArray := method_4_code
def yL_down : MethodName := ⟨RL, "down", "(LExchangeDesk;I)I"⟩
abbrev cL_digit : ByteArray := method_5_code
def yL_digit : MethodName := ⟨RL, "digit", "(LExchangeDesk;II[J)I"⟩
abbrev cL_camp : ByteArray := method_6_code
def yL_camp : MethodName := ⟨RL, "camp", "(LExchangeDesk;I[J)I"⟩
abbrev cL_park : ByteArray := method_7_code
def yL_park : MethodName := ⟨RL, "park", "(LExchangeDesk;II[J)I"⟩
abbrev cL_transfer : ByteArray := method_8_code
def yL_transfer : MethodName := ⟨RL, "transfer", "(LExchangeDesk;II[J)I"⟩
abbrev cL_tick : ByteArray := method_9_code
def yL_tick : MethodName := ⟨RL, "tick", "(LExchangeDesk;I[J)I"⟩
abbrev cL_group : ByteArray := method_10_code
def yL_group : MethodName := ⟨RL, "group", "(LExchangeDesk;III[J)I"⟩
abbrev cL_slot : ByteArray := method_11_code
def yL_slot : MethodName := ⟨RL, "slot", "(LExchangeDesk;IIZ)I"⟩
abbrev cL_carries : ByteArray := method_12_code
def yL_carries : MethodName := ⟨RL, "carries", "(LExchangeDesk;II[J)I"⟩
abbrev cL_line : ByteArray := method_13_code
def yL_line : MethodName := ⟨RL, "line", "(LExchangeDesk;II[J)I"⟩
abbrev cL_count : ByteArray := method_14_code
def yL_count : MethodName := ⟨RL, "count", "(LExchangeDesk;I[J)I"⟩
abbrev cL_book : ByteArray := method_15_code
def yL_book : MethodName := ⟨RL, "book", "(LExchangeDesk;II[J)I"⟩
abbrev cL_law : ByteArray := code
def yL_law : MethodName := ⟨RL, "law", "([I)Z"⟩
def wsX0_init : List Cond := .code yX0_init cX0_init 1 none :: ([.methodLink RX0 1 objectInit, .instanceMethod objectInit, .code objectInit ⟨#[0xb1]⟩ 1 none, .arrayClass .int, .fieldLink RX0 9 "ExchangeDesk$Book" "entries" "[I"] ++ wsX00)
def wsX0_write : List Cond := .code yX0_write cX0_write 6 none :: ([.fieldLink RX0 13 "ExchangeDesk$Book" "written" "I", .fieldLink RX0 9 "ExchangeDesk$Book" "entries" "[I"] ++ wsX00)
def wsX0_keeps : List Cond := .code yX0_keeps cX0_keeps 2 (some .boolean) :: ([.fieldLink RX0 13 "ExchangeDesk$Book" "written" "I"] ++ wsX00)
def wsX0_read : List Cond := .code yX0_read cX0_read 3 (some .int) :: ([.fieldLink RX0 9 "ExchangeDesk$Book" "entries" "[I"] ++ wsX00)
def wsX1_init : List Cond := .code yX1_init cX1_init 1 none :: ([.methodLink RX1 3 objectInit, .instanceMethod objectInit, .code objectInit ⟨#[0xb1]⟩ 1 none, .arrayClass .int, .fieldLink RX1 9 "ExchangeDesk$Group" "row" "[I", .fieldLink RX1 15 "ExchangeDesk$Group" "order" "I", .fieldLink RX1 19 "ExchangeDesk$Group" "last" "I"] ++ wsX10)
def wsX1_restart : List Cond := .code yX1_restart cX1_restart 2 none :: ([.fieldLink RX1 22 "ExchangeDesk$Group" "size" "I", .fieldLink RX1 15 "ExchangeDesk$Group" "order" "I", .fieldLink RX1 19 "ExchangeDesk$Group" "last" "I"] ++ wsX10)
def wsX1_has : List Cond := .code yX1_has cX1_has 3 (some .boolean) :: ([.fieldLink RX1 22 "ExchangeDesk$Group" "size" "I", .fieldLink RX1 9 "ExchangeDesk$Group" "row" "[I"] ++ wsX10)
def wsX1_add : List Cond := .code yX1_add cX1_add 2 none :: ([.fieldLink RX1 9 "ExchangeDesk$Group" "row" "[I", .fieldLink RX1 22 "ExchangeDesk$Group" "size" "I"] ++ wsX10)
def wsX2_init : List Cond := .code yX2_init cX2_init 2 none :: ([.methodLink RX2 3 objectInit, .instanceMethod objectInit, .code objectInit ⟨#[0xb1]⟩ 1 none, .fieldLink RX2 9 "ExchangeDesk$Line" "state" "I", .fieldLink RX2 15 "ExchangeDesk$Line" "since" "I", .fieldLink RX2 18 "ExchangeDesk$Line" "other" "I", .fieldLink RX2 21 "ExchangeDesk$Line" "slot" "I", .fieldLink RX2 24 "ExchangeDesk$Line" "lateFor" "I", .fieldLink RX2 27 "ExchangeDesk$Line" "camper" "I", .fieldLink RX2 30 "ExchangeDesk$Line" "number" "I"] ++ wsX20)
def wsX2_isOnHook : List Cond := .code yX2_isOnHook cX2_isOnHook 1 (some .boolean) :: ([.fieldLink RX2 9 "ExchangeDesk$Line" "state" "I"] ++ wsX20)
def wsX2_ringsFor : List Cond := .code yX2_ringsFor cX2_ringsFor 2 (some .boolean) :: ([.fieldLink RX2 9 "ExchangeDesk$Line" "state" "I", .fieldLink RX2 18 "ExchangeDesk$Line" "other" "I"] ++ wsX20)
def wsX2_enter : List Cond := .code yX2_enter cX2_enter 3 none :: ([.fieldLink RX2 9 "ExchangeDesk$Line" "state" "I", .fieldLink RX2 15 "ExchangeDesk$Line" "since" "I", .fieldLink RX2 18 "ExchangeDesk$Line" "other" "I", .fieldLink RX2 21 "ExchangeDesk$Line" "slot" "I", .fieldLink RX2 24 "ExchangeDesk$Line" "lateFor" "I", .fieldLink RX2 33 "ExchangeDesk$Line" "pays" "Z"] ++ wsX20)
def wsX2_talk : List Cond := .code yX2_talk cX2_talk 4 none :: ([.fieldLink RX2 18 "ExchangeDesk$Line" "other" "I", .fieldLink RX2 21 "ExchangeDesk$Line" "slot" "I", .methodLink RX2 37 yX2_enter, .instanceMethod yX2_enter, .selects RX2 yX2_enter yX2_enter, .initialized RX2, .code yX2_enter cX2_enter 3 none, .fieldLink RX2 9 "ExchangeDesk$Line" "state" "I", .fieldLink RX2 15 "ExchangeDesk$Line" "since" "I", .fieldLink RX2 24 "ExchangeDesk$Line" "lateFor" "I", .fieldLink RX2 33 "ExchangeDesk$Line" "pays" "Z"] ++ wsX20)
def wsX2_due : List Cond := .code yX2_due cX2_due 1 (some .int) :: ([.fieldLink RX2 9 "ExchangeDesk$Line" "state" "I", .fieldLink RX2 15 "ExchangeDesk$Line" "since" "I", .constant RX2 41 (2147483647)] ++ wsX20)
def wsJ7_fill_53178 : List Cond := .code yJ7_fill_53178 cJ7_fill_53178 4 none :: ([])
def wsX3_init : List Cond := .code yX3_init cX3_init 2 none :: ([.methodLink RX3 3 objectInit, .instanceMethod objectInit, .code objectInit ⟨#[0xb1]⟩ 1 none, .classLink RX3 9 "[[I", .arrayClass .int, .fieldLink RX3 11 "ExchangeDesk$Switch" "carried" "[[I", .methodLink RX3 16 yJ7_fill_53178, .static yJ7_fill_53178, .initialized RJ7, .code yJ7_fill_53178 cJ7_fill_53178 4 none] ++ wsX30)
def wsX3_lowestFree : List Cond := .code yX3_lowestFree cX3_lowestFree 6 (some .int) :: ([.fieldLink RX3 11 "ExchangeDesk$Switch" "carried" "[[I", .fieldLink RX3 22 "ExchangeDesk$Line" "number" "I"] ++ wsX30 ++ wsX20)
def wsX3_mark : List Cond := .code yX3_mark cX3_mark 5 none :: ([.fieldLink RX3 11 "ExchangeDesk$Switch" "carried" "[[I", .fieldLink RX3 22 "ExchangeDesk$Line" "number" "I"] ++ wsX30 ++ wsX20)
def wsX3_take : List Cond := .code yX3_take cX3_take 4 (some .int) :: ([.fieldLink RX3 22 "ExchangeDesk$Line" "number" "I", .methodLink RX3 32 Lib.Math.min.name, .static Lib.Math.min.name, .initialized "java/lang/Math", .code Lib.Math.min.name Lib.Math.min.code 2 (some .int), .methodLink RX3 28 yX3_lowestFree, .instanceMethod yX3_lowestFree, .selects RX3 yX3_lowestFree yX3_lowestFree, .initialized RX3, .code yX3_lowestFree cX3_lowestFree 6 (some .int), .fieldLink RX3 11 "ExchangeDesk$Switch" "carried" "[[I", .methodLink RX3 38 yX3_mark, .instanceMethod yX3_mark, .selects RX3 yX3_mark yX3_mark, .code yX3_mark cX3_mark 5 none] ++ wsX20 ++ wsX30)
def wsX3_release : List Cond := .code yX3_release cX3_release 4 none :: ([.methodLink RX3 38 yX3_mark, .instanceMethod yX3_mark, .selects RX3 yX3_mark yX3_mark, .initialized RX3, .code yX3_mark cX3_mark 5 none, .fieldLink RX3 11 "ExchangeDesk$Switch" "carried" "[[I", .fieldLink RX3 22 "ExchangeDesk$Line" "number" "I"] ++ wsX30 ++ wsX20)
def wsX3_slotsInUse : List Cond := .code yX3_slotsInUse cX3_slotsInUse 4 (some .int) :: ([.fieldLink RX3 11 "ExchangeDesk$Switch" "carried" "[[I"] ++ wsX30)
def wsX4_init_r1 : List Cond := [Cond.methodLink RX4 1 objectInit, Cond.instanceMethod objectInit, Cond.code objectInit ⟨#[0xb1]⟩ 1 none, Cond.classLink RX4 9 RX2, Cond.fieldLink RX4 11 "ExchangeDesk" "lines" "[LExchangeDesk$Line;", Cond.instantiable RX2 11, Cond.initialized RX2, Cond.classLink RX4 18 RX3, Cond.instantiable RX3 1, Cond.initialized RX3, Cond.fieldLink RX4 21 "ExchangeDesk" "paths" "LExchangeDesk$Switch;", Cond.classLink RX4 25 RX1, Cond.fieldLink RX4 27 "ExchangeDesk" "groups" "[LExchangeDesk$Group;", Cond.instantiable RX1 4, Cond.initialized RX1, Cond.arrayClass .int, Cond.fieldLink RX4 32 "ExchangeDesk" "places" "[I", Cond.classLink RX4 42 RX0, Cond.instantiable RX0 2, Cond.initialized RX0, Cond.fieldLink RX4 45 "ExchangeDesk" "ended" "LExchangeDesk$Book;", Cond.methodLink RX4 15 yX2_init, Cond.instanceMethod yX2_init, Cond.code yX2_init cX2_init 2 none]
def wsX4_init_r2 : List Cond := [Cond.methodLink RX2 3 objectInit, Cond.fieldLink RX2 9 "ExchangeDesk$Line" "state" "I", Cond.fieldLink RX2 15 "ExchangeDesk$Line" "since" "I", Cond.fieldLink RX2 18 "ExchangeDesk$Line" "other" "I", Cond.fieldLink RX2 21 "ExchangeDesk$Line" "slot" "I", Cond.fieldLink RX2 24 "ExchangeDesk$Line" "lateFor" "I", Cond.fieldLink RX2 27 "ExchangeDesk$Line" "camper" "I", Cond.fieldLink RX2 30 "ExchangeDesk$Line" "number" "I", Cond.methodLink RX4 20 yX3_init, Cond.instanceMethod yX3_init, Cond.code yX3_init cX3_init 2 none, Cond.methodLink RX3 3 objectInit, Cond.classLink RX3 9 "[[I", Cond.fieldLink RX3 11 "ExchangeDesk$Switch" "carried" "[[I", Cond.methodLink RX3 16 yJ7_fill_53178, Cond.static yJ7_fill_53178, Cond.initialized RJ7, Cond.code yJ7_fill_53178 cJ7_fill_53178 4 none, Cond.instanceMethod yX1_init, Cond.code yX1_init cX1_init 1 none, Cond.methodLink RX1 3 objectInit, Cond.fieldLink RX1 9 "ExchangeDesk$Group" "row" "[I", Cond.fieldLink RX1 15 "ExchangeDesk$Group" "order" "I", Cond.fieldLink RX1 19 "ExchangeDesk$Group" "last" "I"]
def wsX4_init_r3 : List Cond := [Cond.methodLink RX4 36 yJ7_fill_53178, Cond.instanceMethod yX0_init, Cond.code yX0_init cX0_init 1 none, Cond.methodLink RX0 1 objectInit, Cond.fieldLink RX0 9 "ExchangeDesk$Book" "entries" "[I"]
def wsX4_init : List Cond := .code yX4_init cX4_init 2 none :: ((wsX4_init_r1 ++ (wsX4_init_r2 ++ wsX4_init_r3)) ++ wsX40 ++ wsX20 ++ wsX30 ++ wsX10 ++ wsX00)
def wsX4_isLine : List Cond := .code yX4_isLine cX4_isLine 1 (some .boolean) :: ([])
def wsX4_require : List Cond := .code yX4_require cX4_require 1 none :: ([.classLink RX4 205 "java/lang/IllegalArgumentException", .initialized "java/lang/IllegalArgumentException"] ++ (vx_atS RX4 209 "java/lang/IllegalArgumentException" ["java/lang/RuntimeException", "java/lang/Exception"]).filter goodWord)
def wsX4_lineOf : List Cond := .code yX4_lineOf cX4_lineOf 2 (some (.object "ExchangeDesk$Line")) :: ([.fieldLink RX4 11 "ExchangeDesk" "lines" "[LExchangeDesk$Line;", .methodLink RX4 139 yX4_isLine, .static yX4_isLine, .initialized RX4, .code yX4_isLine cX4_isLine 1 (some .boolean), .methodLink RX4 87 yX4_require, .static yX4_require, .code yX4_require cX4_require 1 none, .classLink RX4 205 "java/lang/IllegalArgumentException", .initialized "java/lang/IllegalArgumentException"] ++ wsX40 ++ (vx_atS RX4 209 "java/lang/IllegalArgumentException" ["java/lang/RuntimeException", "java/lang/Exception"]).filter goodWord)
def wsX4_beginTalk : List Cond := .code yX4_beginTalk cX4_beginTalk 4 none :: ([.fieldLink RX4 115 "ExchangeDesk$Line" "number" "I", .fieldLink RX4 75 "ExchangeDesk" "time" "I", .fieldLink RX4 172 "ExchangeDesk$Line" "pays" "Z", .methodLink RX4 293 yX2_talk, .instanceMethod yX2_talk, .selects RX2 yX2_talk yX2_talk, .initialized RX2, .code yX2_talk cX2_talk 4 none, .fieldLink RX2 18 "ExchangeDesk$Line" "other" "I", .fieldLink RX2 21 "ExchangeDesk$Line" "slot" "I", .methodLink RX2 37 yX2_enter, .instanceMethod yX2_enter, .selects RX2 yX2_enter yX2_enter, .code yX2_enter cX2_enter 3 none, .fieldLink RX2 9 "ExchangeDesk$Line" "state" "I", .fieldLink RX2 15 "ExchangeDesk$Line" "since" "I", .fieldLink RX2 24 "ExchangeDesk$Line" "lateFor" "I", .fieldLink RX2 33 "ExchangeDesk$Line" "pays" "Z"] ++ wsX20 ++ wsX40)
def wsX4_stopRinging_r1 : List Cond := [Cond.fieldLink RX4 11 "ExchangeDesk" "lines" "[LExchangeDesk$Line;", Cond.fieldLink RX4 115 "ExchangeDesk$Line" "number" "I", Cond.fieldLink RX4 21 "ExchangeDesk" "paths" "LExchangeDesk$Switch;", Cond.fieldLink RX4 210 "ExchangeDesk$Line" "slot" "I", Cond.fieldLink RX4 75 "ExchangeDesk" "time" "I", Cond.methodLink RX4 213 yX2_ringsFor, Cond.instanceMethod yX2_ringsFor, Cond.selects RX2 yX2_ringsFor yX2_ringsFor, Cond.initialized RX2, Cond.code yX2_ringsFor cX2_ringsFor 2 (some .boolean), Cond.fieldLink RX2 9 "ExchangeDesk$Line" "state" "I", Cond.fieldLink RX2 18 "ExchangeDesk$Line" "other" "I", Cond.methodLink RX4 301 yX3_release, Cond.instanceMethod yX3_release, Cond.selects RX3 yX3_release yX3_release, Cond.initialized RX3, Cond.code yX3_release cX3_release 4 none, Cond.methodLink RX3 38 yX3_mark, Cond.instanceMethod yX3_mark, Cond.selects RX3 yX3_mark yX3_mark, Cond.code yX3_mark cX3_mark 5 none, Cond.fieldLink RX3 11 "ExchangeDesk$Switch" "carried" "[[I", Cond.fieldLink RX3 22 "ExchangeDesk$Line" "number" "I", Cond.methodLink RX4 78 yX2_enter]
def wsX4_stopRinging_r2 : List Cond := [Cond.instanceMethod yX2_enter, Cond.selects RX2 yX2_enter yX2_enter, Cond.code yX2_enter cX2_enter 3 none, Cond.fieldLink RX2 15 "ExchangeDesk$Line" "since" "I", Cond.fieldLink RX2 21 "ExchangeDesk$Line" "slot" "I", Cond.fieldLink RX2 24 "ExchangeDesk$Line" "lateFor" "I", Cond.fieldLink RX2 33 "ExchangeDesk$Line" "pays" "Z"]
def wsX4_stopRinging : List Cond := .code yX4_stopRinging cX4_stopRinging 4 none :: ((wsX4_stopRinging_r1 ++ wsX4_stopRinging_r2) ++ wsX40 ++ wsX20 ++ wsX30)
def wsX4_answer_r1 : List Cond := [Cond.fieldLink RX4 11 "ExchangeDesk" "lines" "[LExchangeDesk$Line;", Cond.fieldLink RX4 106 "ExchangeDesk$Line" "other" "I", Cond.fieldLink RX4 210 "ExchangeDesk$Line" "slot" "I", Cond.methodLink RX4 280 yX4_beginTalk, Cond.instanceMethod yX4_beginTalk, Cond.selects RX4 yX4_beginTalk yX4_beginTalk, Cond.initialized RX4, Cond.code yX4_beginTalk cX4_beginTalk 4 none, Cond.fieldLink RX4 115 "ExchangeDesk$Line" "number" "I", Cond.fieldLink RX4 75 "ExchangeDesk" "time" "I", Cond.fieldLink RX4 172 "ExchangeDesk$Line" "pays" "Z", Cond.methodLink RX4 293 yX2_talk, Cond.instanceMethod yX2_talk, Cond.selects RX2 yX2_talk yX2_talk, Cond.initialized RX2, Cond.code yX2_talk cX2_talk 4 none, Cond.fieldLink RX2 18 "ExchangeDesk$Line" "other" "I", Cond.fieldLink RX2 21 "ExchangeDesk$Line" "slot" "I", Cond.methodLink RX2 37 yX2_enter, Cond.instanceMethod yX2_enter, Cond.selects RX2 yX2_enter yX2_enter, Cond.code yX2_enter cX2_enter 3 none, Cond.fieldLink RX2 9 "ExchangeDesk$Line" "state" "I", Cond.fieldLink RX2 15 "ExchangeDesk$Line" "since" "I"]
def wsX4_answer_r2 : List Cond := [Cond.fieldLink RX2 24 "ExchangeDesk$Line" "lateFor" "I", Cond.fieldLink RX2 33 "ExchangeDesk$Line" "pays" "Z", Cond.methodLink RX4 284 yX4_stopRinging, Cond.instanceMethod yX4_stopRinging, Cond.selects RX4 yX4_stopRinging yX4_stopRinging, Cond.code yX4_stopRinging cX4_stopRinging 4 none, Cond.fieldLink RX4 21 "ExchangeDesk" "paths" "LExchangeDesk$Switch;", Cond.methodLink RX4 213 yX2_ringsFor, Cond.instanceMethod yX2_ringsFor, Cond.selects RX2 yX2_ringsFor yX2_ringsFor, Cond.code yX2_ringsFor cX2_ringsFor 2 (some .boolean), Cond.methodLink RX4 301 yX3_release, Cond.instanceMethod yX3_release, Cond.selects RX3 yX3_release yX3_release, Cond.initialized RX3, Cond.code yX3_release cX3_release 4 none, Cond.methodLink RX3 38 yX3_mark, Cond.instanceMethod yX3_mark, Cond.selects RX3 yX3_mark yX3_mark, Cond.code yX3_mark cX3_mark 5 none, Cond.fieldLink RX3 11 "ExchangeDesk$Switch" "carried" "[[I", Cond.fieldLink RX3 22 "ExchangeDesk$Line" "number" "I", Cond.methodLink RX4 78 yX2_enter]
def wsX4_answer : List Cond := .code yX4_answer cX4_answer 3 none :: ((wsX4_answer_r1 ++ wsX4_answer_r2) ++ wsX40 ++ wsX20 ++ wsX30)
def wsX4_ring_r1 : List Cond := [Cond.fieldLink RX4 21 "ExchangeDesk" "paths" "LExchangeDesk$Switch;", Cond.fieldLink RX4 75 "ExchangeDesk" "time" "I", Cond.fieldLink RX4 115 "ExchangeDesk$Line" "number" "I", Cond.fieldLink RX4 106 "ExchangeDesk$Line" "other" "I", Cond.fieldLink RX4 210 "ExchangeDesk$Line" "slot" "I", Cond.methodLink RX4 277 yX3_take, Cond.instanceMethod yX3_take, Cond.selects RX3 yX3_take yX3_take, Cond.initialized RX3, Cond.code yX3_take cX3_take 4 (some .int), Cond.fieldLink RX3 22 "ExchangeDesk$Line" "number" "I", Cond.methodLink RX3 32 Lib.Math.min.name, Cond.static Lib.Math.min.name, Cond.initialized "java/lang/Math", Cond.code Lib.Math.min.name Lib.Math.min.code 2 (some .int), Cond.methodLink RX3 28 yX3_lowestFree, Cond.instanceMethod yX3_lowestFree, Cond.selects RX3 yX3_lowestFree yX3_lowestFree, Cond.code yX3_lowestFree cX3_lowestFree 6 (some .int), Cond.fieldLink RX3 11 "ExchangeDesk$Switch" "carried" "[[I", Cond.methodLink RX3 38 yX3_mark, Cond.instanceMethod yX3_mark, Cond.selects RX3 yX3_mark yX3_mark, Cond.code yX3_mark cX3_mark 5 none]
def wsX4_ring_r2 : List Cond := [Cond.methodLink RX4 78 yX2_enter, Cond.instanceMethod yX2_enter, Cond.selects RX2 yX2_enter yX2_enter, Cond.initialized RX2, Cond.code yX2_enter cX2_enter 3 none, Cond.fieldLink RX2 9 "ExchangeDesk$Line" "state" "I", Cond.fieldLink RX2 15 "ExchangeDesk$Line" "since" "I", Cond.fieldLink RX2 18 "ExchangeDesk$Line" "other" "I", Cond.fieldLink RX2 21 "ExchangeDesk$Line" "slot" "I", Cond.fieldLink RX2 24 "ExchangeDesk$Line" "lateFor" "I", Cond.fieldLink RX2 33 "ExchangeDesk$Line" "pays" "Z"]
def wsX4_ring : List Cond := .code yX4_ring cX4_ring 4 (some .boolean) :: ((wsX4_ring_r1 ++ wsX4_ring_r2) ++ wsX40 ++ wsX20 ++ wsX30)
def wsX4_block : List Cond := .code yX4_block cX4_block 2 none :: ([.fieldLink RX4 75 "ExchangeDesk" "time" "I", .fieldLink RX4 185 "ExchangeDesk" "blocked" "I", .methodLink RX4 78 yX2_enter, .instanceMethod yX2_enter, .selects RX2 yX2_enter yX2_enter, .initialized RX2, .code yX2_enter cX2_enter 3 none, .fieldLink RX2 9 "ExchangeDesk$Line" "state" "I", .fieldLink RX2 15 "ExchangeDesk$Line" "since" "I", .fieldLink RX2 18 "ExchangeDesk$Line" "other" "I", .fieldLink RX2 21 "ExchangeDesk$Line" "slot" "I", .fieldLink RX2 24 "ExchangeDesk$Line" "lateFor" "I", .fieldLink RX2 33 "ExchangeDesk$Line" "pays" "Z"] ++ wsX40 ++ wsX20)
def wsX4_callLine_r1 : List Cond := [Cond.fieldLink RX4 182 "ExchangeDesk$Line" "rests" "Z", Cond.fieldLink RX4 75 "ExchangeDesk" "time" "I", Cond.fieldLink RX4 64 "ExchangeDesk$Line" "state" "I", Cond.fieldLink RX4 115 "ExchangeDesk$Line" "number" "I", Cond.fieldLink RX4 98 "ExchangeDesk$Line" "lateFor" "I", Cond.methodLink RX4 78 yX2_enter, Cond.instanceMethod yX2_enter, Cond.selects RX2 yX2_enter yX2_enter, Cond.initialized RX2, Cond.code yX2_enter cX2_enter 3 none, Cond.fieldLink RX2 9 "ExchangeDesk$Line" "state" "I", Cond.fieldLink RX2 15 "ExchangeDesk$Line" "since" "I", Cond.fieldLink RX2 18 "ExchangeDesk$Line" "other" "I", Cond.fieldLink RX2 21 "ExchangeDesk$Line" "slot" "I", Cond.fieldLink RX2 24 "ExchangeDesk$Line" "lateFor" "I", Cond.fieldLink RX2 33 "ExchangeDesk$Line" "pays" "Z", Cond.methodLink RX4 230 yX4_ring, Cond.instanceMethod yX4_ring, Cond.selects RX4 yX4_ring yX4_ring, Cond.initialized RX4, Cond.code yX4_ring cX4_ring 4 (some .boolean), Cond.fieldLink RX4 21 "ExchangeDesk" "paths" "LExchangeDesk$Switch;", Cond.fieldLink RX4 106 "ExchangeDesk$Line" "other" "I", Cond.fieldLink RX4 210 "ExchangeDesk$Line" "slot" "I"]
def wsX4_callLine_r2 : List Cond := [Cond.methodLink RX4 277 yX3_take, Cond.instanceMethod yX3_take, Cond.selects RX3 yX3_take yX3_take, Cond.initialized RX3, Cond.code yX3_take cX3_take 4 (some .int), Cond.fieldLink RX3 22 "ExchangeDesk$Line" "number" "I", Cond.methodLink RX3 32 Lib.Math.min.name, Cond.static Lib.Math.min.name, Cond.initialized "java/lang/Math", Cond.code Lib.Math.min.name Lib.Math.min.code 2 (some .int), Cond.methodLink RX3 28 yX3_lowestFree, Cond.instanceMethod yX3_lowestFree, Cond.selects RX3 yX3_lowestFree yX3_lowestFree, Cond.code yX3_lowestFree cX3_lowestFree 6 (some .int), Cond.fieldLink RX3 11 "ExchangeDesk$Switch" "carried" "[[I", Cond.methodLink RX3 38 yX3_mark, Cond.instanceMethod yX3_mark, Cond.selects RX3 yX3_mark yX3_mark, Cond.code yX3_mark cX3_mark 5 none, Cond.methodLink RX4 234 yX4_block, Cond.instanceMethod yX4_block, Cond.selects RX4 yX4_block yX4_block, Cond.code yX4_block cX4_block 2 none, Cond.fieldLink RX4 185 "ExchangeDesk" "blocked" "I"]
def wsX4_callLine : List Cond := .code yX4_callLine cX4_callLine 3 none :: ((wsX4_callLine_r1 ++ wsX4_callLine_r2) ++ wsX20 ++ wsX40 ++ wsX30)
def wsX4_callFromCamps_r1 : List Cond := [Cond.fieldLink RX4 11 "ExchangeDesk" "lines" "[LExchangeDesk$Line;", Cond.fieldLink RX4 101 "ExchangeDesk$Line" "camper" "I", Cond.fieldLink RX4 64 "ExchangeDesk$Line" "state" "I", Cond.methodLink RX4 216 yX4_callLine, Cond.instanceMethod yX4_callLine, Cond.selects RX4 yX4_callLine yX4_callLine, Cond.initialized RX4, Cond.code yX4_callLine cX4_callLine 3 none, Cond.fieldLink RX4 182 "ExchangeDesk$Line" "rests" "Z", Cond.fieldLink RX4 75 "ExchangeDesk" "time" "I", Cond.fieldLink RX4 115 "ExchangeDesk$Line" "number" "I", Cond.fieldLink RX4 98 "ExchangeDesk$Line" "lateFor" "I", Cond.methodLink RX4 78 yX2_enter, Cond.instanceMethod yX2_enter, Cond.selects RX2 yX2_enter yX2_enter, Cond.initialized RX2, Cond.code yX2_enter cX2_enter 3 none, Cond.fieldLink RX2 9 "ExchangeDesk$Line" "state" "I", Cond.fieldLink RX2 15 "ExchangeDesk$Line" "since" "I", Cond.fieldLink RX2 18 "ExchangeDesk$Line" "other" "I", Cond.fieldLink RX2 21 "ExchangeDesk$Line" "slot" "I", Cond.fieldLink RX2 24 "ExchangeDesk$Line" "lateFor" "I", Cond.fieldLink RX2 33 "ExchangeDesk$Line" "pays" "Z", Cond.methodLink RX4 230 yX4_ring]
def wsX4_callFromCamps_r2 : List Cond := [Cond.instanceMethod yX4_ring, Cond.selects RX4 yX4_ring yX4_ring, Cond.code yX4_ring cX4_ring 4 (some .boolean), Cond.fieldLink RX4 21 "ExchangeDesk" "paths" "LExchangeDesk$Switch;", Cond.fieldLink RX4 106 "ExchangeDesk$Line" "other" "I", Cond.fieldLink RX4 210 "ExchangeDesk$Line" "slot" "I", Cond.methodLink RX4 277 yX3_take, Cond.instanceMethod yX3_take, Cond.selects RX3 yX3_take yX3_take, Cond.initialized RX3, Cond.code yX3_take cX3_take 4 (some .int), Cond.fieldLink RX3 22 "ExchangeDesk$Line" "number" "I", Cond.methodLink RX3 32 Lib.Math.min.name, Cond.static Lib.Math.min.name, Cond.initialized "java/lang/Math", Cond.code Lib.Math.min.name Lib.Math.min.code 2 (some .int), Cond.methodLink RX3 28 yX3_lowestFree, Cond.instanceMethod yX3_lowestFree, Cond.selects RX3 yX3_lowestFree yX3_lowestFree, Cond.code yX3_lowestFree cX3_lowestFree 6 (some .int), Cond.fieldLink RX3 11 "ExchangeDesk$Switch" "carried" "[[I", Cond.methodLink RX3 38 yX3_mark, Cond.instanceMethod yX3_mark, Cond.selects RX3 yX3_mark yX3_mark]
def wsX4_callFromCamps_r3 : List Cond := [Cond.code yX3_mark cX3_mark 5 none, Cond.methodLink RX4 234 yX4_block, Cond.instanceMethod yX4_block, Cond.selects RX4 yX4_block yX4_block, Cond.code yX4_block cX4_block 2 none, Cond.fieldLink RX4 185 "ExchangeDesk" "blocked" "I"]
def wsX4_callFromCamps : List Cond := .code yX4_callFromCamps cX4_callFromCamps 4 none :: ((wsX4_callFromCamps_r1 ++ (wsX4_callFromCamps_r2 ++ wsX4_callFromCamps_r3)) ++ wsX40 ++ wsX20 ++ wsX30)
def wsX4_up_r1 : List Cond := [Cond.classLink RX4 57 "java/lang/IllegalStateException", Cond.initialized "java/lang/IllegalStateException", Cond.fieldLink RX4 64 "ExchangeDesk$Line" "state" "I", Cond.fieldLink RX4 75 "ExchangeDesk" "time" "I", Cond.methodLink RX4 49 yX4_lineOf, Cond.instanceMethod yX4_lineOf, Cond.selects RX4 yX4_lineOf yX4_lineOf, Cond.initialized RX4, Cond.code yX4_lineOf cX4_lineOf 2 (some (.object "ExchangeDesk$Line")), Cond.fieldLink RX4 11 "ExchangeDesk" "lines" "[LExchangeDesk$Line;", Cond.methodLink RX4 139 yX4_isLine, Cond.static yX4_isLine, Cond.code yX4_isLine cX4_isLine 1 (some .boolean), Cond.methodLink RX4 87 yX4_require, Cond.static yX4_require, Cond.code yX4_require cX4_require 1 none, Cond.classLink RX4 205 "java/lang/IllegalArgumentException", Cond.initialized "java/lang/IllegalArgumentException", Cond.methodLink RX4 53 yX2_isOnHook, Cond.instanceMethod yX2_isOnHook, Cond.selects RX2 yX2_isOnHook yX2_isOnHook, Cond.initialized RX2, Cond.code yX2_isOnHook cX2_isOnHook 1 (some .boolean), Cond.fieldLink RX2 9 "ExchangeDesk$Line" "state" "I"]
def wsX4_up_r2 : List Cond := [Cond.methodLink RX4 68 yX4_answer, Cond.instanceMethod yX4_answer, Cond.selects RX4 yX4_answer yX4_answer, Cond.code yX4_answer cX4_answer 3 none, Cond.fieldLink RX4 106 "ExchangeDesk$Line" "other" "I", Cond.fieldLink RX4 210 "ExchangeDesk$Line" "slot" "I", Cond.methodLink RX4 280 yX4_beginTalk, Cond.instanceMethod yX4_beginTalk, Cond.selects RX4 yX4_beginTalk yX4_beginTalk, Cond.code yX4_beginTalk cX4_beginTalk 4 none, Cond.fieldLink RX4 115 "ExchangeDesk$Line" "number" "I", Cond.fieldLink RX4 172 "ExchangeDesk$Line" "pays" "Z", Cond.methodLink RX4 293 yX2_talk, Cond.instanceMethod yX2_talk, Cond.selects RX2 yX2_talk yX2_talk, Cond.code yX2_talk cX2_talk 4 none, Cond.fieldLink RX2 18 "ExchangeDesk$Line" "other" "I", Cond.fieldLink RX2 21 "ExchangeDesk$Line" "slot" "I", Cond.methodLink RX2 37 yX2_enter, Cond.instanceMethod yX2_enter, Cond.selects RX2 yX2_enter yX2_enter, Cond.code yX2_enter cX2_enter 3 none, Cond.fieldLink RX2 15 "ExchangeDesk$Line" "since" "I", Cond.fieldLink RX2 24 "ExchangeDesk$Line" "lateFor" "I"]
def wsX4_up_r3 : List Cond := [Cond.fieldLink RX2 33 "ExchangeDesk$Line" "pays" "Z", Cond.methodLink RX4 284 yX4_stopRinging, Cond.instanceMethod yX4_stopRinging, Cond.selects RX4 yX4_stopRinging yX4_stopRinging, Cond.code yX4_stopRinging cX4_stopRinging 4 none, Cond.fieldLink RX4 21 "ExchangeDesk" "paths" "LExchangeDesk$Switch;", Cond.methodLink RX4 213 yX2_ringsFor, Cond.instanceMethod yX2_ringsFor, Cond.selects RX2 yX2_ringsFor yX2_ringsFor, Cond.code yX2_ringsFor cX2_ringsFor 2 (some .boolean), Cond.methodLink RX4 301 yX3_release, Cond.instanceMethod yX3_release, Cond.selects RX3 yX3_release yX3_release, Cond.initialized RX3, Cond.code yX3_release cX3_release 4 none, Cond.methodLink RX3 38 yX3_mark, Cond.instanceMethod yX3_mark, Cond.selects RX3 yX3_mark yX3_mark, Cond.code yX3_mark cX3_mark 5 none, Cond.fieldLink RX3 11 "ExchangeDesk$Switch" "carried" "[[I", Cond.fieldLink RX3 22 "ExchangeDesk$Line" "number" "I", Cond.methodLink RX4 78 yX2_enter, Cond.methodLink RX4 72 yX4_callFromCamps, Cond.instanceMethod yX4_callFromCamps]
def wsX4_up_r4 : List Cond := [Cond.selects RX4 yX4_callFromCamps yX4_callFromCamps, Cond.code yX4_callFromCamps cX4_callFromCamps 4 none, Cond.fieldLink RX4 101 "ExchangeDesk$Line" "camper" "I", Cond.methodLink RX4 216 yX4_callLine, Cond.instanceMethod yX4_callLine, Cond.selects RX4 yX4_callLine yX4_callLine, Cond.code yX4_callLine cX4_callLine 3 none, Cond.fieldLink RX4 182 "ExchangeDesk$Line" "rests" "Z", Cond.fieldLink RX4 98 "ExchangeDesk$Line" "lateFor" "I", Cond.methodLink RX4 230 yX4_ring, Cond.instanceMethod yX4_ring, Cond.selects RX4 yX4_ring yX4_ring, Cond.code yX4_ring cX4_ring 4 (some .boolean), Cond.methodLink RX4 277 yX3_take, Cond.instanceMethod yX3_take, Cond.selects RX3 yX3_take yX3_take, Cond.code yX3_take cX3_take 4 (some .int), Cond.methodLink RX3 32 Lib.Math.min.name, Cond.static Lib.Math.min.name, Cond.initialized "java/lang/Math", Cond.code Lib.Math.min.name Lib.Math.min.code 2 (some .int), Cond.methodLink RX3 28 yX3_lowestFree, Cond.instanceMethod yX3_lowestFree, Cond.selects RX3 yX3_lowestFree yX3_lowestFree]
def wsX4_up_r5 : List Cond := [Cond.code yX3_lowestFree cX3_lowestFree 6 (some .int), Cond.methodLink RX4 234 yX4_block, Cond.instanceMethod yX4_block, Cond.selects RX4 yX4_block yX4_block, Cond.code yX4_block cX4_block 2 none, Cond.fieldLink RX4 185 "ExchangeDesk" "blocked" "I"]
def wsX4_up : List Cond := .code yX4_up cX4_up 3 (some .int) :: ((wsX4_up_r1 ++ (wsX4_up_r2 ++ (wsX4_up_r3 ++ (wsX4_up_r4 ++ wsX4_up_r5)))) ++ wsX20 ++ wsX40 ++ wsX30 ++ (vx_atS RX4 61 "java/lang/IllegalStateException" ["java/lang/RuntimeException", "java/lang/Exception"]).filter goodWord ++ (vx_atS RX4 209 "java/lang/IllegalArgumentException" ["java/lang/RuntimeException", "java/lang/Exception"]).filter goodWord)
def wsX4_unitsOf : List Cond := .code yX4_unitsOf cX4_unitsOf 2 (some .int) :: ([.fieldLink RX4 75 "ExchangeDesk" "time" "I", .fieldLink RX4 270 "ExchangeDesk$Line" "since" "I"] ++ wsX40 ++ wsX20)
def wsX4_endTalk_r1 : List Cond := [Cond.fieldLink RX4 11 "ExchangeDesk" "lines" "[LExchangeDesk$Line;", Cond.fieldLink RX4 106 "ExchangeDesk$Line" "other" "I", Cond.fieldLink RX4 172 "ExchangeDesk$Line" "pays" "Z", Cond.fieldLink RX4 176 "ExchangeDesk$Line" "paid" "I", Cond.fieldLink RX4 45 "ExchangeDesk" "ended" "LExchangeDesk$Book;", Cond.fieldLink RX4 115 "ExchangeDesk$Line" "number" "I", Cond.fieldLink RX4 270 "ExchangeDesk$Line" "since" "I", Cond.fieldLink RX4 21 "ExchangeDesk" "paths" "LExchangeDesk$Switch;", Cond.fieldLink RX4 210 "ExchangeDesk$Line" "slot" "I", Cond.fieldLink RX4 75 "ExchangeDesk" "time" "I", Cond.methodLink RX4 179 yX4_unitsOf, Cond.instanceMethod yX4_unitsOf, Cond.selects RX4 yX4_unitsOf yX4_unitsOf, Cond.initialized RX4, Cond.code yX4_unitsOf cX4_unitsOf 2 (some .int), Cond.methodLink RX4 297 yX0_write, Cond.instanceMethod yX0_write, Cond.selects RX0 yX0_write yX0_write, Cond.initialized RX0, Cond.code yX0_write cX0_write 6 none, Cond.fieldLink RX0 13 "ExchangeDesk$Book" "written" "I", Cond.fieldLink RX0 9 "ExchangeDesk$Book" "entries" "[I", Cond.methodLink RX4 301 yX3_release, Cond.instanceMethod yX3_release]
def wsX4_endTalk_r2 : List Cond := [Cond.selects RX3 yX3_release yX3_release, Cond.initialized RX3, Cond.code yX3_release cX3_release 4 none, Cond.methodLink RX3 38 yX3_mark, Cond.instanceMethod yX3_mark, Cond.selects RX3 yX3_mark yX3_mark, Cond.code yX3_mark cX3_mark 5 none, Cond.fieldLink RX3 11 "ExchangeDesk$Switch" "carried" "[[I", Cond.fieldLink RX3 22 "ExchangeDesk$Line" "number" "I", Cond.methodLink RX4 78 yX2_enter, Cond.instanceMethod yX2_enter, Cond.selects RX2 yX2_enter yX2_enter, Cond.initialized RX2, Cond.code yX2_enter cX2_enter 3 none, Cond.fieldLink RX2 9 "ExchangeDesk$Line" "state" "I", Cond.fieldLink RX2 15 "ExchangeDesk$Line" "since" "I", Cond.fieldLink RX2 18 "ExchangeDesk$Line" "other" "I", Cond.fieldLink RX2 21 "ExchangeDesk$Line" "slot" "I", Cond.fieldLink RX2 24 "ExchangeDesk$Line" "lateFor" "I", Cond.fieldLink RX2 33 "ExchangeDesk$Line" "pays" "Z"]
def wsX4_endTalk : List Cond := .code yX4_endTalk cX4_endTalk 5 (some (.object "ExchangeDesk$Line")) :: ((wsX4_endTalk_r1 ++ wsX4_endTalk_r2) ++ wsX40 ++ wsX20 ++ wsX00 ++ wsX30)
def wsX4_leave_r1 : List Cond := [Cond.fieldLink RX4 64 "ExchangeDesk$Line" "state" "I", Cond.fieldLink RX4 32 "ExchangeDesk" "places" "[I", Cond.fieldLink RX4 106 "ExchangeDesk$Line" "other" "I", Cond.fieldLink RX4 11 "ExchangeDesk" "lines" "[LExchangeDesk$Line;", Cond.fieldLink RX4 101 "ExchangeDesk$Line" "camper" "I", Cond.methodLink RX4 111 yX4_endTalk, Cond.instanceMethod yX4_endTalk, Cond.selects RX4 yX4_endTalk yX4_endTalk, Cond.initialized RX4, Cond.code yX4_endTalk cX4_endTalk 5 (some (.object "ExchangeDesk$Line")), Cond.fieldLink RX4 172 "ExchangeDesk$Line" "pays" "Z", Cond.fieldLink RX4 176 "ExchangeDesk$Line" "paid" "I", Cond.fieldLink RX4 45 "ExchangeDesk" "ended" "LExchangeDesk$Book;", Cond.fieldLink RX4 115 "ExchangeDesk$Line" "number" "I", Cond.fieldLink RX4 270 "ExchangeDesk$Line" "since" "I", Cond.fieldLink RX4 21 "ExchangeDesk" "paths" "LExchangeDesk$Switch;", Cond.fieldLink RX4 210 "ExchangeDesk$Line" "slot" "I", Cond.fieldLink RX4 75 "ExchangeDesk" "time" "I", Cond.methodLink RX4 179 yX4_unitsOf, Cond.instanceMethod yX4_unitsOf, Cond.selects RX4 yX4_unitsOf yX4_unitsOf, Cond.code yX4_unitsOf cX4_unitsOf 2 (some .int), Cond.methodLink RX4 297 yX0_write, Cond.instanceMethod yX0_write]
def wsX4_leave_r2 : List Cond := [Cond.selects RX0 yX0_write yX0_write, Cond.initialized RX0, Cond.code yX0_write cX0_write 6 none, Cond.fieldLink RX0 13 "ExchangeDesk$Book" "written" "I", Cond.fieldLink RX0 9 "ExchangeDesk$Book" "entries" "[I", Cond.methodLink RX4 301 yX3_release, Cond.instanceMethod yX3_release, Cond.selects RX3 yX3_release yX3_release, Cond.initialized RX3, Cond.code yX3_release cX3_release 4 none, Cond.methodLink RX3 38 yX3_mark, Cond.instanceMethod yX3_mark, Cond.selects RX3 yX3_mark yX3_mark, Cond.code yX3_mark cX3_mark 5 none, Cond.fieldLink RX3 11 "ExchangeDesk$Switch" "carried" "[[I", Cond.fieldLink RX3 22 "ExchangeDesk$Line" "number" "I", Cond.methodLink RX4 78 yX2_enter, Cond.instanceMethod yX2_enter, Cond.selects RX2 yX2_enter yX2_enter, Cond.initialized RX2, Cond.code yX2_enter cX2_enter 3 none, Cond.fieldLink RX2 9 "ExchangeDesk$Line" "state" "I", Cond.fieldLink RX2 15 "ExchangeDesk$Line" "since" "I", Cond.fieldLink RX2 18 "ExchangeDesk$Line" "other" "I"]
def wsX4_leave_r3 : List Cond := [Cond.fieldLink RX2 21 "ExchangeDesk$Line" "slot" "I", Cond.fieldLink RX2 24 "ExchangeDesk$Line" "lateFor" "I", Cond.fieldLink RX2 33 "ExchangeDesk$Line" "pays" "Z", Cond.methodLink RX4 284 yX4_stopRinging, Cond.instanceMethod yX4_stopRinging, Cond.selects RX4 yX4_stopRinging yX4_stopRinging, Cond.code yX4_stopRinging cX4_stopRinging 4 none, Cond.methodLink RX4 213 yX2_ringsFor, Cond.instanceMethod yX2_ringsFor, Cond.selects RX2 yX2_ringsFor yX2_ringsFor, Cond.code yX2_ringsFor cX2_ringsFor 2 (some .boolean)]
def wsX4_leave : List Cond := .code yX4_leave cX4_leave 2 none :: ((wsX4_leave_r1 ++ (wsX4_leave_r2 ++ wsX4_leave_r3)) ++ wsX20 ++ wsX40 ++ wsX00 ++ wsX30)
def wsX4_down_r1 : List Cond := [Cond.classLink RX4 57 "java/lang/IllegalStateException", Cond.initialized "java/lang/IllegalStateException", Cond.fieldLink RX4 75 "ExchangeDesk" "time" "I", Cond.methodLink RX4 49 yX4_lineOf, Cond.instanceMethod yX4_lineOf, Cond.selects RX4 yX4_lineOf yX4_lineOf, Cond.initialized RX4, Cond.code yX4_lineOf cX4_lineOf 2 (some (.object "ExchangeDesk$Line")), Cond.fieldLink RX4 11 "ExchangeDesk" "lines" "[LExchangeDesk$Line;", Cond.methodLink RX4 139 yX4_isLine, Cond.static yX4_isLine, Cond.code yX4_isLine cX4_isLine 1 (some .boolean), Cond.methodLink RX4 87 yX4_require, Cond.static yX4_require, Cond.code yX4_require cX4_require 1 none, Cond.classLink RX4 205 "java/lang/IllegalArgumentException", Cond.initialized "java/lang/IllegalArgumentException", Cond.methodLink RX4 53 yX2_isOnHook, Cond.instanceMethod yX2_isOnHook, Cond.selects RX2 yX2_isOnHook yX2_isOnHook, Cond.initialized RX2, Cond.code yX2_isOnHook cX2_isOnHook 1 (some .boolean), Cond.fieldLink RX2 9 "ExchangeDesk$Line" "state" "I", Cond.methodLink RX4 84 yX4_leave]
def wsX4_down_r2 : List Cond := [Cond.instanceMethod yX4_leave, Cond.selects RX4 yX4_leave yX4_leave, Cond.code yX4_leave cX4_leave 2 none, Cond.fieldLink RX4 64 "ExchangeDesk$Line" "state" "I", Cond.fieldLink RX4 32 "ExchangeDesk" "places" "[I", Cond.fieldLink RX4 106 "ExchangeDesk$Line" "other" "I", Cond.fieldLink RX4 101 "ExchangeDesk$Line" "camper" "I", Cond.methodLink RX4 111 yX4_endTalk, Cond.instanceMethod yX4_endTalk, Cond.selects RX4 yX4_endTalk yX4_endTalk, Cond.code yX4_endTalk cX4_endTalk 5 (some (.object "ExchangeDesk$Line")), Cond.fieldLink RX4 172 "ExchangeDesk$Line" "pays" "Z", Cond.fieldLink RX4 176 "ExchangeDesk$Line" "paid" "I", Cond.fieldLink RX4 45 "ExchangeDesk" "ended" "LExchangeDesk$Book;", Cond.fieldLink RX4 115 "ExchangeDesk$Line" "number" "I", Cond.fieldLink RX4 270 "ExchangeDesk$Line" "since" "I", Cond.fieldLink RX4 21 "ExchangeDesk" "paths" "LExchangeDesk$Switch;", Cond.fieldLink RX4 210 "ExchangeDesk$Line" "slot" "I", Cond.methodLink RX4 179 yX4_unitsOf, Cond.instanceMethod yX4_unitsOf, Cond.selects RX4 yX4_unitsOf yX4_unitsOf, Cond.code yX4_unitsOf cX4_unitsOf 2 (some .int), Cond.methodLink RX4 297 yX0_write, Cond.instanceMethod yX0_write]
def wsX4_down_r3 : List Cond := [Cond.selects RX0 yX0_write yX0_write, Cond.initialized RX0, Cond.code yX0_write cX0_write 6 none, Cond.fieldLink RX0 13 "ExchangeDesk$Book" "written" "I", Cond.fieldLink RX0 9 "ExchangeDesk$Book" "entries" "[I", Cond.methodLink RX4 301 yX3_release, Cond.instanceMethod yX3_release, Cond.selects RX3 yX3_release yX3_release, Cond.initialized RX3, Cond.code yX3_release cX3_release 4 none, Cond.methodLink RX3 38 yX3_mark, Cond.instanceMethod yX3_mark, Cond.selects RX3 yX3_mark yX3_mark, Cond.code yX3_mark cX3_mark 5 none, Cond.fieldLink RX3 11 "ExchangeDesk$Switch" "carried" "[[I", Cond.fieldLink RX3 22 "ExchangeDesk$Line" "number" "I", Cond.methodLink RX4 78 yX2_enter, Cond.instanceMethod yX2_enter, Cond.selects RX2 yX2_enter yX2_enter, Cond.code yX2_enter cX2_enter 3 none, Cond.fieldLink RX2 15 "ExchangeDesk$Line" "since" "I", Cond.fieldLink RX2 18 "ExchangeDesk$Line" "other" "I", Cond.fieldLink RX2 21 "ExchangeDesk$Line" "slot" "I", Cond.fieldLink RX2 24 "ExchangeDesk$Line" "lateFor" "I"]
def wsX4_down_r4 : List Cond := [Cond.fieldLink RX2 33 "ExchangeDesk$Line" "pays" "Z", Cond.methodLink RX4 284 yX4_stopRinging, Cond.instanceMethod yX4_stopRinging, Cond.selects RX4 yX4_stopRinging yX4_stopRinging, Cond.code yX4_stopRinging cX4_stopRinging 4 none, Cond.methodLink RX4 213 yX2_ringsFor, Cond.instanceMethod yX2_ringsFor, Cond.selects RX2 yX2_ringsFor yX2_ringsFor, Cond.code yX2_ringsFor cX2_ringsFor 2 (some .boolean), Cond.methodLink RX4 72 yX4_callFromCamps, Cond.instanceMethod yX4_callFromCamps, Cond.selects RX4 yX4_callFromCamps yX4_callFromCamps, Cond.code yX4_callFromCamps cX4_callFromCamps 4 none, Cond.methodLink RX4 216 yX4_callLine, Cond.instanceMethod yX4_callLine, Cond.selects RX4 yX4_callLine yX4_callLine, Cond.code yX4_callLine cX4_callLine 3 none, Cond.fieldLink RX4 182 "ExchangeDesk$Line" "rests" "Z", Cond.fieldLink RX4 98 "ExchangeDesk$Line" "lateFor" "I", Cond.methodLink RX4 230 yX4_ring, Cond.instanceMethod yX4_ring, Cond.selects RX4 yX4_ring yX4_ring, Cond.code yX4_ring cX4_ring 4 (some .boolean), Cond.methodLink RX4 277 yX3_take]
def wsX4_down_r5 : List Cond := [Cond.instanceMethod yX3_take, Cond.selects RX3 yX3_take yX3_take, Cond.code yX3_take cX3_take 4 (some .int), Cond.methodLink RX3 32 Lib.Math.min.name, Cond.static Lib.Math.min.name, Cond.initialized "java/lang/Math", Cond.code Lib.Math.min.name Lib.Math.min.code 2 (some .int), Cond.methodLink RX3 28 yX3_lowestFree, Cond.instanceMethod yX3_lowestFree, Cond.selects RX3 yX3_lowestFree yX3_lowestFree, Cond.code yX3_lowestFree cX3_lowestFree 6 (some .int), Cond.methodLink RX4 234 yX4_block, Cond.instanceMethod yX4_block, Cond.selects RX4 yX4_block yX4_block, Cond.code yX4_block cX4_block 2 none, Cond.fieldLink RX4 185 "ExchangeDesk" "blocked" "I"]
def wsX4_down : List Cond := .code yX4_down cX4_down 3 none :: ((wsX4_down_r1 ++ (wsX4_down_r2 ++ (wsX4_down_r3 ++ (wsX4_down_r4 ++ wsX4_down_r5)))) ++ wsX40 ++ wsX20 ++ wsX00 ++ wsX30 ++ (vx_atS RX4 61 "java/lang/IllegalStateException" ["java/lang/RuntimeException", "java/lang/Exception"]).filter goodWord ++ (vx_atS RX4 209 "java/lang/IllegalArgumentException" ["java/lang/RuntimeException", "java/lang/Exception"]).filter goodWord)
def wsX4_isWilling : List Cond := .code yX4_isWilling cX4_isWilling 2 (some .boolean) :: ([.fieldLink RX4 64 "ExchangeDesk$Line" "state" "I", .fieldLink RX4 182 "ExchangeDesk$Line" "rests" "Z"] ++ wsX20)
def wsX4_ringAll_r1 : List Cond := [Cond.fieldLink RX4 146 "ExchangeDesk$Group" "size" "I", Cond.fieldLink RX4 11 "ExchangeDesk" "lines" "[LExchangeDesk$Line;", Cond.fieldLink RX4 250 "ExchangeDesk$Group" "row" "[I", Cond.methodLink RX4 253 yX4_isWilling, Cond.static yX4_isWilling, Cond.initialized RX4, Cond.code yX4_isWilling cX4_isWilling 2 (some .boolean), Cond.fieldLink RX4 64 "ExchangeDesk$Line" "state" "I", Cond.fieldLink RX4 182 "ExchangeDesk$Line" "rests" "Z", Cond.methodLink RX4 230 yX4_ring, Cond.instanceMethod yX4_ring, Cond.selects RX4 yX4_ring yX4_ring, Cond.code yX4_ring cX4_ring 4 (some .boolean), Cond.fieldLink RX4 21 "ExchangeDesk" "paths" "LExchangeDesk$Switch;", Cond.fieldLink RX4 75 "ExchangeDesk" "time" "I", Cond.fieldLink RX4 115 "ExchangeDesk$Line" "number" "I", Cond.fieldLink RX4 106 "ExchangeDesk$Line" "other" "I", Cond.fieldLink RX4 210 "ExchangeDesk$Line" "slot" "I", Cond.methodLink RX4 277 yX3_take, Cond.instanceMethod yX3_take, Cond.selects RX3 yX3_take yX3_take, Cond.initialized RX3, Cond.code yX3_take cX3_take 4 (some .int), Cond.fieldLink RX3 22 "ExchangeDesk$Line" "number" "I"]
def wsX4_ringAll_r2 : List Cond := [Cond.methodLink RX3 32 Lib.Math.min.name, Cond.static Lib.Math.min.name, Cond.initialized "java/lang/Math", Cond.code Lib.Math.min.name Lib.Math.min.code 2 (some .int), Cond.methodLink RX3 28 yX3_lowestFree, Cond.instanceMethod yX3_lowestFree, Cond.selects RX3 yX3_lowestFree yX3_lowestFree, Cond.code yX3_lowestFree cX3_lowestFree 6 (some .int), Cond.fieldLink RX3 11 "ExchangeDesk$Switch" "carried" "[[I", Cond.methodLink RX3 38 yX3_mark, Cond.instanceMethod yX3_mark, Cond.selects RX3 yX3_mark yX3_mark, Cond.code yX3_mark cX3_mark 5 none, Cond.methodLink RX4 78 yX2_enter, Cond.instanceMethod yX2_enter, Cond.selects RX2 yX2_enter yX2_enter, Cond.initialized RX2, Cond.code yX2_enter cX2_enter 3 none, Cond.fieldLink RX2 9 "ExchangeDesk$Line" "state" "I", Cond.fieldLink RX2 15 "ExchangeDesk$Line" "since" "I", Cond.fieldLink RX2 18 "ExchangeDesk$Line" "other" "I", Cond.fieldLink RX2 21 "ExchangeDesk$Line" "slot" "I", Cond.fieldLink RX2 24 "ExchangeDesk$Line" "lateFor" "I", Cond.fieldLink RX2 33 "ExchangeDesk$Line" "pays" "Z"]
def wsX4_ringAll : List Cond := .code yX4_ringAll cX4_ringAll 6 (some .boolean) :: ((wsX4_ringAll_r1 ++ wsX4_ringAll_r2) ++ wsX10 ++ wsX40 ++ wsX20 ++ wsX30)
def wsX4_canTake : List Cond := .code yX4_canTake cX4_canTake 3 (some .boolean) :: ([.fieldLink RX4 21 "ExchangeDesk" "paths" "LExchangeDesk$Switch;", .methodLink RX4 253 yX4_isWilling, .static yX4_isWilling, .initialized RX4, .code yX4_isWilling cX4_isWilling 2 (some .boolean), .fieldLink RX4 64 "ExchangeDesk$Line" "state" "I", .fieldLink RX4 182 "ExchangeDesk$Line" "rests" "Z", .methodLink RX4 273 yX3_lowestFree, .instanceMethod yX3_lowestFree, .selects RX3 yX3_lowestFree yX3_lowestFree, .initialized RX3, .code yX3_lowestFree cX3_lowestFree 6 (some .int), .fieldLink RX3 11 "ExchangeDesk$Switch" "carried" "[[I", .fieldLink RX3 22 "ExchangeDesk$Line" "number" "I"] ++ wsX40 ++ wsX20 ++ wsX30)
def wsX4_longestIdle : List Cond := .code yX4_longestIdle cX4_longestIdle 7 (some .int) :: ([.constant RX4 269 (2147483647), .fieldLink RX4 146 "ExchangeDesk$Group" "size" "I", .fieldLink RX4 11 "ExchangeDesk" "lines" "[LExchangeDesk$Line;", .fieldLink RX4 250 "ExchangeDesk$Group" "row" "[I", .fieldLink RX4 270 "ExchangeDesk$Line" "since" "I", .methodLink RX4 266 yX4_canTake, .instanceMethod yX4_canTake, .selects RX4 yX4_canTake yX4_canTake, .initialized RX4, .code yX4_canTake cX4_canTake 3 (some .boolean), .fieldLink RX4 21 "ExchangeDesk" "paths" "LExchangeDesk$Switch;", .methodLink RX4 253 yX4_isWilling, .static yX4_isWilling, .code yX4_isWilling cX4_isWilling 2 (some .boolean), .fieldLink RX4 64 "ExchangeDesk$Line" "state" "I", .fieldLink RX4 182 "ExchangeDesk$Line" "rests" "Z", .methodLink RX4 273 yX3_lowestFree, .instanceMethod yX3_lowestFree, .selects RX3 yX3_lowestFree yX3_lowestFree, .initialized RX3, .code yX3_lowestFree cX3_lowestFree 6 (some .int), .fieldLink RX3 11 "ExchangeDesk$Switch" "carried" "[[I", .fieldLink RX3 22 "ExchangeDesk$Line" "number" "I"] ++ wsX10 ++ wsX40 ++ wsX20 ++ wsX30)
def wsX4_firstToTake : List Cond := .code yX4_firstToTake cX4_firstToTake 6 (some .int) :: ([.fieldLink RX4 237 "ExchangeDesk$Group" "order" "I", .fieldLink RX4 263 "ExchangeDesk$Group" "last" "I", .fieldLink RX4 146 "ExchangeDesk$Group" "size" "I", .fieldLink RX4 11 "ExchangeDesk" "lines" "[LExchangeDesk$Line;", .fieldLink RX4 250 "ExchangeDesk$Group" "row" "[I", .methodLink RX4 266 yX4_canTake, .instanceMethod yX4_canTake, .selects RX4 yX4_canTake yX4_canTake, .initialized RX4, .code yX4_canTake cX4_canTake 3 (some .boolean), .fieldLink RX4 21 "ExchangeDesk" "paths" "LExchangeDesk$Switch;", .methodLink RX4 253 yX4_isWilling, .static yX4_isWilling, .code yX4_isWilling cX4_isWilling 2 (some .boolean), .fieldLink RX4 64 "ExchangeDesk$Line" "state" "I", .fieldLink RX4 182 "ExchangeDesk$Line" "rests" "Z", .methodLink RX4 273 yX3_lowestFree, .instanceMethod yX3_lowestFree, .selects RX3 yX3_lowestFree yX3_lowestFree, .initialized RX3, .code yX3_lowestFree cX3_lowestFree 6 (some .int), .fieldLink RX3 11 "ExchangeDesk$Switch" "carried" "[[I", .fieldLink RX3 22 "ExchangeDesk$Line" "number" "I"] ++ wsX10 ++ wsX40 ++ wsX20 ++ wsX30)
def wsX4_ringOne_r1 : List Cond := [Cond.fieldLink RX4 237 "ExchangeDesk$Group" "order" "I", Cond.fieldLink RX4 263 "ExchangeDesk$Group" "last" "I", Cond.fieldLink RX4 11 "ExchangeDesk" "lines" "[LExchangeDesk$Line;", Cond.fieldLink RX4 250 "ExchangeDesk$Group" "row" "[I", Cond.methodLink RX4 256 yX4_longestIdle, Cond.instanceMethod yX4_longestIdle, Cond.selects RX4 yX4_longestIdle yX4_longestIdle, Cond.initialized RX4, Cond.code yX4_longestIdle cX4_longestIdle 7 (some .int), Cond.constant RX4 269 (2147483647), Cond.fieldLink RX4 146 "ExchangeDesk$Group" "size" "I", Cond.fieldLink RX4 270 "ExchangeDesk$Line" "since" "I", Cond.methodLink RX4 266 yX4_canTake, Cond.instanceMethod yX4_canTake, Cond.selects RX4 yX4_canTake yX4_canTake, Cond.code yX4_canTake cX4_canTake 3 (some .boolean), Cond.fieldLink RX4 21 "ExchangeDesk" "paths" "LExchangeDesk$Switch;", Cond.methodLink RX4 253 yX4_isWilling, Cond.static yX4_isWilling, Cond.code yX4_isWilling cX4_isWilling 2 (some .boolean), Cond.fieldLink RX4 64 "ExchangeDesk$Line" "state" "I", Cond.fieldLink RX4 182 "ExchangeDesk$Line" "rests" "Z", Cond.methodLink RX4 273 yX3_lowestFree, Cond.instanceMethod yX3_lowestFree]
def wsX4_ringOne_r2 : List Cond := [Cond.selects RX3 yX3_lowestFree yX3_lowestFree, Cond.initialized RX3, Cond.code yX3_lowestFree cX3_lowestFree 6 (some .int), Cond.fieldLink RX3 11 "ExchangeDesk$Switch" "carried" "[[I", Cond.fieldLink RX3 22 "ExchangeDesk$Line" "number" "I", Cond.methodLink RX4 260 yX4_firstToTake, Cond.instanceMethod yX4_firstToTake, Cond.selects RX4 yX4_firstToTake yX4_firstToTake, Cond.code yX4_firstToTake cX4_firstToTake 6 (some .int), Cond.methodLink RX4 230 yX4_ring, Cond.instanceMethod yX4_ring, Cond.selects RX4 yX4_ring yX4_ring, Cond.code yX4_ring cX4_ring 4 (some .boolean), Cond.fieldLink RX4 75 "ExchangeDesk" "time" "I", Cond.fieldLink RX4 115 "ExchangeDesk$Line" "number" "I", Cond.fieldLink RX4 106 "ExchangeDesk$Line" "other" "I", Cond.fieldLink RX4 210 "ExchangeDesk$Line" "slot" "I", Cond.methodLink RX4 277 yX3_take, Cond.instanceMethod yX3_take, Cond.selects RX3 yX3_take yX3_take, Cond.code yX3_take cX3_take 4 (some .int), Cond.methodLink RX3 32 Lib.Math.min.name, Cond.static Lib.Math.min.name, Cond.initialized "java/lang/Math"]
def wsX4_ringOne_r3 : List Cond := [Cond.code Lib.Math.min.name Lib.Math.min.code 2 (some .int), Cond.methodLink RX3 28 yX3_lowestFree, Cond.methodLink RX3 38 yX3_mark, Cond.instanceMethod yX3_mark, Cond.selects RX3 yX3_mark yX3_mark, Cond.code yX3_mark cX3_mark 5 none, Cond.methodLink RX4 78 yX2_enter, Cond.instanceMethod yX2_enter, Cond.selects RX2 yX2_enter yX2_enter, Cond.initialized RX2, Cond.code yX2_enter cX2_enter 3 none, Cond.fieldLink RX2 9 "ExchangeDesk$Line" "state" "I", Cond.fieldLink RX2 15 "ExchangeDesk$Line" "since" "I", Cond.fieldLink RX2 18 "ExchangeDesk$Line" "other" "I", Cond.fieldLink RX2 21 "ExchangeDesk$Line" "slot" "I", Cond.fieldLink RX2 24 "ExchangeDesk$Line" "lateFor" "I", Cond.fieldLink RX2 33 "ExchangeDesk$Line" "pays" "Z"]
def wsX4_ringOne : List Cond := .code yX4_ringOne cX4_ringOne 4 (some .boolean) :: ((wsX4_ringOne_r1 ++ (wsX4_ringOne_r2 ++ wsX4_ringOne_r3)) ++ wsX10 ++ wsX40 ++ wsX20 ++ wsX30)
def wsX4_hasWilling : List Cond := .code yX4_hasWilling cX4_hasWilling 4 (some .boolean) :: ([.fieldLink RX4 146 "ExchangeDesk$Group" "size" "I", .fieldLink RX4 11 "ExchangeDesk" "lines" "[LExchangeDesk$Line;", .fieldLink RX4 250 "ExchangeDesk$Group" "row" "[I", .methodLink RX4 253 yX4_isWilling, .static yX4_isWilling, .initialized RX4, .code yX4_isWilling cX4_isWilling 2 (some .boolean), .fieldLink RX4 64 "ExchangeDesk$Line" "state" "I", .fieldLink RX4 182 "ExchangeDesk$Line" "rests" "Z"] ++ wsX10 ++ wsX40 ++ wsX20)
def wsX4_callGroup_r1 : List Cond := [Cond.fieldLink RX4 237 "ExchangeDesk$Group" "order" "I", Cond.fieldLink RX4 75 "ExchangeDesk" "time" "I", Cond.methodLink RX4 240 yX4_ringAll, Cond.instanceMethod yX4_ringAll, Cond.selects RX4 yX4_ringAll yX4_ringAll, Cond.initialized RX4, Cond.code yX4_ringAll cX4_ringAll 6 (some .boolean), Cond.fieldLink RX4 146 "ExchangeDesk$Group" "size" "I", Cond.fieldLink RX4 11 "ExchangeDesk" "lines" "[LExchangeDesk$Line;", Cond.fieldLink RX4 250 "ExchangeDesk$Group" "row" "[I", Cond.methodLink RX4 253 yX4_isWilling, Cond.static yX4_isWilling, Cond.code yX4_isWilling cX4_isWilling 2 (some .boolean), Cond.fieldLink RX4 64 "ExchangeDesk$Line" "state" "I", Cond.fieldLink RX4 182 "ExchangeDesk$Line" "rests" "Z", Cond.methodLink RX4 230 yX4_ring, Cond.instanceMethod yX4_ring, Cond.selects RX4 yX4_ring yX4_ring, Cond.code yX4_ring cX4_ring 4 (some .boolean), Cond.fieldLink RX4 21 "ExchangeDesk" "paths" "LExchangeDesk$Switch;", Cond.fieldLink RX4 115 "ExchangeDesk$Line" "number" "I", Cond.fieldLink RX4 106 "ExchangeDesk$Line" "other" "I", Cond.fieldLink RX4 210 "ExchangeDesk$Line" "slot" "I", Cond.methodLink RX4 277 yX3_take]
def wsX4_callGroup_r2 : List Cond := [Cond.instanceMethod yX3_take, Cond.selects RX3 yX3_take yX3_take, Cond.initialized RX3, Cond.code yX3_take cX3_take 4 (some .int), Cond.fieldLink RX3 22 "ExchangeDesk$Line" "number" "I", Cond.methodLink RX3 32 Lib.Math.min.name, Cond.static Lib.Math.min.name, Cond.initialized "java/lang/Math", Cond.code Lib.Math.min.name Lib.Math.min.code 2 (some .int), Cond.methodLink RX3 28 yX3_lowestFree, Cond.instanceMethod yX3_lowestFree, Cond.selects RX3 yX3_lowestFree yX3_lowestFree, Cond.code yX3_lowestFree cX3_lowestFree 6 (some .int), Cond.fieldLink RX3 11 "ExchangeDesk$Switch" "carried" "[[I", Cond.methodLink RX3 38 yX3_mark, Cond.instanceMethod yX3_mark, Cond.selects RX3 yX3_mark yX3_mark, Cond.code yX3_mark cX3_mark 5 none, Cond.methodLink RX4 78 yX2_enter, Cond.instanceMethod yX2_enter, Cond.selects RX2 yX2_enter yX2_enter, Cond.initialized RX2, Cond.code yX2_enter cX2_enter 3 none, Cond.fieldLink RX2 9 "ExchangeDesk$Line" "state" "I"]
def wsX4_callGroup_r3 : List Cond := [Cond.fieldLink RX2 15 "ExchangeDesk$Line" "since" "I", Cond.fieldLink RX2 18 "ExchangeDesk$Line" "other" "I", Cond.fieldLink RX2 21 "ExchangeDesk$Line" "slot" "I", Cond.fieldLink RX2 24 "ExchangeDesk$Line" "lateFor" "I", Cond.fieldLink RX2 33 "ExchangeDesk$Line" "pays" "Z", Cond.methodLink RX4 244 yX4_ringOne, Cond.instanceMethod yX4_ringOne, Cond.selects RX4 yX4_ringOne yX4_ringOne, Cond.code yX4_ringOne cX4_ringOne 4 (some .boolean), Cond.fieldLink RX4 263 "ExchangeDesk$Group" "last" "I", Cond.methodLink RX4 256 yX4_longestIdle, Cond.instanceMethod yX4_longestIdle, Cond.selects RX4 yX4_longestIdle yX4_longestIdle, Cond.code yX4_longestIdle cX4_longestIdle 7 (some .int), Cond.constant RX4 269 (2147483647), Cond.fieldLink RX4 270 "ExchangeDesk$Line" "since" "I", Cond.methodLink RX4 266 yX4_canTake, Cond.instanceMethod yX4_canTake, Cond.selects RX4 yX4_canTake yX4_canTake, Cond.code yX4_canTake cX4_canTake 3 (some .boolean), Cond.methodLink RX4 273 yX3_lowestFree, Cond.methodLink RX4 260 yX4_firstToTake, Cond.instanceMethod yX4_firstToTake, Cond.selects RX4 yX4_firstToTake yX4_firstToTake]
def wsX4_callGroup_r4 : List Cond := [Cond.code yX4_firstToTake cX4_firstToTake 6 (some .int), Cond.methodLink RX4 247 yX4_hasWilling, Cond.instanceMethod yX4_hasWilling, Cond.selects RX4 yX4_hasWilling yX4_hasWilling, Cond.code yX4_hasWilling cX4_hasWilling 4 (some .boolean), Cond.methodLink RX4 234 yX4_block, Cond.instanceMethod yX4_block, Cond.selects RX4 yX4_block yX4_block, Cond.code yX4_block cX4_block 2 none, Cond.fieldLink RX4 185 "ExchangeDesk" "blocked" "I"]
def wsX4_callGroup : List Cond := .code yX4_callGroup cX4_callGroup 4 none :: ((wsX4_callGroup_r1 ++ (wsX4_callGroup_r2 ++ (wsX4_callGroup_r3 ++ wsX4_callGroup_r4))) ++ wsX10 ++ wsX40 ++ wsX20 ++ wsX30)
def wsX4_firstRinging : List Cond := .code yX4_firstRinging cX4_firstRinging 6 (some (.object "ExchangeDesk$Line")) :: ([.constant RX4 269 (2147483647), .fieldLink RX4 11 "ExchangeDesk" "lines" "[LExchangeDesk$Line;", .fieldLink RX4 64 "ExchangeDesk$Line" "state" "I", .fieldLink RX4 270 "ExchangeDesk$Line" "since" "I"] ++ wsX40 ++ wsX20)
def wsX4_talkByNewPath_r1 : List Cond := [Cond.fieldLink RX4 21 "ExchangeDesk" "paths" "LExchangeDesk$Switch;", Cond.methodLink RX4 277 yX3_take, Cond.instanceMethod yX3_take, Cond.selects RX3 yX3_take yX3_take, Cond.initialized RX3, Cond.code yX3_take cX3_take 4 (some .int), Cond.fieldLink RX3 22 "ExchangeDesk$Line" "number" "I", Cond.methodLink RX3 32 Lib.Math.min.name, Cond.static Lib.Math.min.name, Cond.initialized "java/lang/Math", Cond.code Lib.Math.min.name Lib.Math.min.code 2 (some .int), Cond.methodLink RX3 28 yX3_lowestFree, Cond.instanceMethod yX3_lowestFree, Cond.selects RX3 yX3_lowestFree yX3_lowestFree, Cond.code yX3_lowestFree cX3_lowestFree 6 (some .int), Cond.fieldLink RX3 11 "ExchangeDesk$Switch" "carried" "[[I", Cond.methodLink RX3 38 yX3_mark, Cond.instanceMethod yX3_mark, Cond.selects RX3 yX3_mark yX3_mark, Cond.code yX3_mark cX3_mark 5 none, Cond.methodLink RX4 280 yX4_beginTalk, Cond.instanceMethod yX4_beginTalk, Cond.selects RX4 yX4_beginTalk yX4_beginTalk, Cond.initialized RX4]
def wsX4_talkByNewPath_r2 : List Cond := [Cond.code yX4_beginTalk cX4_beginTalk 4 none, Cond.fieldLink RX4 115 "ExchangeDesk$Line" "number" "I", Cond.fieldLink RX4 75 "ExchangeDesk" "time" "I", Cond.fieldLink RX4 172 "ExchangeDesk$Line" "pays" "Z", Cond.methodLink RX4 293 yX2_talk, Cond.instanceMethod yX2_talk, Cond.selects RX2 yX2_talk yX2_talk, Cond.initialized RX2, Cond.code yX2_talk cX2_talk 4 none, Cond.fieldLink RX2 18 "ExchangeDesk$Line" "other" "I", Cond.fieldLink RX2 21 "ExchangeDesk$Line" "slot" "I", Cond.methodLink RX2 37 yX2_enter, Cond.instanceMethod yX2_enter, Cond.selects RX2 yX2_enter yX2_enter, Cond.code yX2_enter cX2_enter 3 none, Cond.fieldLink RX2 9 "ExchangeDesk$Line" "state" "I", Cond.fieldLink RX2 15 "ExchangeDesk$Line" "since" "I", Cond.fieldLink RX2 24 "ExchangeDesk$Line" "lateFor" "I", Cond.fieldLink RX2 33 "ExchangeDesk$Line" "pays" "Z"]
def wsX4_talkByNewPath : List Cond := .code yX4_talkByNewPath cX4_talkByNewPath 4 (some .boolean) :: ((wsX4_talkByNewPath_r1 ++ wsX4_talkByNewPath_r2) ++ wsX40 ++ wsX20 ++ wsX30)
def wsX4_pickUp_r1 : List Cond := [Cond.fieldLink RX4 115 "ExchangeDesk$Line" "number" "I", Cond.fieldLink RX4 75 "ExchangeDesk" "time" "I", Cond.fieldLink RX4 11 "ExchangeDesk" "lines" "[LExchangeDesk$Line;", Cond.fieldLink RX4 106 "ExchangeDesk$Line" "other" "I", Cond.methodLink RX4 287 yX4_firstRinging, Cond.instanceMethod yX4_firstRinging, Cond.selects RX4 yX4_firstRinging yX4_firstRinging, Cond.initialized RX4, Cond.code yX4_firstRinging cX4_firstRinging 6 (some (.object "ExchangeDesk$Line")), Cond.constant RX4 269 (2147483647), Cond.fieldLink RX4 64 "ExchangeDesk$Line" "state" "I", Cond.fieldLink RX4 270 "ExchangeDesk$Line" "since" "I", Cond.methodLink RX4 78 yX2_enter, Cond.instanceMethod yX2_enter, Cond.selects RX2 yX2_enter yX2_enter, Cond.initialized RX2, Cond.code yX2_enter cX2_enter 3 none, Cond.fieldLink RX2 9 "ExchangeDesk$Line" "state" "I", Cond.fieldLink RX2 15 "ExchangeDesk$Line" "since" "I", Cond.fieldLink RX2 18 "ExchangeDesk$Line" "other" "I", Cond.fieldLink RX2 21 "ExchangeDesk$Line" "slot" "I", Cond.fieldLink RX2 24 "ExchangeDesk$Line" "lateFor" "I", Cond.fieldLink RX2 33 "ExchangeDesk$Line" "pays" "Z", Cond.methodLink RX4 284 yX4_stopRinging]
def wsX4_pickUp_r2 : List Cond := [Cond.instanceMethod yX4_stopRinging, Cond.selects RX4 yX4_stopRinging yX4_stopRinging, Cond.code yX4_stopRinging cX4_stopRinging 4 none, Cond.fieldLink RX4 21 "ExchangeDesk" "paths" "LExchangeDesk$Switch;", Cond.fieldLink RX4 210 "ExchangeDesk$Line" "slot" "I", Cond.methodLink RX4 213 yX2_ringsFor, Cond.instanceMethod yX2_ringsFor, Cond.selects RX2 yX2_ringsFor yX2_ringsFor, Cond.code yX2_ringsFor cX2_ringsFor 2 (some .boolean), Cond.methodLink RX4 301 yX3_release, Cond.instanceMethod yX3_release, Cond.selects RX3 yX3_release yX3_release, Cond.initialized RX3, Cond.code yX3_release cX3_release 4 none, Cond.methodLink RX3 38 yX3_mark, Cond.instanceMethod yX3_mark, Cond.selects RX3 yX3_mark yX3_mark, Cond.code yX3_mark cX3_mark 5 none, Cond.fieldLink RX3 11 "ExchangeDesk$Switch" "carried" "[[I", Cond.fieldLink RX3 22 "ExchangeDesk$Line" "number" "I", Cond.methodLink RX4 290 yX4_talkByNewPath, Cond.instanceMethod yX4_talkByNewPath, Cond.selects RX4 yX4_talkByNewPath yX4_talkByNewPath, Cond.code yX4_talkByNewPath cX4_talkByNewPath 4 (some .boolean)]
def wsX4_pickUp_r3 : List Cond := [Cond.methodLink RX4 277 yX3_take, Cond.instanceMethod yX3_take, Cond.selects RX3 yX3_take yX3_take, Cond.code yX3_take cX3_take 4 (some .int), Cond.methodLink RX3 32 Lib.Math.min.name, Cond.static Lib.Math.min.name, Cond.initialized "java/lang/Math", Cond.code Lib.Math.min.name Lib.Math.min.code 2 (some .int), Cond.methodLink RX3 28 yX3_lowestFree, Cond.instanceMethod yX3_lowestFree, Cond.selects RX3 yX3_lowestFree yX3_lowestFree, Cond.code yX3_lowestFree cX3_lowestFree 6 (some .int), Cond.methodLink RX4 280 yX4_beginTalk, Cond.instanceMethod yX4_beginTalk, Cond.selects RX4 yX4_beginTalk yX4_beginTalk, Cond.code yX4_beginTalk cX4_beginTalk 4 none, Cond.fieldLink RX4 172 "ExchangeDesk$Line" "pays" "Z", Cond.methodLink RX4 293 yX2_talk, Cond.instanceMethod yX2_talk, Cond.selects RX2 yX2_talk yX2_talk, Cond.code yX2_talk cX2_talk 4 none, Cond.methodLink RX2 37 yX2_enter, Cond.methodLink RX4 234 yX4_block, Cond.instanceMethod yX4_block]
def wsX4_pickUp_r4 : List Cond := [Cond.selects RX4 yX4_block yX4_block, Cond.code yX4_block cX4_block 2 none, Cond.fieldLink RX4 185 "ExchangeDesk" "blocked" "I"]
def wsX4_pickUp : List Cond := .code yX4_pickUp cX4_pickUp 4 none :: ((wsX4_pickUp_r1 ++ (wsX4_pickUp_r2 ++ (wsX4_pickUp_r3 ++ wsX4_pickUp_r4))) ++ wsX20 ++ wsX40 ++ wsX30)
def wsX4_takeParked_r1 : List Cond := [Cond.fieldLink RX4 32 "ExchangeDesk" "places" "[I", Cond.fieldLink RX4 75 "ExchangeDesk" "time" "I", Cond.fieldLink RX4 11 "ExchangeDesk" "lines" "[LExchangeDesk$Line;", Cond.methodLink RX4 78 yX2_enter, Cond.instanceMethod yX2_enter, Cond.selects RX2 yX2_enter yX2_enter, Cond.initialized RX2, Cond.code yX2_enter cX2_enter 3 none, Cond.fieldLink RX2 9 "ExchangeDesk$Line" "state" "I", Cond.fieldLink RX2 15 "ExchangeDesk$Line" "since" "I", Cond.fieldLink RX2 18 "ExchangeDesk$Line" "other" "I", Cond.fieldLink RX2 21 "ExchangeDesk$Line" "slot" "I", Cond.fieldLink RX2 24 "ExchangeDesk$Line" "lateFor" "I", Cond.fieldLink RX2 33 "ExchangeDesk$Line" "pays" "Z", Cond.methodLink RX4 290 yX4_talkByNewPath, Cond.instanceMethod yX4_talkByNewPath, Cond.selects RX4 yX4_talkByNewPath yX4_talkByNewPath, Cond.initialized RX4, Cond.code yX4_talkByNewPath cX4_talkByNewPath 4 (some .boolean), Cond.fieldLink RX4 21 "ExchangeDesk" "paths" "LExchangeDesk$Switch;", Cond.methodLink RX4 277 yX3_take, Cond.instanceMethod yX3_take, Cond.selects RX3 yX3_take yX3_take, Cond.initialized RX3]
def wsX4_takeParked_r2 : List Cond := [Cond.code yX3_take cX3_take 4 (some .int), Cond.fieldLink RX3 22 "ExchangeDesk$Line" "number" "I", Cond.methodLink RX3 32 Lib.Math.min.name, Cond.static Lib.Math.min.name, Cond.initialized "java/lang/Math", Cond.code Lib.Math.min.name Lib.Math.min.code 2 (some .int), Cond.methodLink RX3 28 yX3_lowestFree, Cond.instanceMethod yX3_lowestFree, Cond.selects RX3 yX3_lowestFree yX3_lowestFree, Cond.code yX3_lowestFree cX3_lowestFree 6 (some .int), Cond.fieldLink RX3 11 "ExchangeDesk$Switch" "carried" "[[I", Cond.methodLink RX3 38 yX3_mark, Cond.instanceMethod yX3_mark, Cond.selects RX3 yX3_mark yX3_mark, Cond.code yX3_mark cX3_mark 5 none, Cond.methodLink RX4 280 yX4_beginTalk, Cond.instanceMethod yX4_beginTalk, Cond.selects RX4 yX4_beginTalk yX4_beginTalk, Cond.code yX4_beginTalk cX4_beginTalk 4 none, Cond.fieldLink RX4 115 "ExchangeDesk$Line" "number" "I", Cond.fieldLink RX4 172 "ExchangeDesk$Line" "pays" "Z", Cond.methodLink RX4 293 yX2_talk, Cond.instanceMethod yX2_talk, Cond.selects RX2 yX2_talk yX2_talk]
def wsX4_takeParked_r3 : List Cond := [Cond.code yX2_talk cX2_talk 4 none, Cond.methodLink RX2 37 yX2_enter, Cond.methodLink RX4 234 yX4_block, Cond.instanceMethod yX4_block, Cond.selects RX4 yX4_block yX4_block, Cond.code yX4_block cX4_block 2 none, Cond.fieldLink RX4 185 "ExchangeDesk" "blocked" "I"]
def wsX4_takeParked : List Cond := .code yX4_takeParked cX4_takeParked 4 none :: ((wsX4_takeParked_r1 ++ (wsX4_takeParked_r2 ++ wsX4_takeParked_r3)) ++ wsX40 ++ wsX20 ++ wsX30)
def wsX4_call_r1 : List Cond := [Cond.fieldLink RX4 11 "ExchangeDesk" "lines" "[LExchangeDesk$Line;", Cond.fieldLink RX4 27 "ExchangeDesk" "groups" "[LExchangeDesk$Group;", Cond.fieldLink RX4 182 "ExchangeDesk$Line" "rests" "Z", Cond.fieldLink RX4 75 "ExchangeDesk" "time" "I", Cond.methodLink RX4 216 yX4_callLine, Cond.instanceMethod yX4_callLine, Cond.selects RX4 yX4_callLine yX4_callLine, Cond.initialized RX4, Cond.code yX4_callLine cX4_callLine 3 none, Cond.fieldLink RX4 64 "ExchangeDesk$Line" "state" "I", Cond.fieldLink RX4 115 "ExchangeDesk$Line" "number" "I", Cond.fieldLink RX4 98 "ExchangeDesk$Line" "lateFor" "I", Cond.methodLink RX4 78 yX2_enter, Cond.instanceMethod yX2_enter, Cond.selects RX2 yX2_enter yX2_enter, Cond.initialized RX2, Cond.code yX2_enter cX2_enter 3 none, Cond.fieldLink RX2 9 "ExchangeDesk$Line" "state" "I", Cond.fieldLink RX2 15 "ExchangeDesk$Line" "since" "I", Cond.fieldLink RX2 18 "ExchangeDesk$Line" "other" "I", Cond.fieldLink RX2 21 "ExchangeDesk$Line" "slot" "I", Cond.fieldLink RX2 24 "ExchangeDesk$Line" "lateFor" "I", Cond.fieldLink RX2 33 "ExchangeDesk$Line" "pays" "Z", Cond.methodLink RX4 230 yX4_ring]
def wsX4_call_r2 : List Cond := [Cond.instanceMethod yX4_ring, Cond.selects RX4 yX4_ring yX4_ring, Cond.code yX4_ring cX4_ring 4 (some .boolean), Cond.fieldLink RX4 21 "ExchangeDesk" "paths" "LExchangeDesk$Switch;", Cond.fieldLink RX4 106 "ExchangeDesk$Line" "other" "I", Cond.fieldLink RX4 210 "ExchangeDesk$Line" "slot" "I", Cond.methodLink RX4 277 yX3_take, Cond.instanceMethod yX3_take, Cond.selects RX3 yX3_take yX3_take, Cond.initialized RX3, Cond.code yX3_take cX3_take 4 (some .int), Cond.fieldLink RX3 22 "ExchangeDesk$Line" "number" "I", Cond.methodLink RX3 32 Lib.Math.min.name, Cond.static Lib.Math.min.name, Cond.initialized "java/lang/Math", Cond.code Lib.Math.min.name Lib.Math.min.code 2 (some .int), Cond.methodLink RX3 28 yX3_lowestFree, Cond.instanceMethod yX3_lowestFree, Cond.selects RX3 yX3_lowestFree yX3_lowestFree, Cond.code yX3_lowestFree cX3_lowestFree 6 (some .int), Cond.fieldLink RX3 11 "ExchangeDesk$Switch" "carried" "[[I", Cond.methodLink RX3 38 yX3_mark, Cond.instanceMethod yX3_mark, Cond.selects RX3 yX3_mark yX3_mark]
def wsX4_call_r3 : List Cond := [Cond.code yX3_mark cX3_mark 5 none, Cond.methodLink RX4 234 yX4_block, Cond.instanceMethod yX4_block, Cond.selects RX4 yX4_block yX4_block, Cond.code yX4_block cX4_block 2 none, Cond.fieldLink RX4 185 "ExchangeDesk" "blocked" "I", Cond.methodLink RX4 220 yX4_callGroup, Cond.instanceMethod yX4_callGroup, Cond.selects RX4 yX4_callGroup yX4_callGroup, Cond.code yX4_callGroup cX4_callGroup 4 none, Cond.fieldLink RX4 237 "ExchangeDesk$Group" "order" "I", Cond.methodLink RX4 240 yX4_ringAll, Cond.instanceMethod yX4_ringAll, Cond.selects RX4 yX4_ringAll yX4_ringAll, Cond.code yX4_ringAll cX4_ringAll 6 (some .boolean), Cond.fieldLink RX4 146 "ExchangeDesk$Group" "size" "I", Cond.fieldLink RX4 250 "ExchangeDesk$Group" "row" "[I", Cond.methodLink RX4 253 yX4_isWilling, Cond.static yX4_isWilling, Cond.code yX4_isWilling cX4_isWilling 2 (some .boolean), Cond.methodLink RX4 244 yX4_ringOne, Cond.instanceMethod yX4_ringOne, Cond.selects RX4 yX4_ringOne yX4_ringOne, Cond.code yX4_ringOne cX4_ringOne 4 (some .boolean)]
def wsX4_call_r4 : List Cond := [Cond.fieldLink RX4 263 "ExchangeDesk$Group" "last" "I", Cond.methodLink RX4 256 yX4_longestIdle, Cond.instanceMethod yX4_longestIdle, Cond.selects RX4 yX4_longestIdle yX4_longestIdle, Cond.code yX4_longestIdle cX4_longestIdle 7 (some .int), Cond.constant RX4 269 (2147483647), Cond.fieldLink RX4 270 "ExchangeDesk$Line" "since" "I", Cond.methodLink RX4 266 yX4_canTake, Cond.instanceMethod yX4_canTake, Cond.selects RX4 yX4_canTake yX4_canTake, Cond.code yX4_canTake cX4_canTake 3 (some .boolean), Cond.methodLink RX4 273 yX3_lowestFree, Cond.methodLink RX4 260 yX4_firstToTake, Cond.instanceMethod yX4_firstToTake, Cond.selects RX4 yX4_firstToTake yX4_firstToTake, Cond.code yX4_firstToTake cX4_firstToTake 6 (some .int), Cond.methodLink RX4 247 yX4_hasWilling, Cond.instanceMethod yX4_hasWilling, Cond.selects RX4 yX4_hasWilling yX4_hasWilling, Cond.code yX4_hasWilling cX4_hasWilling 4 (some .boolean), Cond.methodLink RX4 224 yX4_pickUp, Cond.instanceMethod yX4_pickUp, Cond.selects RX4 yX4_pickUp yX4_pickUp, Cond.code yX4_pickUp cX4_pickUp 4 none]
def wsX4_call_r5 : List Cond := [Cond.methodLink RX4 287 yX4_firstRinging, Cond.instanceMethod yX4_firstRinging, Cond.selects RX4 yX4_firstRinging yX4_firstRinging, Cond.code yX4_firstRinging cX4_firstRinging 6 (some (.object "ExchangeDesk$Line")), Cond.methodLink RX4 284 yX4_stopRinging, Cond.instanceMethod yX4_stopRinging, Cond.selects RX4 yX4_stopRinging yX4_stopRinging, Cond.code yX4_stopRinging cX4_stopRinging 4 none, Cond.methodLink RX4 213 yX2_ringsFor, Cond.instanceMethod yX2_ringsFor, Cond.selects RX2 yX2_ringsFor yX2_ringsFor, Cond.code yX2_ringsFor cX2_ringsFor 2 (some .boolean), Cond.methodLink RX4 301 yX3_release, Cond.instanceMethod yX3_release, Cond.selects RX3 yX3_release yX3_release, Cond.code yX3_release cX3_release 4 none, Cond.methodLink RX4 290 yX4_talkByNewPath, Cond.instanceMethod yX4_talkByNewPath, Cond.selects RX4 yX4_talkByNewPath yX4_talkByNewPath, Cond.code yX4_talkByNewPath cX4_talkByNewPath 4 (some .boolean), Cond.methodLink RX4 280 yX4_beginTalk, Cond.instanceMethod yX4_beginTalk, Cond.selects RX4 yX4_beginTalk yX4_beginTalk, Cond.code yX4_beginTalk cX4_beginTalk 4 none]
def wsX4_call_r6 : List Cond := [Cond.fieldLink RX4 172 "ExchangeDesk$Line" "pays" "Z", Cond.methodLink RX4 293 yX2_talk, Cond.instanceMethod yX2_talk, Cond.selects RX2 yX2_talk yX2_talk, Cond.code yX2_talk cX2_talk 4 none, Cond.methodLink RX2 37 yX2_enter, Cond.methodLink RX4 227 yX4_takeParked, Cond.instanceMethod yX4_takeParked, Cond.selects RX4 yX4_takeParked yX4_takeParked, Cond.code yX4_takeParked cX4_takeParked 4 none, Cond.fieldLink RX4 32 "ExchangeDesk" "places" "[I"]
def wsX4_call : List Cond := .code yX4_call cX4_call 3 none :: ((wsX4_call_r1 ++ (wsX4_call_r2 ++ (wsX4_call_r3 ++ (wsX4_call_r4 ++ (wsX4_call_r5 ++ wsX4_call_r6))))) ++ wsX40 ++ wsX20 ++ wsX30 ++ wsX10)
def wsX4_digit_r1 : List Cond := [Cond.fieldLink RX4 64 "ExchangeDesk$Line" "state" "I", Cond.fieldLink RX4 75 "ExchangeDesk" "time" "I", Cond.fieldLink RX4 91 "ExchangeDesk$Line" "firstDigit" "I", Cond.methodLink RX4 49 yX4_lineOf, Cond.instanceMethod yX4_lineOf, Cond.selects RX4 yX4_lineOf yX4_lineOf, Cond.initialized RX4, Cond.code yX4_lineOf cX4_lineOf 2 (some (.object "ExchangeDesk$Line")), Cond.fieldLink RX4 11 "ExchangeDesk" "lines" "[LExchangeDesk$Line;", Cond.methodLink RX4 139 yX4_isLine, Cond.static yX4_isLine, Cond.code yX4_isLine cX4_isLine 1 (some .boolean), Cond.methodLink RX4 87 yX4_require, Cond.static yX4_require, Cond.code yX4_require cX4_require 1 none, Cond.classLink RX4 205 "java/lang/IllegalArgumentException", Cond.initialized "java/lang/IllegalArgumentException", Cond.methodLink RX4 78 yX2_enter, Cond.instanceMethod yX2_enter, Cond.selects RX2 yX2_enter yX2_enter, Cond.initialized RX2, Cond.code yX2_enter cX2_enter 3 none, Cond.fieldLink RX2 9 "ExchangeDesk$Line" "state" "I", Cond.fieldLink RX2 15 "ExchangeDesk$Line" "since" "I"]
def wsX4_digit_r2 : List Cond := [Cond.fieldLink RX2 18 "ExchangeDesk$Line" "other" "I", Cond.fieldLink RX2 21 "ExchangeDesk$Line" "slot" "I", Cond.fieldLink RX2 24 "ExchangeDesk$Line" "lateFor" "I", Cond.fieldLink RX2 33 "ExchangeDesk$Line" "pays" "Z", Cond.methodLink RX4 94 yX4_call, Cond.instanceMethod yX4_call, Cond.selects RX4 yX4_call yX4_call, Cond.code yX4_call cX4_call 3 none, Cond.fieldLink RX4 27 "ExchangeDesk" "groups" "[LExchangeDesk$Group;", Cond.fieldLink RX4 182 "ExchangeDesk$Line" "rests" "Z", Cond.methodLink RX4 216 yX4_callLine, Cond.instanceMethod yX4_callLine, Cond.selects RX4 yX4_callLine yX4_callLine, Cond.code yX4_callLine cX4_callLine 3 none, Cond.fieldLink RX4 115 "ExchangeDesk$Line" "number" "I", Cond.fieldLink RX4 98 "ExchangeDesk$Line" "lateFor" "I", Cond.methodLink RX4 230 yX4_ring, Cond.instanceMethod yX4_ring, Cond.selects RX4 yX4_ring yX4_ring, Cond.code yX4_ring cX4_ring 4 (some .boolean), Cond.fieldLink RX4 21 "ExchangeDesk" "paths" "LExchangeDesk$Switch;", Cond.fieldLink RX4 106 "ExchangeDesk$Line" "other" "I", Cond.fieldLink RX4 210 "ExchangeDesk$Line" "slot" "I", Cond.methodLink RX4 277 yX3_take]
def wsX4_digit_r3 : List Cond := [Cond.instanceMethod yX3_take, Cond.selects RX3 yX3_take yX3_take, Cond.initialized RX3, Cond.code yX3_take cX3_take 4 (some .int), Cond.fieldLink RX3 22 "ExchangeDesk$Line" "number" "I", Cond.methodLink RX3 32 Lib.Math.min.name, Cond.static Lib.Math.min.name, Cond.initialized "java/lang/Math", Cond.code Lib.Math.min.name Lib.Math.min.code 2 (some .int), Cond.methodLink RX3 28 yX3_lowestFree, Cond.instanceMethod yX3_lowestFree, Cond.selects RX3 yX3_lowestFree yX3_lowestFree, Cond.code yX3_lowestFree cX3_lowestFree 6 (some .int), Cond.fieldLink RX3 11 "ExchangeDesk$Switch" "carried" "[[I", Cond.methodLink RX3 38 yX3_mark, Cond.instanceMethod yX3_mark, Cond.selects RX3 yX3_mark yX3_mark, Cond.code yX3_mark cX3_mark 5 none, Cond.methodLink RX4 234 yX4_block, Cond.instanceMethod yX4_block, Cond.selects RX4 yX4_block yX4_block, Cond.code yX4_block cX4_block 2 none, Cond.fieldLink RX4 185 "ExchangeDesk" "blocked" "I", Cond.methodLink RX4 220 yX4_callGroup]
def wsX4_digit_r4 : List Cond := [Cond.instanceMethod yX4_callGroup, Cond.selects RX4 yX4_callGroup yX4_callGroup, Cond.code yX4_callGroup cX4_callGroup 4 none, Cond.fieldLink RX4 237 "ExchangeDesk$Group" "order" "I", Cond.methodLink RX4 240 yX4_ringAll, Cond.instanceMethod yX4_ringAll, Cond.selects RX4 yX4_ringAll yX4_ringAll, Cond.code yX4_ringAll cX4_ringAll 6 (some .boolean), Cond.fieldLink RX4 146 "ExchangeDesk$Group" "size" "I", Cond.fieldLink RX4 250 "ExchangeDesk$Group" "row" "[I", Cond.methodLink RX4 253 yX4_isWilling, Cond.static yX4_isWilling, Cond.code yX4_isWilling cX4_isWilling 2 (some .boolean), Cond.methodLink RX4 244 yX4_ringOne, Cond.instanceMethod yX4_ringOne, Cond.selects RX4 yX4_ringOne yX4_ringOne, Cond.code yX4_ringOne cX4_ringOne 4 (some .boolean), Cond.fieldLink RX4 263 "ExchangeDesk$Group" "last" "I", Cond.methodLink RX4 256 yX4_longestIdle, Cond.instanceMethod yX4_longestIdle, Cond.selects RX4 yX4_longestIdle yX4_longestIdle, Cond.code yX4_longestIdle cX4_longestIdle 7 (some .int), Cond.constant RX4 269 (2147483647), Cond.fieldLink RX4 270 "ExchangeDesk$Line" "since" "I"]
def wsX4_digit_r5 : List Cond := [Cond.methodLink RX4 266 yX4_canTake, Cond.instanceMethod yX4_canTake, Cond.selects RX4 yX4_canTake yX4_canTake, Cond.code yX4_canTake cX4_canTake 3 (some .boolean), Cond.methodLink RX4 273 yX3_lowestFree, Cond.methodLink RX4 260 yX4_firstToTake, Cond.instanceMethod yX4_firstToTake, Cond.selects RX4 yX4_firstToTake yX4_firstToTake, Cond.code yX4_firstToTake cX4_firstToTake 6 (some .int), Cond.methodLink RX4 247 yX4_hasWilling, Cond.instanceMethod yX4_hasWilling, Cond.selects RX4 yX4_hasWilling yX4_hasWilling, Cond.code yX4_hasWilling cX4_hasWilling 4 (some .boolean), Cond.methodLink RX4 224 yX4_pickUp, Cond.instanceMethod yX4_pickUp, Cond.selects RX4 yX4_pickUp yX4_pickUp, Cond.code yX4_pickUp cX4_pickUp 4 none, Cond.methodLink RX4 287 yX4_firstRinging, Cond.instanceMethod yX4_firstRinging, Cond.selects RX4 yX4_firstRinging yX4_firstRinging, Cond.code yX4_firstRinging cX4_firstRinging 6 (some (.object "ExchangeDesk$Line")), Cond.methodLink RX4 284 yX4_stopRinging, Cond.instanceMethod yX4_stopRinging, Cond.selects RX4 yX4_stopRinging yX4_stopRinging]
def wsX4_digit_r6 : List Cond := [Cond.code yX4_stopRinging cX4_stopRinging 4 none, Cond.methodLink RX4 213 yX2_ringsFor, Cond.instanceMethod yX2_ringsFor, Cond.selects RX2 yX2_ringsFor yX2_ringsFor, Cond.code yX2_ringsFor cX2_ringsFor 2 (some .boolean), Cond.methodLink RX4 301 yX3_release, Cond.instanceMethod yX3_release, Cond.selects RX3 yX3_release yX3_release, Cond.code yX3_release cX3_release 4 none, Cond.methodLink RX4 290 yX4_talkByNewPath, Cond.instanceMethod yX4_talkByNewPath, Cond.selects RX4 yX4_talkByNewPath yX4_talkByNewPath, Cond.code yX4_talkByNewPath cX4_talkByNewPath 4 (some .boolean), Cond.methodLink RX4 280 yX4_beginTalk, Cond.instanceMethod yX4_beginTalk, Cond.selects RX4 yX4_beginTalk yX4_beginTalk, Cond.code yX4_beginTalk cX4_beginTalk 4 none, Cond.fieldLink RX4 172 "ExchangeDesk$Line" "pays" "Z", Cond.methodLink RX4 293 yX2_talk, Cond.instanceMethod yX2_talk, Cond.selects RX2 yX2_talk yX2_talk, Cond.code yX2_talk cX2_talk 4 none, Cond.methodLink RX2 37 yX2_enter, Cond.methodLink RX4 227 yX4_takeParked]
def wsX4_digit_r7 : List Cond := [Cond.instanceMethod yX4_takeParked, Cond.selects RX4 yX4_takeParked yX4_takeParked, Cond.code yX4_takeParked cX4_takeParked 4 none, Cond.fieldLink RX4 32 "ExchangeDesk" "places" "[I", Cond.methodLink RX4 72 yX4_callFromCamps, Cond.instanceMethod yX4_callFromCamps, Cond.selects RX4 yX4_callFromCamps yX4_callFromCamps, Cond.code yX4_callFromCamps cX4_callFromCamps 4 none, Cond.fieldLink RX4 101 "ExchangeDesk$Line" "camper" "I"]
def wsX4_digit : List Cond := .code yX4_digit cX4_digit 4 (some .int) :: ((wsX4_digit_r1 ++ (wsX4_digit_r2 ++ (wsX4_digit_r3 ++ (wsX4_digit_r4 ++ (wsX4_digit_r5 ++ (wsX4_digit_r6 ++ wsX4_digit_r7)))))) ++ wsX20 ++ wsX40 ++ wsX30 ++ wsX10 ++ (vx_atS RX4 209 "java/lang/IllegalArgumentException" ["java/lang/RuntimeException", "java/lang/Exception"]).filter goodWord)
def wsX4_camp_r1 : List Cond := [Cond.classLink RX4 57 "java/lang/IllegalStateException", Cond.initialized "java/lang/IllegalStateException", Cond.fieldLink RX4 98 "ExchangeDesk$Line" "lateFor" "I", Cond.fieldLink RX4 11 "ExchangeDesk" "lines" "[LExchangeDesk$Line;", Cond.fieldLink RX4 64 "ExchangeDesk$Line" "state" "I", Cond.fieldLink RX4 101 "ExchangeDesk$Line" "camper" "I", Cond.fieldLink RX4 75 "ExchangeDesk" "time" "I", Cond.fieldLink RX4 106 "ExchangeDesk$Line" "other" "I", Cond.methodLink RX4 49 yX4_lineOf, Cond.instanceMethod yX4_lineOf, Cond.selects RX4 yX4_lineOf yX4_lineOf, Cond.initialized RX4, Cond.code yX4_lineOf cX4_lineOf 2 (some (.object "ExchangeDesk$Line")), Cond.methodLink RX4 139 yX4_isLine, Cond.static yX4_isLine, Cond.code yX4_isLine cX4_isLine 1 (some .boolean), Cond.methodLink RX4 87 yX4_require, Cond.static yX4_require, Cond.code yX4_require cX4_require 1 none, Cond.classLink RX4 205 "java/lang/IllegalArgumentException", Cond.initialized "java/lang/IllegalArgumentException", Cond.methodLink RX4 78 yX2_enter, Cond.instanceMethod yX2_enter, Cond.selects RX2 yX2_enter yX2_enter]
def wsX4_camp_r2 : List Cond := [Cond.initialized RX2, Cond.code yX2_enter cX2_enter 3 none, Cond.fieldLink RX2 9 "ExchangeDesk$Line" "state" "I", Cond.fieldLink RX2 15 "ExchangeDesk$Line" "since" "I", Cond.fieldLink RX2 18 "ExchangeDesk$Line" "other" "I", Cond.fieldLink RX2 21 "ExchangeDesk$Line" "slot" "I", Cond.fieldLink RX2 24 "ExchangeDesk$Line" "lateFor" "I", Cond.fieldLink RX2 33 "ExchangeDesk$Line" "pays" "Z"]
def wsX4_camp : List Cond := .code yX4_camp cX4_camp 4 (some .int) :: ((wsX4_camp_r1 ++ wsX4_camp_r2) ++ wsX20 ++ wsX40 ++ (vx_atS RX4 61 "java/lang/IllegalStateException" ["java/lang/RuntimeException", "java/lang/Exception"]).filter goodWord ++ (vx_atS RX4 209 "java/lang/IllegalArgumentException" ["java/lang/RuntimeException", "java/lang/Exception"]).filter goodWord)
def wsX4_park_r1 : List Cond := [Cond.classLink RX4 57 "java/lang/IllegalStateException", Cond.initialized "java/lang/IllegalStateException", Cond.fieldLink RX4 64 "ExchangeDesk$Line" "state" "I", Cond.fieldLink RX4 32 "ExchangeDesk" "places" "[I", Cond.fieldLink RX4 75 "ExchangeDesk" "time" "I", Cond.fieldLink RX4 106 "ExchangeDesk$Line" "other" "I", Cond.fieldLink RX4 115 "ExchangeDesk$Line" "number" "I", Cond.methodLink RX4 49 yX4_lineOf, Cond.instanceMethod yX4_lineOf, Cond.selects RX4 yX4_lineOf yX4_lineOf, Cond.initialized RX4, Cond.code yX4_lineOf cX4_lineOf 2 (some (.object "ExchangeDesk$Line")), Cond.fieldLink RX4 11 "ExchangeDesk" "lines" "[LExchangeDesk$Line;", Cond.methodLink RX4 139 yX4_isLine, Cond.static yX4_isLine, Cond.code yX4_isLine cX4_isLine 1 (some .boolean), Cond.methodLink RX4 87 yX4_require, Cond.static yX4_require, Cond.code yX4_require cX4_require 1 none, Cond.classLink RX4 205 "java/lang/IllegalArgumentException", Cond.initialized "java/lang/IllegalArgumentException", Cond.methodLink RX4 111 yX4_endTalk, Cond.instanceMethod yX4_endTalk, Cond.selects RX4 yX4_endTalk yX4_endTalk]
def wsX4_park_r2 : List Cond := [Cond.code yX4_endTalk cX4_endTalk 5 (some (.object "ExchangeDesk$Line")), Cond.fieldLink RX4 172 "ExchangeDesk$Line" "pays" "Z", Cond.fieldLink RX4 176 "ExchangeDesk$Line" "paid" "I", Cond.fieldLink RX4 45 "ExchangeDesk" "ended" "LExchangeDesk$Book;", Cond.fieldLink RX4 270 "ExchangeDesk$Line" "since" "I", Cond.fieldLink RX4 21 "ExchangeDesk" "paths" "LExchangeDesk$Switch;", Cond.fieldLink RX4 210 "ExchangeDesk$Line" "slot" "I", Cond.methodLink RX4 179 yX4_unitsOf, Cond.instanceMethod yX4_unitsOf, Cond.selects RX4 yX4_unitsOf yX4_unitsOf, Cond.code yX4_unitsOf cX4_unitsOf 2 (some .int), Cond.methodLink RX4 297 yX0_write, Cond.instanceMethod yX0_write, Cond.selects RX0 yX0_write yX0_write, Cond.initialized RX0, Cond.code yX0_write cX0_write 6 none, Cond.fieldLink RX0 13 "ExchangeDesk$Book" "written" "I", Cond.fieldLink RX0 9 "ExchangeDesk$Book" "entries" "[I", Cond.methodLink RX4 301 yX3_release, Cond.instanceMethod yX3_release, Cond.selects RX3 yX3_release yX3_release, Cond.initialized RX3, Cond.code yX3_release cX3_release 4 none, Cond.methodLink RX3 38 yX3_mark]
def wsX4_park_r3 : List Cond := [Cond.instanceMethod yX3_mark, Cond.selects RX3 yX3_mark yX3_mark, Cond.code yX3_mark cX3_mark 5 none, Cond.fieldLink RX3 11 "ExchangeDesk$Switch" "carried" "[[I", Cond.fieldLink RX3 22 "ExchangeDesk$Line" "number" "I", Cond.methodLink RX4 78 yX2_enter, Cond.instanceMethod yX2_enter, Cond.selects RX2 yX2_enter yX2_enter, Cond.initialized RX2, Cond.code yX2_enter cX2_enter 3 none, Cond.fieldLink RX2 9 "ExchangeDesk$Line" "state" "I", Cond.fieldLink RX2 15 "ExchangeDesk$Line" "since" "I", Cond.fieldLink RX2 18 "ExchangeDesk$Line" "other" "I", Cond.fieldLink RX2 21 "ExchangeDesk$Line" "slot" "I", Cond.fieldLink RX2 24 "ExchangeDesk$Line" "lateFor" "I", Cond.fieldLink RX2 33 "ExchangeDesk$Line" "pays" "Z"]
def wsX4_park : List Cond := .code yX4_park cX4_park 5 (some .int) :: ((wsX4_park_r1 ++ (wsX4_park_r2 ++ wsX4_park_r3)) ++ wsX20 ++ wsX40 ++ wsX00 ++ wsX30 ++ (vx_atS RX4 61 "java/lang/IllegalStateException" ["java/lang/RuntimeException", "java/lang/Exception"]).filter goodWord ++ (vx_atS RX4 209 "java/lang/IllegalArgumentException" ["java/lang/RuntimeException", "java/lang/Exception"]).filter goodWord)
def wsX4_transfer_r1 : List Cond := [Cond.classLink RX4 57 "java/lang/IllegalStateException", Cond.initialized "java/lang/IllegalStateException", Cond.fieldLink RX4 64 "ExchangeDesk$Line" "state" "I", Cond.methodLink RX4 49 yX4_lineOf, Cond.instanceMethod yX4_lineOf, Cond.selects RX4 yX4_lineOf yX4_lineOf, Cond.initialized RX4, Cond.code yX4_lineOf cX4_lineOf 2 (some (.object "ExchangeDesk$Line")), Cond.fieldLink RX4 11 "ExchangeDesk" "lines" "[LExchangeDesk$Line;", Cond.methodLink RX4 139 yX4_isLine, Cond.static yX4_isLine, Cond.code yX4_isLine cX4_isLine 1 (some .boolean), Cond.methodLink RX4 87 yX4_require, Cond.static yX4_require, Cond.code yX4_require cX4_require 1 none, Cond.classLink RX4 205 "java/lang/IllegalArgumentException", Cond.initialized "java/lang/IllegalArgumentException", Cond.methodLink RX4 111 yX4_endTalk, Cond.instanceMethod yX4_endTalk, Cond.selects RX4 yX4_endTalk yX4_endTalk, Cond.code yX4_endTalk cX4_endTalk 5 (some (.object "ExchangeDesk$Line")), Cond.fieldLink RX4 106 "ExchangeDesk$Line" "other" "I", Cond.fieldLink RX4 172 "ExchangeDesk$Line" "pays" "Z", Cond.fieldLink RX4 176 "ExchangeDesk$Line" "paid" "I"]
def wsX4_transfer_r2 : List Cond := [Cond.fieldLink RX4 45 "ExchangeDesk" "ended" "LExchangeDesk$Book;", Cond.fieldLink RX4 115 "ExchangeDesk$Line" "number" "I", Cond.fieldLink RX4 270 "ExchangeDesk$Line" "since" "I", Cond.fieldLink RX4 21 "ExchangeDesk" "paths" "LExchangeDesk$Switch;", Cond.fieldLink RX4 210 "ExchangeDesk$Line" "slot" "I", Cond.fieldLink RX4 75 "ExchangeDesk" "time" "I", Cond.methodLink RX4 179 yX4_unitsOf, Cond.instanceMethod yX4_unitsOf, Cond.selects RX4 yX4_unitsOf yX4_unitsOf, Cond.code yX4_unitsOf cX4_unitsOf 2 (some .int), Cond.methodLink RX4 297 yX0_write, Cond.instanceMethod yX0_write, Cond.selects RX0 yX0_write yX0_write, Cond.initialized RX0, Cond.code yX0_write cX0_write 6 none, Cond.fieldLink RX0 13 "ExchangeDesk$Book" "written" "I", Cond.fieldLink RX0 9 "ExchangeDesk$Book" "entries" "[I", Cond.methodLink RX4 301 yX3_release, Cond.instanceMethod yX3_release, Cond.selects RX3 yX3_release yX3_release, Cond.initialized RX3, Cond.code yX3_release cX3_release 4 none, Cond.methodLink RX3 38 yX3_mark, Cond.instanceMethod yX3_mark]
def wsX4_transfer_r3 : List Cond := [Cond.selects RX3 yX3_mark yX3_mark, Cond.code yX3_mark cX3_mark 5 none, Cond.fieldLink RX3 11 "ExchangeDesk$Switch" "carried" "[[I", Cond.fieldLink RX3 22 "ExchangeDesk$Line" "number" "I", Cond.methodLink RX4 78 yX2_enter, Cond.instanceMethod yX2_enter, Cond.selects RX2 yX2_enter yX2_enter, Cond.initialized RX2, Cond.code yX2_enter cX2_enter 3 none, Cond.fieldLink RX2 9 "ExchangeDesk$Line" "state" "I", Cond.fieldLink RX2 15 "ExchangeDesk$Line" "since" "I", Cond.fieldLink RX2 18 "ExchangeDesk$Line" "other" "I", Cond.fieldLink RX2 21 "ExchangeDesk$Line" "slot" "I", Cond.fieldLink RX2 24 "ExchangeDesk$Line" "lateFor" "I", Cond.fieldLink RX2 33 "ExchangeDesk$Line" "pays" "Z", Cond.methodLink RX4 94 yX4_call, Cond.instanceMethod yX4_call, Cond.selects RX4 yX4_call yX4_call, Cond.code yX4_call cX4_call 3 none, Cond.fieldLink RX4 27 "ExchangeDesk" "groups" "[LExchangeDesk$Group;", Cond.fieldLink RX4 182 "ExchangeDesk$Line" "rests" "Z", Cond.methodLink RX4 216 yX4_callLine, Cond.instanceMethod yX4_callLine, Cond.selects RX4 yX4_callLine yX4_callLine]
def wsX4_transfer_r4 : List Cond := [Cond.code yX4_callLine cX4_callLine 3 none, Cond.fieldLink RX4 98 "ExchangeDesk$Line" "lateFor" "I", Cond.methodLink RX4 230 yX4_ring, Cond.instanceMethod yX4_ring, Cond.selects RX4 yX4_ring yX4_ring, Cond.code yX4_ring cX4_ring 4 (some .boolean), Cond.methodLink RX4 277 yX3_take, Cond.instanceMethod yX3_take, Cond.selects RX3 yX3_take yX3_take, Cond.code yX3_take cX3_take 4 (some .int), Cond.methodLink RX3 32 Lib.Math.min.name, Cond.static Lib.Math.min.name, Cond.initialized "java/lang/Math", Cond.code Lib.Math.min.name Lib.Math.min.code 2 (some .int), Cond.methodLink RX3 28 yX3_lowestFree, Cond.instanceMethod yX3_lowestFree, Cond.selects RX3 yX3_lowestFree yX3_lowestFree, Cond.code yX3_lowestFree cX3_lowestFree 6 (some .int), Cond.methodLink RX4 234 yX4_block, Cond.instanceMethod yX4_block, Cond.selects RX4 yX4_block yX4_block, Cond.code yX4_block cX4_block 2 none, Cond.fieldLink RX4 185 "ExchangeDesk" "blocked" "I", Cond.methodLink RX4 220 yX4_callGroup]
def wsX4_transfer_r5 : List Cond := [Cond.instanceMethod yX4_callGroup, Cond.selects RX4 yX4_callGroup yX4_callGroup, Cond.code yX4_callGroup cX4_callGroup 4 none, Cond.fieldLink RX4 237 "ExchangeDesk$Group" "order" "I", Cond.methodLink RX4 240 yX4_ringAll, Cond.instanceMethod yX4_ringAll, Cond.selects RX4 yX4_ringAll yX4_ringAll, Cond.code yX4_ringAll cX4_ringAll 6 (some .boolean), Cond.fieldLink RX4 146 "ExchangeDesk$Group" "size" "I", Cond.fieldLink RX4 250 "ExchangeDesk$Group" "row" "[I", Cond.methodLink RX4 253 yX4_isWilling, Cond.static yX4_isWilling, Cond.code yX4_isWilling cX4_isWilling 2 (some .boolean), Cond.methodLink RX4 244 yX4_ringOne, Cond.instanceMethod yX4_ringOne, Cond.selects RX4 yX4_ringOne yX4_ringOne, Cond.code yX4_ringOne cX4_ringOne 4 (some .boolean), Cond.fieldLink RX4 263 "ExchangeDesk$Group" "last" "I", Cond.methodLink RX4 256 yX4_longestIdle, Cond.instanceMethod yX4_longestIdle, Cond.selects RX4 yX4_longestIdle yX4_longestIdle, Cond.code yX4_longestIdle cX4_longestIdle 7 (some .int), Cond.constant RX4 269 (2147483647), Cond.methodLink RX4 266 yX4_canTake]
def wsX4_transfer_r6 : List Cond := [Cond.instanceMethod yX4_canTake, Cond.selects RX4 yX4_canTake yX4_canTake, Cond.code yX4_canTake cX4_canTake 3 (some .boolean), Cond.methodLink RX4 273 yX3_lowestFree, Cond.methodLink RX4 260 yX4_firstToTake, Cond.instanceMethod yX4_firstToTake, Cond.selects RX4 yX4_firstToTake yX4_firstToTake, Cond.code yX4_firstToTake cX4_firstToTake 6 (some .int), Cond.methodLink RX4 247 yX4_hasWilling, Cond.instanceMethod yX4_hasWilling, Cond.selects RX4 yX4_hasWilling yX4_hasWilling, Cond.code yX4_hasWilling cX4_hasWilling 4 (some .boolean), Cond.methodLink RX4 224 yX4_pickUp, Cond.instanceMethod yX4_pickUp, Cond.selects RX4 yX4_pickUp yX4_pickUp, Cond.code yX4_pickUp cX4_pickUp 4 none, Cond.methodLink RX4 287 yX4_firstRinging, Cond.instanceMethod yX4_firstRinging, Cond.selects RX4 yX4_firstRinging yX4_firstRinging, Cond.code yX4_firstRinging cX4_firstRinging 6 (some (.object "ExchangeDesk$Line")), Cond.methodLink RX4 284 yX4_stopRinging, Cond.instanceMethod yX4_stopRinging, Cond.selects RX4 yX4_stopRinging yX4_stopRinging, Cond.code yX4_stopRinging cX4_stopRinging 4 none]
def wsX4_transfer_r7 : List Cond := [Cond.methodLink RX4 213 yX2_ringsFor, Cond.instanceMethod yX2_ringsFor, Cond.selects RX2 yX2_ringsFor yX2_ringsFor, Cond.code yX2_ringsFor cX2_ringsFor 2 (some .boolean), Cond.methodLink RX4 290 yX4_talkByNewPath, Cond.instanceMethod yX4_talkByNewPath, Cond.selects RX4 yX4_talkByNewPath yX4_talkByNewPath, Cond.code yX4_talkByNewPath cX4_talkByNewPath 4 (some .boolean), Cond.methodLink RX4 280 yX4_beginTalk, Cond.instanceMethod yX4_beginTalk, Cond.selects RX4 yX4_beginTalk yX4_beginTalk, Cond.code yX4_beginTalk cX4_beginTalk 4 none, Cond.methodLink RX4 293 yX2_talk, Cond.instanceMethod yX2_talk, Cond.selects RX2 yX2_talk yX2_talk, Cond.code yX2_talk cX2_talk 4 none, Cond.methodLink RX2 37 yX2_enter, Cond.methodLink RX4 227 yX4_takeParked, Cond.instanceMethod yX4_takeParked, Cond.selects RX4 yX4_takeParked yX4_takeParked, Cond.code yX4_takeParked cX4_takeParked 4 none, Cond.fieldLink RX4 32 "ExchangeDesk" "places" "[I", Cond.methodLink RX4 72 yX4_callFromCamps, Cond.instanceMethod yX4_callFromCamps]
def wsX4_transfer_r8 : List Cond := [Cond.selects RX4 yX4_callFromCamps yX4_callFromCamps, Cond.code yX4_callFromCamps cX4_callFromCamps 4 none, Cond.fieldLink RX4 101 "ExchangeDesk$Line" "camper" "I"]
def wsX4_transfer : List Cond := .code yX4_transfer cX4_transfer 5 (some .int) :: ((wsX4_transfer_r1 ++ (wsX4_transfer_r2 ++ (wsX4_transfer_r3 ++ (wsX4_transfer_r4 ++ (wsX4_transfer_r5 ++ (wsX4_transfer_r6 ++ (wsX4_transfer_r7 ++ wsX4_transfer_r8))))))) ++ wsX20 ++ wsX40 ++ wsX00 ++ wsX30 ++ wsX10 ++ (vx_atS RX4 61 "java/lang/IllegalStateException" ["java/lang/RuntimeException", "java/lang/Exception"]).filter goodWord ++ (vx_atS RX4 209 "java/lang/IllegalArgumentException" ["java/lang/RuntimeException", "java/lang/Exception"]).filter goodWord)
def wsX4_earliestDue : List Cond := .code yX4_earliestDue cX4_earliestDue 3 (some .int) :: ([.constant RX4 269 (2147483647), .fieldLink RX4 11 "ExchangeDesk" "lines" "[LExchangeDesk$Line;", .methodLink RX4 130 Lib.Math.min.name, .static Lib.Math.min.name, .initialized "java/lang/Math", .code Lib.Math.min.name Lib.Math.min.code 2 (some .int), .methodLink RX4 304 yX2_due, .instanceMethod yX2_due, .selects RX2 yX2_due yX2_due, .initialized RX2, .code yX2_due cX2_due 1 (some .int), .fieldLink RX2 9 "ExchangeDesk$Line" "state" "I", .fieldLink RX2 15 "ExchangeDesk$Line" "since" "I", .constant RX2 41 (2147483647)] ++ wsX40 ++ wsX20)
def wsX4_runOut_r1 : List Cond := [Cond.fieldLink RX4 64 "ExchangeDesk$Line" "state" "I", Cond.fieldLink RX4 75 "ExchangeDesk" "time" "I", Cond.methodLink RX4 78 yX2_enter, Cond.instanceMethod yX2_enter, Cond.selects RX2 yX2_enter yX2_enter, Cond.initialized RX2, Cond.code yX2_enter cX2_enter 3 none, Cond.fieldLink RX2 9 "ExchangeDesk$Line" "state" "I", Cond.fieldLink RX2 15 "ExchangeDesk$Line" "since" "I", Cond.fieldLink RX2 18 "ExchangeDesk$Line" "other" "I", Cond.fieldLink RX2 21 "ExchangeDesk$Line" "slot" "I", Cond.fieldLink RX2 24 "ExchangeDesk$Line" "lateFor" "I", Cond.fieldLink RX2 33 "ExchangeDesk$Line" "pays" "Z", Cond.methodLink RX4 84 yX4_leave, Cond.instanceMethod yX4_leave, Cond.selects RX4 yX4_leave yX4_leave, Cond.initialized RX4, Cond.code yX4_leave cX4_leave 2 none, Cond.fieldLink RX4 32 "ExchangeDesk" "places" "[I", Cond.fieldLink RX4 106 "ExchangeDesk$Line" "other" "I", Cond.fieldLink RX4 11 "ExchangeDesk" "lines" "[LExchangeDesk$Line;", Cond.fieldLink RX4 101 "ExchangeDesk$Line" "camper" "I", Cond.methodLink RX4 111 yX4_endTalk, Cond.instanceMethod yX4_endTalk]
def wsX4_runOut_r2 : List Cond := [Cond.selects RX4 yX4_endTalk yX4_endTalk, Cond.code yX4_endTalk cX4_endTalk 5 (some (.object "ExchangeDesk$Line")), Cond.fieldLink RX4 172 "ExchangeDesk$Line" "pays" "Z", Cond.fieldLink RX4 176 "ExchangeDesk$Line" "paid" "I", Cond.fieldLink RX4 45 "ExchangeDesk" "ended" "LExchangeDesk$Book;", Cond.fieldLink RX4 115 "ExchangeDesk$Line" "number" "I", Cond.fieldLink RX4 270 "ExchangeDesk$Line" "since" "I", Cond.fieldLink RX4 21 "ExchangeDesk" "paths" "LExchangeDesk$Switch;", Cond.fieldLink RX4 210 "ExchangeDesk$Line" "slot" "I", Cond.methodLink RX4 179 yX4_unitsOf, Cond.instanceMethod yX4_unitsOf, Cond.selects RX4 yX4_unitsOf yX4_unitsOf, Cond.code yX4_unitsOf cX4_unitsOf 2 (some .int), Cond.methodLink RX4 297 yX0_write, Cond.instanceMethod yX0_write, Cond.selects RX0 yX0_write yX0_write, Cond.initialized RX0, Cond.code yX0_write cX0_write 6 none, Cond.fieldLink RX0 13 "ExchangeDesk$Book" "written" "I", Cond.fieldLink RX0 9 "ExchangeDesk$Book" "entries" "[I", Cond.methodLink RX4 301 yX3_release, Cond.instanceMethod yX3_release, Cond.selects RX3 yX3_release yX3_release, Cond.initialized RX3]
def wsX4_runOut_r3 : List Cond := [Cond.code yX3_release cX3_release 4 none, Cond.methodLink RX3 38 yX3_mark, Cond.instanceMethod yX3_mark, Cond.selects RX3 yX3_mark yX3_mark, Cond.code yX3_mark cX3_mark 5 none, Cond.fieldLink RX3 11 "ExchangeDesk$Switch" "carried" "[[I", Cond.fieldLink RX3 22 "ExchangeDesk$Line" "number" "I", Cond.methodLink RX4 284 yX4_stopRinging, Cond.instanceMethod yX4_stopRinging, Cond.selects RX4 yX4_stopRinging yX4_stopRinging, Cond.code yX4_stopRinging cX4_stopRinging 4 none, Cond.methodLink RX4 213 yX2_ringsFor, Cond.instanceMethod yX2_ringsFor, Cond.selects RX2 yX2_ringsFor yX2_ringsFor, Cond.code yX2_ringsFor cX2_ringsFor 2 (some .boolean)]
def wsX4_runOut : List Cond := .code yX4_runOut cX4_runOut 2 none :: ((wsX4_runOut_r1 ++ (wsX4_runOut_r2 ++ wsX4_runOut_r3)) ++ wsX20 ++ wsX40 ++ wsX00 ++ wsX30)
def wsX4_lookAtTimers_r1 : List Cond := [Cond.fieldLink RX4 11 "ExchangeDesk" "lines" "[LExchangeDesk$Line;", Cond.fieldLink RX4 75 "ExchangeDesk" "time" "I", Cond.methodLink RX4 304 yX2_due, Cond.instanceMethod yX2_due, Cond.selects RX2 yX2_due yX2_due, Cond.initialized RX2, Cond.code yX2_due cX2_due 1 (some .int), Cond.fieldLink RX2 9 "ExchangeDesk$Line" "state" "I", Cond.fieldLink RX2 15 "ExchangeDesk$Line" "since" "I", Cond.constant RX2 41 (2147483647), Cond.methodLink RX4 307 yX4_runOut, Cond.instanceMethod yX4_runOut, Cond.selects RX4 yX4_runOut yX4_runOut, Cond.initialized RX4, Cond.code yX4_runOut cX4_runOut 2 none, Cond.fieldLink RX4 64 "ExchangeDesk$Line" "state" "I", Cond.methodLink RX4 78 yX2_enter, Cond.instanceMethod yX2_enter, Cond.selects RX2 yX2_enter yX2_enter, Cond.code yX2_enter cX2_enter 3 none, Cond.fieldLink RX2 18 "ExchangeDesk$Line" "other" "I", Cond.fieldLink RX2 21 "ExchangeDesk$Line" "slot" "I", Cond.fieldLink RX2 24 "ExchangeDesk$Line" "lateFor" "I", Cond.fieldLink RX2 33 "ExchangeDesk$Line" "pays" "Z"]
def wsX4_lookAtTimers_r2 : List Cond := [Cond.methodLink RX4 84 yX4_leave, Cond.instanceMethod yX4_leave, Cond.selects RX4 yX4_leave yX4_leave, Cond.code yX4_leave cX4_leave 2 none, Cond.fieldLink RX4 32 "ExchangeDesk" "places" "[I", Cond.fieldLink RX4 106 "ExchangeDesk$Line" "other" "I", Cond.fieldLink RX4 101 "ExchangeDesk$Line" "camper" "I", Cond.methodLink RX4 111 yX4_endTalk, Cond.instanceMethod yX4_endTalk, Cond.selects RX4 yX4_endTalk yX4_endTalk, Cond.code yX4_endTalk cX4_endTalk 5 (some (.object "ExchangeDesk$Line")), Cond.fieldLink RX4 172 "ExchangeDesk$Line" "pays" "Z", Cond.fieldLink RX4 176 "ExchangeDesk$Line" "paid" "I", Cond.fieldLink RX4 45 "ExchangeDesk" "ended" "LExchangeDesk$Book;", Cond.fieldLink RX4 115 "ExchangeDesk$Line" "number" "I", Cond.fieldLink RX4 270 "ExchangeDesk$Line" "since" "I", Cond.fieldLink RX4 21 "ExchangeDesk" "paths" "LExchangeDesk$Switch;", Cond.fieldLink RX4 210 "ExchangeDesk$Line" "slot" "I", Cond.methodLink RX4 179 yX4_unitsOf, Cond.instanceMethod yX4_unitsOf, Cond.selects RX4 yX4_unitsOf yX4_unitsOf, Cond.code yX4_unitsOf cX4_unitsOf 2 (some .int), Cond.methodLink RX4 297 yX0_write, Cond.instanceMethod yX0_write]
def wsX4_lookAtTimers_r3 : List Cond := [Cond.selects RX0 yX0_write yX0_write, Cond.initialized RX0, Cond.code yX0_write cX0_write 6 none, Cond.fieldLink RX0 13 "ExchangeDesk$Book" "written" "I", Cond.fieldLink RX0 9 "ExchangeDesk$Book" "entries" "[I", Cond.methodLink RX4 301 yX3_release, Cond.instanceMethod yX3_release, Cond.selects RX3 yX3_release yX3_release, Cond.initialized RX3, Cond.code yX3_release cX3_release 4 none, Cond.methodLink RX3 38 yX3_mark, Cond.instanceMethod yX3_mark, Cond.selects RX3 yX3_mark yX3_mark, Cond.code yX3_mark cX3_mark 5 none, Cond.fieldLink RX3 11 "ExchangeDesk$Switch" "carried" "[[I", Cond.fieldLink RX3 22 "ExchangeDesk$Line" "number" "I", Cond.methodLink RX4 284 yX4_stopRinging, Cond.instanceMethod yX4_stopRinging, Cond.selects RX4 yX4_stopRinging yX4_stopRinging, Cond.code yX4_stopRinging cX4_stopRinging 4 none, Cond.methodLink RX4 213 yX2_ringsFor, Cond.instanceMethod yX2_ringsFor, Cond.selects RX2 yX2_ringsFor yX2_ringsFor, Cond.code yX2_ringsFor cX2_ringsFor 2 (some .boolean)]
def wsX4_lookAtTimers_r4 : List Cond := [Cond.methodLink RX4 72 yX4_callFromCamps, Cond.instanceMethod yX4_callFromCamps, Cond.selects RX4 yX4_callFromCamps yX4_callFromCamps, Cond.code yX4_callFromCamps cX4_callFromCamps 4 none, Cond.methodLink RX4 216 yX4_callLine, Cond.instanceMethod yX4_callLine, Cond.selects RX4 yX4_callLine yX4_callLine, Cond.code yX4_callLine cX4_callLine 3 none, Cond.fieldLink RX4 182 "ExchangeDesk$Line" "rests" "Z", Cond.fieldLink RX4 98 "ExchangeDesk$Line" "lateFor" "I", Cond.methodLink RX4 230 yX4_ring, Cond.instanceMethod yX4_ring, Cond.selects RX4 yX4_ring yX4_ring, Cond.code yX4_ring cX4_ring 4 (some .boolean), Cond.methodLink RX4 277 yX3_take, Cond.instanceMethod yX3_take, Cond.selects RX3 yX3_take yX3_take, Cond.code yX3_take cX3_take 4 (some .int), Cond.methodLink RX3 32 Lib.Math.min.name, Cond.static Lib.Math.min.name, Cond.initialized "java/lang/Math", Cond.code Lib.Math.min.name Lib.Math.min.code 2 (some .int), Cond.methodLink RX3 28 yX3_lowestFree, Cond.instanceMethod yX3_lowestFree]
def wsX4_lookAtTimers_r5 : List Cond := [Cond.selects RX3 yX3_lowestFree yX3_lowestFree, Cond.code yX3_lowestFree cX3_lowestFree 6 (some .int), Cond.methodLink RX4 234 yX4_block, Cond.instanceMethod yX4_block, Cond.selects RX4 yX4_block yX4_block, Cond.code yX4_block cX4_block 2 none, Cond.fieldLink RX4 185 "ExchangeDesk" "blocked" "I"]
def wsX4_lookAtTimers : List Cond := .code yX4_lookAtTimers cX4_lookAtTimers 2 none :: ((wsX4_lookAtTimers_r1 ++ (wsX4_lookAtTimers_r2 ++ (wsX4_lookAtTimers_r3 ++ (wsX4_lookAtTimers_r4 ++ wsX4_lookAtTimers_r5)))) ++ wsX40 ++ wsX20 ++ wsX00 ++ wsX30)
def wsX4_tick_r1 : List Cond := [Cond.fieldLink RX4 75 "ExchangeDesk" "time" "I", Cond.methodLink RX4 124 Lib.Math.max.name, Cond.static Lib.Math.max.name, Cond.initialized "java/lang/Math", Cond.code Lib.Math.max.name Lib.Math.max.code 2 (some .int), Cond.methodLink RX4 130 Lib.Math.min.name, Cond.static Lib.Math.min.name, Cond.code Lib.Math.min.name Lib.Math.min.code 2 (some .int), Cond.methodLink RX4 87 yX4_require, Cond.static yX4_require, Cond.initialized RX4, Cond.code yX4_require cX4_require 1 none, Cond.classLink RX4 205 "java/lang/IllegalArgumentException", Cond.initialized "java/lang/IllegalArgumentException", Cond.methodLink RX4 120 yX4_earliestDue, Cond.instanceMethod yX4_earliestDue, Cond.selects RX4 yX4_earliestDue yX4_earliestDue, Cond.code yX4_earliestDue cX4_earliestDue 3 (some .int), Cond.constant RX4 269 (2147483647), Cond.fieldLink RX4 11 "ExchangeDesk" "lines" "[LExchangeDesk$Line;", Cond.methodLink RX4 304 yX2_due, Cond.instanceMethod yX2_due, Cond.selects RX2 yX2_due yX2_due, Cond.initialized RX2]
def wsX4_tick_r2 : List Cond := [Cond.code yX2_due cX2_due 1 (some .int), Cond.fieldLink RX2 9 "ExchangeDesk$Line" "state" "I", Cond.fieldLink RX2 15 "ExchangeDesk$Line" "since" "I", Cond.constant RX2 41 (2147483647), Cond.methodLink RX4 133 yX4_lookAtTimers, Cond.instanceMethod yX4_lookAtTimers, Cond.selects RX4 yX4_lookAtTimers yX4_lookAtTimers, Cond.code yX4_lookAtTimers cX4_lookAtTimers 2 none, Cond.methodLink RX4 307 yX4_runOut, Cond.instanceMethod yX4_runOut, Cond.selects RX4 yX4_runOut yX4_runOut, Cond.code yX4_runOut cX4_runOut 2 none, Cond.fieldLink RX4 64 "ExchangeDesk$Line" "state" "I", Cond.methodLink RX4 78 yX2_enter, Cond.instanceMethod yX2_enter, Cond.selects RX2 yX2_enter yX2_enter, Cond.code yX2_enter cX2_enter 3 none, Cond.fieldLink RX2 18 "ExchangeDesk$Line" "other" "I", Cond.fieldLink RX2 21 "ExchangeDesk$Line" "slot" "I", Cond.fieldLink RX2 24 "ExchangeDesk$Line" "lateFor" "I", Cond.fieldLink RX2 33 "ExchangeDesk$Line" "pays" "Z", Cond.methodLink RX4 84 yX4_leave, Cond.instanceMethod yX4_leave, Cond.selects RX4 yX4_leave yX4_leave]
def wsX4_tick_r3 : List Cond := [Cond.code yX4_leave cX4_leave 2 none, Cond.fieldLink RX4 32 "ExchangeDesk" "places" "[I", Cond.fieldLink RX4 106 "ExchangeDesk$Line" "other" "I", Cond.fieldLink RX4 101 "ExchangeDesk$Line" "camper" "I", Cond.methodLink RX4 111 yX4_endTalk, Cond.instanceMethod yX4_endTalk, Cond.selects RX4 yX4_endTalk yX4_endTalk, Cond.code yX4_endTalk cX4_endTalk 5 (some (.object "ExchangeDesk$Line")), Cond.fieldLink RX4 172 "ExchangeDesk$Line" "pays" "Z", Cond.fieldLink RX4 176 "ExchangeDesk$Line" "paid" "I", Cond.fieldLink RX4 45 "ExchangeDesk" "ended" "LExchangeDesk$Book;", Cond.fieldLink RX4 115 "ExchangeDesk$Line" "number" "I", Cond.fieldLink RX4 270 "ExchangeDesk$Line" "since" "I", Cond.fieldLink RX4 21 "ExchangeDesk" "paths" "LExchangeDesk$Switch;", Cond.fieldLink RX4 210 "ExchangeDesk$Line" "slot" "I", Cond.methodLink RX4 179 yX4_unitsOf, Cond.instanceMethod yX4_unitsOf, Cond.selects RX4 yX4_unitsOf yX4_unitsOf, Cond.code yX4_unitsOf cX4_unitsOf 2 (some .int), Cond.methodLink RX4 297 yX0_write, Cond.instanceMethod yX0_write, Cond.selects RX0 yX0_write yX0_write, Cond.initialized RX0, Cond.code yX0_write cX0_write 6 none]
def wsX4_tick_r4 : List Cond := [Cond.fieldLink RX0 13 "ExchangeDesk$Book" "written" "I", Cond.fieldLink RX0 9 "ExchangeDesk$Book" "entries" "[I", Cond.methodLink RX4 301 yX3_release, Cond.instanceMethod yX3_release, Cond.selects RX3 yX3_release yX3_release, Cond.initialized RX3, Cond.code yX3_release cX3_release 4 none, Cond.methodLink RX3 38 yX3_mark, Cond.instanceMethod yX3_mark, Cond.selects RX3 yX3_mark yX3_mark, Cond.code yX3_mark cX3_mark 5 none, Cond.fieldLink RX3 11 "ExchangeDesk$Switch" "carried" "[[I", Cond.fieldLink RX3 22 "ExchangeDesk$Line" "number" "I", Cond.methodLink RX4 284 yX4_stopRinging, Cond.instanceMethod yX4_stopRinging, Cond.selects RX4 yX4_stopRinging yX4_stopRinging, Cond.code yX4_stopRinging cX4_stopRinging 4 none, Cond.methodLink RX4 213 yX2_ringsFor, Cond.instanceMethod yX2_ringsFor, Cond.selects RX2 yX2_ringsFor yX2_ringsFor, Cond.code yX2_ringsFor cX2_ringsFor 2 (some .boolean), Cond.methodLink RX4 72 yX4_callFromCamps, Cond.instanceMethod yX4_callFromCamps, Cond.selects RX4 yX4_callFromCamps yX4_callFromCamps]
def wsX4_tick_r5 : List Cond := [Cond.code yX4_callFromCamps cX4_callFromCamps 4 none, Cond.methodLink RX4 216 yX4_callLine, Cond.instanceMethod yX4_callLine, Cond.selects RX4 yX4_callLine yX4_callLine, Cond.code yX4_callLine cX4_callLine 3 none, Cond.fieldLink RX4 182 "ExchangeDesk$Line" "rests" "Z", Cond.fieldLink RX4 98 "ExchangeDesk$Line" "lateFor" "I", Cond.methodLink RX4 230 yX4_ring, Cond.instanceMethod yX4_ring, Cond.selects RX4 yX4_ring yX4_ring, Cond.code yX4_ring cX4_ring 4 (some .boolean), Cond.methodLink RX4 277 yX3_take, Cond.instanceMethod yX3_take, Cond.selects RX3 yX3_take yX3_take, Cond.code yX3_take cX3_take 4 (some .int), Cond.methodLink RX3 32 Lib.Math.min.name, Cond.methodLink RX3 28 yX3_lowestFree, Cond.instanceMethod yX3_lowestFree, Cond.selects RX3 yX3_lowestFree yX3_lowestFree, Cond.code yX3_lowestFree cX3_lowestFree 6 (some .int), Cond.methodLink RX4 234 yX4_block, Cond.instanceMethod yX4_block, Cond.selects RX4 yX4_block yX4_block, Cond.code yX4_block cX4_block 2 none]
def wsX4_tick_r6 : List Cond := [Cond.fieldLink RX4 185 "ExchangeDesk" "blocked" "I"]
def wsX4_tick : List Cond := .code yX4_tick cX4_tick 4 (some .int) :: ((wsX4_tick_r1 ++ (wsX4_tick_r2 ++ (wsX4_tick_r3 ++ (wsX4_tick_r4 ++ (wsX4_tick_r5 ++ wsX4_tick_r6))))) ++ wsX40 ++ wsX20 ++ wsX00 ++ wsX30 ++ (vx_atS RX4 209 "java/lang/IllegalArgumentException" ["java/lang/RuntimeException", "java/lang/Exception"]).filter goodWord)
def wsX4_group_r1 : List Cond := [Cond.classLink RX4 57 "java/lang/IllegalStateException", Cond.initialized "java/lang/IllegalStateException", Cond.fieldLink RX4 27 "ExchangeDesk" "groups" "[LExchangeDesk$Group;", Cond.fieldLink RX4 146 "ExchangeDesk$Group" "size" "I", Cond.methodLink RX4 87 yX4_require, Cond.static yX4_require, Cond.initialized RX4, Cond.code yX4_require cX4_require 1 none, Cond.classLink RX4 205 "java/lang/IllegalArgumentException", Cond.initialized "java/lang/IllegalArgumentException", Cond.methodLink RX4 136 yX1_restart, Cond.instanceMethod yX1_restart, Cond.selects RX1 yX1_restart yX1_restart, Cond.initialized RX1, Cond.code yX1_restart cX1_restart 2 none, Cond.fieldLink RX1 22 "ExchangeDesk$Group" "size" "I", Cond.fieldLink RX1 15 "ExchangeDesk$Group" "order" "I", Cond.fieldLink RX1 19 "ExchangeDesk$Group" "last" "I", Cond.methodLink RX4 139 yX4_isLine, Cond.static yX4_isLine, Cond.code yX4_isLine cX4_isLine 1 (some .boolean), Cond.methodLink RX4 143 yX1_has, Cond.instanceMethod yX1_has, Cond.selects RX1 yX1_has yX1_has]
def wsX4_group_r2 : List Cond := [Cond.code yX1_has cX1_has 3 (some .boolean), Cond.fieldLink RX1 9 "ExchangeDesk$Group" "row" "[I", Cond.methodLink RX4 151 yX1_add, Cond.instanceMethod yX1_add, Cond.selects RX1 yX1_add yX1_add, Cond.code yX1_add cX1_add 2 none]
def wsX4_group : List Cond := .code yX4_group cX4_group 5 (some .int) :: ((wsX4_group_r1 ++ wsX4_group_r2) ++ wsX40 ++ wsX10 ++ (vx_atS RX4 61 "java/lang/IllegalStateException" ["java/lang/RuntimeException", "java/lang/Exception"]).filter goodWord ++ (vx_atS RX4 209 "java/lang/IllegalArgumentException" ["java/lang/RuntimeException", "java/lang/Exception"]).filter goodWord)
def wsX4_isSlot : List Cond := .code yX4_isSlot cX4_isSlot 2 (some .boolean) :: ([])
def wsX4_slot : List Cond := .code yX4_slot cX4_slot 4 none :: ([.classLink RX4 57 "java/lang/IllegalStateException", .initialized "java/lang/IllegalStateException", .fieldLink RX4 21 "ExchangeDesk" "paths" "LExchangeDesk$Switch;", .fieldLink RX4 158 "ExchangeDesk$Switch" "carried" "[[I", .methodLink RX4 154 yX4_isSlot, .static yX4_isSlot, .initialized RX4, .code yX4_isSlot cX4_isSlot 2 (some .boolean), .methodLink RX4 87 yX4_require, .static yX4_require, .code yX4_require cX4_require 1 none, .classLink RX4 205 "java/lang/IllegalArgumentException", .initialized "java/lang/IllegalArgumentException"] ++ wsX40 ++ wsX30 ++ (vx_atS RX4 61 "java/lang/IllegalStateException" ["java/lang/RuntimeException", "java/lang/Exception"]).filter goodWord ++ (vx_atS RX4 209 "java/lang/IllegalArgumentException" ["java/lang/RuntimeException", "java/lang/Exception"]).filter goodWord)
def wsX4_carries : List Cond := .code yX4_carries cX4_carries 3 (some .int) :: ([.fieldLink RX4 21 "ExchangeDesk" "paths" "LExchangeDesk$Switch;", .fieldLink RX4 158 "ExchangeDesk$Switch" "carried" "[[I", .methodLink RX4 154 yX4_isSlot, .static yX4_isSlot, .initialized RX4, .code yX4_isSlot cX4_isSlot 2 (some .boolean), .methodLink RX4 87 yX4_require, .static yX4_require, .code yX4_require cX4_require 1 none, .classLink RX4 205 "java/lang/IllegalArgumentException", .initialized "java/lang/IllegalArgumentException"] ++ wsX40 ++ wsX30 ++ (vx_atS RX4 209 "java/lang/IllegalArgumentException" ["java/lang/RuntimeException", "java/lang/Exception"]).filter goodWord)
def wsX4_lowestRinging : List Cond := .code yX4_lowestRinging cX4_lowestRinging 3 (some .int) :: ([.fieldLink RX4 11 "ExchangeDesk" "lines" "[LExchangeDesk$Line;", .methodLink RX4 213 yX2_ringsFor, .instanceMethod yX2_ringsFor, .selects RX2 yX2_ringsFor yX2_ringsFor, .initialized RX2, .code yX2_ringsFor cX2_ringsFor 2 (some .boolean), .fieldLink RX2 9 "ExchangeDesk$Line" "state" "I", .fieldLink RX2 18 "ExchangeDesk$Line" "other" "I"] ++ wsX40 ++ wsX20)
def wsX4_slotOf : List Cond := .code yX4_slotOf cX4_slotOf 3 (some .int) :: ([.fieldLink RX4 64 "ExchangeDesk$Line" "state" "I", .fieldLink RX4 210 "ExchangeDesk$Line" "slot" "I", .fieldLink RX4 115 "ExchangeDesk$Line" "number" "I", .fieldLink RX4 11 "ExchangeDesk" "lines" "[LExchangeDesk$Line;", .methodLink RX4 164 yX4_lowestRinging, .instanceMethod yX4_lowestRinging, .selects RX4 yX4_lowestRinging yX4_lowestRinging, .initialized RX4, .code yX4_lowestRinging cX4_lowestRinging 3 (some .int), .methodLink RX4 213 yX2_ringsFor, .instanceMethod yX2_ringsFor, .selects RX2 yX2_ringsFor yX2_ringsFor, .initialized RX2, .code yX2_ringsFor cX2_ringsFor 2 (some .boolean), .fieldLink RX2 9 "ExchangeDesk$Line" "state" "I", .fieldLink RX2 18 "ExchangeDesk$Line" "other" "I"] ++ wsX20 ++ wsX40)
def wsX4_line_r1 : List Cond := [Cond.fieldLink RX4 64 "ExchangeDesk$Line" "state" "I", Cond.fieldLink RX4 106 "ExchangeDesk$Line" "other" "I", Cond.fieldLink RX4 172 "ExchangeDesk$Line" "pays" "Z", Cond.fieldLink RX4 176 "ExchangeDesk$Line" "paid" "I", Cond.fieldLink RX4 182 "ExchangeDesk$Line" "rests" "Z", Cond.fieldLink RX4 101 "ExchangeDesk$Line" "camper" "I", Cond.methodLink RX4 49 yX4_lineOf, Cond.instanceMethod yX4_lineOf, Cond.selects RX4 yX4_lineOf yX4_lineOf, Cond.initialized RX4, Cond.code yX4_lineOf cX4_lineOf 2 (some (.object "ExchangeDesk$Line")), Cond.fieldLink RX4 11 "ExchangeDesk" "lines" "[LExchangeDesk$Line;", Cond.methodLink RX4 139 yX4_isLine, Cond.static yX4_isLine, Cond.code yX4_isLine cX4_isLine 1 (some .boolean), Cond.methodLink RX4 87 yX4_require, Cond.static yX4_require, Cond.code yX4_require cX4_require 1 none, Cond.classLink RX4 205 "java/lang/IllegalArgumentException", Cond.initialized "java/lang/IllegalArgumentException", Cond.methodLink RX4 164 yX4_lowestRinging, Cond.instanceMethod yX4_lowestRinging, Cond.selects RX4 yX4_lowestRinging yX4_lowestRinging, Cond.code yX4_lowestRinging cX4_lowestRinging 3 (some .int)]
def wsX4_line_r2 : List Cond := [Cond.methodLink RX4 213 yX2_ringsFor, Cond.instanceMethod yX2_ringsFor, Cond.selects RX2 yX2_ringsFor yX2_ringsFor, Cond.initialized RX2, Cond.code yX2_ringsFor cX2_ringsFor 2 (some .boolean), Cond.fieldLink RX2 9 "ExchangeDesk$Line" "state" "I", Cond.fieldLink RX2 18 "ExchangeDesk$Line" "other" "I", Cond.methodLink RX4 168 yX4_slotOf, Cond.instanceMethod yX4_slotOf, Cond.selects RX4 yX4_slotOf yX4_slotOf, Cond.code yX4_slotOf cX4_slotOf 3 (some .int), Cond.fieldLink RX4 210 "ExchangeDesk$Line" "slot" "I", Cond.fieldLink RX4 115 "ExchangeDesk$Line" "number" "I", Cond.methodLink RX4 179 yX4_unitsOf, Cond.instanceMethod yX4_unitsOf, Cond.selects RX4 yX4_unitsOf yX4_unitsOf, Cond.code yX4_unitsOf cX4_unitsOf 2 (some .int), Cond.fieldLink RX4 75 "ExchangeDesk" "time" "I", Cond.fieldLink RX4 270 "ExchangeDesk$Line" "since" "I"]
def wsX4_line : List Cond := .code yX4_line cX4_line 4 (some .int) :: ((wsX4_line_r1 ++ wsX4_line_r2) ++ wsX20 ++ wsX40 ++ (vx_atS RX4 209 "java/lang/IllegalArgumentException" ["java/lang/RuntimeException", "java/lang/Exception"]).filter goodWord)
def wsX4_count : List Cond := .code yX4_count cX4_count 2 (some .int) :: ([.fieldLink RX4 185 "ExchangeDesk" "blocked" "I", .fieldLink RX4 45 "ExchangeDesk" "ended" "LExchangeDesk$Book;", .fieldLink RX4 188 "ExchangeDesk$Book" "written" "I", .fieldLink RX4 21 "ExchangeDesk" "paths" "LExchangeDesk$Switch;", .methodLink RX4 87 yX4_require, .static yX4_require, .initialized RX4, .code yX4_require cX4_require 1 none, .classLink RX4 205 "java/lang/IllegalArgumentException", .initialized "java/lang/IllegalArgumentException", .methodLink RX4 191 yX3_slotsInUse, .instanceMethod yX3_slotsInUse, .selects RX3 yX3_slotsInUse yX3_slotsInUse, .initialized RX3, .code yX3_slotsInUse cX3_slotsInUse 4 (some .int), .fieldLink RX3 11 "ExchangeDesk$Switch" "carried" "[[I"] ++ wsX40 ++ wsX00 ++ wsX30 ++ (vx_atS RX4 209 "java/lang/IllegalArgumentException" ["java/lang/RuntimeException", "java/lang/Exception"]).filter goodWord)
def wsX4_book : List Cond := .code yX4_book cX4_book 3 (some .int) :: ([.classLink RX4 197 "java/lang/IndexOutOfBoundsException", .initialized "java/lang/IndexOutOfBoundsException", .fieldLink RX4 45 "ExchangeDesk" "ended" "LExchangeDesk$Book;", .methodLink RX4 87 yX4_require, .static yX4_require, .initialized RX4, .code yX4_require cX4_require 1 none, .classLink RX4 205 "java/lang/IllegalArgumentException", .initialized "java/lang/IllegalArgumentException", .methodLink RX4 194 yX0_keeps, .instanceMethod yX0_keeps, .selects RX0 yX0_keeps yX0_keeps, .initialized RX0, .code yX0_keeps cX0_keeps 2 (some .boolean), .fieldLink RX0 13 "ExchangeDesk$Book" "written" "I", .methodLink RX4 202 yX0_read, .instanceMethod yX0_read, .selects RX0 yX0_read yX0_read, .code yX0_read cX0_read 3 (some .int), .fieldLink RX0 9 "ExchangeDesk$Book" "entries" "[I"] ++ wsX40 ++ wsX00 ++ (vx_atS RX4 201 "java/lang/IndexOutOfBoundsException" ["java/lang/RuntimeException", "java/lang/Exception"]).filter goodWord ++ (vx_atS RX4 209 "java/lang/IllegalArgumentException" ["java/lang/RuntimeException", "java/lang/Exception"]).filter goodWord)
def wsX5_init_r1 : List Cond := [Cond.methodLink RX5 1 objectInit, Cond.instanceMethod objectInit, Cond.code objectInit ⟨#[0xb1]⟩ 1 none, Cond.arrayClass .int, Cond.fieldLink RX5 7 "ExchangeDeskModel" "state" "[I", Cond.fieldLink RX5 13 "ExchangeDeskModel" "since" "[I", Cond.fieldLink RX5 16 "ExchangeDeskModel" "idleSince" "[I", Cond.fieldLink RX5 19 "ExchangeDeskModel" "digits" "[I", Cond.fieldLink RX5 22 "ExchangeDeskModel" "other" "[I", Cond.fieldLink RX5 25 "ExchangeDeskModel" "slotOf" "[I", Cond.fieldLink RX5 28 "ExchangeDeskModel" "rank" "[I", Cond.fieldLink RX5 31 "ExchangeDeskModel" "late" "[I", Cond.arrayClass .boolean, Cond.fieldLink RX5 34 "ExchangeDeskModel" "quiet" "[Z", Cond.fieldLink RX5 38 "ExchangeDeskModel" "paid" "[I", Cond.fieldLink RX5 41 "ExchangeDeskModel" "pays" "[Z", Cond.fieldLink RX5 44 "ExchangeDeskModel" "begun" "[I", Cond.fieldLink RX5 47 "ExchangeDeskModel" "camper" "[I", Cond.fieldLink RX5 50 "ExchangeDeskModel" "parked" "[I", Cond.fieldLink RX5 53 "ExchangeDeskModel" "slots" "[I", Cond.fieldLink RX5 56 "ExchangeDeskModel" "members" "[I", Cond.fieldLink RX5 59 "ExchangeDeskModel" "many" "[I", Cond.fieldLink RX5 62 "ExchangeDeskModel" "orders" "[I", Cond.fieldLink RX5 65 "ExchangeDeskModel" "taken" "[I"]
def wsX5_init_r2 : List Cond := [Cond.fieldLink RX5 68 "ExchangeDeskModel" "entry" "[I"]
def wsX5_init : List Cond := .code yX5_init cX5_init 2 none :: ((wsX5_init_r1 ++ wsX5_init_r2) ++ wsX50)
def wsX5_thrown : List Cond := .code yX5_thrown cX5_thrown 1 (some .int) :: ([.fieldLink RX5 71 "ExchangeDeskModel" "thrown" "I"] ++ wsX50)
def wsX5_throwing : List Cond := .code yX5_throwing cX5_throwing 3 (some .boolean) :: ([.fieldLink RX5 71 "ExchangeDeskModel" "thrown" "I"] ++ wsX50)
def wsX5_in : List Cond := .code yX5_in cX5_in 3 (some .boolean) :: ([])
def wsX5_isLine : List Cond := .code yX5_isLine cX5_isLine 1 (some .boolean) :: ([.methodLink RX5 75 yX5_in, .static yX5_in, .initialized RX5, .code yX5_in cX5_in 3 (some .boolean)])
def wsX5_free : List Cond := .code yX5_free cX5_free 4 (some .int) :: ([.fieldLink RX5 53 "ExchangeDeskModel" "slots" "[I"] ++ wsX50)
def wsX5_use : List Cond := .code yX5_use cX5_use 5 none :: ([.fieldLink RX5 53 "ExchangeDeskModel" "slots" "[I"] ++ wsX50)
def wsX5_take : List Cond := .code yX5_take cX5_take 4 (some .int) :: ([.methodLink RX5 79 yX5_free, .instanceMethod yX5_free, .selects RX5 yX5_free yX5_free, .initialized RX5, .code yX5_free cX5_free 4 (some .int), .fieldLink RX5 53 "ExchangeDeskModel" "slots" "[I", .methodLink RX5 83 yX5_use, .instanceMethod yX5_use, .selects RX5 yX5_use yX5_use, .code yX5_use cX5_use 5 none] ++ wsX50)
def wsX5_become : List Cond := .code yX5_become cX5_become 3 none :: ([.fieldLink RX5 7 "ExchangeDeskModel" "state" "[I", .fieldLink RX5 13 "ExchangeDeskModel" "since" "[I", .fieldLink RX5 87 "ExchangeDeskModel" "now" "I", .fieldLink RX5 31 "ExchangeDeskModel" "late" "[I", .fieldLink RX5 16 "ExchangeDeskModel" "idleSince" "[I", .fieldLink RX5 22 "ExchangeDeskModel" "other" "[I", .fieldLink RX5 25 "ExchangeDeskModel" "slotOf" "[I"] ++ wsX50)
def wsX5_busy : List Cond := .code yX5_busy cX5_busy 2 none :: ([.fieldLink RX5 22 "ExchangeDeskModel" "other" "[I", .fieldLink RX5 25 "ExchangeDeskModel" "slotOf" "[I", .methodLink RX5 90 yX5_become, .instanceMethod yX5_become, .selects RX5 yX5_become yX5_become, .initialized RX5, .code yX5_become cX5_become 3 none, .fieldLink RX5 7 "ExchangeDeskModel" "state" "[I", .fieldLink RX5 13 "ExchangeDeskModel" "since" "[I", .fieldLink RX5 87 "ExchangeDeskModel" "now" "I", .fieldLink RX5 31 "ExchangeDeskModel" "late" "[I", .fieldLink RX5 16 "ExchangeDeskModel" "idleSince" "[I"] ++ wsX50)
def wsX5_ring : List Cond := .code yX5_ring cX5_ring 4 none :: ([.fieldLink RX5 22 "ExchangeDeskModel" "other" "[I", .fieldLink RX5 25 "ExchangeDeskModel" "slotOf" "[I", .fieldLink RX5 28 "ExchangeDeskModel" "rank" "[I", .fieldLink RX5 94 "ExchangeDeskModel" "ranks" "I", .fieldLink RX5 7 "ExchangeDeskModel" "state" "[I", .methodLink RX5 90 yX5_become, .instanceMethod yX5_become, .selects RX5 yX5_become yX5_become, .initialized RX5, .code yX5_become cX5_become 3 none, .fieldLink RX5 13 "ExchangeDeskModel" "since" "[I", .fieldLink RX5 87 "ExchangeDeskModel" "now" "I", .fieldLink RX5 31 "ExchangeDeskModel" "late" "[I", .fieldLink RX5 16 "ExchangeDeskModel" "idleSince" "[I"] ++ wsX50)
def wsX5_connect : List Cond := .code yX5_connect cX5_connect 4 none :: ([.fieldLink RX5 22 "ExchangeDeskModel" "other" "[I", .fieldLink RX5 25 "ExchangeDeskModel" "slotOf" "[I", .fieldLink RX5 41 "ExchangeDeskModel" "pays" "[Z", .fieldLink RX5 44 "ExchangeDeskModel" "begun" "[I", .fieldLink RX5 87 "ExchangeDeskModel" "now" "I", .methodLink RX5 90 yX5_become, .instanceMethod yX5_become, .selects RX5 yX5_become yX5_become, .initialized RX5, .code yX5_become cX5_become 3 none, .fieldLink RX5 7 "ExchangeDeskModel" "state" "[I", .fieldLink RX5 13 "ExchangeDeskModel" "since" "[I", .fieldLink RX5 31 "ExchangeDeskModel" "late" "[I", .fieldLink RX5 16 "ExchangeDeskModel" "idleSince" "[I"] ++ wsX50)
def wsX5_hush : List Cond := .code yX5_hush cX5_hush 4 none :: ([.fieldLink RX5 7 "ExchangeDeskModel" "state" "[I", .fieldLink RX5 22 "ExchangeDeskModel" "other" "[I", .fieldLink RX5 25 "ExchangeDeskModel" "slotOf" "[I", .methodLink RX5 83 yX5_use, .instanceMethod yX5_use, .selects RX5 yX5_use yX5_use, .initialized RX5, .code yX5_use cX5_use 5 none, .fieldLink RX5 53 "ExchangeDeskModel" "slots" "[I", .methodLink RX5 90 yX5_become, .instanceMethod yX5_become, .selects RX5 yX5_become yX5_become, .code yX5_become cX5_become 3 none, .fieldLink RX5 13 "ExchangeDeskModel" "since" "[I", .fieldLink RX5 87 "ExchangeDeskModel" "now" "I", .fieldLink RX5 31 "ExchangeDeskModel" "late" "[I", .fieldLink RX5 16 "ExchangeDeskModel" "idleSince" "[I"] ++ wsX50)
def wsX5_unitsOf : List Cond := .code yX5_unitsOf cX5_unitsOf 2 (some .int) :: ([.fieldLink RX5 87 "ExchangeDeskModel" "now" "I", .fieldLink RX5 44 "ExchangeDeskModel" "begun" "[I"] ++ wsX50)
def wsX5_finish : List Cond := .code yX5_finish cX5_finish 5 none :: ([.fieldLink RX5 22 "ExchangeDeskModel" "other" "[I", .fieldLink RX5 41 "ExchangeDeskModel" "pays" "[Z", .fieldLink RX5 97 "ExchangeDeskModel" "entries" "I", .fieldLink RX5 68 "ExchangeDeskModel" "entry" "[I", .fieldLink RX5 44 "ExchangeDeskModel" "begun" "[I", .fieldLink RX5 38 "ExchangeDeskModel" "paid" "[I", .fieldLink RX5 25 "ExchangeDeskModel" "slotOf" "[I", .methodLink RX5 100 yX5_unitsOf, .instanceMethod yX5_unitsOf, .selects RX5 yX5_unitsOf yX5_unitsOf, .initialized RX5, .code yX5_unitsOf cX5_unitsOf 2 (some .int), .fieldLink RX5 87 "ExchangeDeskModel" "now" "I", .methodLink RX5 83 yX5_use, .instanceMethod yX5_use, .selects RX5 yX5_use yX5_use, .code yX5_use cX5_use 5 none, .fieldLink RX5 53 "ExchangeDeskModel" "slots" "[I"] ++ wsX50)
def wsX5_callLine_r1 : List Cond := [Cond.fieldLink RX5 34 "ExchangeDeskModel" "quiet" "[Z", Cond.fieldLink RX5 7 "ExchangeDeskModel" "state" "[I", Cond.fieldLink RX5 31 "ExchangeDeskModel" "late" "[I", Cond.fieldLink RX5 123 "ExchangeDeskModel" "blocked" "I", Cond.methodLink RX5 117 yX5_busy, Cond.instanceMethod yX5_busy, Cond.selects RX5 yX5_busy yX5_busy, Cond.initialized RX5, Cond.code yX5_busy cX5_busy 2 none, Cond.fieldLink RX5 22 "ExchangeDeskModel" "other" "[I", Cond.fieldLink RX5 25 "ExchangeDeskModel" "slotOf" "[I", Cond.methodLink RX5 90 yX5_become, Cond.instanceMethod yX5_become, Cond.selects RX5 yX5_become yX5_become, Cond.code yX5_become cX5_become 3 none, Cond.fieldLink RX5 13 "ExchangeDeskModel" "since" "[I", Cond.fieldLink RX5 87 "ExchangeDeskModel" "now" "I", Cond.fieldLink RX5 16 "ExchangeDeskModel" "idleSince" "[I", Cond.methodLink RX5 120 yX5_take, Cond.instanceMethod yX5_take, Cond.selects RX5 yX5_take yX5_take, Cond.code yX5_take cX5_take 4 (some .int), Cond.methodLink RX5 79 yX5_free, Cond.instanceMethod yX5_free]
def wsX5_callLine_r2 : List Cond := [Cond.selects RX5 yX5_free yX5_free, Cond.code yX5_free cX5_free 4 (some .int), Cond.fieldLink RX5 53 "ExchangeDeskModel" "slots" "[I", Cond.methodLink RX5 83 yX5_use, Cond.instanceMethod yX5_use, Cond.selects RX5 yX5_use yX5_use, Cond.code yX5_use cX5_use 5 none, Cond.methodLink RX5 126 yX5_ring, Cond.instanceMethod yX5_ring, Cond.selects RX5 yX5_ring yX5_ring, Cond.code yX5_ring cX5_ring 4 none, Cond.fieldLink RX5 28 "ExchangeDeskModel" "rank" "[I", Cond.fieldLink RX5 94 "ExchangeDeskModel" "ranks" "I"]
def wsX5_callLine : List Cond := .code yX5_callLine cX5_callLine 4 none :: ((wsX5_callLine_r1 ++ wsX5_callLine_r2) ++ wsX50)
def wsX5_mayRing : List Cond := .code yX5_mayRing cX5_mayRing 3 (some .boolean) :: ([.fieldLink RX5 7 "ExchangeDeskModel" "state" "[I", .fieldLink RX5 34 "ExchangeDeskModel" "quiet" "[Z"] ++ wsX50)
def wsX5_callGroup_r1 : List Cond := [Cond.fieldLink RX5 59 "ExchangeDeskModel" "many" "[I", Cond.fieldLink RX5 62 "ExchangeDeskModel" "orders" "[I", Cond.fieldLink RX5 65 "ExchangeDeskModel" "taken" "[I", Cond.fieldLink RX5 56 "ExchangeDeskModel" "members" "[I", Cond.fieldLink RX5 16 "ExchangeDeskModel" "idleSince" "[I", Cond.fieldLink RX5 123 "ExchangeDeskModel" "blocked" "I", Cond.methodLink RX5 130 yX5_mayRing, Cond.instanceMethod yX5_mayRing, Cond.selects RX5 yX5_mayRing yX5_mayRing, Cond.initialized RX5, Cond.code yX5_mayRing cX5_mayRing 3 (some .boolean), Cond.fieldLink RX5 7 "ExchangeDeskModel" "state" "[I", Cond.fieldLink RX5 34 "ExchangeDeskModel" "quiet" "[Z", Cond.methodLink RX5 79 yX5_free, Cond.instanceMethod yX5_free, Cond.selects RX5 yX5_free yX5_free, Cond.code yX5_free cX5_free 4 (some .int), Cond.fieldLink RX5 53 "ExchangeDeskModel" "slots" "[I", Cond.methodLink RX5 120 yX5_take, Cond.instanceMethod yX5_take, Cond.selects RX5 yX5_take yX5_take, Cond.code yX5_take cX5_take 4 (some .int), Cond.methodLink RX5 83 yX5_use, Cond.instanceMethod yX5_use]
def wsX5_callGroup_r2 : List Cond := [Cond.selects RX5 yX5_use yX5_use, Cond.code yX5_use cX5_use 5 none, Cond.methodLink RX5 126 yX5_ring, Cond.instanceMethod yX5_ring, Cond.selects RX5 yX5_ring yX5_ring, Cond.code yX5_ring cX5_ring 4 none, Cond.fieldLink RX5 22 "ExchangeDeskModel" "other" "[I", Cond.fieldLink RX5 25 "ExchangeDeskModel" "slotOf" "[I", Cond.fieldLink RX5 28 "ExchangeDeskModel" "rank" "[I", Cond.fieldLink RX5 94 "ExchangeDeskModel" "ranks" "I", Cond.methodLink RX5 90 yX5_become, Cond.instanceMethod yX5_become, Cond.selects RX5 yX5_become yX5_become, Cond.code yX5_become cX5_become 3 none, Cond.fieldLink RX5 13 "ExchangeDeskModel" "since" "[I", Cond.fieldLink RX5 87 "ExchangeDeskModel" "now" "I", Cond.fieldLink RX5 31 "ExchangeDeskModel" "late" "[I", Cond.methodLink RX5 117 yX5_busy, Cond.instanceMethod yX5_busy, Cond.selects RX5 yX5_busy yX5_busy, Cond.code yX5_busy cX5_busy 2 none]
def wsX5_callGroup : List Cond := .code yX5_callGroup cX5_callGroup 10 none :: ((wsX5_callGroup_r1 ++ wsX5_callGroup_r2) ++ wsX50)
def wsX5_pick_r1 : List Cond := [Cond.fieldLink RX5 7 "ExchangeDeskModel" "state" "[I", Cond.fieldLink RX5 13 "ExchangeDeskModel" "since" "[I", Cond.fieldLink RX5 22 "ExchangeDeskModel" "other" "[I", Cond.fieldLink RX5 123 "ExchangeDeskModel" "blocked" "I", Cond.methodLink RX5 117 yX5_busy, Cond.instanceMethod yX5_busy, Cond.selects RX5 yX5_busy yX5_busy, Cond.initialized RX5, Cond.code yX5_busy cX5_busy 2 none, Cond.fieldLink RX5 25 "ExchangeDeskModel" "slotOf" "[I", Cond.methodLink RX5 90 yX5_become, Cond.instanceMethod yX5_become, Cond.selects RX5 yX5_become yX5_become, Cond.code yX5_become cX5_become 3 none, Cond.fieldLink RX5 87 "ExchangeDeskModel" "now" "I", Cond.fieldLink RX5 31 "ExchangeDeskModel" "late" "[I", Cond.fieldLink RX5 16 "ExchangeDeskModel" "idleSince" "[I", Cond.methodLink RX5 134 yX5_hush, Cond.instanceMethod yX5_hush, Cond.selects RX5 yX5_hush yX5_hush, Cond.code yX5_hush cX5_hush 4 none, Cond.methodLink RX5 83 yX5_use, Cond.instanceMethod yX5_use, Cond.selects RX5 yX5_use yX5_use]
def wsX5_pick_r2 : List Cond := [Cond.code yX5_use cX5_use 5 none, Cond.fieldLink RX5 53 "ExchangeDeskModel" "slots" "[I", Cond.methodLink RX5 120 yX5_take, Cond.instanceMethod yX5_take, Cond.selects RX5 yX5_take yX5_take, Cond.code yX5_take cX5_take 4 (some .int), Cond.methodLink RX5 79 yX5_free, Cond.instanceMethod yX5_free, Cond.selects RX5 yX5_free yX5_free, Cond.code yX5_free cX5_free 4 (some .int), Cond.methodLink RX5 137 yX5_connect, Cond.instanceMethod yX5_connect, Cond.selects RX5 yX5_connect yX5_connect, Cond.code yX5_connect cX5_connect 4 none, Cond.fieldLink RX5 41 "ExchangeDeskModel" "pays" "[Z", Cond.fieldLink RX5 44 "ExchangeDeskModel" "begun" "[I"]
def wsX5_pick : List Cond := .code yX5_pick cX5_pick 5 none :: ((wsX5_pick_r1 ++ wsX5_pick_r2) ++ wsX50)
def wsX5_unpark_r1 : List Cond := [Cond.fieldLink RX5 50 "ExchangeDeskModel" "parked" "[I", Cond.fieldLink RX5 123 "ExchangeDeskModel" "blocked" "I", Cond.methodLink RX5 120 yX5_take, Cond.instanceMethod yX5_take, Cond.selects RX5 yX5_take yX5_take, Cond.initialized RX5, Cond.code yX5_take cX5_take 4 (some .int), Cond.methodLink RX5 79 yX5_free, Cond.instanceMethod yX5_free, Cond.selects RX5 yX5_free yX5_free, Cond.code yX5_free cX5_free 4 (some .int), Cond.fieldLink RX5 53 "ExchangeDeskModel" "slots" "[I", Cond.methodLink RX5 83 yX5_use, Cond.instanceMethod yX5_use, Cond.selects RX5 yX5_use yX5_use, Cond.code yX5_use cX5_use 5 none, Cond.methodLink RX5 117 yX5_busy, Cond.instanceMethod yX5_busy, Cond.selects RX5 yX5_busy yX5_busy, Cond.code yX5_busy cX5_busy 2 none, Cond.fieldLink RX5 22 "ExchangeDeskModel" "other" "[I", Cond.fieldLink RX5 25 "ExchangeDeskModel" "slotOf" "[I", Cond.methodLink RX5 90 yX5_become, Cond.instanceMethod yX5_become]
def wsX5_unpark_r2 : List Cond := [Cond.selects RX5 yX5_become yX5_become, Cond.code yX5_become cX5_become 3 none, Cond.fieldLink RX5 7 "ExchangeDeskModel" "state" "[I", Cond.fieldLink RX5 13 "ExchangeDeskModel" "since" "[I", Cond.fieldLink RX5 87 "ExchangeDeskModel" "now" "I", Cond.fieldLink RX5 31 "ExchangeDeskModel" "late" "[I", Cond.fieldLink RX5 16 "ExchangeDeskModel" "idleSince" "[I", Cond.methodLink RX5 137 yX5_connect, Cond.instanceMethod yX5_connect, Cond.selects RX5 yX5_connect yX5_connect, Cond.code yX5_connect cX5_connect 4 none, Cond.fieldLink RX5 41 "ExchangeDeskModel" "pays" "[Z", Cond.fieldLink RX5 44 "ExchangeDeskModel" "begun" "[I"]
def wsX5_unpark : List Cond := .code yX5_unpark cX5_unpark 5 none :: ((wsX5_unpark_r1 ++ wsX5_unpark_r2) ++ wsX50)
def wsX5_call_r1 : List Cond := [Cond.fieldLink RX5 34 "ExchangeDeskModel" "quiet" "[Z", Cond.methodLink RX5 75 yX5_in, Cond.static yX5_in, Cond.initialized RX5, Cond.code yX5_in cX5_in 3 (some .boolean), Cond.methodLink RX5 104 yX5_callLine, Cond.instanceMethod yX5_callLine, Cond.selects RX5 yX5_callLine yX5_callLine, Cond.code yX5_callLine cX5_callLine 4 none, Cond.fieldLink RX5 7 "ExchangeDeskModel" "state" "[I", Cond.fieldLink RX5 31 "ExchangeDeskModel" "late" "[I", Cond.fieldLink RX5 123 "ExchangeDeskModel" "blocked" "I", Cond.methodLink RX5 117 yX5_busy, Cond.instanceMethod yX5_busy, Cond.selects RX5 yX5_busy yX5_busy, Cond.code yX5_busy cX5_busy 2 none, Cond.fieldLink RX5 22 "ExchangeDeskModel" "other" "[I", Cond.fieldLink RX5 25 "ExchangeDeskModel" "slotOf" "[I", Cond.methodLink RX5 90 yX5_become, Cond.instanceMethod yX5_become, Cond.selects RX5 yX5_become yX5_become, Cond.code yX5_become cX5_become 3 none, Cond.fieldLink RX5 13 "ExchangeDeskModel" "since" "[I", Cond.fieldLink RX5 87 "ExchangeDeskModel" "now" "I"]
def wsX5_call_r2 : List Cond := [Cond.fieldLink RX5 16 "ExchangeDeskModel" "idleSince" "[I", Cond.methodLink RX5 120 yX5_take, Cond.instanceMethod yX5_take, Cond.selects RX5 yX5_take yX5_take, Cond.code yX5_take cX5_take 4 (some .int), Cond.methodLink RX5 79 yX5_free, Cond.instanceMethod yX5_free, Cond.selects RX5 yX5_free yX5_free, Cond.code yX5_free cX5_free 4 (some .int), Cond.fieldLink RX5 53 "ExchangeDeskModel" "slots" "[I", Cond.methodLink RX5 83 yX5_use, Cond.instanceMethod yX5_use, Cond.selects RX5 yX5_use yX5_use, Cond.code yX5_use cX5_use 5 none, Cond.methodLink RX5 126 yX5_ring, Cond.instanceMethod yX5_ring, Cond.selects RX5 yX5_ring yX5_ring, Cond.code yX5_ring cX5_ring 4 none, Cond.fieldLink RX5 28 "ExchangeDeskModel" "rank" "[I", Cond.fieldLink RX5 94 "ExchangeDeskModel" "ranks" "I", Cond.methodLink RX5 107 yX5_callGroup, Cond.instanceMethod yX5_callGroup, Cond.selects RX5 yX5_callGroup yX5_callGroup, Cond.code yX5_callGroup cX5_callGroup 10 none]
def wsX5_call_r3 : List Cond := [Cond.fieldLink RX5 59 "ExchangeDeskModel" "many" "[I", Cond.fieldLink RX5 62 "ExchangeDeskModel" "orders" "[I", Cond.fieldLink RX5 65 "ExchangeDeskModel" "taken" "[I", Cond.fieldLink RX5 56 "ExchangeDeskModel" "members" "[I", Cond.methodLink RX5 130 yX5_mayRing, Cond.instanceMethod yX5_mayRing, Cond.selects RX5 yX5_mayRing yX5_mayRing, Cond.code yX5_mayRing cX5_mayRing 3 (some .boolean), Cond.methodLink RX5 110 yX5_pick, Cond.instanceMethod yX5_pick, Cond.selects RX5 yX5_pick yX5_pick, Cond.code yX5_pick cX5_pick 5 none, Cond.methodLink RX5 134 yX5_hush, Cond.instanceMethod yX5_hush, Cond.selects RX5 yX5_hush yX5_hush, Cond.code yX5_hush cX5_hush 4 none, Cond.methodLink RX5 137 yX5_connect, Cond.instanceMethod yX5_connect, Cond.selects RX5 yX5_connect yX5_connect, Cond.code yX5_connect cX5_connect 4 none, Cond.fieldLink RX5 41 "ExchangeDeskModel" "pays" "[Z", Cond.fieldLink RX5 44 "ExchangeDeskModel" "begun" "[I", Cond.methodLink RX5 114 yX5_unpark, Cond.instanceMethod yX5_unpark]
def wsX5_call_r4 : List Cond := [Cond.selects RX5 yX5_unpark yX5_unpark, Cond.code yX5_unpark cX5_unpark 5 none, Cond.fieldLink RX5 50 "ExchangeDeskModel" "parked" "[I"]
def wsX5_call : List Cond := .code yX5_call cX5_call 3 none :: ((wsX5_call_r1 ++ (wsX5_call_r2 ++ (wsX5_call_r3 ++ wsX5_call_r4))) ++ wsX50)
def wsX5_settle_r1 : List Cond := [Cond.fieldLink RX5 7 "ExchangeDeskModel" "state" "[I", Cond.fieldLink RX5 47 "ExchangeDeskModel" "camper" "[I", Cond.fieldLink RX5 22 "ExchangeDeskModel" "other" "[I", Cond.methodLink RX5 104 yX5_callLine, Cond.instanceMethod yX5_callLine, Cond.selects RX5 yX5_callLine yX5_callLine, Cond.initialized RX5, Cond.code yX5_callLine cX5_callLine 4 none, Cond.fieldLink RX5 34 "ExchangeDeskModel" "quiet" "[Z", Cond.fieldLink RX5 31 "ExchangeDeskModel" "late" "[I", Cond.fieldLink RX5 123 "ExchangeDeskModel" "blocked" "I", Cond.methodLink RX5 117 yX5_busy, Cond.instanceMethod yX5_busy, Cond.selects RX5 yX5_busy yX5_busy, Cond.code yX5_busy cX5_busy 2 none, Cond.fieldLink RX5 25 "ExchangeDeskModel" "slotOf" "[I", Cond.methodLink RX5 90 yX5_become, Cond.instanceMethod yX5_become, Cond.selects RX5 yX5_become yX5_become, Cond.code yX5_become cX5_become 3 none, Cond.fieldLink RX5 13 "ExchangeDeskModel" "since" "[I", Cond.fieldLink RX5 87 "ExchangeDeskModel" "now" "I", Cond.fieldLink RX5 16 "ExchangeDeskModel" "idleSince" "[I", Cond.methodLink RX5 120 yX5_take]
def wsX5_settle_r2 : List Cond := [Cond.instanceMethod yX5_take, Cond.selects RX5 yX5_take yX5_take, Cond.code yX5_take cX5_take 4 (some .int), Cond.methodLink RX5 79 yX5_free, Cond.instanceMethod yX5_free, Cond.selects RX5 yX5_free yX5_free, Cond.code yX5_free cX5_free 4 (some .int), Cond.fieldLink RX5 53 "ExchangeDeskModel" "slots" "[I", Cond.methodLink RX5 83 yX5_use, Cond.instanceMethod yX5_use, Cond.selects RX5 yX5_use yX5_use, Cond.code yX5_use cX5_use 5 none, Cond.methodLink RX5 126 yX5_ring, Cond.instanceMethod yX5_ring, Cond.selects RX5 yX5_ring yX5_ring, Cond.code yX5_ring cX5_ring 4 none, Cond.fieldLink RX5 28 "ExchangeDeskModel" "rank" "[I", Cond.fieldLink RX5 94 "ExchangeDeskModel" "ranks" "I"]
def wsX5_settle : List Cond := .code yX5_settle cX5_settle 3 none :: ((wsX5_settle_r1 ++ wsX5_settle_r2) ++ wsX50)
def wsX5_up_r1 : List Cond := [Cond.fieldLink RX5 7 "ExchangeDeskModel" "state" "[I", Cond.fieldLink RX5 22 "ExchangeDeskModel" "other" "[I", Cond.fieldLink RX5 25 "ExchangeDeskModel" "slotOf" "[I", Cond.methodLink RX5 140 yX5_isLine, Cond.static yX5_isLine, Cond.initialized RX5, Cond.code yX5_isLine cX5_isLine 1 (some .boolean), Cond.methodLink RX5 75 yX5_in, Cond.static yX5_in, Cond.code yX5_in cX5_in 3 (some .boolean), Cond.methodLink RX5 144 yX5_throwing, Cond.instanceMethod yX5_throwing, Cond.selects RX5 yX5_throwing yX5_throwing, Cond.code yX5_throwing cX5_throwing 3 (some .boolean), Cond.fieldLink RX5 71 "ExchangeDeskModel" "thrown" "I", Cond.methodLink RX5 90 yX5_become, Cond.instanceMethod yX5_become, Cond.selects RX5 yX5_become yX5_become, Cond.code yX5_become cX5_become 3 none, Cond.fieldLink RX5 13 "ExchangeDeskModel" "since" "[I", Cond.fieldLink RX5 87 "ExchangeDeskModel" "now" "I", Cond.fieldLink RX5 31 "ExchangeDeskModel" "late" "[I", Cond.fieldLink RX5 16 "ExchangeDeskModel" "idleSince" "[I", Cond.methodLink RX5 134 yX5_hush]
def wsX5_up_r2 : List Cond := [Cond.instanceMethod yX5_hush, Cond.selects RX5 yX5_hush yX5_hush, Cond.code yX5_hush cX5_hush 4 none, Cond.methodLink RX5 83 yX5_use, Cond.instanceMethod yX5_use, Cond.selects RX5 yX5_use yX5_use, Cond.code yX5_use cX5_use 5 none, Cond.fieldLink RX5 53 "ExchangeDeskModel" "slots" "[I", Cond.methodLink RX5 137 yX5_connect, Cond.instanceMethod yX5_connect, Cond.selects RX5 yX5_connect yX5_connect, Cond.code yX5_connect cX5_connect 4 none, Cond.fieldLink RX5 41 "ExchangeDeskModel" "pays" "[Z", Cond.fieldLink RX5 44 "ExchangeDeskModel" "begun" "[I", Cond.methodLink RX5 148 yX5_settle, Cond.instanceMethod yX5_settle, Cond.selects RX5 yX5_settle yX5_settle, Cond.code yX5_settle cX5_settle 3 none, Cond.fieldLink RX5 47 "ExchangeDeskModel" "camper" "[I", Cond.methodLink RX5 104 yX5_callLine, Cond.instanceMethod yX5_callLine, Cond.selects RX5 yX5_callLine yX5_callLine, Cond.code yX5_callLine cX5_callLine 4 none, Cond.fieldLink RX5 34 "ExchangeDeskModel" "quiet" "[Z"]
def wsX5_up_r3 : List Cond := [Cond.fieldLink RX5 123 "ExchangeDeskModel" "blocked" "I", Cond.methodLink RX5 117 yX5_busy, Cond.instanceMethod yX5_busy, Cond.selects RX5 yX5_busy yX5_busy, Cond.code yX5_busy cX5_busy 2 none, Cond.methodLink RX5 120 yX5_take, Cond.instanceMethod yX5_take, Cond.selects RX5 yX5_take yX5_take, Cond.code yX5_take cX5_take 4 (some .int), Cond.methodLink RX5 79 yX5_free, Cond.instanceMethod yX5_free, Cond.selects RX5 yX5_free yX5_free, Cond.code yX5_free cX5_free 4 (some .int), Cond.methodLink RX5 126 yX5_ring, Cond.instanceMethod yX5_ring, Cond.selects RX5 yX5_ring yX5_ring, Cond.code yX5_ring cX5_ring 4 none, Cond.fieldLink RX5 28 "ExchangeDeskModel" "rank" "[I", Cond.fieldLink RX5 94 "ExchangeDeskModel" "ranks" "I"]
def wsX5_up : List Cond := .code yX5_up cX5_up 4 (some .int) :: ((wsX5_up_r1 ++ (wsX5_up_r2 ++ wsX5_up_r3)) ++ wsX50)
def wsX5_leave_r1 : List Cond := [Cond.fieldLink RX5 7 "ExchangeDeskModel" "state" "[I", Cond.fieldLink RX5 22 "ExchangeDeskModel" "other" "[I", Cond.fieldLink RX5 50 "ExchangeDeskModel" "parked" "[I", Cond.fieldLink RX5 47 "ExchangeDeskModel" "camper" "[I", Cond.methodLink RX5 151 yX5_finish, Cond.instanceMethod yX5_finish, Cond.selects RX5 yX5_finish yX5_finish, Cond.initialized RX5, Cond.code yX5_finish cX5_finish 5 none, Cond.fieldLink RX5 41 "ExchangeDeskModel" "pays" "[Z", Cond.fieldLink RX5 97 "ExchangeDeskModel" "entries" "I", Cond.fieldLink RX5 68 "ExchangeDeskModel" "entry" "[I", Cond.fieldLink RX5 44 "ExchangeDeskModel" "begun" "[I", Cond.fieldLink RX5 38 "ExchangeDeskModel" "paid" "[I", Cond.fieldLink RX5 25 "ExchangeDeskModel" "slotOf" "[I", Cond.methodLink RX5 100 yX5_unitsOf, Cond.instanceMethod yX5_unitsOf, Cond.selects RX5 yX5_unitsOf yX5_unitsOf, Cond.code yX5_unitsOf cX5_unitsOf 2 (some .int), Cond.fieldLink RX5 87 "ExchangeDeskModel" "now" "I", Cond.methodLink RX5 83 yX5_use, Cond.instanceMethod yX5_use, Cond.selects RX5 yX5_use yX5_use, Cond.code yX5_use cX5_use 5 none]
def wsX5_leave_r2 : List Cond := [Cond.fieldLink RX5 53 "ExchangeDeskModel" "slots" "[I", Cond.methodLink RX5 117 yX5_busy, Cond.instanceMethod yX5_busy, Cond.selects RX5 yX5_busy yX5_busy, Cond.code yX5_busy cX5_busy 2 none, Cond.methodLink RX5 90 yX5_become, Cond.instanceMethod yX5_become, Cond.selects RX5 yX5_become yX5_become, Cond.code yX5_become cX5_become 3 none, Cond.fieldLink RX5 13 "ExchangeDeskModel" "since" "[I", Cond.fieldLink RX5 31 "ExchangeDeskModel" "late" "[I", Cond.fieldLink RX5 16 "ExchangeDeskModel" "idleSince" "[I", Cond.methodLink RX5 134 yX5_hush, Cond.instanceMethod yX5_hush, Cond.selects RX5 yX5_hush yX5_hush, Cond.code yX5_hush cX5_hush 4 none]
def wsX5_leave : List Cond := .code yX5_leave cX5_leave 3 none :: ((wsX5_leave_r1 ++ wsX5_leave_r2) ++ wsX50)
def wsX5_down_r1 : List Cond := [Cond.fieldLink RX5 7 "ExchangeDeskModel" "state" "[I", Cond.methodLink RX5 140 yX5_isLine, Cond.static yX5_isLine, Cond.initialized RX5, Cond.code yX5_isLine cX5_isLine 1 (some .boolean), Cond.methodLink RX5 75 yX5_in, Cond.static yX5_in, Cond.code yX5_in cX5_in 3 (some .boolean), Cond.methodLink RX5 144 yX5_throwing, Cond.instanceMethod yX5_throwing, Cond.selects RX5 yX5_throwing yX5_throwing, Cond.code yX5_throwing cX5_throwing 3 (some .boolean), Cond.fieldLink RX5 71 "ExchangeDeskModel" "thrown" "I", Cond.methodLink RX5 154 yX5_leave, Cond.instanceMethod yX5_leave, Cond.selects RX5 yX5_leave yX5_leave, Cond.code yX5_leave cX5_leave 3 none, Cond.fieldLink RX5 22 "ExchangeDeskModel" "other" "[I", Cond.fieldLink RX5 50 "ExchangeDeskModel" "parked" "[I", Cond.fieldLink RX5 47 "ExchangeDeskModel" "camper" "[I", Cond.methodLink RX5 151 yX5_finish, Cond.instanceMethod yX5_finish, Cond.selects RX5 yX5_finish yX5_finish, Cond.code yX5_finish cX5_finish 5 none]
def wsX5_down_r2 : List Cond := [Cond.fieldLink RX5 41 "ExchangeDeskModel" "pays" "[Z", Cond.fieldLink RX5 97 "ExchangeDeskModel" "entries" "I", Cond.fieldLink RX5 68 "ExchangeDeskModel" "entry" "[I", Cond.fieldLink RX5 44 "ExchangeDeskModel" "begun" "[I", Cond.fieldLink RX5 38 "ExchangeDeskModel" "paid" "[I", Cond.fieldLink RX5 25 "ExchangeDeskModel" "slotOf" "[I", Cond.methodLink RX5 100 yX5_unitsOf, Cond.instanceMethod yX5_unitsOf, Cond.selects RX5 yX5_unitsOf yX5_unitsOf, Cond.code yX5_unitsOf cX5_unitsOf 2 (some .int), Cond.fieldLink RX5 87 "ExchangeDeskModel" "now" "I", Cond.methodLink RX5 83 yX5_use, Cond.instanceMethod yX5_use, Cond.selects RX5 yX5_use yX5_use, Cond.code yX5_use cX5_use 5 none, Cond.fieldLink RX5 53 "ExchangeDeskModel" "slots" "[I", Cond.methodLink RX5 117 yX5_busy, Cond.instanceMethod yX5_busy, Cond.selects RX5 yX5_busy yX5_busy, Cond.code yX5_busy cX5_busy 2 none, Cond.methodLink RX5 90 yX5_become, Cond.instanceMethod yX5_become, Cond.selects RX5 yX5_become yX5_become, Cond.code yX5_become cX5_become 3 none]
def wsX5_down_r3 : List Cond := [Cond.fieldLink RX5 13 "ExchangeDeskModel" "since" "[I", Cond.fieldLink RX5 31 "ExchangeDeskModel" "late" "[I", Cond.fieldLink RX5 16 "ExchangeDeskModel" "idleSince" "[I", Cond.methodLink RX5 134 yX5_hush, Cond.instanceMethod yX5_hush, Cond.selects RX5 yX5_hush yX5_hush, Cond.code yX5_hush cX5_hush 4 none, Cond.methodLink RX5 148 yX5_settle, Cond.instanceMethod yX5_settle, Cond.selects RX5 yX5_settle yX5_settle, Cond.code yX5_settle cX5_settle 3 none, Cond.methodLink RX5 104 yX5_callLine, Cond.instanceMethod yX5_callLine, Cond.selects RX5 yX5_callLine yX5_callLine, Cond.code yX5_callLine cX5_callLine 4 none, Cond.fieldLink RX5 34 "ExchangeDeskModel" "quiet" "[Z", Cond.fieldLink RX5 123 "ExchangeDeskModel" "blocked" "I", Cond.methodLink RX5 120 yX5_take, Cond.instanceMethod yX5_take, Cond.selects RX5 yX5_take yX5_take, Cond.code yX5_take cX5_take 4 (some .int), Cond.methodLink RX5 79 yX5_free, Cond.instanceMethod yX5_free, Cond.selects RX5 yX5_free yX5_free]
def wsX5_down_r4 : List Cond := [Cond.code yX5_free cX5_free 4 (some .int), Cond.methodLink RX5 126 yX5_ring, Cond.instanceMethod yX5_ring, Cond.selects RX5 yX5_ring yX5_ring, Cond.code yX5_ring cX5_ring 4 none, Cond.fieldLink RX5 28 "ExchangeDeskModel" "rank" "[I", Cond.fieldLink RX5 94 "ExchangeDeskModel" "ranks" "I"]
def wsX5_down : List Cond := .code yX5_down cX5_down 3 none :: ((wsX5_down_r1 ++ (wsX5_down_r2 ++ (wsX5_down_r3 ++ wsX5_down_r4))) ++ wsX50)
def wsX5_digit_r1 : List Cond := [Cond.fieldLink RX5 7 "ExchangeDeskModel" "state" "[I", Cond.fieldLink RX5 19 "ExchangeDeskModel" "digits" "[I", Cond.methodLink RX5 140 yX5_isLine, Cond.static yX5_isLine, Cond.initialized RX5, Cond.code yX5_isLine cX5_isLine 1 (some .boolean), Cond.methodLink RX5 75 yX5_in, Cond.static yX5_in, Cond.code yX5_in cX5_in 3 (some .boolean), Cond.methodLink RX5 144 yX5_throwing, Cond.instanceMethod yX5_throwing, Cond.selects RX5 yX5_throwing yX5_throwing, Cond.code yX5_throwing cX5_throwing 3 (some .boolean), Cond.fieldLink RX5 71 "ExchangeDeskModel" "thrown" "I", Cond.methodLink RX5 90 yX5_become, Cond.instanceMethod yX5_become, Cond.selects RX5 yX5_become yX5_become, Cond.code yX5_become cX5_become 3 none, Cond.fieldLink RX5 13 "ExchangeDeskModel" "since" "[I", Cond.fieldLink RX5 87 "ExchangeDeskModel" "now" "I", Cond.fieldLink RX5 31 "ExchangeDeskModel" "late" "[I", Cond.fieldLink RX5 16 "ExchangeDeskModel" "idleSince" "[I", Cond.fieldLink RX5 22 "ExchangeDeskModel" "other" "[I", Cond.fieldLink RX5 25 "ExchangeDeskModel" "slotOf" "[I"]
def wsX5_digit_r2 : List Cond := [Cond.methodLink RX5 157 yX5_call, Cond.instanceMethod yX5_call, Cond.selects RX5 yX5_call yX5_call, Cond.code yX5_call cX5_call 3 none, Cond.fieldLink RX5 34 "ExchangeDeskModel" "quiet" "[Z", Cond.methodLink RX5 104 yX5_callLine, Cond.instanceMethod yX5_callLine, Cond.selects RX5 yX5_callLine yX5_callLine, Cond.code yX5_callLine cX5_callLine 4 none, Cond.fieldLink RX5 123 "ExchangeDeskModel" "blocked" "I", Cond.methodLink RX5 117 yX5_busy, Cond.instanceMethod yX5_busy, Cond.selects RX5 yX5_busy yX5_busy, Cond.code yX5_busy cX5_busy 2 none, Cond.methodLink RX5 120 yX5_take, Cond.instanceMethod yX5_take, Cond.selects RX5 yX5_take yX5_take, Cond.code yX5_take cX5_take 4 (some .int), Cond.methodLink RX5 79 yX5_free, Cond.instanceMethod yX5_free, Cond.selects RX5 yX5_free yX5_free, Cond.code yX5_free cX5_free 4 (some .int), Cond.fieldLink RX5 53 "ExchangeDeskModel" "slots" "[I", Cond.methodLink RX5 83 yX5_use]
def wsX5_digit_r3 : List Cond := [Cond.instanceMethod yX5_use, Cond.selects RX5 yX5_use yX5_use, Cond.code yX5_use cX5_use 5 none, Cond.methodLink RX5 126 yX5_ring, Cond.instanceMethod yX5_ring, Cond.selects RX5 yX5_ring yX5_ring, Cond.code yX5_ring cX5_ring 4 none, Cond.fieldLink RX5 28 "ExchangeDeskModel" "rank" "[I", Cond.fieldLink RX5 94 "ExchangeDeskModel" "ranks" "I", Cond.methodLink RX5 107 yX5_callGroup, Cond.instanceMethod yX5_callGroup, Cond.selects RX5 yX5_callGroup yX5_callGroup, Cond.code yX5_callGroup cX5_callGroup 10 none, Cond.fieldLink RX5 59 "ExchangeDeskModel" "many" "[I", Cond.fieldLink RX5 62 "ExchangeDeskModel" "orders" "[I", Cond.fieldLink RX5 65 "ExchangeDeskModel" "taken" "[I", Cond.fieldLink RX5 56 "ExchangeDeskModel" "members" "[I", Cond.methodLink RX5 130 yX5_mayRing, Cond.instanceMethod yX5_mayRing, Cond.selects RX5 yX5_mayRing yX5_mayRing, Cond.code yX5_mayRing cX5_mayRing 3 (some .boolean), Cond.methodLink RX5 110 yX5_pick, Cond.instanceMethod yX5_pick, Cond.selects RX5 yX5_pick yX5_pick]
def wsX5_digit_r4 : List Cond := [Cond.code yX5_pick cX5_pick 5 none, Cond.methodLink RX5 134 yX5_hush, Cond.instanceMethod yX5_hush, Cond.selects RX5 yX5_hush yX5_hush, Cond.code yX5_hush cX5_hush 4 none, Cond.methodLink RX5 137 yX5_connect, Cond.instanceMethod yX5_connect, Cond.selects RX5 yX5_connect yX5_connect, Cond.code yX5_connect cX5_connect 4 none, Cond.fieldLink RX5 41 "ExchangeDeskModel" "pays" "[Z", Cond.fieldLink RX5 44 "ExchangeDeskModel" "begun" "[I", Cond.methodLink RX5 114 yX5_unpark, Cond.instanceMethod yX5_unpark, Cond.selects RX5 yX5_unpark yX5_unpark, Cond.code yX5_unpark cX5_unpark 5 none, Cond.fieldLink RX5 50 "ExchangeDeskModel" "parked" "[I", Cond.methodLink RX5 148 yX5_settle, Cond.instanceMethod yX5_settle, Cond.selects RX5 yX5_settle yX5_settle, Cond.code yX5_settle cX5_settle 3 none, Cond.fieldLink RX5 47 "ExchangeDeskModel" "camper" "[I"]
def wsX5_digit : List Cond := .code yX5_digit cX5_digit 3 (some .int) :: ((wsX5_digit_r1 ++ (wsX5_digit_r2 ++ (wsX5_digit_r3 ++ wsX5_digit_r4))) ++ wsX50)
def wsX5_camp : List Cond := .code yX5_camp cX5_camp 4 (some .int) :: ([.fieldLink RX5 31 "ExchangeDeskModel" "late" "[I", .fieldLink RX5 7 "ExchangeDeskModel" "state" "[I", .fieldLink RX5 47 "ExchangeDeskModel" "camper" "[I", .fieldLink RX5 22 "ExchangeDeskModel" "other" "[I", .methodLink RX5 140 yX5_isLine, .static yX5_isLine, .initialized RX5, .code yX5_isLine cX5_isLine 1 (some .boolean), .methodLink RX5 75 yX5_in, .static yX5_in, .code yX5_in cX5_in 3 (some .boolean), .methodLink RX5 144 yX5_throwing, .instanceMethod yX5_throwing, .selects RX5 yX5_throwing yX5_throwing, .code yX5_throwing cX5_throwing 3 (some .boolean), .fieldLink RX5 71 "ExchangeDeskModel" "thrown" "I", .methodLink RX5 90 yX5_become, .instanceMethod yX5_become, .selects RX5 yX5_become yX5_become, .code yX5_become cX5_become 3 none, .fieldLink RX5 13 "ExchangeDeskModel" "since" "[I", .fieldLink RX5 87 "ExchangeDeskModel" "now" "I", .fieldLink RX5 16 "ExchangeDeskModel" "idleSince" "[I", .fieldLink RX5 25 "ExchangeDeskModel" "slotOf" "[I"] ++ wsX50)
def wsX5_park_r1 : List Cond := [Cond.fieldLink RX5 7 "ExchangeDeskModel" "state" "[I", Cond.fieldLink RX5 50 "ExchangeDeskModel" "parked" "[I", Cond.fieldLink RX5 22 "ExchangeDeskModel" "other" "[I", Cond.methodLink RX5 140 yX5_isLine, Cond.static yX5_isLine, Cond.initialized RX5, Cond.code yX5_isLine cX5_isLine 1 (some .boolean), Cond.methodLink RX5 75 yX5_in, Cond.static yX5_in, Cond.code yX5_in cX5_in 3 (some .boolean), Cond.methodLink RX5 144 yX5_throwing, Cond.instanceMethod yX5_throwing, Cond.selects RX5 yX5_throwing yX5_throwing, Cond.code yX5_throwing cX5_throwing 3 (some .boolean), Cond.fieldLink RX5 71 "ExchangeDeskModel" "thrown" "I", Cond.methodLink RX5 151 yX5_finish, Cond.instanceMethod yX5_finish, Cond.selects RX5 yX5_finish yX5_finish, Cond.code yX5_finish cX5_finish 5 none, Cond.fieldLink RX5 41 "ExchangeDeskModel" "pays" "[Z", Cond.fieldLink RX5 97 "ExchangeDeskModel" "entries" "I", Cond.fieldLink RX5 68 "ExchangeDeskModel" "entry" "[I", Cond.fieldLink RX5 44 "ExchangeDeskModel" "begun" "[I", Cond.fieldLink RX5 38 "ExchangeDeskModel" "paid" "[I"]
def wsX5_park_r2 : List Cond := [Cond.fieldLink RX5 25 "ExchangeDeskModel" "slotOf" "[I", Cond.methodLink RX5 100 yX5_unitsOf, Cond.instanceMethod yX5_unitsOf, Cond.selects RX5 yX5_unitsOf yX5_unitsOf, Cond.code yX5_unitsOf cX5_unitsOf 2 (some .int), Cond.fieldLink RX5 87 "ExchangeDeskModel" "now" "I", Cond.methodLink RX5 83 yX5_use, Cond.instanceMethod yX5_use, Cond.selects RX5 yX5_use yX5_use, Cond.code yX5_use cX5_use 5 none, Cond.fieldLink RX5 53 "ExchangeDeskModel" "slots" "[I", Cond.methodLink RX5 90 yX5_become, Cond.instanceMethod yX5_become, Cond.selects RX5 yX5_become yX5_become, Cond.code yX5_become cX5_become 3 none, Cond.fieldLink RX5 13 "ExchangeDeskModel" "since" "[I", Cond.fieldLink RX5 31 "ExchangeDeskModel" "late" "[I", Cond.fieldLink RX5 16 "ExchangeDeskModel" "idleSince" "[I", Cond.methodLink RX5 117 yX5_busy, Cond.instanceMethod yX5_busy, Cond.selects RX5 yX5_busy yX5_busy, Cond.code yX5_busy cX5_busy 2 none]
def wsX5_park : List Cond := .code yX5_park cX5_park 5 (some .int) :: ((wsX5_park_r1 ++ wsX5_park_r2) ++ wsX50)
def wsX5_transfer_r1 : List Cond := [Cond.fieldLink RX5 7 "ExchangeDeskModel" "state" "[I", Cond.fieldLink RX5 22 "ExchangeDeskModel" "other" "[I", Cond.methodLink RX5 140 yX5_isLine, Cond.static yX5_isLine, Cond.initialized RX5, Cond.code yX5_isLine cX5_isLine 1 (some .boolean), Cond.methodLink RX5 75 yX5_in, Cond.static yX5_in, Cond.code yX5_in cX5_in 3 (some .boolean), Cond.methodLink RX5 144 yX5_throwing, Cond.instanceMethod yX5_throwing, Cond.selects RX5 yX5_throwing yX5_throwing, Cond.code yX5_throwing cX5_throwing 3 (some .boolean), Cond.fieldLink RX5 71 "ExchangeDeskModel" "thrown" "I", Cond.methodLink RX5 151 yX5_finish, Cond.instanceMethod yX5_finish, Cond.selects RX5 yX5_finish yX5_finish, Cond.code yX5_finish cX5_finish 5 none, Cond.fieldLink RX5 41 "ExchangeDeskModel" "pays" "[Z", Cond.fieldLink RX5 97 "ExchangeDeskModel" "entries" "I", Cond.fieldLink RX5 68 "ExchangeDeskModel" "entry" "[I", Cond.fieldLink RX5 44 "ExchangeDeskModel" "begun" "[I", Cond.fieldLink RX5 38 "ExchangeDeskModel" "paid" "[I", Cond.fieldLink RX5 25 "ExchangeDeskModel" "slotOf" "[I"]
def wsX5_transfer_r2 : List Cond := [Cond.methodLink RX5 100 yX5_unitsOf, Cond.instanceMethod yX5_unitsOf, Cond.selects RX5 yX5_unitsOf yX5_unitsOf, Cond.code yX5_unitsOf cX5_unitsOf 2 (some .int), Cond.fieldLink RX5 87 "ExchangeDeskModel" "now" "I", Cond.methodLink RX5 83 yX5_use, Cond.instanceMethod yX5_use, Cond.selects RX5 yX5_use yX5_use, Cond.code yX5_use cX5_use 5 none, Cond.fieldLink RX5 53 "ExchangeDeskModel" "slots" "[I", Cond.methodLink RX5 117 yX5_busy, Cond.instanceMethod yX5_busy, Cond.selects RX5 yX5_busy yX5_busy, Cond.code yX5_busy cX5_busy 2 none, Cond.methodLink RX5 90 yX5_become, Cond.instanceMethod yX5_become, Cond.selects RX5 yX5_become yX5_become, Cond.code yX5_become cX5_become 3 none, Cond.fieldLink RX5 13 "ExchangeDeskModel" "since" "[I", Cond.fieldLink RX5 31 "ExchangeDeskModel" "late" "[I", Cond.fieldLink RX5 16 "ExchangeDeskModel" "idleSince" "[I", Cond.methodLink RX5 157 yX5_call, Cond.instanceMethod yX5_call, Cond.selects RX5 yX5_call yX5_call]
def wsX5_transfer_r3 : List Cond := [Cond.code yX5_call cX5_call 3 none, Cond.fieldLink RX5 34 "ExchangeDeskModel" "quiet" "[Z", Cond.methodLink RX5 104 yX5_callLine, Cond.instanceMethod yX5_callLine, Cond.selects RX5 yX5_callLine yX5_callLine, Cond.code yX5_callLine cX5_callLine 4 none, Cond.fieldLink RX5 123 "ExchangeDeskModel" "blocked" "I", Cond.methodLink RX5 120 yX5_take, Cond.instanceMethod yX5_take, Cond.selects RX5 yX5_take yX5_take, Cond.code yX5_take cX5_take 4 (some .int), Cond.methodLink RX5 79 yX5_free, Cond.instanceMethod yX5_free, Cond.selects RX5 yX5_free yX5_free, Cond.code yX5_free cX5_free 4 (some .int), Cond.methodLink RX5 126 yX5_ring, Cond.instanceMethod yX5_ring, Cond.selects RX5 yX5_ring yX5_ring, Cond.code yX5_ring cX5_ring 4 none, Cond.fieldLink RX5 28 "ExchangeDeskModel" "rank" "[I", Cond.fieldLink RX5 94 "ExchangeDeskModel" "ranks" "I", Cond.methodLink RX5 107 yX5_callGroup, Cond.instanceMethod yX5_callGroup, Cond.selects RX5 yX5_callGroup yX5_callGroup]
def wsX5_transfer_r4 : List Cond := [Cond.code yX5_callGroup cX5_callGroup 10 none, Cond.fieldLink RX5 59 "ExchangeDeskModel" "many" "[I", Cond.fieldLink RX5 62 "ExchangeDeskModel" "orders" "[I", Cond.fieldLink RX5 65 "ExchangeDeskModel" "taken" "[I", Cond.fieldLink RX5 56 "ExchangeDeskModel" "members" "[I", Cond.methodLink RX5 130 yX5_mayRing, Cond.instanceMethod yX5_mayRing, Cond.selects RX5 yX5_mayRing yX5_mayRing, Cond.code yX5_mayRing cX5_mayRing 3 (some .boolean), Cond.methodLink RX5 110 yX5_pick, Cond.instanceMethod yX5_pick, Cond.selects RX5 yX5_pick yX5_pick, Cond.code yX5_pick cX5_pick 5 none, Cond.methodLink RX5 134 yX5_hush, Cond.instanceMethod yX5_hush, Cond.selects RX5 yX5_hush yX5_hush, Cond.code yX5_hush cX5_hush 4 none, Cond.methodLink RX5 137 yX5_connect, Cond.instanceMethod yX5_connect, Cond.selects RX5 yX5_connect yX5_connect, Cond.code yX5_connect cX5_connect 4 none, Cond.methodLink RX5 114 yX5_unpark, Cond.instanceMethod yX5_unpark, Cond.selects RX5 yX5_unpark yX5_unpark]
def wsX5_transfer_r5 : List Cond := [Cond.code yX5_unpark cX5_unpark 5 none, Cond.fieldLink RX5 50 "ExchangeDeskModel" "parked" "[I", Cond.methodLink RX5 148 yX5_settle, Cond.instanceMethod yX5_settle, Cond.selects RX5 yX5_settle yX5_settle, Cond.code yX5_settle cX5_settle 3 none, Cond.fieldLink RX5 47 "ExchangeDeskModel" "camper" "[I"]
def wsX5_transfer : List Cond := .code yX5_transfer cX5_transfer 5 (some .int) :: ((wsX5_transfer_r1 ++ (wsX5_transfer_r2 ++ (wsX5_transfer_r3 ++ (wsX5_transfer_r4 ++ wsX5_transfer_r5)))) ++ wsX50)
def wsX5_watch_r1 : List Cond := [Cond.fieldLink RX5 7 "ExchangeDeskModel" "state" "[I", Cond.fieldLink RX5 87 "ExchangeDeskModel" "now" "I", Cond.fieldLink RX5 13 "ExchangeDeskModel" "since" "[I", Cond.methodLink RX5 90 yX5_become, Cond.instanceMethod yX5_become, Cond.selects RX5 yX5_become yX5_become, Cond.initialized RX5, Cond.code yX5_become cX5_become 3 none, Cond.fieldLink RX5 31 "ExchangeDeskModel" "late" "[I", Cond.fieldLink RX5 16 "ExchangeDeskModel" "idleSince" "[I", Cond.fieldLink RX5 22 "ExchangeDeskModel" "other" "[I", Cond.fieldLink RX5 25 "ExchangeDeskModel" "slotOf" "[I", Cond.methodLink RX5 154 yX5_leave, Cond.instanceMethod yX5_leave, Cond.selects RX5 yX5_leave yX5_leave, Cond.code yX5_leave cX5_leave 3 none, Cond.fieldLink RX5 50 "ExchangeDeskModel" "parked" "[I", Cond.fieldLink RX5 47 "ExchangeDeskModel" "camper" "[I", Cond.methodLink RX5 151 yX5_finish, Cond.instanceMethod yX5_finish, Cond.selects RX5 yX5_finish yX5_finish, Cond.code yX5_finish cX5_finish 5 none, Cond.fieldLink RX5 41 "ExchangeDeskModel" "pays" "[Z", Cond.fieldLink RX5 97 "ExchangeDeskModel" "entries" "I"]
def wsX5_watch_r2 : List Cond := [Cond.fieldLink RX5 68 "ExchangeDeskModel" "entry" "[I", Cond.fieldLink RX5 44 "ExchangeDeskModel" "begun" "[I", Cond.fieldLink RX5 38 "ExchangeDeskModel" "paid" "[I", Cond.methodLink RX5 100 yX5_unitsOf, Cond.instanceMethod yX5_unitsOf, Cond.selects RX5 yX5_unitsOf yX5_unitsOf, Cond.code yX5_unitsOf cX5_unitsOf 2 (some .int), Cond.methodLink RX5 83 yX5_use, Cond.instanceMethod yX5_use, Cond.selects RX5 yX5_use yX5_use, Cond.code yX5_use cX5_use 5 none, Cond.fieldLink RX5 53 "ExchangeDeskModel" "slots" "[I", Cond.methodLink RX5 117 yX5_busy, Cond.instanceMethod yX5_busy, Cond.selects RX5 yX5_busy yX5_busy, Cond.code yX5_busy cX5_busy 2 none, Cond.methodLink RX5 134 yX5_hush, Cond.instanceMethod yX5_hush, Cond.selects RX5 yX5_hush yX5_hush, Cond.code yX5_hush cX5_hush 4 none, Cond.methodLink RX5 148 yX5_settle, Cond.instanceMethod yX5_settle, Cond.selects RX5 yX5_settle yX5_settle, Cond.code yX5_settle cX5_settle 3 none]
def wsX5_watch_r3 : List Cond := [Cond.methodLink RX5 104 yX5_callLine, Cond.instanceMethod yX5_callLine, Cond.selects RX5 yX5_callLine yX5_callLine, Cond.code yX5_callLine cX5_callLine 4 none, Cond.fieldLink RX5 34 "ExchangeDeskModel" "quiet" "[Z", Cond.fieldLink RX5 123 "ExchangeDeskModel" "blocked" "I", Cond.methodLink RX5 120 yX5_take, Cond.instanceMethod yX5_take, Cond.selects RX5 yX5_take yX5_take, Cond.code yX5_take cX5_take 4 (some .int), Cond.methodLink RX5 79 yX5_free, Cond.instanceMethod yX5_free, Cond.selects RX5 yX5_free yX5_free, Cond.code yX5_free cX5_free 4 (some .int), Cond.methodLink RX5 126 yX5_ring, Cond.instanceMethod yX5_ring, Cond.selects RX5 yX5_ring yX5_ring, Cond.code yX5_ring cX5_ring 4 none, Cond.fieldLink RX5 28 "ExchangeDeskModel" "rank" "[I", Cond.fieldLink RX5 94 "ExchangeDeskModel" "ranks" "I"]
def wsX5_watch : List Cond := .code yX5_watch cX5_watch 4 none :: ((wsX5_watch_r1 ++ (wsX5_watch_r2 ++ wsX5_watch_r3)) ++ wsX50)
def wsX5_tick_r1 : List Cond := [Cond.fieldLink RX5 87 "ExchangeDeskModel" "now" "I", Cond.methodLink RX5 75 yX5_in, Cond.static yX5_in, Cond.initialized RX5, Cond.code yX5_in cX5_in 3 (some .boolean), Cond.methodLink RX5 144 yX5_throwing, Cond.instanceMethod yX5_throwing, Cond.selects RX5 yX5_throwing yX5_throwing, Cond.code yX5_throwing cX5_throwing 3 (some .boolean), Cond.fieldLink RX5 71 "ExchangeDeskModel" "thrown" "I", Cond.methodLink RX5 160 yX5_watch, Cond.instanceMethod yX5_watch, Cond.selects RX5 yX5_watch yX5_watch, Cond.code yX5_watch cX5_watch 4 none, Cond.fieldLink RX5 7 "ExchangeDeskModel" "state" "[I", Cond.fieldLink RX5 13 "ExchangeDeskModel" "since" "[I", Cond.methodLink RX5 90 yX5_become, Cond.instanceMethod yX5_become, Cond.selects RX5 yX5_become yX5_become, Cond.code yX5_become cX5_become 3 none, Cond.fieldLink RX5 31 "ExchangeDeskModel" "late" "[I", Cond.fieldLink RX5 16 "ExchangeDeskModel" "idleSince" "[I", Cond.fieldLink RX5 22 "ExchangeDeskModel" "other" "[I", Cond.fieldLink RX5 25 "ExchangeDeskModel" "slotOf" "[I"]
def wsX5_tick_r2 : List Cond := [Cond.methodLink RX5 154 yX5_leave, Cond.instanceMethod yX5_leave, Cond.selects RX5 yX5_leave yX5_leave, Cond.code yX5_leave cX5_leave 3 none, Cond.fieldLink RX5 50 "ExchangeDeskModel" "parked" "[I", Cond.fieldLink RX5 47 "ExchangeDeskModel" "camper" "[I", Cond.methodLink RX5 151 yX5_finish, Cond.instanceMethod yX5_finish, Cond.selects RX5 yX5_finish yX5_finish, Cond.code yX5_finish cX5_finish 5 none, Cond.fieldLink RX5 41 "ExchangeDeskModel" "pays" "[Z", Cond.fieldLink RX5 97 "ExchangeDeskModel" "entries" "I", Cond.fieldLink RX5 68 "ExchangeDeskModel" "entry" "[I", Cond.fieldLink RX5 44 "ExchangeDeskModel" "begun" "[I", Cond.fieldLink RX5 38 "ExchangeDeskModel" "paid" "[I", Cond.methodLink RX5 100 yX5_unitsOf, Cond.instanceMethod yX5_unitsOf, Cond.selects RX5 yX5_unitsOf yX5_unitsOf, Cond.code yX5_unitsOf cX5_unitsOf 2 (some .int), Cond.methodLink RX5 83 yX5_use, Cond.instanceMethod yX5_use, Cond.selects RX5 yX5_use yX5_use, Cond.code yX5_use cX5_use 5 none, Cond.fieldLink RX5 53 "ExchangeDeskModel" "slots" "[I"]
def wsX5_tick_r3 : List Cond := [Cond.methodLink RX5 117 yX5_busy, Cond.instanceMethod yX5_busy, Cond.selects RX5 yX5_busy yX5_busy, Cond.code yX5_busy cX5_busy 2 none, Cond.methodLink RX5 134 yX5_hush, Cond.instanceMethod yX5_hush, Cond.selects RX5 yX5_hush yX5_hush, Cond.code yX5_hush cX5_hush 4 none, Cond.methodLink RX5 148 yX5_settle, Cond.instanceMethod yX5_settle, Cond.selects RX5 yX5_settle yX5_settle, Cond.code yX5_settle cX5_settle 3 none, Cond.methodLink RX5 104 yX5_callLine, Cond.instanceMethod yX5_callLine, Cond.selects RX5 yX5_callLine yX5_callLine, Cond.code yX5_callLine cX5_callLine 4 none, Cond.fieldLink RX5 34 "ExchangeDeskModel" "quiet" "[Z", Cond.fieldLink RX5 123 "ExchangeDeskModel" "blocked" "I", Cond.methodLink RX5 120 yX5_take, Cond.instanceMethod yX5_take, Cond.selects RX5 yX5_take yX5_take, Cond.code yX5_take cX5_take 4 (some .int), Cond.methodLink RX5 79 yX5_free, Cond.instanceMethod yX5_free]
def wsX5_tick_r4 : List Cond := [Cond.selects RX5 yX5_free yX5_free, Cond.code yX5_free cX5_free 4 (some .int), Cond.methodLink RX5 126 yX5_ring, Cond.instanceMethod yX5_ring, Cond.selects RX5 yX5_ring yX5_ring, Cond.code yX5_ring cX5_ring 4 none, Cond.fieldLink RX5 28 "ExchangeDeskModel" "rank" "[I", Cond.fieldLink RX5 94 "ExchangeDeskModel" "ranks" "I"]
def wsX5_tick : List Cond := .code yX5_tick cX5_tick 4 (some .int) :: ((wsX5_tick_r1 ++ (wsX5_tick_r2 ++ (wsX5_tick_r3 ++ wsX5_tick_r4))) ++ wsX50)
def wsX5_group : List Cond := .code yX5_group cX5_group 6 (some .int) :: ([.fieldLink RX5 59 "ExchangeDeskModel" "many" "[I", .fieldLink RX5 56 "ExchangeDeskModel" "members" "[I", .fieldLink RX5 62 "ExchangeDeskModel" "orders" "[I", .fieldLink RX5 65 "ExchangeDeskModel" "taken" "[I", .methodLink RX5 75 yX5_in, .static yX5_in, .initialized RX5, .code yX5_in cX5_in 3 (some .boolean), .methodLink RX5 144 yX5_throwing, .instanceMethod yX5_throwing, .selects RX5 yX5_throwing yX5_throwing, .code yX5_throwing cX5_throwing 3 (some .boolean), .fieldLink RX5 71 "ExchangeDeskModel" "thrown" "I"] ++ wsX50)
def wsX5_slot : List Cond := .code yX5_slot cX5_slot 5 none :: ([.fieldLink RX5 53 "ExchangeDeskModel" "slots" "[I", .methodLink RX5 75 yX5_in, .static yX5_in, .initialized RX5, .code yX5_in cX5_in 3 (some .boolean), .methodLink RX5 144 yX5_throwing, .instanceMethod yX5_throwing, .selects RX5 yX5_throwing yX5_throwing, .code yX5_throwing cX5_throwing 3 (some .boolean), .fieldLink RX5 71 "ExchangeDeskModel" "thrown" "I"] ++ wsX50)
def wsX5_carries : List Cond := .code yX5_carries cX5_carries 3 (some .int) :: ([.fieldLink RX5 53 "ExchangeDeskModel" "slots" "[I", .methodLink RX5 75 yX5_in, .static yX5_in, .initialized RX5, .code yX5_in cX5_in 3 (some .boolean), .methodLink RX5 144 yX5_throwing, .instanceMethod yX5_throwing, .selects RX5 yX5_throwing yX5_throwing, .code yX5_throwing cX5_throwing 3 (some .boolean), .fieldLink RX5 71 "ExchangeDeskModel" "thrown" "I"] ++ wsX50)
def wsX5_ringer : List Cond := .code yX5_ringer cX5_ringer 3 (some .int) :: ([.fieldLink RX5 7 "ExchangeDeskModel" "state" "[I", .fieldLink RX5 22 "ExchangeDeskModel" "other" "[I"] ++ wsX50)
def wsX5_line_r1 : List Cond := [Cond.fieldLink RX5 7 "ExchangeDeskModel" "state" "[I", Cond.fieldLink RX5 22 "ExchangeDeskModel" "other" "[I", Cond.fieldLink RX5 25 "ExchangeDeskModel" "slotOf" "[I", Cond.fieldLink RX5 38 "ExchangeDeskModel" "paid" "[I", Cond.fieldLink RX5 41 "ExchangeDeskModel" "pays" "[Z", Cond.fieldLink RX5 34 "ExchangeDeskModel" "quiet" "[Z", Cond.fieldLink RX5 47 "ExchangeDeskModel" "camper" "[I", Cond.methodLink RX5 140 yX5_isLine, Cond.static yX5_isLine, Cond.initialized RX5, Cond.code yX5_isLine cX5_isLine 1 (some .boolean), Cond.methodLink RX5 75 yX5_in, Cond.static yX5_in, Cond.code yX5_in cX5_in 3 (some .boolean), Cond.methodLink RX5 144 yX5_throwing, Cond.instanceMethod yX5_throwing, Cond.selects RX5 yX5_throwing yX5_throwing, Cond.code yX5_throwing cX5_throwing 3 (some .boolean), Cond.fieldLink RX5 71 "ExchangeDeskModel" "thrown" "I", Cond.methodLink RX5 163 yX5_ringer, Cond.instanceMethod yX5_ringer, Cond.selects RX5 yX5_ringer yX5_ringer, Cond.code yX5_ringer cX5_ringer 3 (some .int), Cond.methodLink RX5 100 yX5_unitsOf]
def wsX5_line_r2 : List Cond := [Cond.instanceMethod yX5_unitsOf, Cond.selects RX5 yX5_unitsOf yX5_unitsOf, Cond.code yX5_unitsOf cX5_unitsOf 2 (some .int), Cond.fieldLink RX5 87 "ExchangeDeskModel" "now" "I", Cond.fieldLink RX5 44 "ExchangeDeskModel" "begun" "[I"]
def wsX5_line : List Cond := .code yX5_line cX5_line 4 (some .int) :: ((wsX5_line_r1 ++ wsX5_line_r2) ++ wsX50)
def wsX5_count : List Cond := .code yX5_count cX5_count 4 (some .int) :: ([.fieldLink RX5 53 "ExchangeDeskModel" "slots" "[I", .fieldLink RX5 123 "ExchangeDeskModel" "blocked" "I", .fieldLink RX5 97 "ExchangeDeskModel" "entries" "I", .methodLink RX5 75 yX5_in, .static yX5_in, .initialized RX5, .code yX5_in cX5_in 3 (some .boolean), .methodLink RX5 144 yX5_throwing, .instanceMethod yX5_throwing, .selects RX5 yX5_throwing yX5_throwing, .code yX5_throwing cX5_throwing 3 (some .boolean), .fieldLink RX5 71 "ExchangeDeskModel" "thrown" "I"] ++ wsX50)
def wsX5_book : List Cond := .code yX5_book cX5_book 4 (some .int) :: ([.fieldLink RX5 97 "ExchangeDeskModel" "entries" "I", .fieldLink RX5 68 "ExchangeDeskModel" "entry" "[I", .methodLink RX5 75 yX5_in, .static yX5_in, .initialized RX5, .code yX5_in cX5_in 3 (some .boolean), .methodLink RX5 144 yX5_throwing, .instanceMethod yX5_throwing, .selects RX5 yX5_throwing yX5_throwing, .code yX5_throwing cX5_throwing 3 (some .boolean), .fieldLink RX5 71 "ExchangeDeskModel" "thrown" "I"] ++ wsX50)
def wsJ9_max_7cf53 : List Cond := .code yJ9_max_7cf53 cJ9_max_7cf53 2 (some .int) :: ([])
def wsJ9_min_7cf53 : List Cond := .code yJ9_min_7cf53 cJ9_min_7cf53 2 (some .int) :: ([])
def wsL_up_r1 : List Cond := [Cond.classLink RL 13 "java/lang/IllegalArgumentException", Cond.classLink RL 15 "java/lang/IllegalStateException", Cond.methodLink RL 7 yX4_up, Cond.instanceMethod yX4_up, Cond.selects RX4 yX4_up yX4_up, Cond.initialized RX4, Cond.code yX4_up cX4_up 3 (some .int), Cond.classLink RX4 57 "java/lang/IllegalStateException", Cond.initialized "java/lang/IllegalStateException", Cond.fieldLink RX4 64 "ExchangeDesk$Line" "state" "I", Cond.fieldLink RX4 75 "ExchangeDesk" "time" "I", Cond.methodLink RX4 49 yX4_lineOf, Cond.instanceMethod yX4_lineOf, Cond.selects RX4 yX4_lineOf yX4_lineOf, Cond.code yX4_lineOf cX4_lineOf 2 (some (.object "ExchangeDesk$Line")), Cond.fieldLink RX4 11 "ExchangeDesk" "lines" "[LExchangeDesk$Line;", Cond.methodLink RX4 139 yX4_isLine, Cond.static yX4_isLine, Cond.code yX4_isLine cX4_isLine 1 (some .boolean), Cond.methodLink RX4 87 yX4_require, Cond.static yX4_require, Cond.code yX4_require cX4_require 1 none, Cond.classLink RX4 205 "java/lang/IllegalArgumentException", Cond.initialized "java/lang/IllegalArgumentException"]
def wsL_up_r2 : List Cond := [Cond.methodLink RX4 53 yX2_isOnHook, Cond.instanceMethod yX2_isOnHook, Cond.selects RX2 yX2_isOnHook yX2_isOnHook, Cond.initialized RX2, Cond.code yX2_isOnHook cX2_isOnHook 1 (some .boolean), Cond.fieldLink RX2 9 "ExchangeDesk$Line" "state" "I", Cond.methodLink RX4 68 yX4_answer, Cond.instanceMethod yX4_answer, Cond.selects RX4 yX4_answer yX4_answer, Cond.code yX4_answer cX4_answer 3 none, Cond.fieldLink RX4 106 "ExchangeDesk$Line" "other" "I", Cond.fieldLink RX4 210 "ExchangeDesk$Line" "slot" "I", Cond.methodLink RX4 280 yX4_beginTalk, Cond.instanceMethod yX4_beginTalk, Cond.selects RX4 yX4_beginTalk yX4_beginTalk, Cond.code yX4_beginTalk cX4_beginTalk 4 none, Cond.fieldLink RX4 115 "ExchangeDesk$Line" "number" "I", Cond.fieldLink RX4 172 "ExchangeDesk$Line" "pays" "Z", Cond.methodLink RX4 293 yX2_talk, Cond.instanceMethod yX2_talk, Cond.selects RX2 yX2_talk yX2_talk, Cond.code yX2_talk cX2_talk 4 none, Cond.fieldLink RX2 18 "ExchangeDesk$Line" "other" "I", Cond.fieldLink RX2 21 "ExchangeDesk$Line" "slot" "I"]
def wsL_up_r3 : List Cond := [Cond.methodLink RX2 37 yX2_enter, Cond.instanceMethod yX2_enter, Cond.selects RX2 yX2_enter yX2_enter, Cond.code yX2_enter cX2_enter 3 none, Cond.fieldLink RX2 15 "ExchangeDesk$Line" "since" "I", Cond.fieldLink RX2 24 "ExchangeDesk$Line" "lateFor" "I", Cond.fieldLink RX2 33 "ExchangeDesk$Line" "pays" "Z", Cond.methodLink RX4 284 yX4_stopRinging, Cond.instanceMethod yX4_stopRinging, Cond.selects RX4 yX4_stopRinging yX4_stopRinging, Cond.code yX4_stopRinging cX4_stopRinging 4 none, Cond.fieldLink RX4 21 "ExchangeDesk" "paths" "LExchangeDesk$Switch;", Cond.methodLink RX4 213 yX2_ringsFor, Cond.instanceMethod yX2_ringsFor, Cond.selects RX2 yX2_ringsFor yX2_ringsFor, Cond.code yX2_ringsFor cX2_ringsFor 2 (some .boolean), Cond.methodLink RX4 301 yX3_release, Cond.instanceMethod yX3_release, Cond.selects RX3 yX3_release yX3_release, Cond.initialized RX3, Cond.code yX3_release cX3_release 4 none, Cond.methodLink RX3 38 yX3_mark, Cond.instanceMethod yX3_mark, Cond.selects RX3 yX3_mark yX3_mark]
def wsL_up_r4 : List Cond := [Cond.code yX3_mark cX3_mark 5 none, Cond.fieldLink RX3 11 "ExchangeDesk$Switch" "carried" "[[I", Cond.fieldLink RX3 22 "ExchangeDesk$Line" "number" "I", Cond.methodLink RX4 78 yX2_enter, Cond.methodLink RX4 72 yX4_callFromCamps, Cond.instanceMethod yX4_callFromCamps, Cond.selects RX4 yX4_callFromCamps yX4_callFromCamps, Cond.code yX4_callFromCamps cX4_callFromCamps 4 none, Cond.fieldLink RX4 101 "ExchangeDesk$Line" "camper" "I", Cond.methodLink RX4 216 yX4_callLine, Cond.instanceMethod yX4_callLine, Cond.selects RX4 yX4_callLine yX4_callLine, Cond.code yX4_callLine cX4_callLine 3 none, Cond.fieldLink RX4 182 "ExchangeDesk$Line" "rests" "Z", Cond.fieldLink RX4 98 "ExchangeDesk$Line" "lateFor" "I", Cond.methodLink RX4 230 yX4_ring, Cond.instanceMethod yX4_ring, Cond.selects RX4 yX4_ring yX4_ring, Cond.code yX4_ring cX4_ring 4 (some .boolean), Cond.methodLink RX4 277 yX3_take, Cond.instanceMethod yX3_take, Cond.selects RX3 yX3_take yX3_take, Cond.code yX3_take cX3_take 4 (some .int), Cond.methodLink RX3 32 Lib.Math.min.name]
def wsL_up_r5 : List Cond := [Cond.static Lib.Math.min.name, Cond.initialized "java/lang/Math", Cond.code Lib.Math.min.name Lib.Math.min.code 2 (some .int), Cond.methodLink RX3 28 yX3_lowestFree, Cond.instanceMethod yX3_lowestFree, Cond.selects RX3 yX3_lowestFree yX3_lowestFree, Cond.code yX3_lowestFree cX3_lowestFree 6 (some .int), Cond.methodLink RX4 234 yX4_block, Cond.instanceMethod yX4_block, Cond.selects RX4 yX4_block yX4_block, Cond.code yX4_block cX4_block 2 none, Cond.fieldLink RX4 185 "ExchangeDesk" "blocked" "I"]
def wsL_up : List Cond := .codeWith yL_up cL_up 4 (some .int) [(0, 9, 12, 13), (0, 9, 15, 15)] :: ((wsL_up_r1 ++ (wsL_up_r2 ++ (wsL_up_r3 ++ (wsL_up_r4 ++ wsL_up_r5)))) ++ wsX20 ++ wsX40 ++ wsX30 ++ (vx_atS RX4 61 "java/lang/IllegalStateException" ["java/lang/RuntimeException", "java/lang/Exception"]).filter goodWord ++ (vx_atS RX4 209 "java/lang/IllegalArgumentException" ["java/lang/RuntimeException", "java/lang/Exception"]).filter goodWord)
def wsL_down_r1 : List Cond := [Cond.classLink RL 13 "java/lang/IllegalArgumentException", Cond.classLink RL 15 "java/lang/IllegalStateException", Cond.methodLink RL 17 yX4_down, Cond.instanceMethod yX4_down, Cond.selects RX4 yX4_down yX4_down, Cond.initialized RX4, Cond.code yX4_down cX4_down 3 none, Cond.classLink RX4 57 "java/lang/IllegalStateException", Cond.initialized "java/lang/IllegalStateException", Cond.fieldLink RX4 75 "ExchangeDesk" "time" "I", Cond.methodLink RX4 49 yX4_lineOf, Cond.instanceMethod yX4_lineOf, Cond.selects RX4 yX4_lineOf yX4_lineOf, Cond.code yX4_lineOf cX4_lineOf 2 (some (.object "ExchangeDesk$Line")), Cond.fieldLink RX4 11 "ExchangeDesk" "lines" "[LExchangeDesk$Line;", Cond.methodLink RX4 139 yX4_isLine, Cond.static yX4_isLine, Cond.code yX4_isLine cX4_isLine 1 (some .boolean), Cond.methodLink RX4 87 yX4_require, Cond.static yX4_require, Cond.code yX4_require cX4_require 1 none, Cond.classLink RX4 205 "java/lang/IllegalArgumentException", Cond.initialized "java/lang/IllegalArgumentException", Cond.methodLink RX4 53 yX2_isOnHook]
def wsL_down_r2 : List Cond := [Cond.instanceMethod yX2_isOnHook, Cond.selects RX2 yX2_isOnHook yX2_isOnHook, Cond.initialized RX2, Cond.code yX2_isOnHook cX2_isOnHook 1 (some .boolean), Cond.fieldLink RX2 9 "ExchangeDesk$Line" "state" "I", Cond.methodLink RX4 84 yX4_leave, Cond.instanceMethod yX4_leave, Cond.selects RX4 yX4_leave yX4_leave, Cond.code yX4_leave cX4_leave 2 none, Cond.fieldLink RX4 64 "ExchangeDesk$Line" "state" "I", Cond.fieldLink RX4 32 "ExchangeDesk" "places" "[I", Cond.fieldLink RX4 106 "ExchangeDesk$Line" "other" "I", Cond.fieldLink RX4 101 "ExchangeDesk$Line" "camper" "I", Cond.methodLink RX4 111 yX4_endTalk, Cond.instanceMethod yX4_endTalk, Cond.selects RX4 yX4_endTalk yX4_endTalk, Cond.code yX4_endTalk cX4_endTalk 5 (some (.object "ExchangeDesk$Line")), Cond.fieldLink RX4 172 "ExchangeDesk$Line" "pays" "Z", Cond.fieldLink RX4 176 "ExchangeDesk$Line" "paid" "I", Cond.fieldLink RX4 45 "ExchangeDesk" "ended" "LExchangeDesk$Book;", Cond.fieldLink RX4 115 "ExchangeDesk$Line" "number" "I", Cond.fieldLink RX4 270 "ExchangeDesk$Line" "since" "I", Cond.fieldLink RX4 21 "ExchangeDesk" "paths" "LExchangeDesk$Switch;", Cond.fieldLink RX4 210 "ExchangeDesk$Line" "slot" "I"]
def wsL_down_r3 : List Cond := [Cond.methodLink RX4 179 yX4_unitsOf, Cond.instanceMethod yX4_unitsOf, Cond.selects RX4 yX4_unitsOf yX4_unitsOf, Cond.code yX4_unitsOf cX4_unitsOf 2 (some .int), Cond.methodLink RX4 297 yX0_write, Cond.instanceMethod yX0_write, Cond.selects RX0 yX0_write yX0_write, Cond.initialized RX0, Cond.code yX0_write cX0_write 6 none, Cond.fieldLink RX0 13 "ExchangeDesk$Book" "written" "I", Cond.fieldLink RX0 9 "ExchangeDesk$Book" "entries" "[I", Cond.methodLink RX4 301 yX3_release, Cond.instanceMethod yX3_release, Cond.selects RX3 yX3_release yX3_release, Cond.initialized RX3, Cond.code yX3_release cX3_release 4 none, Cond.methodLink RX3 38 yX3_mark, Cond.instanceMethod yX3_mark, Cond.selects RX3 yX3_mark yX3_mark, Cond.code yX3_mark cX3_mark 5 none, Cond.fieldLink RX3 11 "ExchangeDesk$Switch" "carried" "[[I", Cond.fieldLink RX3 22 "ExchangeDesk$Line" "number" "I", Cond.methodLink RX4 78 yX2_enter, Cond.instanceMethod yX2_enter]
def wsL_down_r4 : List Cond := [Cond.selects RX2 yX2_enter yX2_enter, Cond.code yX2_enter cX2_enter 3 none, Cond.fieldLink RX2 15 "ExchangeDesk$Line" "since" "I", Cond.fieldLink RX2 18 "ExchangeDesk$Line" "other" "I", Cond.fieldLink RX2 21 "ExchangeDesk$Line" "slot" "I", Cond.fieldLink RX2 24 "ExchangeDesk$Line" "lateFor" "I", Cond.fieldLink RX2 33 "ExchangeDesk$Line" "pays" "Z", Cond.methodLink RX4 284 yX4_stopRinging, Cond.instanceMethod yX4_stopRinging, Cond.selects RX4 yX4_stopRinging yX4_stopRinging, Cond.code yX4_stopRinging cX4_stopRinging 4 none, Cond.methodLink RX4 213 yX2_ringsFor, Cond.instanceMethod yX2_ringsFor, Cond.selects RX2 yX2_ringsFor yX2_ringsFor, Cond.code yX2_ringsFor cX2_ringsFor 2 (some .boolean), Cond.methodLink RX4 72 yX4_callFromCamps, Cond.instanceMethod yX4_callFromCamps, Cond.selects RX4 yX4_callFromCamps yX4_callFromCamps, Cond.code yX4_callFromCamps cX4_callFromCamps 4 none, Cond.methodLink RX4 216 yX4_callLine, Cond.instanceMethod yX4_callLine, Cond.selects RX4 yX4_callLine yX4_callLine, Cond.code yX4_callLine cX4_callLine 3 none, Cond.fieldLink RX4 182 "ExchangeDesk$Line" "rests" "Z"]
def wsL_down_r5 : List Cond := [Cond.fieldLink RX4 98 "ExchangeDesk$Line" "lateFor" "I", Cond.methodLink RX4 230 yX4_ring, Cond.instanceMethod yX4_ring, Cond.selects RX4 yX4_ring yX4_ring, Cond.code yX4_ring cX4_ring 4 (some .boolean), Cond.methodLink RX4 277 yX3_take, Cond.instanceMethod yX3_take, Cond.selects RX3 yX3_take yX3_take, Cond.code yX3_take cX3_take 4 (some .int), Cond.methodLink RX3 32 Lib.Math.min.name, Cond.static Lib.Math.min.name, Cond.initialized "java/lang/Math", Cond.code Lib.Math.min.name Lib.Math.min.code 2 (some .int), Cond.methodLink RX3 28 yX3_lowestFree, Cond.instanceMethod yX3_lowestFree, Cond.selects RX3 yX3_lowestFree yX3_lowestFree, Cond.code yX3_lowestFree cX3_lowestFree 6 (some .int), Cond.methodLink RX4 234 yX4_block, Cond.instanceMethod yX4_block, Cond.selects RX4 yX4_block yX4_block, Cond.code yX4_block cX4_block 2 none, Cond.fieldLink RX4 185 "ExchangeDesk" "blocked" "I"]
def wsL_down : List Cond := .codeWith yL_down cL_down 3 (some .int) [(0, 5, 8, 13), (0, 5, 11, 15)] :: ((wsL_down_r1 ++ (wsL_down_r2 ++ (wsL_down_r3 ++ (wsL_down_r4 ++ wsL_down_r5)))) ++ wsX40 ++ wsX20 ++ wsX00 ++ wsX30 ++ (vx_atS RX4 61 "java/lang/IllegalStateException" ["java/lang/RuntimeException", "java/lang/Exception"]).filter goodWord ++ (vx_atS RX4 209 "java/lang/IllegalArgumentException" ["java/lang/RuntimeException", "java/lang/Exception"]).filter goodWord)
def wsL_digit_r1 : List Cond := [Cond.classLink RL 13 "java/lang/IllegalArgumentException", Cond.methodLink RL 21 yX4_digit, Cond.instanceMethod yX4_digit, Cond.selects RX4 yX4_digit yX4_digit, Cond.initialized RX4, Cond.code yX4_digit cX4_digit 4 (some .int), Cond.fieldLink RX4 64 "ExchangeDesk$Line" "state" "I", Cond.fieldLink RX4 75 "ExchangeDesk" "time" "I", Cond.fieldLink RX4 91 "ExchangeDesk$Line" "firstDigit" "I", Cond.methodLink RX4 49 yX4_lineOf, Cond.instanceMethod yX4_lineOf, Cond.selects RX4 yX4_lineOf yX4_lineOf, Cond.code yX4_lineOf cX4_lineOf 2 (some (.object "ExchangeDesk$Line")), Cond.fieldLink RX4 11 "ExchangeDesk" "lines" "[LExchangeDesk$Line;", Cond.methodLink RX4 139 yX4_isLine, Cond.static yX4_isLine, Cond.code yX4_isLine cX4_isLine 1 (some .boolean), Cond.methodLink RX4 87 yX4_require, Cond.static yX4_require, Cond.code yX4_require cX4_require 1 none, Cond.classLink RX4 205 "java/lang/IllegalArgumentException", Cond.initialized "java/lang/IllegalArgumentException", Cond.methodLink RX4 78 yX2_enter, Cond.instanceMethod yX2_enter]
def wsL_digit_r2 : List Cond := [Cond.selects RX2 yX2_enter yX2_enter, Cond.initialized RX2, Cond.code yX2_enter cX2_enter 3 none, Cond.fieldLink RX2 9 "ExchangeDesk$Line" "state" "I", Cond.fieldLink RX2 15 "ExchangeDesk$Line" "since" "I", Cond.fieldLink RX2 18 "ExchangeDesk$Line" "other" "I", Cond.fieldLink RX2 21 "ExchangeDesk$Line" "slot" "I", Cond.fieldLink RX2 24 "ExchangeDesk$Line" "lateFor" "I", Cond.fieldLink RX2 33 "ExchangeDesk$Line" "pays" "Z", Cond.methodLink RX4 94 yX4_call, Cond.instanceMethod yX4_call, Cond.selects RX4 yX4_call yX4_call, Cond.code yX4_call cX4_call 3 none, Cond.fieldLink RX4 27 "ExchangeDesk" "groups" "[LExchangeDesk$Group;", Cond.fieldLink RX4 182 "ExchangeDesk$Line" "rests" "Z", Cond.methodLink RX4 216 yX4_callLine, Cond.instanceMethod yX4_callLine, Cond.selects RX4 yX4_callLine yX4_callLine, Cond.code yX4_callLine cX4_callLine 3 none, Cond.fieldLink RX4 115 "ExchangeDesk$Line" "number" "I", Cond.fieldLink RX4 98 "ExchangeDesk$Line" "lateFor" "I", Cond.methodLink RX4 230 yX4_ring, Cond.instanceMethod yX4_ring, Cond.selects RX4 yX4_ring yX4_ring]
def wsL_digit_r3 : List Cond := [Cond.code yX4_ring cX4_ring 4 (some .boolean), Cond.fieldLink RX4 21 "ExchangeDesk" "paths" "LExchangeDesk$Switch;", Cond.fieldLink RX4 106 "ExchangeDesk$Line" "other" "I", Cond.fieldLink RX4 210 "ExchangeDesk$Line" "slot" "I", Cond.methodLink RX4 277 yX3_take, Cond.instanceMethod yX3_take, Cond.selects RX3 yX3_take yX3_take, Cond.initialized RX3, Cond.code yX3_take cX3_take 4 (some .int), Cond.fieldLink RX3 22 "ExchangeDesk$Line" "number" "I", Cond.methodLink RX3 32 Lib.Math.min.name, Cond.static Lib.Math.min.name, Cond.initialized "java/lang/Math", Cond.code Lib.Math.min.name Lib.Math.min.code 2 (some .int), Cond.methodLink RX3 28 yX3_lowestFree, Cond.instanceMethod yX3_lowestFree, Cond.selects RX3 yX3_lowestFree yX3_lowestFree, Cond.code yX3_lowestFree cX3_lowestFree 6 (some .int), Cond.fieldLink RX3 11 "ExchangeDesk$Switch" "carried" "[[I", Cond.methodLink RX3 38 yX3_mark, Cond.instanceMethod yX3_mark, Cond.selects RX3 yX3_mark yX3_mark, Cond.code yX3_mark cX3_mark 5 none, Cond.methodLink RX4 234 yX4_block]
def wsL_digit_r4 : List Cond := [Cond.instanceMethod yX4_block, Cond.selects RX4 yX4_block yX4_block, Cond.code yX4_block cX4_block 2 none, Cond.fieldLink RX4 185 "ExchangeDesk" "blocked" "I", Cond.methodLink RX4 220 yX4_callGroup, Cond.instanceMethod yX4_callGroup, Cond.selects RX4 yX4_callGroup yX4_callGroup, Cond.code yX4_callGroup cX4_callGroup 4 none, Cond.fieldLink RX4 237 "ExchangeDesk$Group" "order" "I", Cond.methodLink RX4 240 yX4_ringAll, Cond.instanceMethod yX4_ringAll, Cond.selects RX4 yX4_ringAll yX4_ringAll, Cond.code yX4_ringAll cX4_ringAll 6 (some .boolean), Cond.fieldLink RX4 146 "ExchangeDesk$Group" "size" "I", Cond.fieldLink RX4 250 "ExchangeDesk$Group" "row" "[I", Cond.methodLink RX4 253 yX4_isWilling, Cond.static yX4_isWilling, Cond.code yX4_isWilling cX4_isWilling 2 (some .boolean), Cond.methodLink RX4 244 yX4_ringOne, Cond.instanceMethod yX4_ringOne, Cond.selects RX4 yX4_ringOne yX4_ringOne, Cond.code yX4_ringOne cX4_ringOne 4 (some .boolean), Cond.fieldLink RX4 263 "ExchangeDesk$Group" "last" "I", Cond.methodLink RX4 256 yX4_longestIdle]
def wsL_digit_r5 : List Cond := [Cond.instanceMethod yX4_longestIdle, Cond.selects RX4 yX4_longestIdle yX4_longestIdle, Cond.code yX4_longestIdle cX4_longestIdle 7 (some .int), Cond.constant RX4 269 (2147483647), Cond.fieldLink RX4 270 "ExchangeDesk$Line" "since" "I", Cond.methodLink RX4 266 yX4_canTake, Cond.instanceMethod yX4_canTake, Cond.selects RX4 yX4_canTake yX4_canTake, Cond.code yX4_canTake cX4_canTake 3 (some .boolean), Cond.methodLink RX4 273 yX3_lowestFree, Cond.methodLink RX4 260 yX4_firstToTake, Cond.instanceMethod yX4_firstToTake, Cond.selects RX4 yX4_firstToTake yX4_firstToTake, Cond.code yX4_firstToTake cX4_firstToTake 6 (some .int), Cond.methodLink RX4 247 yX4_hasWilling, Cond.instanceMethod yX4_hasWilling, Cond.selects RX4 yX4_hasWilling yX4_hasWilling, Cond.code yX4_hasWilling cX4_hasWilling 4 (some .boolean), Cond.methodLink RX4 224 yX4_pickUp, Cond.instanceMethod yX4_pickUp, Cond.selects RX4 yX4_pickUp yX4_pickUp, Cond.code yX4_pickUp cX4_pickUp 4 none, Cond.methodLink RX4 287 yX4_firstRinging, Cond.instanceMethod yX4_firstRinging]
def wsL_digit_r6 : List Cond := [Cond.selects RX4 yX4_firstRinging yX4_firstRinging, Cond.code yX4_firstRinging cX4_firstRinging 6 (some (.object "ExchangeDesk$Line")), Cond.methodLink RX4 284 yX4_stopRinging, Cond.instanceMethod yX4_stopRinging, Cond.selects RX4 yX4_stopRinging yX4_stopRinging, Cond.code yX4_stopRinging cX4_stopRinging 4 none, Cond.methodLink RX4 213 yX2_ringsFor, Cond.instanceMethod yX2_ringsFor, Cond.selects RX2 yX2_ringsFor yX2_ringsFor, Cond.code yX2_ringsFor cX2_ringsFor 2 (some .boolean), Cond.methodLink RX4 301 yX3_release, Cond.instanceMethod yX3_release, Cond.selects RX3 yX3_release yX3_release, Cond.code yX3_release cX3_release 4 none, Cond.methodLink RX4 290 yX4_talkByNewPath, Cond.instanceMethod yX4_talkByNewPath, Cond.selects RX4 yX4_talkByNewPath yX4_talkByNewPath, Cond.code yX4_talkByNewPath cX4_talkByNewPath 4 (some .boolean), Cond.methodLink RX4 280 yX4_beginTalk, Cond.instanceMethod yX4_beginTalk, Cond.selects RX4 yX4_beginTalk yX4_beginTalk, Cond.code yX4_beginTalk cX4_beginTalk 4 none, Cond.fieldLink RX4 172 "ExchangeDesk$Line" "pays" "Z", Cond.methodLink RX4 293 yX2_talk]
def wsL_digit_r7 : List Cond := [Cond.instanceMethod yX2_talk, Cond.selects RX2 yX2_talk yX2_talk, Cond.code yX2_talk cX2_talk 4 none, Cond.methodLink RX2 37 yX2_enter, Cond.methodLink RX4 227 yX4_takeParked, Cond.instanceMethod yX4_takeParked, Cond.selects RX4 yX4_takeParked yX4_takeParked, Cond.code yX4_takeParked cX4_takeParked 4 none, Cond.fieldLink RX4 32 "ExchangeDesk" "places" "[I", Cond.methodLink RX4 72 yX4_callFromCamps, Cond.instanceMethod yX4_callFromCamps, Cond.selects RX4 yX4_callFromCamps yX4_callFromCamps, Cond.code yX4_callFromCamps cX4_callFromCamps 4 none, Cond.fieldLink RX4 101 "ExchangeDesk$Line" "camper" "I"]
def wsL_digit : List Cond := .codeWith yL_digit cL_digit 5 (some .int) [(0, 10, 13, 13)] :: ((wsL_digit_r1 ++ (wsL_digit_r2 ++ (wsL_digit_r3 ++ (wsL_digit_r4 ++ (wsL_digit_r5 ++ (wsL_digit_r6 ++ wsL_digit_r7)))))) ++ wsX20 ++ wsX40 ++ wsX30 ++ wsX10 ++ (vx_atS RX4 209 "java/lang/IllegalArgumentException" ["java/lang/RuntimeException", "java/lang/Exception"]).filter goodWord)
def wsL_camp_r1 : List Cond := [Cond.classLink RL 13 "java/lang/IllegalArgumentException", Cond.classLink RL 15 "java/lang/IllegalStateException", Cond.methodLink RL 25 yX4_camp, Cond.instanceMethod yX4_camp, Cond.selects RX4 yX4_camp yX4_camp, Cond.initialized RX4, Cond.code yX4_camp cX4_camp 4 (some .int), Cond.classLink RX4 57 "java/lang/IllegalStateException", Cond.initialized "java/lang/IllegalStateException", Cond.fieldLink RX4 98 "ExchangeDesk$Line" "lateFor" "I", Cond.fieldLink RX4 11 "ExchangeDesk" "lines" "[LExchangeDesk$Line;", Cond.fieldLink RX4 64 "ExchangeDesk$Line" "state" "I", Cond.fieldLink RX4 101 "ExchangeDesk$Line" "camper" "I", Cond.fieldLink RX4 75 "ExchangeDesk" "time" "I", Cond.fieldLink RX4 106 "ExchangeDesk$Line" "other" "I", Cond.methodLink RX4 49 yX4_lineOf, Cond.instanceMethod yX4_lineOf, Cond.selects RX4 yX4_lineOf yX4_lineOf, Cond.code yX4_lineOf cX4_lineOf 2 (some (.object "ExchangeDesk$Line")), Cond.methodLink RX4 139 yX4_isLine, Cond.static yX4_isLine, Cond.code yX4_isLine cX4_isLine 1 (some .boolean), Cond.methodLink RX4 87 yX4_require, Cond.static yX4_require]
def wsL_camp_r2 : List Cond := [Cond.code yX4_require cX4_require 1 none, Cond.classLink RX4 205 "java/lang/IllegalArgumentException", Cond.initialized "java/lang/IllegalArgumentException", Cond.methodLink RX4 78 yX2_enter, Cond.instanceMethod yX2_enter, Cond.selects RX2 yX2_enter yX2_enter, Cond.initialized RX2, Cond.code yX2_enter cX2_enter 3 none, Cond.fieldLink RX2 9 "ExchangeDesk$Line" "state" "I", Cond.fieldLink RX2 15 "ExchangeDesk$Line" "since" "I", Cond.fieldLink RX2 18 "ExchangeDesk$Line" "other" "I", Cond.fieldLink RX2 21 "ExchangeDesk$Line" "slot" "I", Cond.fieldLink RX2 24 "ExchangeDesk$Line" "lateFor" "I", Cond.fieldLink RX2 33 "ExchangeDesk$Line" "pays" "Z"]
def wsL_camp : List Cond := .codeWith yL_camp cL_camp 4 (some .int) [(0, 9, 12, 13), (0, 9, 15, 15)] :: ((wsL_camp_r1 ++ wsL_camp_r2) ++ wsX20 ++ wsX40 ++ (vx_atS RX4 61 "java/lang/IllegalStateException" ["java/lang/RuntimeException", "java/lang/Exception"]).filter goodWord ++ (vx_atS RX4 209 "java/lang/IllegalArgumentException" ["java/lang/RuntimeException", "java/lang/Exception"]).filter goodWord)
def wsL_park_r1 : List Cond := [Cond.classLink RL 13 "java/lang/IllegalArgumentException", Cond.classLink RL 15 "java/lang/IllegalStateException", Cond.methodLink RL 28 yX4_park, Cond.instanceMethod yX4_park, Cond.selects RX4 yX4_park yX4_park, Cond.initialized RX4, Cond.code yX4_park cX4_park 5 (some .int), Cond.classLink RX4 57 "java/lang/IllegalStateException", Cond.initialized "java/lang/IllegalStateException", Cond.fieldLink RX4 64 "ExchangeDesk$Line" "state" "I", Cond.fieldLink RX4 32 "ExchangeDesk" "places" "[I", Cond.fieldLink RX4 75 "ExchangeDesk" "time" "I", Cond.fieldLink RX4 106 "ExchangeDesk$Line" "other" "I", Cond.fieldLink RX4 115 "ExchangeDesk$Line" "number" "I", Cond.methodLink RX4 49 yX4_lineOf, Cond.instanceMethod yX4_lineOf, Cond.selects RX4 yX4_lineOf yX4_lineOf, Cond.code yX4_lineOf cX4_lineOf 2 (some (.object "ExchangeDesk$Line")), Cond.fieldLink RX4 11 "ExchangeDesk" "lines" "[LExchangeDesk$Line;", Cond.methodLink RX4 139 yX4_isLine, Cond.static yX4_isLine, Cond.code yX4_isLine cX4_isLine 1 (some .boolean), Cond.methodLink RX4 87 yX4_require, Cond.static yX4_require]
def wsL_park_r2 : List Cond := [Cond.code yX4_require cX4_require 1 none, Cond.classLink RX4 205 "java/lang/IllegalArgumentException", Cond.initialized "java/lang/IllegalArgumentException", Cond.methodLink RX4 111 yX4_endTalk, Cond.instanceMethod yX4_endTalk, Cond.selects RX4 yX4_endTalk yX4_endTalk, Cond.code yX4_endTalk cX4_endTalk 5 (some (.object "ExchangeDesk$Line")), Cond.fieldLink RX4 172 "ExchangeDesk$Line" "pays" "Z", Cond.fieldLink RX4 176 "ExchangeDesk$Line" "paid" "I", Cond.fieldLink RX4 45 "ExchangeDesk" "ended" "LExchangeDesk$Book;", Cond.fieldLink RX4 270 "ExchangeDesk$Line" "since" "I", Cond.fieldLink RX4 21 "ExchangeDesk" "paths" "LExchangeDesk$Switch;", Cond.fieldLink RX4 210 "ExchangeDesk$Line" "slot" "I", Cond.methodLink RX4 179 yX4_unitsOf, Cond.instanceMethod yX4_unitsOf, Cond.selects RX4 yX4_unitsOf yX4_unitsOf, Cond.code yX4_unitsOf cX4_unitsOf 2 (some .int), Cond.methodLink RX4 297 yX0_write, Cond.instanceMethod yX0_write, Cond.selects RX0 yX0_write yX0_write, Cond.initialized RX0, Cond.code yX0_write cX0_write 6 none, Cond.fieldLink RX0 13 "ExchangeDesk$Book" "written" "I", Cond.fieldLink RX0 9 "ExchangeDesk$Book" "entries" "[I"]
def wsL_park_r3 : List Cond := [Cond.methodLink RX4 301 yX3_release, Cond.instanceMethod yX3_release, Cond.selects RX3 yX3_release yX3_release, Cond.initialized RX3, Cond.code yX3_release cX3_release 4 none, Cond.methodLink RX3 38 yX3_mark, Cond.instanceMethod yX3_mark, Cond.selects RX3 yX3_mark yX3_mark, Cond.code yX3_mark cX3_mark 5 none, Cond.fieldLink RX3 11 "ExchangeDesk$Switch" "carried" "[[I", Cond.fieldLink RX3 22 "ExchangeDesk$Line" "number" "I", Cond.methodLink RX4 78 yX2_enter, Cond.instanceMethod yX2_enter, Cond.selects RX2 yX2_enter yX2_enter, Cond.initialized RX2, Cond.code yX2_enter cX2_enter 3 none, Cond.fieldLink RX2 9 "ExchangeDesk$Line" "state" "I", Cond.fieldLink RX2 15 "ExchangeDesk$Line" "since" "I", Cond.fieldLink RX2 18 "ExchangeDesk$Line" "other" "I", Cond.fieldLink RX2 21 "ExchangeDesk$Line" "slot" "I", Cond.fieldLink RX2 24 "ExchangeDesk$Line" "lateFor" "I", Cond.fieldLink RX2 33 "ExchangeDesk$Line" "pays" "Z"]
def wsL_park : List Cond := .codeWith yL_park cL_park 5 (some .int) [(0, 10, 13, 13), (0, 10, 17, 15)] :: ((wsL_park_r1 ++ (wsL_park_r2 ++ wsL_park_r3)) ++ wsX20 ++ wsX40 ++ wsX00 ++ wsX30 ++ (vx_atS RX4 61 "java/lang/IllegalStateException" ["java/lang/RuntimeException", "java/lang/Exception"]).filter goodWord ++ (vx_atS RX4 209 "java/lang/IllegalArgumentException" ["java/lang/RuntimeException", "java/lang/Exception"]).filter goodWord)
def wsL_transfer_r1 : List Cond := [Cond.classLink RL 13 "java/lang/IllegalArgumentException", Cond.classLink RL 15 "java/lang/IllegalStateException", Cond.methodLink RL 31 yX4_transfer, Cond.instanceMethod yX4_transfer, Cond.selects RX4 yX4_transfer yX4_transfer, Cond.initialized RX4, Cond.code yX4_transfer cX4_transfer 5 (some .int), Cond.classLink RX4 57 "java/lang/IllegalStateException", Cond.initialized "java/lang/IllegalStateException", Cond.fieldLink RX4 64 "ExchangeDesk$Line" "state" "I", Cond.methodLink RX4 49 yX4_lineOf, Cond.instanceMethod yX4_lineOf, Cond.selects RX4 yX4_lineOf yX4_lineOf, Cond.code yX4_lineOf cX4_lineOf 2 (some (.object "ExchangeDesk$Line")), Cond.fieldLink RX4 11 "ExchangeDesk" "lines" "[LExchangeDesk$Line;", Cond.methodLink RX4 139 yX4_isLine, Cond.static yX4_isLine, Cond.code yX4_isLine cX4_isLine 1 (some .boolean), Cond.methodLink RX4 87 yX4_require, Cond.static yX4_require, Cond.code yX4_require cX4_require 1 none, Cond.classLink RX4 205 "java/lang/IllegalArgumentException", Cond.initialized "java/lang/IllegalArgumentException", Cond.methodLink RX4 111 yX4_endTalk]
def wsL_transfer_r2 : List Cond := [Cond.instanceMethod yX4_endTalk, Cond.selects RX4 yX4_endTalk yX4_endTalk, Cond.code yX4_endTalk cX4_endTalk 5 (some (.object "ExchangeDesk$Line")), Cond.fieldLink RX4 106 "ExchangeDesk$Line" "other" "I", Cond.fieldLink RX4 172 "ExchangeDesk$Line" "pays" "Z", Cond.fieldLink RX4 176 "ExchangeDesk$Line" "paid" "I", Cond.fieldLink RX4 45 "ExchangeDesk" "ended" "LExchangeDesk$Book;", Cond.fieldLink RX4 115 "ExchangeDesk$Line" "number" "I", Cond.fieldLink RX4 270 "ExchangeDesk$Line" "since" "I", Cond.fieldLink RX4 21 "ExchangeDesk" "paths" "LExchangeDesk$Switch;", Cond.fieldLink RX4 210 "ExchangeDesk$Line" "slot" "I", Cond.fieldLink RX4 75 "ExchangeDesk" "time" "I", Cond.methodLink RX4 179 yX4_unitsOf, Cond.instanceMethod yX4_unitsOf, Cond.selects RX4 yX4_unitsOf yX4_unitsOf, Cond.code yX4_unitsOf cX4_unitsOf 2 (some .int), Cond.methodLink RX4 297 yX0_write, Cond.instanceMethod yX0_write, Cond.selects RX0 yX0_write yX0_write, Cond.initialized RX0, Cond.code yX0_write cX0_write 6 none, Cond.fieldLink RX0 13 "ExchangeDesk$Book" "written" "I", Cond.fieldLink RX0 9 "ExchangeDesk$Book" "entries" "[I", Cond.methodLink RX4 301 yX3_release]
def wsL_transfer_r3 : List Cond := [Cond.instanceMethod yX3_release, Cond.selects RX3 yX3_release yX3_release, Cond.initialized RX3, Cond.code yX3_release cX3_release 4 none, Cond.methodLink RX3 38 yX3_mark, Cond.instanceMethod yX3_mark, Cond.selects RX3 yX3_mark yX3_mark, Cond.code yX3_mark cX3_mark 5 none, Cond.fieldLink RX3 11 "ExchangeDesk$Switch" "carried" "[[I", Cond.fieldLink RX3 22 "ExchangeDesk$Line" "number" "I", Cond.methodLink RX4 78 yX2_enter, Cond.instanceMethod yX2_enter, Cond.selects RX2 yX2_enter yX2_enter, Cond.initialized RX2, Cond.code yX2_enter cX2_enter 3 none, Cond.fieldLink RX2 9 "ExchangeDesk$Line" "state" "I", Cond.fieldLink RX2 15 "ExchangeDesk$Line" "since" "I", Cond.fieldLink RX2 18 "ExchangeDesk$Line" "other" "I", Cond.fieldLink RX2 21 "ExchangeDesk$Line" "slot" "I", Cond.fieldLink RX2 24 "ExchangeDesk$Line" "lateFor" "I", Cond.fieldLink RX2 33 "ExchangeDesk$Line" "pays" "Z", Cond.methodLink RX4 94 yX4_call, Cond.instanceMethod yX4_call, Cond.selects RX4 yX4_call yX4_call]
def wsL_transfer_r4 : List Cond := [Cond.code yX4_call cX4_call 3 none, Cond.fieldLink RX4 27 "ExchangeDesk" "groups" "[LExchangeDesk$Group;", Cond.fieldLink RX4 182 "ExchangeDesk$Line" "rests" "Z", Cond.methodLink RX4 216 yX4_callLine, Cond.instanceMethod yX4_callLine, Cond.selects RX4 yX4_callLine yX4_callLine, Cond.code yX4_callLine cX4_callLine 3 none, Cond.fieldLink RX4 98 "ExchangeDesk$Line" "lateFor" "I", Cond.methodLink RX4 230 yX4_ring, Cond.instanceMethod yX4_ring, Cond.selects RX4 yX4_ring yX4_ring, Cond.code yX4_ring cX4_ring 4 (some .boolean), Cond.methodLink RX4 277 yX3_take, Cond.instanceMethod yX3_take, Cond.selects RX3 yX3_take yX3_take, Cond.code yX3_take cX3_take 4 (some .int), Cond.methodLink RX3 32 Lib.Math.min.name, Cond.static Lib.Math.min.name, Cond.initialized "java/lang/Math", Cond.code Lib.Math.min.name Lib.Math.min.code 2 (some .int), Cond.methodLink RX3 28 yX3_lowestFree, Cond.instanceMethod yX3_lowestFree, Cond.selects RX3 yX3_lowestFree yX3_lowestFree, Cond.code yX3_lowestFree cX3_lowestFree 6 (some .int)]
def wsL_transfer_r5 : List Cond := [Cond.methodLink RX4 234 yX4_block, Cond.instanceMethod yX4_block, Cond.selects RX4 yX4_block yX4_block, Cond.code yX4_block cX4_block 2 none, Cond.fieldLink RX4 185 "ExchangeDesk" "blocked" "I", Cond.methodLink RX4 220 yX4_callGroup, Cond.instanceMethod yX4_callGroup, Cond.selects RX4 yX4_callGroup yX4_callGroup, Cond.code yX4_callGroup cX4_callGroup 4 none, Cond.fieldLink RX4 237 "ExchangeDesk$Group" "order" "I", Cond.methodLink RX4 240 yX4_ringAll, Cond.instanceMethod yX4_ringAll, Cond.selects RX4 yX4_ringAll yX4_ringAll, Cond.code yX4_ringAll cX4_ringAll 6 (some .boolean), Cond.fieldLink RX4 146 "ExchangeDesk$Group" "size" "I", Cond.fieldLink RX4 250 "ExchangeDesk$Group" "row" "[I", Cond.methodLink RX4 253 yX4_isWilling, Cond.static yX4_isWilling, Cond.code yX4_isWilling cX4_isWilling 2 (some .boolean), Cond.methodLink RX4 244 yX4_ringOne, Cond.instanceMethod yX4_ringOne, Cond.selects RX4 yX4_ringOne yX4_ringOne, Cond.code yX4_ringOne cX4_ringOne 4 (some .boolean), Cond.fieldLink RX4 263 "ExchangeDesk$Group" "last" "I"]
def wsL_transfer_r6 : List Cond := [Cond.methodLink RX4 256 yX4_longestIdle, Cond.instanceMethod yX4_longestIdle, Cond.selects RX4 yX4_longestIdle yX4_longestIdle, Cond.code yX4_longestIdle cX4_longestIdle 7 (some .int), Cond.constant RX4 269 (2147483647), Cond.methodLink RX4 266 yX4_canTake, Cond.instanceMethod yX4_canTake, Cond.selects RX4 yX4_canTake yX4_canTake, Cond.code yX4_canTake cX4_canTake 3 (some .boolean), Cond.methodLink RX4 273 yX3_lowestFree, Cond.methodLink RX4 260 yX4_firstToTake, Cond.instanceMethod yX4_firstToTake, Cond.selects RX4 yX4_firstToTake yX4_firstToTake, Cond.code yX4_firstToTake cX4_firstToTake 6 (some .int), Cond.methodLink RX4 247 yX4_hasWilling, Cond.instanceMethod yX4_hasWilling, Cond.selects RX4 yX4_hasWilling yX4_hasWilling, Cond.code yX4_hasWilling cX4_hasWilling 4 (some .boolean), Cond.methodLink RX4 224 yX4_pickUp, Cond.instanceMethod yX4_pickUp, Cond.selects RX4 yX4_pickUp yX4_pickUp, Cond.code yX4_pickUp cX4_pickUp 4 none, Cond.methodLink RX4 287 yX4_firstRinging, Cond.instanceMethod yX4_firstRinging]
def wsL_transfer_r7 : List Cond := [Cond.selects RX4 yX4_firstRinging yX4_firstRinging, Cond.code yX4_firstRinging cX4_firstRinging 6 (some (.object "ExchangeDesk$Line")), Cond.methodLink RX4 284 yX4_stopRinging, Cond.instanceMethod yX4_stopRinging, Cond.selects RX4 yX4_stopRinging yX4_stopRinging, Cond.code yX4_stopRinging cX4_stopRinging 4 none, Cond.methodLink RX4 213 yX2_ringsFor, Cond.instanceMethod yX2_ringsFor, Cond.selects RX2 yX2_ringsFor yX2_ringsFor, Cond.code yX2_ringsFor cX2_ringsFor 2 (some .boolean), Cond.methodLink RX4 290 yX4_talkByNewPath, Cond.instanceMethod yX4_talkByNewPath, Cond.selects RX4 yX4_talkByNewPath yX4_talkByNewPath, Cond.code yX4_talkByNewPath cX4_talkByNewPath 4 (some .boolean), Cond.methodLink RX4 280 yX4_beginTalk, Cond.instanceMethod yX4_beginTalk, Cond.selects RX4 yX4_beginTalk yX4_beginTalk, Cond.code yX4_beginTalk cX4_beginTalk 4 none, Cond.methodLink RX4 293 yX2_talk, Cond.instanceMethod yX2_talk, Cond.selects RX2 yX2_talk yX2_talk, Cond.code yX2_talk cX2_talk 4 none, Cond.methodLink RX2 37 yX2_enter, Cond.methodLink RX4 227 yX4_takeParked]
def wsL_transfer_r8 : List Cond := [Cond.instanceMethod yX4_takeParked, Cond.selects RX4 yX4_takeParked yX4_takeParked, Cond.code yX4_takeParked cX4_takeParked 4 none, Cond.fieldLink RX4 32 "ExchangeDesk" "places" "[I", Cond.methodLink RX4 72 yX4_callFromCamps, Cond.instanceMethod yX4_callFromCamps, Cond.selects RX4 yX4_callFromCamps yX4_callFromCamps, Cond.code yX4_callFromCamps cX4_callFromCamps 4 none, Cond.fieldLink RX4 101 "ExchangeDesk$Line" "camper" "I"]
def wsL_transfer : List Cond := .codeWith yL_transfer cL_transfer 5 (some .int) [(0, 10, 13, 13), (0, 10, 17, 15)] :: ((wsL_transfer_r1 ++ (wsL_transfer_r2 ++ (wsL_transfer_r3 ++ (wsL_transfer_r4 ++ (wsL_transfer_r5 ++ (wsL_transfer_r6 ++ (wsL_transfer_r7 ++ wsL_transfer_r8))))))) ++ wsX20 ++ wsX40 ++ wsX00 ++ wsX30 ++ wsX10 ++ (vx_atS RX4 61 "java/lang/IllegalStateException" ["java/lang/RuntimeException", "java/lang/Exception"]).filter goodWord ++ (vx_atS RX4 209 "java/lang/IllegalArgumentException" ["java/lang/RuntimeException", "java/lang/Exception"]).filter goodWord)
def wsL_tick_r1 : List Cond := [Cond.classLink RL 13 "java/lang/IllegalArgumentException", Cond.methodLink RL 34 yX4_tick, Cond.instanceMethod yX4_tick, Cond.selects RX4 yX4_tick yX4_tick, Cond.initialized RX4, Cond.code yX4_tick cX4_tick 4 (some .int), Cond.fieldLink RX4 75 "ExchangeDesk" "time" "I", Cond.methodLink RX4 124 Lib.Math.max.name, Cond.static Lib.Math.max.name, Cond.initialized "java/lang/Math", Cond.code Lib.Math.max.name Lib.Math.max.code 2 (some .int), Cond.methodLink RX4 130 Lib.Math.min.name, Cond.static Lib.Math.min.name, Cond.code Lib.Math.min.name Lib.Math.min.code 2 (some .int), Cond.methodLink RX4 87 yX4_require, Cond.static yX4_require, Cond.code yX4_require cX4_require 1 none, Cond.classLink RX4 205 "java/lang/IllegalArgumentException", Cond.initialized "java/lang/IllegalArgumentException", Cond.methodLink RX4 120 yX4_earliestDue, Cond.instanceMethod yX4_earliestDue, Cond.selects RX4 yX4_earliestDue yX4_earliestDue, Cond.code yX4_earliestDue cX4_earliestDue 3 (some .int), Cond.constant RX4 269 (2147483647)]
def wsL_tick_r2 : List Cond := [Cond.fieldLink RX4 11 "ExchangeDesk" "lines" "[LExchangeDesk$Line;", Cond.methodLink RX4 304 yX2_due, Cond.instanceMethod yX2_due, Cond.selects RX2 yX2_due yX2_due, Cond.initialized RX2, Cond.code yX2_due cX2_due 1 (some .int), Cond.fieldLink RX2 9 "ExchangeDesk$Line" "state" "I", Cond.fieldLink RX2 15 "ExchangeDesk$Line" "since" "I", Cond.constant RX2 41 (2147483647), Cond.methodLink RX4 133 yX4_lookAtTimers, Cond.instanceMethod yX4_lookAtTimers, Cond.selects RX4 yX4_lookAtTimers yX4_lookAtTimers, Cond.code yX4_lookAtTimers cX4_lookAtTimers 2 none, Cond.methodLink RX4 307 yX4_runOut, Cond.instanceMethod yX4_runOut, Cond.selects RX4 yX4_runOut yX4_runOut, Cond.code yX4_runOut cX4_runOut 2 none, Cond.fieldLink RX4 64 "ExchangeDesk$Line" "state" "I", Cond.methodLink RX4 78 yX2_enter, Cond.instanceMethod yX2_enter, Cond.selects RX2 yX2_enter yX2_enter, Cond.code yX2_enter cX2_enter 3 none, Cond.fieldLink RX2 18 "ExchangeDesk$Line" "other" "I", Cond.fieldLink RX2 21 "ExchangeDesk$Line" "slot" "I"]
def wsL_tick_r3 : List Cond := [Cond.fieldLink RX2 24 "ExchangeDesk$Line" "lateFor" "I", Cond.fieldLink RX2 33 "ExchangeDesk$Line" "pays" "Z", Cond.methodLink RX4 84 yX4_leave, Cond.instanceMethod yX4_leave, Cond.selects RX4 yX4_leave yX4_leave, Cond.code yX4_leave cX4_leave 2 none, Cond.fieldLink RX4 32 "ExchangeDesk" "places" "[I", Cond.fieldLink RX4 106 "ExchangeDesk$Line" "other" "I", Cond.fieldLink RX4 101 "ExchangeDesk$Line" "camper" "I", Cond.methodLink RX4 111 yX4_endTalk, Cond.instanceMethod yX4_endTalk, Cond.selects RX4 yX4_endTalk yX4_endTalk, Cond.code yX4_endTalk cX4_endTalk 5 (some (.object "ExchangeDesk$Line")), Cond.fieldLink RX4 172 "ExchangeDesk$Line" "pays" "Z", Cond.fieldLink RX4 176 "ExchangeDesk$Line" "paid" "I", Cond.fieldLink RX4 45 "ExchangeDesk" "ended" "LExchangeDesk$Book;", Cond.fieldLink RX4 115 "ExchangeDesk$Line" "number" "I", Cond.fieldLink RX4 270 "ExchangeDesk$Line" "since" "I", Cond.fieldLink RX4 21 "ExchangeDesk" "paths" "LExchangeDesk$Switch;", Cond.fieldLink RX4 210 "ExchangeDesk$Line" "slot" "I", Cond.methodLink RX4 179 yX4_unitsOf, Cond.instanceMethod yX4_unitsOf, Cond.selects RX4 yX4_unitsOf yX4_unitsOf, Cond.code yX4_unitsOf cX4_unitsOf 2 (some .int)]
def wsL_tick_r4 : List Cond := [Cond.methodLink RX4 297 yX0_write, Cond.instanceMethod yX0_write, Cond.selects RX0 yX0_write yX0_write, Cond.initialized RX0, Cond.code yX0_write cX0_write 6 none, Cond.fieldLink RX0 13 "ExchangeDesk$Book" "written" "I", Cond.fieldLink RX0 9 "ExchangeDesk$Book" "entries" "[I", Cond.methodLink RX4 301 yX3_release, Cond.instanceMethod yX3_release, Cond.selects RX3 yX3_release yX3_release, Cond.initialized RX3, Cond.code yX3_release cX3_release 4 none, Cond.methodLink RX3 38 yX3_mark, Cond.instanceMethod yX3_mark, Cond.selects RX3 yX3_mark yX3_mark, Cond.code yX3_mark cX3_mark 5 none, Cond.fieldLink RX3 11 "ExchangeDesk$Switch" "carried" "[[I", Cond.fieldLink RX3 22 "ExchangeDesk$Line" "number" "I", Cond.methodLink RX4 284 yX4_stopRinging, Cond.instanceMethod yX4_stopRinging, Cond.selects RX4 yX4_stopRinging yX4_stopRinging, Cond.code yX4_stopRinging cX4_stopRinging 4 none, Cond.methodLink RX4 213 yX2_ringsFor, Cond.instanceMethod yX2_ringsFor]
def wsL_tick_r5 : List Cond := [Cond.selects RX2 yX2_ringsFor yX2_ringsFor, Cond.code yX2_ringsFor cX2_ringsFor 2 (some .boolean), Cond.methodLink RX4 72 yX4_callFromCamps, Cond.instanceMethod yX4_callFromCamps, Cond.selects RX4 yX4_callFromCamps yX4_callFromCamps, Cond.code yX4_callFromCamps cX4_callFromCamps 4 none, Cond.methodLink RX4 216 yX4_callLine, Cond.instanceMethod yX4_callLine, Cond.selects RX4 yX4_callLine yX4_callLine, Cond.code yX4_callLine cX4_callLine 3 none, Cond.fieldLink RX4 182 "ExchangeDesk$Line" "rests" "Z", Cond.fieldLink RX4 98 "ExchangeDesk$Line" "lateFor" "I", Cond.methodLink RX4 230 yX4_ring, Cond.instanceMethod yX4_ring, Cond.selects RX4 yX4_ring yX4_ring, Cond.code yX4_ring cX4_ring 4 (some .boolean), Cond.methodLink RX4 277 yX3_take, Cond.instanceMethod yX3_take, Cond.selects RX3 yX3_take yX3_take, Cond.code yX3_take cX3_take 4 (some .int), Cond.methodLink RX3 32 Lib.Math.min.name, Cond.methodLink RX3 28 yX3_lowestFree, Cond.instanceMethod yX3_lowestFree, Cond.selects RX3 yX3_lowestFree yX3_lowestFree]
def wsL_tick_r6 : List Cond := [Cond.code yX3_lowestFree cX3_lowestFree 6 (some .int), Cond.methodLink RX4 234 yX4_block, Cond.instanceMethod yX4_block, Cond.selects RX4 yX4_block yX4_block, Cond.code yX4_block cX4_block 2 none, Cond.fieldLink RX4 185 "ExchangeDesk" "blocked" "I"]
def wsL_tick : List Cond := .codeWith yL_tick cL_tick 4 (some .int) [(0, 9, 12, 13)] :: ((wsL_tick_r1 ++ (wsL_tick_r2 ++ (wsL_tick_r3 ++ (wsL_tick_r4 ++ (wsL_tick_r5 ++ wsL_tick_r6))))) ++ wsX40 ++ wsX20 ++ wsX00 ++ wsX30 ++ (vx_atS RX4 209 "java/lang/IllegalArgumentException" ["java/lang/RuntimeException", "java/lang/Exception"]).filter goodWord)
def wsL_group_r1 : List Cond := [Cond.classLink RL 13 "java/lang/IllegalArgumentException", Cond.classLink RL 15 "java/lang/IllegalStateException", Cond.methodLink RL 37 yX4_group, Cond.instanceMethod yX4_group, Cond.selects RX4 yX4_group yX4_group, Cond.initialized RX4, Cond.code yX4_group cX4_group 5 (some .int), Cond.classLink RX4 57 "java/lang/IllegalStateException", Cond.initialized "java/lang/IllegalStateException", Cond.fieldLink RX4 27 "ExchangeDesk" "groups" "[LExchangeDesk$Group;", Cond.fieldLink RX4 146 "ExchangeDesk$Group" "size" "I", Cond.methodLink RX4 87 yX4_require, Cond.static yX4_require, Cond.code yX4_require cX4_require 1 none, Cond.classLink RX4 205 "java/lang/IllegalArgumentException", Cond.initialized "java/lang/IllegalArgumentException", Cond.methodLink RX4 136 yX1_restart, Cond.instanceMethod yX1_restart, Cond.selects RX1 yX1_restart yX1_restart, Cond.initialized RX1, Cond.code yX1_restart cX1_restart 2 none, Cond.fieldLink RX1 22 "ExchangeDesk$Group" "size" "I", Cond.fieldLink RX1 15 "ExchangeDesk$Group" "order" "I", Cond.fieldLink RX1 19 "ExchangeDesk$Group" "last" "I"]
def wsL_group_r2 : List Cond := [Cond.methodLink RX4 139 yX4_isLine, Cond.static yX4_isLine, Cond.code yX4_isLine cX4_isLine 1 (some .boolean), Cond.methodLink RX4 143 yX1_has, Cond.instanceMethod yX1_has, Cond.selects RX1 yX1_has yX1_has, Cond.code yX1_has cX1_has 3 (some .boolean), Cond.fieldLink RX1 9 "ExchangeDesk$Group" "row" "[I", Cond.methodLink RX4 151 yX1_add, Cond.instanceMethod yX1_add, Cond.selects RX1 yX1_add yX1_add, Cond.code yX1_add cX1_add 2 none]
def wsL_group : List Cond := .codeWith yL_group cL_group 6 (some .int) [(0, 12, 15, 13), (0, 12, 19, 15)] :: ((wsL_group_r1 ++ wsL_group_r2) ++ wsX40 ++ wsX10 ++ (vx_atS RX4 61 "java/lang/IllegalStateException" ["java/lang/RuntimeException", "java/lang/Exception"]).filter goodWord ++ (vx_atS RX4 209 "java/lang/IllegalArgumentException" ["java/lang/RuntimeException", "java/lang/Exception"]).filter goodWord)
def wsL_slot : List Cond := .codeWith yL_slot cL_slot 5 (some .int) [(0, 7, 10, 13), (0, 7, 14, 15)] :: ([.classLink RL 13 "java/lang/IllegalArgumentException", .classLink RL 15 "java/lang/IllegalStateException", .methodLink RL 41 yX4_slot, .instanceMethod yX4_slot, .selects RX4 yX4_slot yX4_slot, .initialized RX4, .code yX4_slot cX4_slot 4 none, .classLink RX4 57 "java/lang/IllegalStateException", .initialized "java/lang/IllegalStateException", .fieldLink RX4 21 "ExchangeDesk" "paths" "LExchangeDesk$Switch;", .fieldLink RX4 158 "ExchangeDesk$Switch" "carried" "[[I", .methodLink RX4 154 yX4_isSlot, .static yX4_isSlot, .code yX4_isSlot cX4_isSlot 2 (some .boolean), .methodLink RX4 87 yX4_require, .static yX4_require, .code yX4_require cX4_require 1 none, .classLink RX4 205 "java/lang/IllegalArgumentException", .initialized "java/lang/IllegalArgumentException"] ++ wsX40 ++ wsX30 ++ (vx_atS RX4 61 "java/lang/IllegalStateException" ["java/lang/RuntimeException", "java/lang/Exception"]).filter goodWord ++ (vx_atS RX4 209 "java/lang/IllegalArgumentException" ["java/lang/RuntimeException", "java/lang/Exception"]).filter goodWord)
def wsL_carries : List Cond := .codeWith yL_carries cL_carries 5 (some .int) [(0, 10, 13, 13)] :: ([.classLink RL 13 "java/lang/IllegalArgumentException", .methodLink RL 45 yX4_carries, .instanceMethod yX4_carries, .selects RX4 yX4_carries yX4_carries, .initialized RX4, .code yX4_carries cX4_carries 3 (some .int), .fieldLink RX4 21 "ExchangeDesk" "paths" "LExchangeDesk$Switch;", .fieldLink RX4 158 "ExchangeDesk$Switch" "carried" "[[I", .methodLink RX4 154 yX4_isSlot, .static yX4_isSlot, .code yX4_isSlot cX4_isSlot 2 (some .boolean), .methodLink RX4 87 yX4_require, .static yX4_require, .code yX4_require cX4_require 1 none, .classLink RX4 205 "java/lang/IllegalArgumentException", .initialized "java/lang/IllegalArgumentException"] ++ wsX40 ++ wsX30 ++ (vx_atS RX4 209 "java/lang/IllegalArgumentException" ["java/lang/RuntimeException", "java/lang/Exception"]).filter goodWord)
def wsL_line_r1 : List Cond := [Cond.classLink RL 13 "java/lang/IllegalArgumentException", Cond.methodLink RL 48 yX4_line, Cond.instanceMethod yX4_line, Cond.selects RX4 yX4_line yX4_line, Cond.initialized RX4, Cond.code yX4_line cX4_line 4 (some .int), Cond.fieldLink RX4 64 "ExchangeDesk$Line" "state" "I", Cond.fieldLink RX4 106 "ExchangeDesk$Line" "other" "I", Cond.fieldLink RX4 172 "ExchangeDesk$Line" "pays" "Z", Cond.fieldLink RX4 176 "ExchangeDesk$Line" "paid" "I", Cond.fieldLink RX4 182 "ExchangeDesk$Line" "rests" "Z", Cond.fieldLink RX4 101 "ExchangeDesk$Line" "camper" "I", Cond.methodLink RX4 49 yX4_lineOf, Cond.instanceMethod yX4_lineOf, Cond.selects RX4 yX4_lineOf yX4_lineOf, Cond.code yX4_lineOf cX4_lineOf 2 (some (.object "ExchangeDesk$Line")), Cond.fieldLink RX4 11 "ExchangeDesk" "lines" "[LExchangeDesk$Line;", Cond.methodLink RX4 139 yX4_isLine, Cond.static yX4_isLine, Cond.code yX4_isLine cX4_isLine 1 (some .boolean), Cond.methodLink RX4 87 yX4_require, Cond.static yX4_require, Cond.code yX4_require cX4_require 1 none, Cond.classLink RX4 205 "java/lang/IllegalArgumentException"]
def wsL_line_r2 : List Cond := [Cond.initialized "java/lang/IllegalArgumentException", Cond.methodLink RX4 164 yX4_lowestRinging, Cond.instanceMethod yX4_lowestRinging, Cond.selects RX4 yX4_lowestRinging yX4_lowestRinging, Cond.code yX4_lowestRinging cX4_lowestRinging 3 (some .int), Cond.methodLink RX4 213 yX2_ringsFor, Cond.instanceMethod yX2_ringsFor, Cond.selects RX2 yX2_ringsFor yX2_ringsFor, Cond.initialized RX2, Cond.code yX2_ringsFor cX2_ringsFor 2 (some .boolean), Cond.fieldLink RX2 9 "ExchangeDesk$Line" "state" "I", Cond.fieldLink RX2 18 "ExchangeDesk$Line" "other" "I", Cond.methodLink RX4 168 yX4_slotOf, Cond.instanceMethod yX4_slotOf, Cond.selects RX4 yX4_slotOf yX4_slotOf, Cond.code yX4_slotOf cX4_slotOf 3 (some .int), Cond.fieldLink RX4 210 "ExchangeDesk$Line" "slot" "I", Cond.fieldLink RX4 115 "ExchangeDesk$Line" "number" "I", Cond.methodLink RX4 179 yX4_unitsOf, Cond.instanceMethod yX4_unitsOf, Cond.selects RX4 yX4_unitsOf yX4_unitsOf, Cond.code yX4_unitsOf cX4_unitsOf 2 (some .int), Cond.fieldLink RX4 75 "ExchangeDesk" "time" "I", Cond.fieldLink RX4 270 "ExchangeDesk$Line" "since" "I"]
def wsL_line : List Cond := .codeWith yL_line cL_line 5 (some .int) [(0, 10, 13, 13)] :: ((wsL_line_r1 ++ wsL_line_r2) ++ wsX20 ++ wsX40 ++ (vx_atS RX4 209 "java/lang/IllegalArgumentException" ["java/lang/RuntimeException", "java/lang/Exception"]).filter goodWord)
def wsL_count : List Cond := .codeWith yL_count cL_count 4 (some .int) [(0, 9, 12, 13)] :: ([.classLink RL 13 "java/lang/IllegalArgumentException", .methodLink RL 51 yX4_count, .instanceMethod yX4_count, .selects RX4 yX4_count yX4_count, .initialized RX4, .code yX4_count cX4_count 2 (some .int), .fieldLink RX4 185 "ExchangeDesk" "blocked" "I", .fieldLink RX4 45 "ExchangeDesk" "ended" "LExchangeDesk$Book;", .fieldLink RX4 188 "ExchangeDesk$Book" "written" "I", .fieldLink RX4 21 "ExchangeDesk" "paths" "LExchangeDesk$Switch;", .methodLink RX4 87 yX4_require, .static yX4_require, .code yX4_require cX4_require 1 none, .classLink RX4 205 "java/lang/IllegalArgumentException", .initialized "java/lang/IllegalArgumentException", .methodLink RX4 191 yX3_slotsInUse, .instanceMethod yX3_slotsInUse, .selects RX3 yX3_slotsInUse yX3_slotsInUse, .initialized RX3, .code yX3_slotsInUse cX3_slotsInUse 4 (some .int), .fieldLink RX3 11 "ExchangeDesk$Switch" "carried" "[[I"] ++ wsX40 ++ wsX00 ++ wsX30 ++ (vx_atS RX4 209 "java/lang/IllegalArgumentException" ["java/lang/RuntimeException", "java/lang/Exception"]).filter goodWord)
def wsL_book_r1 : List Cond := [Cond.classLink RL 13 "java/lang/IllegalArgumentException", Cond.classLink RL 57 "java/lang/IndexOutOfBoundsException", Cond.methodLink RL 54 yX4_book, Cond.instanceMethod yX4_book, Cond.selects RX4 yX4_book yX4_book, Cond.initialized RX4, Cond.code yX4_book cX4_book 3 (some .int), Cond.classLink RX4 197 "java/lang/IndexOutOfBoundsException", Cond.initialized "java/lang/IndexOutOfBoundsException", Cond.fieldLink RX4 45 "ExchangeDesk" "ended" "LExchangeDesk$Book;", Cond.methodLink RX4 87 yX4_require, Cond.static yX4_require, Cond.code yX4_require cX4_require 1 none, Cond.classLink RX4 205 "java/lang/IllegalArgumentException", Cond.initialized "java/lang/IllegalArgumentException", Cond.methodLink RX4 194 yX0_keeps, Cond.instanceMethod yX0_keeps, Cond.selects RX0 yX0_keeps yX0_keeps, Cond.initialized RX0, Cond.code yX0_keeps cX0_keeps 2 (some .boolean), Cond.fieldLink RX0 13 "ExchangeDesk$Book" "written" "I", Cond.methodLink RX4 202 yX0_read, Cond.instanceMethod yX0_read, Cond.selects RX0 yX0_read yX0_read]
def wsL_book_r2 : List Cond := [Cond.code yX0_read cX0_read 3 (some .int), Cond.fieldLink RX0 9 "ExchangeDesk$Book" "entries" "[I"]
def wsL_book : List Cond := .codeWith yL_book cL_book 5 (some .int) [(0, 10, 13, 13), (0, 10, 17, 57)] :: ((wsL_book_r1 ++ wsL_book_r2) ++ wsX40 ++ wsX00 ++ (vx_atS RX4 201 "java/lang/IndexOutOfBoundsException" ["java/lang/RuntimeException", "java/lang/Exception"]).filter goodWord ++ (vx_atS RX4 209 "java/lang/IllegalArgumentException" ["java/lang/RuntimeException", "java/lang/Exception"]).filter goodWord)
end
section
theorem dX0_init_0 : decode cX0_init 0 = .ok (.aload_n 0, 1) := by decide +kernel
theorem dX0_init_1 : decode cX0_init 1 = .ok (.invokespecial 1, 3) := by decide +kernel
theorem dX0_init_4 : decode cX0_init 4 = .ok (.aload_n 0, 1) := by decide +kernel
theorem dX0_init_5 : decode cX0_init 5 = .ok (.sipush 240, 3) := by decide +kernel
theorem dX0_init_8 : decode cX0_init 8 = .ok (.newarray .int, 2) := by decide +kernel
theorem dX0_init_10 : decode cX0_init 10 = .ok (.putfield 9, 3) := by decide +kernel
theorem dX0_init_13 : decode cX0_init 13 = .ok (.return_, 1) := by decide +kernel
theorem dX0_write_0 : decode cX0_write 0 = .ok (.aload_n 0, 1) := by decide +kernel
theorem dX0_write_1 : decode cX0_write 1 = .ok (.getfield 13, 3) := by decide +kernel
theorem dX0_write_4 : decode cX0_write 4 = .ok (.bipush 60, 2) := by decide +kernel
theorem dX0_write_6 : decode cX0_write 6 = .ok (.irem, 1) := by decide +kernel
theorem dX0_write_7 : decode cX0_write 7 = .ok (.iconst 4, 1) := by decide +kernel
theorem dX0_write_8 : decode cX0_write 8 = .ok (.imul, 1) := by decide +kernel
theorem dX0_write_9 : decode cX0_write 9 = .ok (.istore 5, 2) := by decide +kernel
theorem dX0_write_11 : decode cX0_write 11 = .ok (.aload_n 0, 1) := by decide +kernel
theorem dX0_write_12 : decode cX0_write 12 = .ok (.getfield 9, 3) := by decide +kernel
theorem dX0_write_15 : decode cX0_write 15 = .ok (.iload 5, 2) := by decide +kernel
theorem dX0_write_17 : decode cX0_write 17 = .ok (.iload_n 1, 1) := by decide +kernel
theorem dX0_write_18 : decode cX0_write 18 = .ok (.iastore, 1) := by decide +kernel
theorem dX0_write_19 : decode cX0_write 19 = .ok (.aload_n 0, 1) := by decide +kernel
theorem dX0_write_20 : decode cX0_write 20 = .ok (.getfield 9, 3) := by decide +kernel
theorem dX0_write_23 : decode cX0_write 23 = .ok (.iload 5, 2) := by decide +kernel
theorem dX0_write_25 : decode cX0_write 25 = .ok (.iconst 1, 1) := by decide +kernel
theorem dX0_write_26 : decode cX0_write 26 = .ok (.iadd, 1) := by decide +kernel
theorem dX0_write_27 : decode cX0_write 27 = .ok (.iload_n 2, 1) := by decide +kernel
theorem dX0_write_28 : decode cX0_write 28 = .ok (.iastore, 1) := by decide +kernel
theorem dX0_write_29 : decode cX0_write 29 = .ok (.aload_n 0, 1) := by decide +kernel
theorem dX0_write_30 : decode cX0_write 30 = .ok (.getfield 9, 3) := by decide +kernel
theorem dX0_write_33 : decode cX0_write 33 = .ok (.iload 5, 2) := by decide +kernel
theorem dX0_write_35 : decode cX0_write 35 = .ok (.iconst 2, 1) := by decide +kernel
theorem dX0_write_36 : decode cX0_write 36 = .ok (.iadd, 1) := by decide +kernel
theorem dX0_write_37 : decode cX0_write 37 = .ok (.iload_n 3, 1) := by decide +kernel
theorem dX0_write_38 : decode cX0_write 38 = .ok (.iastore, 1) := by decide +kernel
theorem dX0_write_39 : decode cX0_write 39 = .ok (.aload_n 0, 1) := by decide +kernel
theorem dX0_write_40 : decode cX0_write 40 = .ok (.getfield 9, 3) := by decide +kernel
theorem dX0_write_43 : decode cX0_write 43 = .ok (.iload 5, 2) := by decide +kernel
theorem dX0_write_45 : decode cX0_write 45 = .ok (.iconst 3, 1) := by decide +kernel
theorem dX0_write_46 : decode cX0_write 46 = .ok (.iadd, 1) := by decide +kernel
theorem dX0_write_47 : decode cX0_write 47 = .ok (.iload 4, 2) := by decide +kernel
theorem dX0_write_49 : decode cX0_write 49 = .ok (.iastore, 1) := by decide +kernel
theorem dX0_write_50 : decode cX0_write 50 = .ok (.aload_n 0, 1) := by decide +kernel
theorem dX0_write_51 : decode cX0_write 51 = .ok (.dup, 1) := by decide +kernel
theorem dX0_write_52 : decode cX0_write 52 = .ok (.getfield 13, 3) := by decide +kernel
theorem dX0_write_55 : decode cX0_write 55 = .ok (.iconst 1, 1) := by decide +kernel
theorem dX0_write_56 : decode cX0_write 56 = .ok (.iadd, 1) := by decide +kernel
theorem dX0_write_57 : decode cX0_write 57 = .ok (.putfield 13, 3) := by decide +kernel
theorem dX0_write_60 : decode cX0_write 60 = .ok (.return_, 1) := by decide +kernel
theorem dX0_keeps_0 : decode cX0_keeps 0 = .ok (.iload_n 1, 1) := by decide +kernel
theorem dX0_keeps_1 : decode cX0_keeps 1 = .ok (.ifCond .lt 26, 3) := by decide +kernel
theorem dX0_keeps_4 : decode cX0_keeps 4 = .ok (.iload_n 1, 1) := by decide +kernel
theorem dX0_keeps_5 : decode cX0_keeps 5 = .ok (.aload_n 0, 1) := by decide +kernel
theorem dX0_keeps_6 : decode cX0_keeps 6 = .ok (.getfield 13, 3) := by decide +kernel
theorem dX0_keeps_9 : decode cX0_keeps 9 = .ok (.if_icmp .ge 18, 3) := by decide +kernel
theorem dX0_keeps_12 : decode cX0_keeps 12 = .ok (.iload_n 1, 1) := by decide +kernel
theorem dX0_keeps_13 : decode cX0_keeps 13 = .ok (.aload_n 0, 1) := by decide +kernel
theorem dX0_keeps_14 : decode cX0_keeps 14 = .ok (.getfield 13, 3) := by decide +kernel
theorem dX0_keeps_17 : decode cX0_keeps 17 = .ok (.bipush 60, 2) := by decide +kernel
theorem dX0_keeps_19 : decode cX0_keeps 19 = .ok (.isub, 1) := by decide +kernel
theorem dX0_keeps_20 : decode cX0_keeps 20 = .ok (.if_icmp .lt 7, 3) := by decide +kernel
theorem dX0_keeps_23 : decode cX0_keeps 23 = .ok (.iconst 1, 1) := by decide +kernel
theorem dX0_keeps_24 : decode cX0_keeps 24 = .ok (.goto 4, 3) := by decide +kernel
theorem dX0_keeps_27 : decode cX0_keeps 27 = .ok (.iconst 0, 1) := by decide +kernel
theorem dX0_keeps_28 : decode cX0_keeps 28 = .ok (.ireturn, 1) := by decide +kernel
theorem dX0_read_0 : decode cX0_read 0 = .ok (.aload_n 0, 1) := by decide +kernel
theorem dX0_read_1 : decode cX0_read 1 = .ok (.getfield 9, 3) := by decide +kernel
theorem dX0_read_4 : decode cX0_read 4 = .ok (.iload_n 1, 1) := by decide +kernel
theorem dX0_read_5 : decode cX0_read 5 = .ok (.bipush 60, 2) := by decide +kernel
theorem dX0_read_7 : decode cX0_read 7 = .ok (.irem, 1) := by decide +kernel
theorem dX0_read_8 : decode cX0_read 8 = .ok (.iconst 4, 1) := by decide +kernel
theorem dX0_read_9 : decode cX0_read 9 = .ok (.imul, 1) := by decide +kernel
theorem dX0_read_10 : decode cX0_read 10 = .ok (.iload_n 2, 1) := by decide +kernel
theorem dX0_read_11 : decode cX0_read 11 = .ok (.iadd, 1) := by decide +kernel
theorem dX0_read_12 : decode cX0_read 12 = .ok (.iaload, 1) := by decide +kernel
theorem dX0_read_13 : decode cX0_read 13 = .ok (.ireturn, 1) := by decide +kernel
theorem dX1_init_0 : decode cX1_init 0 = .ok (.aload_n 0, 1) := by decide +kernel
theorem dX1_init_1 : decode cX1_init 1 = .ok (.invokespecial 3, 3) := by decide +kernel
theorem dX1_init_4 : decode cX1_init 4 = .ok (.aload_n 0, 1) := by decide +kernel
theorem dX1_init_5 : decode cX1_init 5 = .ok (.bipush 6, 2) := by decide +kernel
theorem dX1_init_7 : decode cX1_init 7 = .ok (.newarray .int, 2) := by decide +kernel
theorem dX1_init_9 : decode cX1_init 9 = .ok (.putfield 9, 3) := by decide +kernel
theorem dX1_init_12 : decode cX1_init 12 = .ok (.aload_n 0, 1) := by decide +kernel
theorem dX1_init_13 : decode cX1_init 13 = .ok (.iconst 0, 1) := by decide +kernel
theorem dX1_init_14 : decode cX1_init 14 = .ok (.putfield 15, 3) := by decide +kernel
theorem dX1_init_17 : decode cX1_init 17 = .ok (.aload_n 0, 1) := by decide +kernel
theorem dX1_init_18 : decode cX1_init 18 = .ok (.iconst (-1), 1) := by decide +kernel
theorem dX1_init_19 : decode cX1_init 19 = .ok (.putfield 19, 3) := by decide +kernel
theorem dX1_init_22 : decode cX1_init 22 = .ok (.return_, 1) := by decide +kernel
theorem dX1_restart_0 : decode cX1_restart 0 = .ok (.aload_n 0, 1) := by decide +kernel
theorem dX1_restart_1 : decode cX1_restart 1 = .ok (.iconst 0, 1) := by decide +kernel
theorem dX1_restart_2 : decode cX1_restart 2 = .ok (.putfield 22, 3) := by decide +kernel
theorem dX1_restart_5 : decode cX1_restart 5 = .ok (.aload_n 0, 1) := by decide +kernel
theorem dX1_restart_6 : decode cX1_restart 6 = .ok (.iload_n 1, 1) := by decide +kernel
theorem dX1_restart_7 : decode cX1_restart 7 = .ok (.putfield 15, 3) := by decide +kernel
theorem dX1_restart_10 : decode cX1_restart 10 = .ok (.aload_n 0, 1) := by decide +kernel
theorem dX1_restart_11 : decode cX1_restart 11 = .ok (.iconst (-1), 1) := by decide +kernel
theorem dX1_restart_12 : decode cX1_restart 12 = .ok (.putfield 19, 3) := by decide +kernel
theorem dX1_restart_15 : decode cX1_restart 15 = .ok (.return_, 1) := by decide +kernel
theorem dX1_has_0 : decode cX1_has 0 = .ok (.iconst 0, 1) := by decide +kernel
theorem dX1_has_1 : decode cX1_has 1 = .ok (.istore_n 2, 1) := by decide +kernel
theorem dX1_has_2 : decode cX1_has 2 = .ok (.iload_n 2, 1) := by decide +kernel
theorem dX1_has_3 : decode cX1_has 3 = .ok (.aload_n 0, 1) := by decide +kernel
theorem dX1_has_4 : decode cX1_has 4 = .ok (.getfield 22, 3) := by decide +kernel
theorem dX1_has_7 : decode cX1_has 7 = .ok (.if_icmp .ge 21, 3) := by decide +kernel
theorem dX1_has_10 : decode cX1_has 10 = .ok (.aload_n 0, 1) := by decide +kernel
theorem dX1_has_11 : decode cX1_has 11 = .ok (.getfield 9, 3) := by decide +kernel
theorem dX1_has_14 : decode cX1_has 14 = .ok (.iload_n 2, 1) := by decide +kernel
theorem dX1_has_15 : decode cX1_has 15 = .ok (.iaload, 1) := by decide +kernel
theorem dX1_has_16 : decode cX1_has 16 = .ok (.iload_n 1, 1) := by decide +kernel
theorem dX1_has_17 : decode cX1_has 17 = .ok (.if_icmp .ne 5, 3) := by decide +kernel
theorem dX1_has_20 : decode cX1_has 20 = .ok (.iconst 1, 1) := by decide +kernel
theorem dX1_has_21 : decode cX1_has 21 = .ok (.ireturn, 1) := by decide +kernel
theorem dX1_has_22 : decode cX1_has 22 = .ok (.iinc 2 1, 3) := by decide +kernel
theorem dX1_has_25 : decode cX1_has 25 = .ok (.goto (-23), 3) := by decide +kernel
theorem dX1_has_28 : decode cX1_has 28 = .ok (.iconst 0, 1) := by decide +kernel
theorem dX1_has_29 : decode cX1_has 29 = .ok (.ireturn, 1) := by decide +kernel
theorem dX1_add_0 : decode cX1_add 0 = .ok (.aload_n 0, 1) := by decide +kernel
theorem dX1_add_1 : decode cX1_add 1 = .ok (.getfield 9, 3) := by decide +kernel
theorem dX1_add_4 : decode cX1_add 4 = .ok (.aload_n 0, 1) := by decide +kernel
theorem dX1_add_5 : decode cX1_add 5 = .ok (.getfield 22, 3) := by decide +kernel
theorem dX1_add_8 : decode cX1_add 8 = .ok (.iload_n 1, 1) := by decide +kernel
theorem dX1_add_9 : decode cX1_add 9 = .ok (.iastore, 1) := by decide +kernel
theorem dX1_add_10 : decode cX1_add 10 = .ok (.aload_n 0, 1) := by decide +kernel
theorem dX1_add_11 : decode cX1_add 11 = .ok (.dup, 1) := by decide +kernel
theorem dX1_add_12 : decode cX1_add 12 = .ok (.getfield 22, 3) := by decide +kernel
theorem dX1_add_15 : decode cX1_add 15 = .ok (.iconst 1, 1) := by decide +kernel
theorem dX1_add_16 : decode cX1_add 16 = .ok (.iadd, 1) := by decide +kernel
theorem dX1_add_17 : decode cX1_add 17 = .ok (.putfield 22, 3) := by decide +kernel
theorem dX1_add_20 : decode cX1_add 20 = .ok (.return_, 1) := by decide +kernel
theorem dX2_init_0 : decode cX2_init 0 = .ok (.aload_n 0, 1) := by decide +kernel
theorem dX2_init_1 : decode cX2_init 1 = .ok (.invokespecial 3, 3) := by decide +kernel
theorem dX2_init_4 : decode cX2_init 4 = .ok (.aload_n 0, 1) := by decide +kernel
theorem dX2_init_5 : decode cX2_init 5 = .ok (.iconst 0, 1) := by decide +kernel
theorem dX2_init_6 : decode cX2_init 6 = .ok (.putfield 9, 3) := by decide +kernel
theorem dX2_init_9 : decode cX2_init 9 = .ok (.aload_n 0, 1) := by decide +kernel
theorem dX2_init_10 : decode cX2_init 10 = .ok (.iconst (-1), 1) := by decide +kernel
theorem dX2_init_11 : decode cX2_init 11 = .ok (.putfield 15, 3) := by decide +kernel
theorem dX2_init_14 : decode cX2_init 14 = .ok (.aload_n 0, 1) := by decide +kernel
theorem dX2_init_15 : decode cX2_init 15 = .ok (.iconst (-1), 1) := by decide +kernel
theorem dX2_init_16 : decode cX2_init 16 = .ok (.putfield 18, 3) := by decide +kernel
theorem dX2_init_19 : decode cX2_init 19 = .ok (.aload_n 0, 1) := by decide +kernel
theorem dX2_init_20 : decode cX2_init 20 = .ok (.iconst (-1), 1) := by decide +kernel
theorem dX2_init_21 : decode cX2_init 21 = .ok (.putfield 21, 3) := by decide +kernel
theorem dX2_init_24 : decode cX2_init 24 = .ok (.aload_n 0, 1) := by decide +kernel
theorem dX2_init_25 : decode cX2_init 25 = .ok (.iconst (-1), 1) := by decide +kernel
theorem dX2_init_26 : decode cX2_init 26 = .ok (.putfield 24, 3) := by decide +kernel
theorem dX2_init_29 : decode cX2_init 29 = .ok (.aload_n 0, 1) := by decide +kernel
theorem dX2_init_30 : decode cX2_init 30 = .ok (.iconst (-1), 1) := by decide +kernel
theorem dX2_init_31 : decode cX2_init 31 = .ok (.putfield 27, 3) := by decide +kernel
theorem dX2_init_34 : decode cX2_init 34 = .ok (.aload_n 0, 1) := by decide +kernel
theorem dX2_init_35 : decode cX2_init 35 = .ok (.iload_n 1, 1) := by decide +kernel
theorem dX2_init_36 : decode cX2_init 36 = .ok (.putfield 30, 3) := by decide +kernel
theorem dX2_init_39 : decode cX2_init 39 = .ok (.return_, 1) := by decide +kernel
theorem dX2_isOnHook_0 : decode cX2_isOnHook 0 = .ok (.aload_n 0, 1) := by decide +kernel
theorem dX2_isOnHook_1 : decode cX2_isOnHook 1 = .ok (.getfield 9, 3) := by decide +kernel
theorem dX2_isOnHook_4 : decode cX2_isOnHook 4 = .ok (.ifCond .eq 11, 3) := by decide +kernel
theorem dX2_isOnHook_7 : decode cX2_isOnHook 7 = .ok (.aload_n 0, 1) := by decide +kernel
theorem dX2_isOnHook_8 : decode cX2_isOnHook 8 = .ok (.getfield 9, 3) := by decide +kernel
theorem dX2_isOnHook_11 : decode cX2_isOnHook 11 = .ok (.iconst 4, 1) := by decide +kernel
theorem dX2_isOnHook_12 : decode cX2_isOnHook 12 = .ok (.if_icmp .ne 7, 3) := by decide +kernel
theorem dX2_isOnHook_15 : decode cX2_isOnHook 15 = .ok (.iconst 1, 1) := by decide +kernel
theorem dX2_isOnHook_16 : decode cX2_isOnHook 16 = .ok (.goto 4, 3) := by decide +kernel
theorem dX2_isOnHook_19 : decode cX2_isOnHook 19 = .ok (.iconst 0, 1) := by decide +kernel
theorem dX2_isOnHook_20 : decode cX2_isOnHook 20 = .ok (.ireturn, 1) := by decide +kernel
theorem dX2_ringsFor_0 : decode cX2_ringsFor 0 = .ok (.aload_n 0, 1) := by decide +kernel
theorem dX2_ringsFor_1 : decode cX2_ringsFor 1 = .ok (.getfield 9, 3) := by decide +kernel
theorem dX2_ringsFor_4 : decode cX2_ringsFor 4 = .ok (.iconst 4, 1) := by decide +kernel
theorem dX2_ringsFor_5 : decode cX2_ringsFor 5 = .ok (.if_icmp .ne 15, 3) := by decide +kernel
theorem dX2_ringsFor_8 : decode cX2_ringsFor 8 = .ok (.aload_n 0, 1) := by decide +kernel
theorem dX2_ringsFor_9 : decode cX2_ringsFor 9 = .ok (.getfield 18, 3) := by decide +kernel
theorem dX2_ringsFor_12 : decode cX2_ringsFor 12 = .ok (.iload_n 1, 1) := by decide +kernel
theorem dX2_ringsFor_13 : decode cX2_ringsFor 13 = .ok (.if_icmp .ne 7, 3) := by decide +kernel
theorem dX2_ringsFor_16 : decode cX2_ringsFor 16 = .ok (.iconst 1, 1) := by decide +kernel
theorem dX2_ringsFor_17 : decode cX2_ringsFor 17 = .ok (.goto 4, 3) := by decide +kernel
theorem dX2_ringsFor_20 : decode cX2_ringsFor 20 = .ok (.iconst 0, 1) := by decide +kernel
theorem dX2_ringsFor_21 : decode cX2_ringsFor 21 = .ok (.ireturn, 1) := by decide +kernel
theorem dX2_enter_0 : decode cX2_enter 0 = .ok (.aload_n 0, 1) := by decide +kernel
theorem dX2_enter_1 : decode cX2_enter 1 = .ok (.iload_n 1, 1) := by decide +kernel
theorem dX2_enter_2 : decode cX2_enter 2 = .ok (.putfield 9, 3) := by decide +kernel
theorem dX2_enter_5 : decode cX2_enter 5 = .ok (.aload_n 0, 1) := by decide +kernel
theorem dX2_enter_6 : decode cX2_enter 6 = .ok (.iload_n 2, 1) := by decide +kernel
theorem dX2_enter_7 : decode cX2_enter 7 = .ok (.putfield 15, 3) := by decide +kernel
theorem dX2_enter_10 : decode cX2_enter 10 = .ok (.aload_n 0, 1) := by decide +kernel
theorem dX2_enter_11 : decode cX2_enter 11 = .ok (.iconst (-1), 1) := by decide +kernel
theorem dX2_enter_12 : decode cX2_enter 12 = .ok (.putfield 18, 3) := by decide +kernel
theorem dX2_enter_15 : decode cX2_enter 15 = .ok (.aload_n 0, 1) := by decide +kernel
theorem dX2_enter_16 : decode cX2_enter 16 = .ok (.iconst (-1), 1) := by decide +kernel
theorem dX2_enter_17 : decode cX2_enter 17 = .ok (.putfield 21, 3) := by decide +kernel
theorem dX2_enter_20 : decode cX2_enter 20 = .ok (.aload_n 0, 1) := by decide +kernel
theorem dX2_enter_21 : decode cX2_enter 21 = .ok (.iconst (-1), 1) := by decide +kernel
theorem dX2_enter_22 : decode cX2_enter 22 = .ok (.putfield 24, 3) := by decide +kernel
theorem dX2_enter_25 : decode cX2_enter 25 = .ok (.aload_n 0, 1) := by decide +kernel
theorem dX2_enter_26 : decode cX2_enter 26 = .ok (.iconst 0, 1) := by decide +kernel
theorem dX2_enter_27 : decode cX2_enter 27 = .ok (.putfield 33, 3) := by decide +kernel
theorem dX2_enter_30 : decode cX2_enter 30 = .ok (.return_, 1) := by decide +kernel
set_option maxRecDepth 20000 in
theorem ggX2_talk_X2_enter : GoodIn wsX2_talk wsX2_enter := goodIn_r _ [7, 8, 9, 1, 2, 10, 11, 12, 13, 14, 15, 16, 17, 18, 19, 20, 21, 22] (by decide +kernel) (by decide +kernel)
set_option maxRecDepth 20000 in
theorem gX2_talk_X2_enter : GoodIn wsX2_talk (wsV RX2 37 RX2 yX2_enter wsX2_enter) := goodIn_app (goodIn_of _ (by decide +kernel)) ggX2_talk_X2_enter
theorem dX2_talk_0 : decode cX2_talk 0 = .ok (.aload_n 0, 1) := by decide +kernel
theorem dX2_talk_1 : decode cX2_talk 1 = .ok (.bipush 6, 2) := by decide +kernel
theorem dX2_talk_3 : decode cX2_talk 3 = .ok (.iload_n 3, 1) := by decide +kernel
theorem dX2_talk_4 : decode cX2_talk 4 = .ok (.invokevirtual 37, 3) := by decide +kernel
theorem dX2_talk_7 : decode cX2_talk 7 = .ok (.aload_n 0, 1) := by decide +kernel
theorem dX2_talk_8 : decode cX2_talk 8 = .ok (.iload_n 1, 1) := by decide +kernel
theorem dX2_talk_9 : decode cX2_talk 9 = .ok (.putfield 18, 3) := by decide +kernel
theorem dX2_talk_12 : decode cX2_talk 12 = .ok (.aload_n 0, 1) := by decide +kernel
theorem dX2_talk_13 : decode cX2_talk 13 = .ok (.iload_n 2, 1) := by decide +kernel
theorem dX2_talk_14 : decode cX2_talk 14 = .ok (.putfield 21, 3) := by decide +kernel
theorem dX2_talk_17 : decode cX2_talk 17 = .ok (.return_, 1) := by decide +kernel
theorem dX2_due_0 : decode cX2_due 0 = .ok (.aload_n 0, 1) := by decide +kernel
theorem dX2_due_1 : decode cX2_due 1 = .ok (.getfield 9, 3) := by decide +kernel
theorem dX2_due_4 : decode cX2_due 4 = .ok (.tableswitch 70 1 7 #[44, 44, 52, 70, 70, 70, 61], 44) := by decide +kernel
theorem dX2_due_48 : decode cX2_due 48 = .ok (.aload_n 0, 1) := by decide +kernel
theorem dX2_due_49 : decode cX2_due 49 = .ok (.getfield 15, 3) := by decide +kernel
theorem dX2_due_52 : decode cX2_due 52 = .ok (.bipush 100, 2) := by decide +kernel
theorem dX2_due_54 : decode cX2_due 54 = .ok (.iadd, 1) := by decide +kernel
theorem dX2_due_55 : decode cX2_due 55 = .ok (.ireturn, 1) := by decide +kernel
theorem dX2_due_56 : decode cX2_due 56 = .ok (.aload_n 0, 1) := by decide +kernel
theorem dX2_due_57 : decode cX2_due 57 = .ok (.getfield 15, 3) := by decide +kernel
theorem dX2_due_60 : decode cX2_due 60 = .ok (.sipush 300, 3) := by decide +kernel
theorem dX2_due_63 : decode cX2_due 63 = .ok (.iadd, 1) := by decide +kernel
theorem dX2_due_64 : decode cX2_due 64 = .ok (.ireturn, 1) := by decide +kernel
theorem dX2_due_65 : decode cX2_due 65 = .ok (.aload_n 0, 1) := by decide +kernel
theorem dX2_due_66 : decode cX2_due 66 = .ok (.getfield 15, 3) := by decide +kernel
theorem dX2_due_69 : decode cX2_due 69 = .ok (.sipush 600, 3) := by decide +kernel
theorem dX2_due_72 : decode cX2_due 72 = .ok (.iadd, 1) := by decide +kernel
theorem dX2_due_73 : decode cX2_due 73 = .ok (.ireturn, 1) := by decide +kernel
theorem dX2_due_74 : decode cX2_due 74 = .ok (.ldc 41, 2) := by decide +kernel
theorem dX2_due_76 : decode cX2_due 76 = .ok (.ireturn, 1) := by decide +kernel
set_option maxRecDepth 20000 in
theorem ggX3_init_J7_fill_53178 : GoodIn wsX3_init wsJ7_fill_53178 := goodIn_r _ [10] (by decide +kernel) (by decide +kernel)
set_option maxRecDepth 20000 in
theorem gX3_init_J7_fill_53178 : GoodIn wsX3_init (va_wsS RX3 16 yJ7_fill_53178 wsJ7_fill_53178) := goodIn_app (goodIn_of _ (by decide +kernel)) ggX3_init_J7_fill_53178
theorem dX3_init_0 : decode cX3_init 0 = .ok (.aload_n 0, 1) := by decide +kernel
theorem dX3_init_1 : decode cX3_init 1 = .ok (.invokespecial 3, 3) := by decide +kernel
theorem dX3_init_4 : decode cX3_init 4 = .ok (.aload_n 0, 1) := by decide +kernel
theorem dX3_init_5 : decode cX3_init 5 = .ok (.iconst 4, 1) := by decide +kernel
theorem dX3_init_6 : decode cX3_init 6 = .ok (.bipush 8, 2) := by decide +kernel
theorem dX3_init_8 : decode cX3_init 8 = .ok (.multianewarray 9 2, 4) := by decide +kernel
theorem dX3_init_12 : decode cX3_init 12 = .ok (.putfield 11, 3) := by decide +kernel
theorem dX3_init_15 : decode cX3_init 15 = .ok (.iconst 0, 1) := by decide +kernel
theorem dX3_init_16 : decode cX3_init 16 = .ok (.istore_n 1, 1) := by decide +kernel
theorem dX3_init_17 : decode cX3_init 17 = .ok (.iload_n 1, 1) := by decide +kernel
theorem dX3_init_18 : decode cX3_init 18 = .ok (.iconst 4, 1) := by decide +kernel
theorem dX3_init_19 : decode cX3_init 19 = .ok (.if_icmp .ge 19, 3) := by decide +kernel
theorem dX3_init_22 : decode cX3_init 22 = .ok (.aload_n 0, 1) := by decide +kernel
theorem dX3_init_23 : decode cX3_init 23 = .ok (.getfield 11, 3) := by decide +kernel
theorem dX3_init_26 : decode cX3_init 26 = .ok (.iload_n 1, 1) := by decide +kernel
theorem dX3_init_27 : decode cX3_init 27 = .ok (.aaload, 1) := by decide +kernel
theorem dX3_init_28 : decode cX3_init 28 = .ok (.iconst (-1), 1) := by decide +kernel
theorem dX3_init_29 : decode cX3_init 29 = .ok (.invokestatic 16, 3) := by decide +kernel
theorem dX3_init_32 : decode cX3_init 32 = .ok (.iinc 1 1, 3) := by decide +kernel
theorem dX3_init_35 : decode cX3_init 35 = .ok (.goto (-18), 3) := by decide +kernel
theorem dX3_init_38 : decode cX3_init 38 = .ok (.return_, 1) := by decide +kernel
theorem dX3_lowestFree_0 : decode cX3_lowestFree 0 = .ok (.aload_n 0, 1) := by decide +kernel
theorem dX3_lowestFree_1 : decode cX3_lowestFree 1 = .ok (.getfield 11, 3) := by decide +kernel
theorem dX3_lowestFree_4 : decode cX3_lowestFree 4 = .ok (.aload_n 1, 1) := by decide +kernel
theorem dX3_lowestFree_5 : decode cX3_lowestFree 5 = .ok (.getfield 22, 3) := by decide +kernel
theorem dX3_lowestFree_8 : decode cX3_lowestFree 8 = .ok (.bipush 6, 2) := by decide +kernel
theorem dX3_lowestFree_10 : decode cX3_lowestFree 10 = .ok (.idiv, 1) := by decide +kernel
theorem dX3_lowestFree_11 : decode cX3_lowestFree 11 = .ok (.aaload, 1) := by decide +kernel
theorem dX3_lowestFree_12 : decode cX3_lowestFree 12 = .ok (.astore_n 3, 1) := by decide +kernel
theorem dX3_lowestFree_13 : decode cX3_lowestFree 13 = .ok (.aload_n 0, 1) := by decide +kernel
theorem dX3_lowestFree_14 : decode cX3_lowestFree 14 = .ok (.getfield 11, 3) := by decide +kernel
theorem dX3_lowestFree_17 : decode cX3_lowestFree 17 = .ok (.aload_n 2, 1) := by decide +kernel
theorem dX3_lowestFree_18 : decode cX3_lowestFree 18 = .ok (.getfield 22, 3) := by decide +kernel
theorem dX3_lowestFree_21 : decode cX3_lowestFree 21 = .ok (.bipush 6, 2) := by decide +kernel
theorem dX3_lowestFree_23 : decode cX3_lowestFree 23 = .ok (.idiv, 1) := by decide +kernel
theorem dX3_lowestFree_24 : decode cX3_lowestFree 24 = .ok (.aaload, 1) := by decide +kernel
theorem dX3_lowestFree_25 : decode cX3_lowestFree 25 = .ok (.astore 4, 2) := by decide +kernel
theorem dX3_lowestFree_27 : decode cX3_lowestFree 27 = .ok (.iconst 0, 1) := by decide +kernel
theorem dX3_lowestFree_28 : decode cX3_lowestFree 28 = .ok (.istore 5, 2) := by decide +kernel
theorem dX3_lowestFree_30 : decode cX3_lowestFree 30 = .ok (.iload 5, 2) := by decide +kernel
theorem dX3_lowestFree_32 : decode cX3_lowestFree 32 = .ok (.bipush 8, 2) := by decide +kernel
theorem dX3_lowestFree_34 : decode cX3_lowestFree 34 = .ok (.if_icmp .ge 29, 3) := by decide +kernel
theorem dX3_lowestFree_37 : decode cX3_lowestFree 37 = .ok (.aload_n 3, 1) := by decide +kernel
theorem dX3_lowestFree_38 : decode cX3_lowestFree 38 = .ok (.iload 5, 2) := by decide +kernel
theorem dX3_lowestFree_40 : decode cX3_lowestFree 40 = .ok (.iaload, 1) := by decide +kernel
theorem dX3_lowestFree_41 : decode cX3_lowestFree 41 = .ok (.iconst (-1), 1) := by decide +kernel
theorem dX3_lowestFree_42 : decode cX3_lowestFree 42 = .ok (.if_icmp .ne 15, 3) := by decide +kernel
theorem dX3_lowestFree_45 : decode cX3_lowestFree 45 = .ok (.aload 4, 2) := by decide +kernel
theorem dX3_lowestFree_47 : decode cX3_lowestFree 47 = .ok (.iload 5, 2) := by decide +kernel
theorem dX3_lowestFree_49 : decode cX3_lowestFree 49 = .ok (.iaload, 1) := by decide +kernel
theorem dX3_lowestFree_50 : decode cX3_lowestFree 50 = .ok (.iconst (-1), 1) := by decide +kernel
theorem dX3_lowestFree_51 : decode cX3_lowestFree 51 = .ok (.if_icmp .ne 6, 3) := by decide +kernel
theorem dX3_lowestFree_54 : decode cX3_lowestFree 54 = .ok (.iload 5, 2) := by decide +kernel
theorem dX3_lowestFree_56 : decode cX3_lowestFree 56 = .ok (.ireturn, 1) := by decide +kernel
theorem dX3_lowestFree_57 : decode cX3_lowestFree 57 = .ok (.iinc 5 1, 3) := by decide +kernel
theorem dX3_lowestFree_60 : decode cX3_lowestFree 60 = .ok (.goto (-30), 3) := by decide +kernel
theorem dX3_lowestFree_63 : decode cX3_lowestFree 63 = .ok (.iconst (-1), 1) := by decide +kernel
theorem dX3_lowestFree_64 : decode cX3_lowestFree 64 = .ok (.ireturn, 1) := by decide +kernel
set_option maxRecDepth 20000 in
theorem ggX3_take_X3_lowestFree : GoodIn wsX3_take wsX3_lowestFree := goodIn_r _ [10, 11, 1, 27, 16, 17, 18, 19, 20, 21, 22, 23, 24, 25, 26] (by decide +kernel) (by decide +kernel)
set_option maxRecDepth 20000 in
theorem gX3_take_X3_lowestFree : GoodIn wsX3_take (wsV RX3 28 RX3 yX3_lowestFree wsX3_lowestFree) := goodIn_app (goodIn_of _ (by decide +kernel)) ggX3_take_X3_lowestFree
set_option maxRecDepth 20000 in
theorem ggX3_take_X3_mark : GoodIn wsX3_take wsX3_mark := goodIn_r _ [15, 11, 1, 27, 16, 17, 18, 19, 20, 21, 22, 23, 24, 25, 26] (by decide +kernel) (by decide +kernel)
set_option maxRecDepth 20000 in
theorem gX3_take_X3_mark : GoodIn wsX3_take (wsV RX3 38 RX3 yX3_mark wsX3_mark) := goodIn_app (goodIn_of _ (by decide +kernel)) ggX3_take_X3_mark
theorem dX3_take_0 : decode cX3_take 0 = .ok (.aload_n 0, 1) := by decide +kernel
theorem dX3_take_1 : decode cX3_take 1 = .ok (.aload_n 1, 1) := by decide +kernel
theorem dX3_take_2 : decode cX3_take 2 = .ok (.aload_n 2, 1) := by decide +kernel
theorem dX3_take_3 : decode cX3_take 3 = .ok (.invokevirtual 28, 3) := by decide +kernel
theorem dX3_take_6 : decode cX3_take 6 = .ok (.istore_n 3, 1) := by decide +kernel
theorem dX3_take_7 : decode cX3_take 7 = .ok (.iload_n 3, 1) := by decide +kernel
theorem dX3_take_8 : decode cX3_take 8 = .ok (.iconst (-1), 1) := by decide +kernel
theorem dX3_take_9 : decode cX3_take 9 = .ok (.if_icmp .eq 21, 3) := by decide +kernel
theorem dX3_take_12 : decode cX3_take 12 = .ok (.aload_n 0, 1) := by decide +kernel
theorem dX3_take_13 : decode cX3_take 13 = .ok (.aload_n 1, 1) := by decide +kernel
theorem dX3_take_14 : decode cX3_take 14 = .ok (.aload_n 2, 1) := by decide +kernel
theorem dX3_take_15 : decode cX3_take 15 = .ok (.iload_n 3, 1) := by decide +kernel
theorem dX3_take_16 : decode cX3_take 16 = .ok (.aload_n 1, 1) := by decide +kernel
theorem dX3_take_17 : decode cX3_take 17 = .ok (.getfield 22, 3) := by decide +kernel
theorem dX3_take_20 : decode cX3_take 20 = .ok (.aload_n 2, 1) := by decide +kernel
theorem dX3_take_21 : decode cX3_take 21 = .ok (.getfield 22, 3) := by decide +kernel
theorem dX3_take_24 : decode cX3_take 24 = .ok (.invokestatic 32, 3) := by decide +kernel
theorem dX3_take_27 : decode cX3_take 27 = .ok (.invokevirtual 38, 3) := by decide +kernel
theorem dX3_take_30 : decode cX3_take 30 = .ok (.iload_n 3, 1) := by decide +kernel
theorem dX3_take_31 : decode cX3_take 31 = .ok (.ireturn, 1) := by decide +kernel
set_option maxRecDepth 20000 in
theorem ggX3_release_X3_mark : GoodIn wsX3_release wsX3_mark := goodIn_r _ [5, 6, 7, 8, 9, 10, 11, 12, 13, 14, 15, 16, 17, 18, 19] (by decide +kernel) (by decide +kernel)
set_option maxRecDepth 20000 in
theorem gX3_release_X3_mark : GoodIn wsX3_release (wsV RX3 38 RX3 yX3_mark wsX3_mark) := goodIn_app (goodIn_of _ (by decide +kernel)) ggX3_release_X3_mark
theorem dX3_release_0 : decode cX3_release 0 = .ok (.aload_n 0, 1) := by decide +kernel
theorem dX3_release_1 : decode cX3_release 1 = .ok (.aload_n 1, 1) := by decide +kernel
theorem dX3_release_2 : decode cX3_release 2 = .ok (.aload_n 2, 1) := by decide +kernel
theorem dX3_release_3 : decode cX3_release 3 = .ok (.iload_n 3, 1) := by decide +kernel
theorem dX3_release_4 : decode cX3_release 4 = .ok (.iconst (-1), 1) := by decide +kernel
theorem dX3_release_5 : decode cX3_release 5 = .ok (.invokevirtual 38, 3) := by decide +kernel
theorem dX3_release_8 : decode cX3_release 8 = .ok (.return_, 1) := by decide +kernel
theorem dX3_mark_0 : decode cX3_mark 0 = .ok (.aload_n 0, 1) := by decide +kernel
theorem dX3_mark_1 : decode cX3_mark 1 = .ok (.getfield 11, 3) := by decide +kernel
theorem dX3_mark_4 : decode cX3_mark 4 = .ok (.aload_n 1, 1) := by decide +kernel
theorem dX3_mark_5 : decode cX3_mark 5 = .ok (.getfield 22, 3) := by decide +kernel
theorem dX3_mark_8 : decode cX3_mark 8 = .ok (.bipush 6, 2) := by decide +kernel
theorem dX3_mark_10 : decode cX3_mark 10 = .ok (.idiv, 1) := by decide +kernel
theorem dX3_mark_11 : decode cX3_mark 11 = .ok (.aaload, 1) := by decide +kernel
theorem dX3_mark_12 : decode cX3_mark 12 = .ok (.iload_n 3, 1) := by decide +kernel
theorem dX3_mark_13 : decode cX3_mark 13 = .ok (.iload 4, 2) := by decide +kernel
theorem dX3_mark_15 : decode cX3_mark 15 = .ok (.iastore, 1) := by decide +kernel
theorem dX3_mark_16 : decode cX3_mark 16 = .ok (.aload_n 0, 1) := by decide +kernel
theorem dX3_mark_17 : decode cX3_mark 17 = .ok (.getfield 11, 3) := by decide +kernel
theorem dX3_mark_20 : decode cX3_mark 20 = .ok (.aload_n 2, 1) := by decide +kernel
theorem dX3_mark_21 : decode cX3_mark 21 = .ok (.getfield 22, 3) := by decide +kernel
theorem dX3_mark_24 : decode cX3_mark 24 = .ok (.bipush 6, 2) := by decide +kernel
theorem dX3_mark_26 : decode cX3_mark 26 = .ok (.idiv, 1) := by decide +kernel
theorem dX3_mark_27 : decode cX3_mark 27 = .ok (.aaload, 1) := by decide +kernel
theorem dX3_mark_28 : decode cX3_mark 28 = .ok (.iload_n 3, 1) := by decide +kernel
theorem dX3_mark_29 : decode cX3_mark 29 = .ok (.iload 4, 2) := by decide +kernel
theorem dX3_mark_31 : decode cX3_mark 31 = .ok (.iastore, 1) := by decide +kernel
theorem dX3_mark_32 : decode cX3_mark 32 = .ok (.return_, 1) := by decide +kernel
theorem dX3_slotsInUse_0 : decode cX3_slotsInUse 0 = .ok (.iconst 0, 1) := by decide +kernel
theorem dX3_slotsInUse_1 : decode cX3_slotsInUse 1 = .ok (.istore_n 1, 1) := by decide +kernel
theorem dX3_slotsInUse_2 : decode cX3_slotsInUse 2 = .ok (.iconst 0, 1) := by decide +kernel
theorem dX3_slotsInUse_3 : decode cX3_slotsInUse 3 = .ok (.istore_n 2, 1) := by decide +kernel
theorem dX3_slotsInUse_4 : decode cX3_slotsInUse 4 = .ok (.iload_n 2, 1) := by decide +kernel
theorem dX3_slotsInUse_5 : decode cX3_slotsInUse 5 = .ok (.iconst 4, 1) := by decide +kernel
theorem dX3_slotsInUse_6 : decode cX3_slotsInUse 6 = .ok (.if_icmp .ge 37, 3) := by decide +kernel
theorem dX3_slotsInUse_9 : decode cX3_slotsInUse 9 = .ok (.iconst 0, 1) := by decide +kernel
theorem dX3_slotsInUse_10 : decode cX3_slotsInUse 10 = .ok (.istore_n 3, 1) := by decide +kernel
theorem dX3_slotsInUse_11 : decode cX3_slotsInUse 11 = .ok (.iload_n 3, 1) := by decide +kernel
theorem dX3_slotsInUse_12 : decode cX3_slotsInUse 12 = .ok (.bipush 8, 2) := by decide +kernel
theorem dX3_slotsInUse_14 : decode cX3_slotsInUse 14 = .ok (.if_icmp .ge 23, 3) := by decide +kernel
theorem dX3_slotsInUse_17 : decode cX3_slotsInUse 17 = .ok (.aload_n 0, 1) := by decide +kernel
theorem dX3_slotsInUse_18 : decode cX3_slotsInUse 18 = .ok (.getfield 11, 3) := by decide +kernel
theorem dX3_slotsInUse_21 : decode cX3_slotsInUse 21 = .ok (.iload_n 2, 1) := by decide +kernel
theorem dX3_slotsInUse_22 : decode cX3_slotsInUse 22 = .ok (.aaload, 1) := by decide +kernel
theorem dX3_slotsInUse_23 : decode cX3_slotsInUse 23 = .ok (.iload_n 3, 1) := by decide +kernel
theorem dX3_slotsInUse_24 : decode cX3_slotsInUse 24 = .ok (.iaload, 1) := by decide +kernel
theorem dX3_slotsInUse_25 : decode cX3_slotsInUse 25 = .ok (.ifCond .lt 6, 3) := by decide +kernel
theorem dX3_slotsInUse_28 : decode cX3_slotsInUse 28 = .ok (.iinc 1 1, 3) := by decide +kernel
theorem dX3_slotsInUse_31 : decode cX3_slotsInUse 31 = .ok (.iinc 3 1, 3) := by decide +kernel
theorem dX3_slotsInUse_34 : decode cX3_slotsInUse 34 = .ok (.goto (-23), 3) := by decide +kernel
theorem dX3_slotsInUse_37 : decode cX3_slotsInUse 37 = .ok (.iinc 2 1, 3) := by decide +kernel
theorem dX3_slotsInUse_40 : decode cX3_slotsInUse 40 = .ok (.goto (-36), 3) := by decide +kernel
theorem dX3_slotsInUse_43 : decode cX3_slotsInUse 43 = .ok (.iload_n 1, 1) := by decide +kernel
theorem dX3_slotsInUse_44 : decode cX3_slotsInUse 44 = .ok (.ireturn, 1) := by decide +kernel
set_option maxRecDepth 20000 in
theorem ggX4_init_X2_init : GoodIn wsX4_init wsX2_init := goodIn_r _ [24, 25, 2, 3, 26, 27, 28, 29, 30, 31, 32, 61, 62, 63, 64, 65, 66, 67, 68, 69, 70, 71] (by decide +kernel) (by decide +kernel)
set_option maxRecDepth 20000 in
theorem gX4_init_X2_init : GoodIn wsX4_init (wsX2_init) := ggX4_init_X2_init
set_option maxRecDepth 20000 in
theorem ggX4_init_X3_init : GoodIn wsX4_init wsX3_init := goodIn_r _ [35, 36, 2, 3, 37, 16, 38, 39, 40, 41, 42, 72] (by decide +kernel) (by decide +kernel)
set_option maxRecDepth 20000 in
theorem gX4_init_X3_init : GoodIn wsX4_init (wsX3_init) := ggX4_init_X3_init
set_option maxRecDepth 20000 in
theorem ggX4_init_X1_init : GoodIn wsX4_init wsX1_init := goodIn_r _ [44, 45, 2, 3, 16, 46, 47, 48, 73, 74, 75, 76] (by decide +kernel) (by decide +kernel)
set_option maxRecDepth 20000 in
theorem gX4_init_X1_init_n31 : GoodIn wsX4_init (wsX1_init) := ggX4_init_X1_init
set_option maxRecDepth 20000 in
theorem ggX4_init_J7_fill_53178 : GoodIn wsX4_init wsJ7_fill_53178 := goodIn_r _ [42] (by decide +kernel) (by decide +kernel)
set_option maxRecDepth 20000 in
theorem gX4_init_J7_fill_53178 : GoodIn wsX4_init (va_wsS RX4 36 yJ7_fill_53178 wsJ7_fill_53178) := goodIn_app (goodIn_of _ (by decide +kernel)) ggX4_init_J7_fill_53178
set_option maxRecDepth 20000 in
theorem ggX4_init_X0_init : GoodIn wsX4_init wsX0_init := goodIn_r _ [51, 52, 2, 3, 16, 53, 77, 78] (by decide +kernel) (by decide +kernel)
set_option maxRecDepth 20000 in
theorem gX4_init_X0_init_n44 : GoodIn wsX4_init (wsX0_init) := ggX4_init_X0_init
theorem dX4_init_0 : decode cX4_init 0 = .ok (.aload_n 0, 1) := by decide +kernel
theorem dX4_init_1 : decode cX4_init 1 = .ok (.invokespecial 1, 3) := by decide +kernel
theorem dX4_init_4 : decode cX4_init 4 = .ok (.aload_n 0, 1) := by decide +kernel
theorem dX4_init_5 : decode cX4_init 5 = .ok (.bipush 24, 2) := by decide +kernel
theorem dX4_init_7 : decode cX4_init 7 = .ok (.anewarray 9, 3) := by decide +kernel
theorem dX4_init_10 : decode cX4_init 10 = .ok (.putfield 11, 3) := by decide +kernel
theorem dX4_init_13 : decode cX4_init 13 = .ok (.iconst 0, 1) := by decide +kernel
theorem dX4_init_14 : decode cX4_init 14 = .ok (.istore_n 1, 1) := by decide +kernel
theorem dX4_init_15 : decode cX4_init 15 = .ok (.iload_n 1, 1) := by decide +kernel
theorem dX4_init_16 : decode cX4_init 16 = .ok (.bipush 24, 2) := by decide +kernel
theorem dX4_init_18 : decode cX4_init 18 = .ok (.if_icmp .ge 23, 3) := by decide +kernel
theorem dX4_init_21 : decode cX4_init 21 = .ok (.aload_n 0, 1) := by decide +kernel
theorem dX4_init_22 : decode cX4_init 22 = .ok (.getfield 11, 3) := by decide +kernel
theorem dX4_init_25 : decode cX4_init 25 = .ok (.iload_n 1, 1) := by decide +kernel
theorem dX4_init_26 : decode cX4_init 26 = .ok (.new 9, 3) := by decide +kernel
theorem dX4_init_29 : decode cX4_init 29 = .ok (.dup, 1) := by decide +kernel
theorem dX4_init_30 : decode cX4_init 30 = .ok (.iload_n 1, 1) := by decide +kernel
theorem dX4_init_31 : decode cX4_init 31 = .ok (.invokespecial 15, 3) := by decide +kernel
theorem dX4_init_34 : decode cX4_init 34 = .ok (.aastore, 1) := by decide +kernel
theorem dX4_init_35 : decode cX4_init 35 = .ok (.iinc 1 1, 3) := by decide +kernel
theorem dX4_init_38 : decode cX4_init 38 = .ok (.goto (-23), 3) := by decide +kernel
theorem dX4_init_41 : decode cX4_init 41 = .ok (.aload_n 0, 1) := by decide +kernel
theorem dX4_init_42 : decode cX4_init 42 = .ok (.new 18, 3) := by decide +kernel
theorem dX4_init_45 : decode cX4_init 45 = .ok (.dup, 1) := by decide +kernel
theorem dX4_init_46 : decode cX4_init 46 = .ok (.invokespecial 20, 3) := by decide +kernel
theorem dX4_init_49 : decode cX4_init 49 = .ok (.putfield 21, 3) := by decide +kernel
theorem dX4_init_52 : decode cX4_init 52 = .ok (.aload_n 0, 1) := by decide +kernel
theorem dX4_init_53 : decode cX4_init 53 = .ok (.iconst 4, 1) := by decide +kernel
theorem dX4_init_54 : decode cX4_init 54 = .ok (.anewarray 25, 3) := by decide +kernel
theorem dX4_init_57 : decode cX4_init 57 = .ok (.putfield 27, 3) := by decide +kernel
theorem dX4_init_60 : decode cX4_init 60 = .ok (.iconst 0, 1) := by decide +kernel
theorem dX4_init_61 : decode cX4_init 61 = .ok (.istore_n 1, 1) := by decide +kernel
theorem dX4_init_62 : decode cX4_init 62 = .ok (.iload_n 1, 1) := by decide +kernel
theorem dX4_init_63 : decode cX4_init 63 = .ok (.iconst 4, 1) := by decide +kernel
theorem dX4_init_64 : decode cX4_init 64 = .ok (.if_icmp .ge 22, 3) := by decide +kernel
theorem dX4_init_67 : decode cX4_init 67 = .ok (.aload_n 0, 1) := by decide +kernel
theorem dX4_init_68 : decode cX4_init 68 = .ok (.getfield 27, 3) := by decide +kernel
theorem dX4_init_71 : decode cX4_init 71 = .ok (.iload_n 1, 1) := by decide +kernel
theorem dX4_init_72 : decode cX4_init 72 = .ok (.new 25, 3) := by decide +kernel
theorem dX4_init_75 : decode cX4_init 75 = .ok (.dup, 1) := by decide +kernel
theorem dX4_init_76 : decode cX4_init 76 = .ok (.invokespecial 31, 3) := by decide +kernel
theorem dX4_init_79 : decode cX4_init 79 = .ok (.aastore, 1) := by decide +kernel
theorem dX4_init_80 : decode cX4_init 80 = .ok (.iinc 1 1, 3) := by decide +kernel
theorem dX4_init_83 : decode cX4_init 83 = .ok (.goto (-21), 3) := by decide +kernel
theorem dX4_init_86 : decode cX4_init 86 = .ok (.aload_n 0, 1) := by decide +kernel
theorem dX4_init_87 : decode cX4_init 87 = .ok (.iconst 4, 1) := by decide +kernel
theorem dX4_init_88 : decode cX4_init 88 = .ok (.newarray .int, 2) := by decide +kernel
theorem dX4_init_90 : decode cX4_init 90 = .ok (.putfield 32, 3) := by decide +kernel
theorem dX4_init_93 : decode cX4_init 93 = .ok (.aload_n 0, 1) := by decide +kernel
theorem dX4_init_94 : decode cX4_init 94 = .ok (.getfield 32, 3) := by decide +kernel
theorem dX4_init_97 : decode cX4_init 97 = .ok (.iconst (-1), 1) := by decide +kernel
theorem dX4_init_98 : decode cX4_init 98 = .ok (.invokestatic 36, 3) := by decide +kernel
theorem dX4_init_101 : decode cX4_init 101 = .ok (.aload_n 0, 1) := by decide +kernel
theorem dX4_init_102 : decode cX4_init 102 = .ok (.new 42, 3) := by decide +kernel
theorem dX4_init_105 : decode cX4_init 105 = .ok (.dup, 1) := by decide +kernel
theorem dX4_init_106 : decode cX4_init 106 = .ok (.invokespecial 44, 3) := by decide +kernel
theorem dX4_init_109 : decode cX4_init 109 = .ok (.putfield 45, 3) := by decide +kernel
theorem dX4_init_112 : decode cX4_init 112 = .ok (.return_, 1) := by decide +kernel
set_option maxRecDepth 20000 in
theorem ggX4_up_X4_lineOf : GoodIn wsX4_up wsX4_lineOf := goodIn_ca (goodIn_r _ [9, 10, 11, 12, 8, 13, 14, 15, 16, 17, 18, 114, 115, 116, 117, 118, 119, 120] (by decide +kernel) (by decide +kernel)) (goodIn_sub (fun _ h => List.mem_cons_of_mem _ (List.mem_append_right _ h)) (by decide +kernel))
set_option maxRecDepth 20000 in
theorem gX4_up_X4_lineOf : GoodIn wsX4_up (wsV RX4 49 RX4 yX4_lineOf wsX4_lineOf) := goodIn_app (goodIn_of _ (by decide +kernel)) ggX4_up_X4_lineOf
set_option maxRecDepth 20000 in
theorem ggX4_up_X2_isOnHook : GoodIn wsX4_up wsX2_isOnHook := goodIn_r _ [23, 24, 103, 104, 105, 106, 107, 108, 109, 110, 111, 112, 113] (by decide +kernel) (by decide +kernel)
set_option maxRecDepth 20000 in
theorem gX4_up_X2_isOnHook : GoodIn wsX4_up (wsV RX4 53 RX2 yX2_isOnHook wsX2_isOnHook) := goodIn_app (goodIn_of _ (by decide +kernel)) ggX4_up_X2_isOnHook
set_option maxRecDepth 20000 in
theorem ggX4_up_X4_answer : GoodIn wsX4_up wsX4_answer := goodIn_r _ [28, 10, 29, 30, 31, 32, 33, 8, 34, 35, 4, 36, 37, 38, 39, 22, 40, 41, 42, 43, 44, 45, 46, 24, 47, 48, 49, 50, 51, 52, 53, 54, 55, 56, 57, 58, 59, 60, 61, 62, 63, 64, 65, 66, 67, 68, 69, 70, 114, 115, 116, 117, 118, 119, 120, 103, 104, 105, 106, 107, 108, 109, 110, 111, 112, 113, 121] (by decide +kernel) (by decide +kernel)
set_option maxRecDepth 20000 in
theorem gX4_up_X4_answer : GoodIn wsX4_up (wsV RX4 68 RX4 yX4_answer wsX4_answer) := goodIn_app (goodIn_of _ (by decide +kernel)) ggX4_up_X4_answer
set_option maxRecDepth 20000 in
theorem ggX4_up_X4_callFromCamps : GoodIn wsX4_up wsX4_callFromCamps := goodIn_r _ [74, 10, 75, 3, 76, 77, 78, 8, 79, 80, 4, 35, 81, 70, 44, 45, 22, 46, 24, 47, 41, 42, 48, 49, 82, 83, 84, 85, 54, 29, 30, 86, 87, 88, 62, 89, 69, 90, 91, 92, 93, 94, 95, 96, 97, 68, 64, 65, 66, 67, 98, 99, 100, 101, 102, 114, 115, 116, 117, 118, 119, 120, 103, 104, 105, 106, 107, 108, 109, 110, 111, 112, 113, 121] (by decide +kernel) (by decide +kernel)
set_option maxRecDepth 20000 in
theorem gX4_up_X4_callFromCamps : GoodIn wsX4_up (wsV RX4 72 RX4 yX4_callFromCamps wsX4_callFromCamps) := goodIn_app (goodIn_of _ (by decide +kernel)) ggX4_up_X4_callFromCamps
set_option maxRecDepth 20000 in
theorem ggX4_up_X2_enter : GoodIn wsX4_up wsX2_enter := goodIn_r _ [46, 24, 47, 41, 42, 48, 49, 103, 104, 105, 106, 107, 108, 109, 110, 111, 112, 113] (by decide +kernel) (by decide +kernel)
set_option maxRecDepth 20000 in
theorem gX4_up_X2_enter : GoodIn wsX4_up (wsV RX4 78 RX2 yX2_enter wsX2_enter) := goodIn_app (goodIn_of _ (by decide +kernel)) ggX4_up_X2_enter
theorem dX4_up_0 : decode cX4_up 0 = .ok (.aload_n 0, 1) := by decide +kernel
theorem dX4_up_1 : decode cX4_up 1 = .ok (.iload_n 1, 1) := by decide +kernel
theorem dX4_up_2 : decode cX4_up 2 = .ok (.invokevirtual 49, 3) := by decide +kernel
theorem dX4_up_5 : decode cX4_up 5 = .ok (.astore_n 2, 1) := by decide +kernel
theorem dX4_up_6 : decode cX4_up 6 = .ok (.aload_n 2, 1) := by decide +kernel
theorem dX4_up_7 : decode cX4_up 7 = .ok (.invokevirtual 53, 3) := by decide +kernel
theorem dX4_up_10 : decode cX4_up 10 = .ok (.ifCond .ne 13, 3) := by decide +kernel
theorem dX4_up_13 : decode cX4_up 13 = .ok (.new 57, 3) := by decide +kernel
theorem dX4_up_16 : decode cX4_up 16 = .ok (.dup, 1) := by decide +kernel
theorem dX4_up_17 : decode cX4_up 17 = .ok (.ldc 59, 2) := by decide +kernel
theorem dX4_up_19 : decode cX4_up 19 = .ok (.invokespecial 61, 3) := by decide +kernel
theorem dX4_up_22 : decode cX4_up 22 = .ok (.athrow, 1) := by decide +kernel
theorem dX4_up_23 : decode cX4_up 23 = .ok (.aload_n 2, 1) := by decide +kernel
theorem dX4_up_24 : decode cX4_up 24 = .ok (.getfield 64, 3) := by decide +kernel
theorem dX4_up_27 : decode cX4_up 27 = .ok (.iconst 4, 1) := by decide +kernel
theorem dX4_up_28 : decode cX4_up 28 = .ok (.if_icmp .ne 15, 3) := by decide +kernel
theorem dX4_up_31 : decode cX4_up 31 = .ok (.aload_n 0, 1) := by decide +kernel
theorem dX4_up_32 : decode cX4_up 32 = .ok (.aload_n 2, 1) := by decide +kernel
theorem dX4_up_33 : decode cX4_up 33 = .ok (.invokevirtual 68, 3) := by decide +kernel
theorem dX4_up_36 : decode cX4_up 36 = .ok (.aload_n 0, 1) := by decide +kernel
theorem dX4_up_37 : decode cX4_up 37 = .ok (.invokevirtual 72, 3) := by decide +kernel
theorem dX4_up_40 : decode cX4_up 40 = .ok (.goto 12, 3) := by decide +kernel
theorem dX4_up_43 : decode cX4_up 43 = .ok (.aload_n 2, 1) := by decide +kernel
theorem dX4_up_44 : decode cX4_up 44 = .ok (.iconst 1, 1) := by decide +kernel
theorem dX4_up_45 : decode cX4_up 45 = .ok (.aload_n 0, 1) := by decide +kernel
theorem dX4_up_46 : decode cX4_up 46 = .ok (.getfield 75, 3) := by decide +kernel
theorem dX4_up_49 : decode cX4_up 49 = .ok (.invokevirtual 78, 3) := by decide +kernel
theorem dX4_up_52 : decode cX4_up 52 = .ok (.aload_n 2, 1) := by decide +kernel
theorem dX4_up_53 : decode cX4_up 53 = .ok (.getfield 64, 3) := by decide +kernel
theorem dX4_up_56 : decode cX4_up 56 = .ok (.ireturn, 1) := by decide +kernel
set_option maxRecDepth 20000 in
theorem ggX4_down_X4_lineOf : GoodIn wsX4_down wsX4_lineOf := goodIn_ca (goodIn_r _ [8, 9, 10, 11, 7, 12, 13, 14, 15, 16, 17, 113, 114, 115, 116, 117, 118, 119] (by decide +kernel) (by decide +kernel)) (goodIn_sub (fun _ h => List.mem_cons_of_mem _ (List.mem_append_right _ h)) (by decide +kernel))
set_option maxRecDepth 20000 in
theorem gX4_down_X4_lineOf : GoodIn wsX4_down (wsV RX4 49 RX4 yX4_lineOf wsX4_lineOf) := goodIn_app (goodIn_of _ (by decide +kernel)) ggX4_down_X4_lineOf
set_option maxRecDepth 20000 in
theorem ggX4_down_X2_isOnHook : GoodIn wsX4_down wsX2_isOnHook := goodIn_r _ [22, 23, 120, 121, 122, 123, 124, 125, 126, 127, 128, 129, 130] (by decide +kernel) (by decide +kernel)
set_option maxRecDepth 20000 in
theorem gX4_down_X2_isOnHook : GoodIn wsX4_down (wsV RX4 53 RX2 yX2_isOnHook wsX2_isOnHook) := goodIn_app (goodIn_of _ (by decide +kernel)) ggX4_down_X2_isOnHook
set_option maxRecDepth 20000 in
theorem ggX4_down_X4_leave : GoodIn wsX4_down wsX4_leave := goodIn_r _ [27, 28, 29, 30, 9, 31, 32, 33, 34, 7, 35, 36, 37, 38, 39, 40, 41, 42, 3, 43, 44, 45, 46, 47, 48, 49, 50, 51, 52, 53, 54, 55, 56, 57, 58, 59, 60, 61, 62, 63, 64, 65, 66, 67, 21, 68, 23, 69, 70, 71, 72, 73, 74, 75, 76, 77, 78, 79, 80, 81, 120, 121, 122, 123, 124, 125, 126, 127, 128, 129, 130, 113, 114, 115, 116, 117, 118, 119, 131, 132, 133] (by decide +kernel) (by decide +kernel)
set_option maxRecDepth 20000 in
theorem gX4_down_X4_leave : GoodIn wsX4_down (wsV RX4 84 RX4 yX4_leave wsX4_leave) := goodIn_app (goodIn_of _ (by decide +kernel)) ggX4_down_X4_leave
set_option maxRecDepth 20000 in
theorem ggX4_down_X2_enter : GoodIn wsX4_down wsX2_enter := goodIn_r _ [68, 23, 69, 70, 71, 72, 73, 120, 121, 122, 123, 124, 125, 126, 127, 128, 129, 130] (by decide +kernel) (by decide +kernel)
set_option maxRecDepth 20000 in
theorem gX4_down_X2_enter : GoodIn wsX4_down (wsV RX4 78 RX2 yX2_enter wsX2_enter) := goodIn_app (goodIn_of _ (by decide +kernel)) ggX4_down_X2_enter
set_option maxRecDepth 20000 in
theorem ggX4_down_X4_callFromCamps : GoodIn wsX4_down wsX4_callFromCamps := goodIn_r _ [85, 9, 31, 28, 86, 87, 88, 7, 89, 90, 3, 39, 91, 65, 66, 67, 21, 68, 23, 69, 70, 71, 72, 73, 92, 93, 94, 95, 41, 30, 42, 96, 97, 98, 57, 99, 64, 100, 101, 102, 103, 104, 105, 106, 107, 63, 59, 60, 61, 62, 108, 109, 110, 111, 112, 113, 114, 115, 116, 117, 118, 119, 120, 121, 122, 123, 124, 125, 126, 127, 128, 129, 130, 133] (by decide +kernel) (by decide +kernel)
set_option maxRecDepth 20000 in
theorem gX4_down_X4_callFromCamps : GoodIn wsX4_down (wsV RX4 72 RX4 yX4_callFromCamps wsX4_callFromCamps) := goodIn_app (goodIn_of _ (by decide +kernel)) ggX4_down_X4_callFromCamps
theorem dX4_down_0 : decode cX4_down 0 = .ok (.aload_n 0, 1) := by decide +kernel
theorem dX4_down_1 : decode cX4_down 1 = .ok (.iload_n 1, 1) := by decide +kernel
theorem dX4_down_2 : decode cX4_down 2 = .ok (.invokevirtual 49, 3) := by decide +kernel
theorem dX4_down_5 : decode cX4_down 5 = .ok (.astore_n 2, 1) := by decide +kernel
theorem dX4_down_6 : decode cX4_down 6 = .ok (.aload_n 2, 1) := by decide +kernel
theorem dX4_down_7 : decode cX4_down 7 = .ok (.invokevirtual 53, 3) := by decide +kernel
theorem dX4_down_10 : decode cX4_down 10 = .ok (.ifCond .eq 13, 3) := by decide +kernel
theorem dX4_down_13 : decode cX4_down 13 = .ok (.new 57, 3) := by decide +kernel
theorem dX4_down_16 : decode cX4_down 16 = .ok (.dup, 1) := by decide +kernel
theorem dX4_down_17 : decode cX4_down 17 = .ok (.ldc 82, 2) := by decide +kernel
theorem dX4_down_19 : decode cX4_down 19 = .ok (.invokespecial 61, 3) := by decide +kernel
theorem dX4_down_22 : decode cX4_down 22 = .ok (.athrow, 1) := by decide +kernel
theorem dX4_down_23 : decode cX4_down 23 = .ok (.aload_n 0, 1) := by decide +kernel
theorem dX4_down_24 : decode cX4_down 24 = .ok (.aload_n 2, 1) := by decide +kernel
theorem dX4_down_25 : decode cX4_down 25 = .ok (.invokevirtual 84, 3) := by decide +kernel
theorem dX4_down_28 : decode cX4_down 28 = .ok (.aload_n 2, 1) := by decide +kernel
theorem dX4_down_29 : decode cX4_down 29 = .ok (.iconst 0, 1) := by decide +kernel
theorem dX4_down_30 : decode cX4_down 30 = .ok (.aload_n 0, 1) := by decide +kernel
theorem dX4_down_31 : decode cX4_down 31 = .ok (.getfield 75, 3) := by decide +kernel
theorem dX4_down_34 : decode cX4_down 34 = .ok (.invokevirtual 78, 3) := by decide +kernel
theorem dX4_down_37 : decode cX4_down 37 = .ok (.aload_n 0, 1) := by decide +kernel
theorem dX4_down_38 : decode cX4_down 38 = .ok (.invokevirtual 72, 3) := by decide +kernel
theorem dX4_down_41 : decode cX4_down 41 = .ok (.return_, 1) := by decide +kernel
set_option maxRecDepth 20000 in
theorem ggX4_digit_X4_lineOf : GoodIn wsX4_digit wsX4_lineOf := goodIn_ca (goodIn_r _ [8, 9, 10, 11, 7, 12, 13, 14, 15, 16, 17, 165, 166, 167, 168, 169, 170, 171] (by decide +kernel) (by decide +kernel)) (goodIn_sub (fun _ h => List.mem_cons_of_mem _ (List.mem_append_right _ h)) (by decide +kernel))
set_option maxRecDepth 20000 in
theorem gX4_digit_X4_lineOf : GoodIn wsX4_digit (wsV RX4 49 RX4 yX4_lineOf wsX4_lineOf) := goodIn_app (goodIn_of _ (by decide +kernel)) ggX4_digit_X4_lineOf
set_option maxRecDepth 20000 in
theorem ggX4_digit_X4_require : GoodIn wsX4_digit wsX4_require := goodIn_ca (goodIn_r _ [15, 16, 17] (by decide +kernel) (by decide +kernel)) (goodIn_sub (fun _ h => List.mem_cons_of_mem _ (List.mem_append_right _ h)) (by decide +kernel))
set_option maxRecDepth 20000 in
theorem gX4_digit_X4_require : GoodIn wsX4_digit (va_wsS RX4 87 yX4_require wsX4_require) := goodIn_app (goodIn_of _ (by decide +kernel)) ggX4_digit_X4_require
set_option maxRecDepth 20000 in
theorem ggX4_digit_X2_enter : GoodIn wsX4_digit wsX2_enter := goodIn_r _ [22, 23, 24, 25, 26, 27, 28, 154, 155, 156, 157, 158, 159, 160, 161, 162, 163, 164] (by decide +kernel) (by decide +kernel)
set_option maxRecDepth 20000 in
theorem gX4_digit_X2_enter : GoodIn wsX4_digit (wsV RX4 78 RX2 yX2_enter wsX2_enter) := goodIn_app (goodIn_of _ (by decide +kernel)) ggX4_digit_X2_enter
set_option maxRecDepth 20000 in
theorem ggX4_digit_X4_call : GoodIn wsX4_digit wsX4_call := goodIn_r _ [32, 9, 33, 34, 2, 35, 36, 37, 7, 38, 1, 39, 40, 18, 19, 20, 21, 22, 23, 24, 25, 26, 27, 28, 41, 42, 43, 44, 45, 46, 47, 48, 49, 50, 51, 52, 53, 54, 55, 56, 57, 58, 59, 60, 61, 62, 63, 64, 65, 66, 67, 68, 69, 70, 71, 72, 73, 74, 75, 76, 77, 78, 79, 80, 81, 82, 83, 84, 85, 86, 87, 88, 89, 90, 91, 92, 93, 94, 95, 96, 97, 98, 99, 100, 101, 102, 103, 104, 105, 106, 107, 108, 109, 110, 111, 112, 113, 114, 115, 116, 117, 118, 119, 120, 121, 122, 123, 124, 125, 126, 127, 128, 129, 130, 131, 132, 133, 134, 135, 136, 137, 138, 139, 140, 141, 142, 143, 144, 145, 146, 147, 148, 165, 166, 167, 168, 169, 170, 171, 154, 155, 156, 157, 158, 159, 160, 161, 162, 163, 164, 172, 173, 174, 175, 176] (by decide +kernel) (by decide +kernel)
set_option maxRecDepth 20000 in
theorem gX4_digit_X4_call : GoodIn wsX4_digit (wsV RX4 94 RX4 yX4_call wsX4_call) := goodIn_app (goodIn_of _ (by decide +kernel)) ggX4_digit_X4_call
set_option maxRecDepth 20000 in
theorem ggX4_digit_X4_callFromCamps : GoodIn wsX4_digit wsX4_callFromCamps := goodIn_r _ [152, 9, 153, 1, 35, 36, 37, 7, 38, 34, 2, 39, 40, 18, 19, 20, 21, 22, 23, 24, 25, 26, 27, 28, 41, 42, 43, 44, 45, 46, 47, 48, 49, 50, 51, 52, 53, 54, 55, 56, 57, 58, 59, 60, 61, 62, 63, 64, 65, 66, 67, 68, 69, 70, 71, 165, 166, 167, 168, 169, 170, 171, 154, 155, 156, 157, 158, 159, 160, 161, 162, 163, 164, 172] (by decide +kernel) (by decide +kernel)
set_option maxRecDepth 20000 in
theorem gX4_digit_X4_callFromCamps : GoodIn wsX4_digit (wsV RX4 72 RX4 yX4_callFromCamps wsX4_callFromCamps) := goodIn_app (goodIn_of _ (by decide +kernel)) ggX4_digit_X4_callFromCamps
theorem dX4_digit_0 : decode cX4_digit 0 = .ok (.aload_n 0, 1) := by decide +kernel
theorem dX4_digit_1 : decode cX4_digit 1 = .ok (.iload_n 1, 1) := by decide +kernel
theorem dX4_digit_2 : decode cX4_digit 2 = .ok (.invokevirtual 49, 3) := by decide +kernel
theorem dX4_digit_5 : decode cX4_digit 5 = .ok (.astore_n 3, 1) := by decide +kernel
theorem dX4_digit_6 : decode cX4_digit 6 = .ok (.iload_n 2, 1) := by decide +kernel
theorem dX4_digit_7 : decode cX4_digit 7 = .ok (.ifCond .lt 13, 3) := by decide +kernel
theorem dX4_digit_10 : decode cX4_digit 10 = .ok (.iload_n 2, 1) := by decide +kernel
theorem dX4_digit_11 : decode cX4_digit 11 = .ok (.bipush 9, 2) := by decide +kernel
theorem dX4_digit_13 : decode cX4_digit 13 = .ok (.if_icmp .gt 7, 3) := by decide +kernel
theorem dX4_digit_16 : decode cX4_digit 16 = .ok (.iconst 1, 1) := by decide +kernel
theorem dX4_digit_17 : decode cX4_digit 17 = .ok (.goto 4, 3) := by decide +kernel
theorem dX4_digit_20 : decode cX4_digit 20 = .ok (.iconst 0, 1) := by decide +kernel
theorem dX4_digit_21 : decode cX4_digit 21 = .ok (.invokestatic 87, 3) := by decide +kernel
theorem dX4_digit_24 : decode cX4_digit 24 = .ok (.aload_n 3, 1) := by decide +kernel
theorem dX4_digit_25 : decode cX4_digit 25 = .ok (.getfield 64, 3) := by decide +kernel
theorem dX4_digit_28 : decode cX4_digit 28 = .ok (.iconst 1, 1) := by decide +kernel
theorem dX4_digit_29 : decode cX4_digit 29 = .ok (.if_icmp .ne 20, 3) := by decide +kernel
theorem dX4_digit_32 : decode cX4_digit 32 = .ok (.aload_n 3, 1) := by decide +kernel
theorem dX4_digit_33 : decode cX4_digit 33 = .ok (.iconst 2, 1) := by decide +kernel
theorem dX4_digit_34 : decode cX4_digit 34 = .ok (.aload_n 0, 1) := by decide +kernel
theorem dX4_digit_35 : decode cX4_digit 35 = .ok (.getfield 75, 3) := by decide +kernel
theorem dX4_digit_38 : decode cX4_digit 38 = .ok (.invokevirtual 78, 3) := by decide +kernel
theorem dX4_digit_41 : decode cX4_digit 41 = .ok (.aload_n 3, 1) := by decide +kernel
theorem dX4_digit_42 : decode cX4_digit 42 = .ok (.iload_n 2, 1) := by decide +kernel
theorem dX4_digit_43 : decode cX4_digit 43 = .ok (.putfield 91, 3) := by decide +kernel
theorem dX4_digit_46 : decode cX4_digit 46 = .ok (.goto 29, 3) := by decide +kernel
theorem dX4_digit_49 : decode cX4_digit 49 = .ok (.aload_n 3, 1) := by decide +kernel
theorem dX4_digit_50 : decode cX4_digit 50 = .ok (.getfield 64, 3) := by decide +kernel
theorem dX4_digit_53 : decode cX4_digit 53 = .ok (.iconst 2, 1) := by decide +kernel
theorem dX4_digit_54 : decode cX4_digit 54 = .ok (.if_icmp .ne 21, 3) := by decide +kernel
theorem dX4_digit_57 : decode cX4_digit 57 = .ok (.aload_n 0, 1) := by decide +kernel
theorem dX4_digit_58 : decode cX4_digit 58 = .ok (.aload_n 3, 1) := by decide +kernel
theorem dX4_digit_59 : decode cX4_digit 59 = .ok (.aload_n 3, 1) := by decide +kernel
theorem dX4_digit_60 : decode cX4_digit 60 = .ok (.getfield 91, 3) := by decide +kernel
theorem dX4_digit_63 : decode cX4_digit 63 = .ok (.bipush 10, 2) := by decide +kernel
theorem dX4_digit_65 : decode cX4_digit 65 = .ok (.imul, 1) := by decide +kernel
theorem dX4_digit_66 : decode cX4_digit 66 = .ok (.iload_n 2, 1) := by decide +kernel
theorem dX4_digit_67 : decode cX4_digit 67 = .ok (.iadd, 1) := by decide +kernel
theorem dX4_digit_68 : decode cX4_digit 68 = .ok (.invokevirtual 94, 3) := by decide +kernel
theorem dX4_digit_71 : decode cX4_digit 71 = .ok (.aload_n 0, 1) := by decide +kernel
theorem dX4_digit_72 : decode cX4_digit 72 = .ok (.invokevirtual 72, 3) := by decide +kernel
theorem dX4_digit_75 : decode cX4_digit 75 = .ok (.aload_n 3, 1) := by decide +kernel
theorem dX4_digit_76 : decode cX4_digit 76 = .ok (.getfield 64, 3) := by decide +kernel
theorem dX4_digit_79 : decode cX4_digit 79 = .ok (.ireturn, 1) := by decide +kernel
set_option maxRecDepth 20000 in
theorem ggX4_camp_X4_lineOf : GoodIn wsX4_camp wsX4_lineOf := goodIn_ca (goodIn_r _ [13, 4, 14, 15, 12, 16, 17, 18, 19, 20, 21, 44, 45, 46, 47, 48, 49, 50] (by decide +kernel) (by decide +kernel)) (goodIn_sub (fun _ h => List.mem_cons_of_mem _ (List.mem_append_right _ h)) (by decide +kernel))
set_option maxRecDepth 20000 in
theorem gX4_camp_X4_lineOf : GoodIn wsX4_camp (wsV RX4 49 RX4 yX4_lineOf wsX4_lineOf) := goodIn_app (goodIn_of _ (by decide +kernel)) ggX4_camp_X4_lineOf
set_option maxRecDepth 20000 in
theorem ggX4_camp_X2_enter : GoodIn wsX4_camp wsX2_enter := goodIn_r _ [26, 27, 28, 29, 30, 31, 32, 33, 34, 35, 36, 37, 38, 39, 40, 41, 42, 43] (by decide +kernel) (by decide +kernel)
set_option maxRecDepth 20000 in
theorem gX4_camp_X2_enter : GoodIn wsX4_camp (wsV RX4 78 RX2 yX2_enter wsX2_enter) := goodIn_app (goodIn_of _ (by decide +kernel)) ggX4_camp_X2_enter
theorem dX4_camp_0 : decode cX4_camp 0 = .ok (.aload_n 0, 1) := by decide +kernel
theorem dX4_camp_1 : decode cX4_camp 1 = .ok (.iload_n 1, 1) := by decide +kernel
theorem dX4_camp_2 : decode cX4_camp 2 = .ok (.invokevirtual 49, 3) := by decide +kernel
theorem dX4_camp_5 : decode cX4_camp 5 = .ok (.astore_n 2, 1) := by decide +kernel
theorem dX4_camp_6 : decode cX4_camp 6 = .ok (.aload_n 2, 1) := by decide +kernel
theorem dX4_camp_7 : decode cX4_camp 7 = .ok (.getfield 98, 3) := by decide +kernel
theorem dX4_camp_10 : decode cX4_camp 10 = .ok (.istore_n 3, 1) := by decide +kernel
theorem dX4_camp_11 : decode cX4_camp 11 = .ok (.iload_n 3, 1) := by decide +kernel
theorem dX4_camp_12 : decode cX4_camp 12 = .ok (.iconst (-1), 1) := by decide +kernel
theorem dX4_camp_13 : decode cX4_camp 13 = .ok (.if_icmp .eq 28, 3) := by decide +kernel
theorem dX4_camp_16 : decode cX4_camp 16 = .ok (.aload_n 0, 1) := by decide +kernel
theorem dX4_camp_17 : decode cX4_camp 17 = .ok (.getfield 11, 3) := by decide +kernel
theorem dX4_camp_20 : decode cX4_camp 20 = .ok (.iload_n 3, 1) := by decide +kernel
theorem dX4_camp_21 : decode cX4_camp 21 = .ok (.aaload, 1) := by decide +kernel
theorem dX4_camp_22 : decode cX4_camp 22 = .ok (.getfield 64, 3) := by decide +kernel
theorem dX4_camp_25 : decode cX4_camp 25 = .ok (.ifCond .eq 16, 3) := by decide +kernel
theorem dX4_camp_28 : decode cX4_camp 28 = .ok (.aload_n 0, 1) := by decide +kernel
theorem dX4_camp_29 : decode cX4_camp 29 = .ok (.getfield 11, 3) := by decide +kernel
theorem dX4_camp_32 : decode cX4_camp 32 = .ok (.iload_n 3, 1) := by decide +kernel
theorem dX4_camp_33 : decode cX4_camp 33 = .ok (.aaload, 1) := by decide +kernel
theorem dX4_camp_34 : decode cX4_camp 34 = .ok (.getfield 101, 3) := by decide +kernel
theorem dX4_camp_37 : decode cX4_camp 37 = .ok (.iconst (-1), 1) := by decide +kernel
theorem dX4_camp_38 : decode cX4_camp 38 = .ok (.if_icmp .eq 13, 3) := by decide +kernel
theorem dX4_camp_41 : decode cX4_camp 41 = .ok (.new 57, 3) := by decide +kernel
theorem dX4_camp_44 : decode cX4_camp 44 = .ok (.dup, 1) := by decide +kernel
theorem dX4_camp_45 : decode cX4_camp 45 = .ok (.ldc 104, 2) := by decide +kernel
theorem dX4_camp_47 : decode cX4_camp 47 = .ok (.invokespecial 61, 3) := by decide +kernel
theorem dX4_camp_50 : decode cX4_camp 50 = .ok (.athrow, 1) := by decide +kernel
theorem dX4_camp_51 : decode cX4_camp 51 = .ok (.aload_n 2, 1) := by decide +kernel
theorem dX4_camp_52 : decode cX4_camp 52 = .ok (.bipush 8, 2) := by decide +kernel
theorem dX4_camp_54 : decode cX4_camp 54 = .ok (.aload_n 0, 1) := by decide +kernel
theorem dX4_camp_55 : decode cX4_camp 55 = .ok (.getfield 75, 3) := by decide +kernel
theorem dX4_camp_58 : decode cX4_camp 58 = .ok (.invokevirtual 78, 3) := by decide +kernel
theorem dX4_camp_61 : decode cX4_camp 61 = .ok (.aload_n 2, 1) := by decide +kernel
theorem dX4_camp_62 : decode cX4_camp 62 = .ok (.iload_n 3, 1) := by decide +kernel
theorem dX4_camp_63 : decode cX4_camp 63 = .ok (.putfield 106, 3) := by decide +kernel
theorem dX4_camp_66 : decode cX4_camp 66 = .ok (.aload_n 0, 1) := by decide +kernel
theorem dX4_camp_67 : decode cX4_camp 67 = .ok (.getfield 11, 3) := by decide +kernel
theorem dX4_camp_70 : decode cX4_camp 70 = .ok (.iload_n 3, 1) := by decide +kernel
theorem dX4_camp_71 : decode cX4_camp 71 = .ok (.aaload, 1) := by decide +kernel
theorem dX4_camp_72 : decode cX4_camp 72 = .ok (.iload_n 1, 1) := by decide +kernel
theorem dX4_camp_73 : decode cX4_camp 73 = .ok (.putfield 101, 3) := by decide +kernel
theorem dX4_camp_76 : decode cX4_camp 76 = .ok (.iload_n 3, 1) := by decide +kernel
theorem dX4_camp_77 : decode cX4_camp 77 = .ok (.ireturn, 1) := by decide +kernel
set_option maxRecDepth 20000 in
theorem ggX4_park_X4_lineOf : GoodIn wsX4_park wsX4_lineOf := goodIn_ca (goodIn_r _ [12, 13, 14, 15, 11, 16, 17, 18, 19, 20, 21, 76, 77, 78, 79, 80, 81, 82] (by decide +kernel) (by decide +kernel)) (goodIn_sub (fun _ h => List.mem_cons_of_mem _ (List.mem_append_right _ h)) (by decide +kernel))
set_option maxRecDepth 20000 in
theorem gX4_park_X4_lineOf : GoodIn wsX4_park (wsV RX4 49 RX4 yX4_lineOf wsX4_lineOf) := goodIn_app (goodIn_of _ (by decide +kernel)) ggX4_park_X4_lineOf
set_option maxRecDepth 20000 in
theorem ggX4_park_X4_require : GoodIn wsX4_park wsX4_require := goodIn_ca (goodIn_r _ [19, 20, 21] (by decide +kernel) (by decide +kernel)) (goodIn_sub (fun _ h => List.mem_cons_of_mem _ (List.mem_append_right _ h)) (by decide +kernel))
set_option maxRecDepth 20000 in
theorem gX4_park_X4_require : GoodIn wsX4_park (va_wsS RX4 87 yX4_require wsX4_require) := goodIn_app (goodIn_of _ (by decide +kernel)) ggX4_park_X4_require
set_option maxRecDepth 20000 in
theorem ggX4_park_X4_endTalk : GoodIn wsX4_park wsX4_endTalk := goodIn_r _ [25, 13, 6, 26, 27, 28, 7, 29, 30, 31, 5, 32, 33, 34, 11, 35, 36, 37, 38, 39, 40, 41, 42, 43, 44, 45, 46, 47, 48, 49, 50, 51, 52, 53, 54, 55, 56, 57, 58, 59, 60, 61, 62, 63, 64, 76, 77, 78, 79, 80, 81, 82, 65, 66, 67, 68, 69, 70, 71, 72, 73, 74, 75, 83, 84, 85] (by decide +kernel) (by decide +kernel)
set_option maxRecDepth 20000 in
theorem gX4_park_X4_endTalk : GoodIn wsX4_park (wsV RX4 111 RX4 yX4_endTalk wsX4_endTalk) := goodIn_app (goodIn_of _ (by decide +kernel)) ggX4_park_X4_endTalk
set_option maxRecDepth 20000 in
theorem ggX4_park_X2_enter : GoodIn wsX4_park wsX2_enter := goodIn_r _ [58, 59, 60, 61, 62, 63, 64, 65, 66, 67, 68, 69, 70, 71, 72, 73, 74, 75] (by decide +kernel) (by decide +kernel)
set_option maxRecDepth 20000 in
theorem gX4_park_X2_enter : GoodIn wsX4_park (wsV RX4 78 RX2 yX2_enter wsX2_enter) := goodIn_app (goodIn_of _ (by decide +kernel)) ggX4_park_X2_enter
theorem dX4_park_0 : decode cX4_park 0 = .ok (.aload_n 0, 1) := by decide +kernel
theorem dX4_park_1 : decode cX4_park 1 = .ok (.iload_n 1, 1) := by decide +kernel
theorem dX4_park_2 : decode cX4_park 2 = .ok (.invokevirtual 49, 3) := by decide +kernel
theorem dX4_park_5 : decode cX4_park 5 = .ok (.astore_n 3, 1) := by decide +kernel
theorem dX4_park_6 : decode cX4_park 6 = .ok (.iload_n 2, 1) := by decide +kernel
theorem dX4_park_7 : decode cX4_park 7 = .ok (.ifCond .lt 12, 3) := by decide +kernel
theorem dX4_park_10 : decode cX4_park 10 = .ok (.iload_n 2, 1) := by decide +kernel
theorem dX4_park_11 : decode cX4_park 11 = .ok (.iconst 4, 1) := by decide +kernel
theorem dX4_park_12 : decode cX4_park 12 = .ok (.if_icmp .ge 7, 3) := by decide +kernel
theorem dX4_park_15 : decode cX4_park 15 = .ok (.iconst 1, 1) := by decide +kernel
theorem dX4_park_16 : decode cX4_park 16 = .ok (.goto 4, 3) := by decide +kernel
theorem dX4_park_19 : decode cX4_park 19 = .ok (.iconst 0, 1) := by decide +kernel
theorem dX4_park_20 : decode cX4_park 20 = .ok (.invokestatic 87, 3) := by decide +kernel
theorem dX4_park_23 : decode cX4_park 23 = .ok (.aload_n 3, 1) := by decide +kernel
theorem dX4_park_24 : decode cX4_park 24 = .ok (.getfield 64, 3) := by decide +kernel
theorem dX4_park_27 : decode cX4_park 27 = .ok (.bipush 6, 2) := by decide +kernel
theorem dX4_park_29 : decode cX4_park 29 = .ok (.if_icmp .ne 13, 3) := by decide +kernel
theorem dX4_park_32 : decode cX4_park 32 = .ok (.aload_n 0, 1) := by decide +kernel
theorem dX4_park_33 : decode cX4_park 33 = .ok (.getfield 32, 3) := by decide +kernel
theorem dX4_park_36 : decode cX4_park 36 = .ok (.iload_n 2, 1) := by decide +kernel
theorem dX4_park_37 : decode cX4_park 37 = .ok (.iaload, 1) := by decide +kernel
theorem dX4_park_38 : decode cX4_park 38 = .ok (.iconst (-1), 1) := by decide +kernel
theorem dX4_park_39 : decode cX4_park 39 = .ok (.if_icmp .eq 13, 3) := by decide +kernel
theorem dX4_park_42 : decode cX4_park 42 = .ok (.new 57, 3) := by decide +kernel
theorem dX4_park_45 : decode cX4_park 45 = .ok (.dup, 1) := by decide +kernel
theorem dX4_park_46 : decode cX4_park 46 = .ok (.ldc 109, 2) := by decide +kernel
theorem dX4_park_48 : decode cX4_park 48 = .ok (.invokespecial 61, 3) := by decide +kernel
theorem dX4_park_51 : decode cX4_park 51 = .ok (.athrow, 1) := by decide +kernel
theorem dX4_park_52 : decode cX4_park 52 = .ok (.aload_n 0, 1) := by decide +kernel
theorem dX4_park_53 : decode cX4_park 53 = .ok (.aload_n 3, 1) := by decide +kernel
theorem dX4_park_54 : decode cX4_park 54 = .ok (.invokevirtual 111, 3) := by decide +kernel
theorem dX4_park_57 : decode cX4_park 57 = .ok (.astore 4, 2) := by decide +kernel
theorem dX4_park_59 : decode cX4_park 59 = .ok (.aload 4, 2) := by decide +kernel
theorem dX4_park_61 : decode cX4_park 61 = .ok (.bipush 7, 2) := by decide +kernel
theorem dX4_park_63 : decode cX4_park 63 = .ok (.aload_n 0, 1) := by decide +kernel
theorem dX4_park_64 : decode cX4_park 64 = .ok (.getfield 75, 3) := by decide +kernel
theorem dX4_park_67 : decode cX4_park 67 = .ok (.invokevirtual 78, 3) := by decide +kernel
theorem dX4_park_70 : decode cX4_park 70 = .ok (.aload 4, 2) := by decide +kernel
theorem dX4_park_72 : decode cX4_park 72 = .ok (.iload_n 2, 1) := by decide +kernel
theorem dX4_park_73 : decode cX4_park 73 = .ok (.putfield 106, 3) := by decide +kernel
theorem dX4_park_76 : decode cX4_park 76 = .ok (.aload_n 0, 1) := by decide +kernel
theorem dX4_park_77 : decode cX4_park 77 = .ok (.getfield 32, 3) := by decide +kernel
theorem dX4_park_80 : decode cX4_park 80 = .ok (.iload_n 2, 1) := by decide +kernel
theorem dX4_park_81 : decode cX4_park 81 = .ok (.aload 4, 2) := by decide +kernel
theorem dX4_park_83 : decode cX4_park 83 = .ok (.getfield 115, 3) := by decide +kernel
theorem dX4_park_86 : decode cX4_park 86 = .ok (.iastore, 1) := by decide +kernel
theorem dX4_park_87 : decode cX4_park 87 = .ok (.aload 4, 2) := by decide +kernel
theorem dX4_park_89 : decode cX4_park 89 = .ok (.getfield 115, 3) := by decide +kernel
theorem dX4_park_92 : decode cX4_park 92 = .ok (.ireturn, 1) := by decide +kernel
set_option maxRecDepth 20000 in
theorem ggX4_transfer_X4_lineOf : GoodIn wsX4_transfer wsX4_lineOf := goodIn_ca (goodIn_r _ [8, 9, 10, 11, 7, 12, 13, 14, 15, 16, 17, 183, 184, 185, 186, 187, 188, 189] (by decide +kernel) (by decide +kernel)) (goodIn_sub (fun _ h => List.mem_cons_of_mem _ (List.mem_append_right _ h)) (by decide +kernel))
set_option maxRecDepth 20000 in
theorem gX4_transfer_X4_lineOf : GoodIn wsX4_transfer (wsV RX4 49 RX4 yX4_lineOf wsX4_lineOf) := goodIn_app (goodIn_of _ (by decide +kernel)) ggX4_transfer_X4_lineOf
set_option maxRecDepth 20000 in
theorem ggX4_transfer_X4_require : GoodIn wsX4_transfer wsX4_require := goodIn_ca (goodIn_r _ [15, 16, 17] (by decide +kernel) (by decide +kernel)) (goodIn_sub (fun _ h => List.mem_cons_of_mem _ (List.mem_append_right _ h)) (by decide +kernel))
set_option maxRecDepth 20000 in
theorem gX4_transfer_X4_require : GoodIn wsX4_transfer (va_wsS RX4 87 yX4_require wsX4_require) := goodIn_app (goodIn_of _ (by decide +kernel)) ggX4_transfer_X4_require
set_option maxRecDepth 20000 in
theorem ggX4_transfer_X4_endTalk : GoodIn wsX4_transfer wsX4_endTalk := goodIn_r _ [21, 9, 22, 23, 24, 25, 26, 27, 28, 29, 30, 31, 32, 33, 7, 34, 35, 36, 37, 38, 39, 40, 41, 42, 43, 44, 45, 46, 47, 48, 49, 50, 51, 52, 53, 54, 55, 56, 57, 58, 59, 60, 61, 62, 63, 183, 184, 185, 186, 187, 188, 189, 172, 173, 174, 175, 176, 177, 178, 179, 180, 181, 182, 190, 191, 192] (by decide +kernel) (by decide +kernel)
set_option maxRecDepth 20000 in
theorem gX4_transfer_X4_endTalk : GoodIn wsX4_transfer (wsV RX4 111 RX4 yX4_endTalk wsX4_endTalk) := goodIn_app (goodIn_of _ (by decide +kernel)) ggX4_transfer_X4_endTalk
set_option maxRecDepth 20000 in
theorem ggX4_transfer_X4_call : GoodIn wsX4_transfer wsX4_call := goodIn_r _ [67, 9, 68, 69, 30, 70, 71, 72, 7, 73, 3, 26, 74, 53, 54, 55, 56, 57, 58, 59, 60, 61, 62, 63, 75, 76, 77, 78, 28, 22, 29, 79, 80, 81, 45, 82, 52, 83, 84, 85, 86, 87, 88, 89, 90, 51, 47, 48, 49, 50, 91, 92, 93, 94, 95, 96, 97, 98, 99, 100, 101, 102, 103, 104, 105, 106, 107, 108, 109, 110, 111, 112, 113, 114, 115, 116, 117, 118, 119, 27, 120, 121, 122, 123, 124, 125, 126, 127, 128, 129, 130, 131, 132, 133, 134, 135, 136, 137, 138, 139, 140, 141, 142, 143, 144, 145, 146, 147, 148, 42, 43, 44, 46, 149, 150, 151, 152, 153, 154, 155, 156, 23, 157, 158, 159, 160, 161, 162, 163, 164, 165, 166, 183, 184, 185, 186, 187, 188, 189, 172, 173, 174, 175, 176, 177, 178, 179, 180, 181, 182, 192, 193, 194, 195, 196] (by decide +kernel) (by decide +kernel)
set_option maxRecDepth 20000 in
theorem gX4_transfer_X4_call : GoodIn wsX4_transfer (wsV RX4 94 RX4 yX4_call wsX4_call) := goodIn_app (goodIn_of _ (by decide +kernel)) ggX4_transfer_X4_call
set_option maxRecDepth 20000 in
theorem ggX4_transfer_X4_callFromCamps : GoodIn wsX4_transfer wsX4_callFromCamps := goodIn_r _ [170, 9, 171, 3, 70, 71, 72, 7, 73, 69, 30, 26, 74, 53, 54, 55, 56, 57, 58, 59, 60, 61, 62, 63, 75, 76, 77, 78, 28, 22, 29, 79, 80, 81, 45, 82, 52, 83, 84, 85, 86, 87, 88, 89, 90, 51, 47, 48, 49, 50, 91, 92, 93, 94, 95, 183, 184, 185, 186, 187, 188, 189, 172, 173, 174, 175, 176, 177, 178, 179, 180, 181, 182, 192] (by decide +kernel) (by decide +kernel)
set_option maxRecDepth 20000 in
theorem gX4_transfer_X4_callFromCamps : GoodIn wsX4_transfer (wsV RX4 72 RX4 yX4_callFromCamps wsX4_callFromCamps) := goodIn_app (goodIn_of _ (by decide +kernel)) ggX4_transfer_X4_callFromCamps
theorem dX4_transfer_0 : decode cX4_transfer 0 = .ok (.aload_n 0, 1) := by decide +kernel
theorem dX4_transfer_1 : decode cX4_transfer 1 = .ok (.iload_n 1, 1) := by decide +kernel
theorem dX4_transfer_2 : decode cX4_transfer 2 = .ok (.invokevirtual 49, 3) := by decide +kernel
theorem dX4_transfer_5 : decode cX4_transfer 5 = .ok (.astore_n 3, 1) := by decide +kernel
theorem dX4_transfer_6 : decode cX4_transfer 6 = .ok (.iload_n 2, 1) := by decide +kernel
theorem dX4_transfer_7 : decode cX4_transfer 7 = .ok (.bipush 10, 2) := by decide +kernel
theorem dX4_transfer_9 : decode cX4_transfer 9 = .ok (.if_icmp .lt 13, 3) := by decide +kernel
theorem dX4_transfer_12 : decode cX4_transfer 12 = .ok (.iload_n 2, 1) := by decide +kernel
theorem dX4_transfer_13 : decode cX4_transfer 13 = .ok (.bipush 99, 2) := by decide +kernel
theorem dX4_transfer_15 : decode cX4_transfer 15 = .ok (.if_icmp .gt 7, 3) := by decide +kernel
theorem dX4_transfer_18 : decode cX4_transfer 18 = .ok (.iconst 1, 1) := by decide +kernel
theorem dX4_transfer_19 : decode cX4_transfer 19 = .ok (.goto 4, 3) := by decide +kernel
theorem dX4_transfer_22 : decode cX4_transfer 22 = .ok (.iconst 0, 1) := by decide +kernel
theorem dX4_transfer_23 : decode cX4_transfer 23 = .ok (.invokestatic 87, 3) := by decide +kernel
theorem dX4_transfer_26 : decode cX4_transfer 26 = .ok (.aload_n 3, 1) := by decide +kernel
theorem dX4_transfer_27 : decode cX4_transfer 27 = .ok (.getfield 64, 3) := by decide +kernel
theorem dX4_transfer_30 : decode cX4_transfer 30 = .ok (.bipush 6, 2) := by decide +kernel
theorem dX4_transfer_32 : decode cX4_transfer 32 = .ok (.if_icmp .eq 13, 3) := by decide +kernel
theorem dX4_transfer_35 : decode cX4_transfer 35 = .ok (.new 57, 3) := by decide +kernel
theorem dX4_transfer_38 : decode cX4_transfer 38 = .ok (.dup, 1) := by decide +kernel
theorem dX4_transfer_39 : decode cX4_transfer 39 = .ok (.ldc 118, 2) := by decide +kernel
theorem dX4_transfer_41 : decode cX4_transfer 41 = .ok (.invokespecial 61, 3) := by decide +kernel
theorem dX4_transfer_44 : decode cX4_transfer 44 = .ok (.athrow, 1) := by decide +kernel
theorem dX4_transfer_45 : decode cX4_transfer 45 = .ok (.aload_n 0, 1) := by decide +kernel
theorem dX4_transfer_46 : decode cX4_transfer 46 = .ok (.aload_n 3, 1) := by decide +kernel
theorem dX4_transfer_47 : decode cX4_transfer 47 = .ok (.invokevirtual 111, 3) := by decide +kernel
theorem dX4_transfer_50 : decode cX4_transfer 50 = .ok (.astore 4, 2) := by decide +kernel
theorem dX4_transfer_52 : decode cX4_transfer 52 = .ok (.aload_n 0, 1) := by decide +kernel
theorem dX4_transfer_53 : decode cX4_transfer 53 = .ok (.aload 4, 2) := by decide +kernel
theorem dX4_transfer_55 : decode cX4_transfer 55 = .ok (.iload_n 2, 1) := by decide +kernel
theorem dX4_transfer_56 : decode cX4_transfer 56 = .ok (.invokevirtual 94, 3) := by decide +kernel
theorem dX4_transfer_59 : decode cX4_transfer 59 = .ok (.aload_n 0, 1) := by decide +kernel
theorem dX4_transfer_60 : decode cX4_transfer 60 = .ok (.invokevirtual 72, 3) := by decide +kernel
theorem dX4_transfer_63 : decode cX4_transfer 63 = .ok (.aload 4, 2) := by decide +kernel
theorem dX4_transfer_65 : decode cX4_transfer 65 = .ok (.getfield 64, 3) := by decide +kernel
theorem dX4_transfer_68 : decode cX4_transfer 68 = .ok (.ireturn, 1) := by decide +kernel
set_option maxRecDepth 20000 in
theorem ggX4_tick_X4_require : GoodIn wsX4_tick wsX4_require := goodIn_ca (goodIn_r _ [12, 13, 14] (by decide +kernel) (by decide +kernel)) (goodIn_sub (fun _ h => List.mem_cons_of_mem _ (List.mem_append_right _ h)) (by decide +kernel))
set_option maxRecDepth 20000 in
theorem gX4_tick_X4_require : GoodIn wsX4_tick (va_wsS RX4 87 yX4_require wsX4_require) := goodIn_app (goodIn_of _ (by decide +kernel)) ggX4_tick_X4_require
set_option maxRecDepth 20000 in
theorem ggX4_tick_X4_earliestDue : GoodIn wsX4_tick wsX4_earliestDue := goodIn_r _ [18, 19, 20, 6, 7, 4, 8, 21, 22, 23, 24, 25, 26, 27, 28, 122, 123, 124, 125, 126, 127, 128, 129, 130, 131, 132, 133, 134, 135, 136, 137, 138, 139] (by decide +kernel) (by decide +kernel)
set_option maxRecDepth 20000 in
theorem gX4_tick_X4_earliestDue : GoodIn wsX4_tick (wsV RX4 120 RX4 yX4_earliestDue wsX4_earliestDue) := goodIn_app (goodIn_of _ (by decide +kernel)) ggX4_tick_X4_earliestDue
set_option maxRecDepth 20000 in
theorem ggX4_tick_X4_lookAtTimers : GoodIn wsX4_tick wsX4_lookAtTimers := goodIn_r _ [32, 20, 1, 21, 22, 23, 24, 25, 26, 27, 28, 33, 34, 35, 11, 36, 37, 38, 39, 40, 41, 42, 43, 44, 45, 46, 47, 48, 49, 50, 51, 52, 53, 54, 55, 56, 57, 58, 59, 60, 61, 62, 63, 64, 65, 66, 67, 68, 69, 70, 71, 72, 73, 74, 75, 76, 77, 78, 79, 80, 81, 82, 83, 84, 85, 86, 87, 88, 89, 90, 91, 92, 93, 94, 95, 96, 97, 98, 99, 100, 101, 102, 103, 104, 105, 106, 107, 108, 109, 110, 111, 112, 7, 4, 8, 113, 114, 115, 116, 117, 118, 119, 120, 121, 122, 123, 124, 125, 126, 127, 128, 129, 130, 131, 132, 133, 134, 135, 136, 137, 138, 139, 140, 141, 142] (by decide +kernel) (by decide +kernel)
set_option maxRecDepth 20000 in
theorem gX4_tick_X4_lookAtTimers : GoodIn wsX4_tick (wsV RX4 133 RX4 yX4_lookAtTimers wsX4_lookAtTimers) := goodIn_app (goodIn_of _ (by decide +kernel)) ggX4_tick_X4_lookAtTimers
theorem dX4_tick_0 : decode cX4_tick 0 = .ok (.iload_n 1, 1) := by decide +kernel
theorem dX4_tick_1 : decode cX4_tick 1 = .ok (.iconst 1, 1) := by decide +kernel
theorem dX4_tick_2 : decode cX4_tick 2 = .ok (.if_icmp .lt 14, 3) := by decide +kernel
theorem dX4_tick_5 : decode cX4_tick 5 = .ok (.iload_n 1, 1) := by decide +kernel
theorem dX4_tick_6 : decode cX4_tick 6 = .ok (.sipush 1000, 3) := by decide +kernel
theorem dX4_tick_9 : decode cX4_tick 9 = .ok (.if_icmp .gt 7, 3) := by decide +kernel
theorem dX4_tick_12 : decode cX4_tick 12 = .ok (.iconst 1, 1) := by decide +kernel
theorem dX4_tick_13 : decode cX4_tick 13 = .ok (.goto 4, 3) := by decide +kernel
theorem dX4_tick_16 : decode cX4_tick 16 = .ok (.iconst 0, 1) := by decide +kernel
theorem dX4_tick_17 : decode cX4_tick 17 = .ok (.invokestatic 87, 3) := by decide +kernel
theorem dX4_tick_20 : decode cX4_tick 20 = .ok (.aload_n 0, 1) := by decide +kernel
theorem dX4_tick_21 : decode cX4_tick 21 = .ok (.getfield 75, 3) := by decide +kernel
theorem dX4_tick_24 : decode cX4_tick 24 = .ok (.iload_n 1, 1) := by decide +kernel
theorem dX4_tick_25 : decode cX4_tick 25 = .ok (.iadd, 1) := by decide +kernel
theorem dX4_tick_26 : decode cX4_tick 26 = .ok (.istore_n 2, 1) := by decide +kernel
theorem dX4_tick_27 : decode cX4_tick 27 = .ok (.iconst 0, 1) := by decide +kernel
theorem dX4_tick_28 : decode cX4_tick 28 = .ok (.istore_n 3, 1) := by decide +kernel
theorem dX4_tick_29 : decode cX4_tick 29 = .ok (.iload_n 3, 1) := by decide +kernel
theorem dX4_tick_30 : decode cX4_tick 30 = .ok (.iload_n 1, 1) := by decide +kernel
theorem dX4_tick_31 : decode cX4_tick 31 = .ok (.if_icmp .ge 42, 3) := by decide +kernel
theorem dX4_tick_34 : decode cX4_tick 34 = .ok (.aload_n 0, 1) := by decide +kernel
theorem dX4_tick_35 : decode cX4_tick 35 = .ok (.getfield 75, 3) := by decide +kernel
theorem dX4_tick_38 : decode cX4_tick 38 = .ok (.iload_n 2, 1) := by decide +kernel
theorem dX4_tick_39 : decode cX4_tick 39 = .ok (.if_icmp .ge 34, 3) := by decide +kernel
theorem dX4_tick_42 : decode cX4_tick 42 = .ok (.aload_n 0, 1) := by decide +kernel
theorem dX4_tick_43 : decode cX4_tick 43 = .ok (.iload_n 2, 1) := by decide +kernel
theorem dX4_tick_44 : decode cX4_tick 44 = .ok (.aload_n 0, 1) := by decide +kernel
theorem dX4_tick_45 : decode cX4_tick 45 = .ok (.getfield 75, 3) := by decide +kernel
theorem dX4_tick_48 : decode cX4_tick 48 = .ok (.iconst 1, 1) := by decide +kernel
theorem dX4_tick_49 : decode cX4_tick 49 = .ok (.iadd, 1) := by decide +kernel
theorem dX4_tick_50 : decode cX4_tick 50 = .ok (.aload_n 0, 1) := by decide +kernel
theorem dX4_tick_51 : decode cX4_tick 51 = .ok (.invokevirtual 120, 3) := by decide +kernel
theorem dX4_tick_54 : decode cX4_tick 54 = .ok (.invokestatic 124, 3) := by decide +kernel
theorem dX4_tick_57 : decode cX4_tick 57 = .ok (.invokestatic 130, 3) := by decide +kernel
theorem dX4_tick_60 : decode cX4_tick 60 = .ok (.putfield 75, 3) := by decide +kernel
theorem dX4_tick_63 : decode cX4_tick 63 = .ok (.aload_n 0, 1) := by decide +kernel
theorem dX4_tick_64 : decode cX4_tick 64 = .ok (.invokevirtual 133, 3) := by decide +kernel
theorem dX4_tick_67 : decode cX4_tick 67 = .ok (.iinc 3 1, 3) := by decide +kernel
theorem dX4_tick_70 : decode cX4_tick 70 = .ok (.goto (-41), 3) := by decide +kernel
theorem dX4_tick_73 : decode cX4_tick 73 = .ok (.aload_n 0, 1) := by decide +kernel
theorem dX4_tick_74 : decode cX4_tick 74 = .ok (.getfield 75, 3) := by decide +kernel
theorem dX4_tick_77 : decode cX4_tick 77 = .ok (.ireturn, 1) := by decide +kernel
set_option maxRecDepth 20000 in
theorem ggX4_group_X4_require : GoodIn wsX4_group wsX4_require := goodIn_ca (goodIn_r _ [8, 9, 10] (by decide +kernel) (by decide +kernel)) (goodIn_sub (fun _ h => List.mem_cons_of_mem _ (List.mem_append_right _ h)) (by decide +kernel))
set_option maxRecDepth 20000 in
theorem gX4_group_X4_require : GoodIn wsX4_group (va_wsS RX4 87 yX4_require wsX4_require) := goodIn_app (goodIn_of _ (by decide +kernel)) ggX4_group_X4_require
set_option maxRecDepth 20000 in
theorem ggX4_group_X1_restart : GoodIn wsX4_group wsX1_restart := goodIn_r _ [15, 16, 17, 18, 38, 39, 40, 41] (by decide +kernel) (by decide +kernel)
set_option maxRecDepth 20000 in
theorem gX4_group_X1_restart : GoodIn wsX4_group (wsV RX4 136 RX1 yX1_restart wsX1_restart) := goodIn_app (goodIn_of _ (by decide +kernel)) ggX4_group_X1_restart
set_option maxRecDepth 20000 in
theorem ggX4_group_X4_isLine : GoodIn wsX4_group wsX4_isLine := goodIn_r _ [21] (by decide +kernel) (by decide +kernel)
set_option maxRecDepth 20000 in
theorem gX4_group_X4_isLine : GoodIn wsX4_group (va_wsS RX4 139 yX4_isLine wsX4_isLine) := goodIn_app (goodIn_of _ (by decide +kernel)) ggX4_group_X4_isLine
set_option maxRecDepth 20000 in
theorem ggX4_group_X1_has : GoodIn wsX4_group wsX1_has := goodIn_r _ [25, 16, 26, 38, 39, 40, 41] (by decide +kernel) (by decide +kernel)
set_option maxRecDepth 20000 in
theorem gX4_group_X1_has : GoodIn wsX4_group (wsV RX4 143 RX1 yX1_has wsX1_has) := goodIn_app (goodIn_of _ (by decide +kernel)) ggX4_group_X1_has
set_option maxRecDepth 20000 in
theorem ggX4_group_X1_add : GoodIn wsX4_group wsX1_add := goodIn_r _ [30, 26, 16, 38, 39, 40, 41] (by decide +kernel) (by decide +kernel)
set_option maxRecDepth 20000 in
theorem gX4_group_X1_add : GoodIn wsX4_group (wsV RX4 151 RX1 yX1_add wsX1_add) := goodIn_app (goodIn_of _ (by decide +kernel)) ggX4_group_X1_add
theorem dX4_group_0 : decode cX4_group 0 = .ok (.iload_n 1, 1) := by decide +kernel
theorem dX4_group_1 : decode cX4_group 1 = .ok (.ifCond .lt 12, 3) := by decide +kernel
theorem dX4_group_4 : decode cX4_group 4 = .ok (.iload_n 1, 1) := by decide +kernel
theorem dX4_group_5 : decode cX4_group 5 = .ok (.iconst 4, 1) := by decide +kernel
theorem dX4_group_6 : decode cX4_group 6 = .ok (.if_icmp .ge 7, 3) := by decide +kernel
theorem dX4_group_9 : decode cX4_group 9 = .ok (.iconst 1, 1) := by decide +kernel
theorem dX4_group_10 : decode cX4_group 10 = .ok (.goto 4, 3) := by decide +kernel
theorem dX4_group_13 : decode cX4_group 13 = .ok (.iconst 0, 1) := by decide +kernel
theorem dX4_group_14 : decode cX4_group 14 = .ok (.invokestatic 87, 3) := by decide +kernel
theorem dX4_group_17 : decode cX4_group 17 = .ok (.aload_n 0, 1) := by decide +kernel
theorem dX4_group_18 : decode cX4_group 18 = .ok (.getfield 27, 3) := by decide +kernel
theorem dX4_group_21 : decode cX4_group 21 = .ok (.iload_n 1, 1) := by decide +kernel
theorem dX4_group_22 : decode cX4_group 22 = .ok (.aaload, 1) := by decide +kernel
theorem dX4_group_23 : decode cX4_group 23 = .ok (.astore 4, 2) := by decide +kernel
theorem dX4_group_25 : decode cX4_group 25 = .ok (.iload_n 2, 1) := by decide +kernel
theorem dX4_group_26 : decode cX4_group 26 = .ok (.iconst (-1), 1) := by decide +kernel
theorem dX4_group_27 : decode cX4_group 27 = .ok (.if_icmp .ne 28, 3) := by decide +kernel
theorem dX4_group_30 : decode cX4_group 30 = .ok (.iload_n 3, 1) := by decide +kernel
theorem dX4_group_31 : decode cX4_group 31 = .ok (.ifCond .lt 12, 3) := by decide +kernel
theorem dX4_group_34 : decode cX4_group 34 = .ok (.iload_n 3, 1) := by decide +kernel
theorem dX4_group_35 : decode cX4_group 35 = .ok (.iconst 3, 1) := by decide +kernel
theorem dX4_group_36 : decode cX4_group 36 = .ok (.if_icmp .gt 7, 3) := by decide +kernel
theorem dX4_group_39 : decode cX4_group 39 = .ok (.iconst 1, 1) := by decide +kernel
theorem dX4_group_40 : decode cX4_group 40 = .ok (.goto 4, 3) := by decide +kernel
theorem dX4_group_43 : decode cX4_group 43 = .ok (.iconst 0, 1) := by decide +kernel
theorem dX4_group_44 : decode cX4_group 44 = .ok (.invokestatic 87, 3) := by decide +kernel
theorem dX4_group_47 : decode cX4_group 47 = .ok (.aload 4, 2) := by decide +kernel
theorem dX4_group_49 : decode cX4_group 49 = .ok (.iload_n 3, 1) := by decide +kernel
theorem dX4_group_50 : decode cX4_group 50 = .ok (.invokevirtual 136, 3) := by decide +kernel
theorem dX4_group_53 : decode cX4_group 53 = .ok (.iconst 0, 1) := by decide +kernel
theorem dX4_group_54 : decode cX4_group 54 = .ok (.ireturn, 1) := by decide +kernel
theorem dX4_group_55 : decode cX4_group 55 = .ok (.iload_n 2, 1) := by decide +kernel
theorem dX4_group_56 : decode cX4_group 56 = .ok (.invokestatic 139, 3) := by decide +kernel
theorem dX4_group_59 : decode cX4_group 59 = .ok (.ifCond .eq 16, 3) := by decide +kernel
theorem dX4_group_62 : decode cX4_group 62 = .ok (.aload 4, 2) := by decide +kernel
theorem dX4_group_64 : decode cX4_group 64 = .ok (.iload_n 2, 1) := by decide +kernel
theorem dX4_group_65 : decode cX4_group 65 = .ok (.invokevirtual 143, 3) := by decide +kernel
theorem dX4_group_68 : decode cX4_group 68 = .ok (.ifCond .ne 7, 3) := by decide +kernel
theorem dX4_group_71 : decode cX4_group 71 = .ok (.iconst 1, 1) := by decide +kernel
theorem dX4_group_72 : decode cX4_group 72 = .ok (.goto 4, 3) := by decide +kernel
theorem dX4_group_75 : decode cX4_group 75 = .ok (.iconst 0, 1) := by decide +kernel
theorem dX4_group_76 : decode cX4_group 76 = .ok (.invokestatic 87, 3) := by decide +kernel
theorem dX4_group_79 : decode cX4_group 79 = .ok (.aload 4, 2) := by decide +kernel
theorem dX4_group_81 : decode cX4_group 81 = .ok (.getfield 146, 3) := by decide +kernel
theorem dX4_group_84 : decode cX4_group 84 = .ok (.bipush 6, 2) := by decide +kernel
theorem dX4_group_86 : decode cX4_group 86 = .ok (.if_icmp .ne 13, 3) := by decide +kernel
theorem dX4_group_89 : decode cX4_group 89 = .ok (.new 57, 3) := by decide +kernel
theorem dX4_group_92 : decode cX4_group 92 = .ok (.dup, 1) := by decide +kernel
theorem dX4_group_93 : decode cX4_group 93 = .ok (.ldc 149, 2) := by decide +kernel
theorem dX4_group_95 : decode cX4_group 95 = .ok (.invokespecial 61, 3) := by decide +kernel
theorem dX4_group_98 : decode cX4_group 98 = .ok (.athrow, 1) := by decide +kernel
theorem dX4_group_99 : decode cX4_group 99 = .ok (.aload 4, 2) := by decide +kernel
theorem dX4_group_101 : decode cX4_group 101 = .ok (.iload_n 2, 1) := by decide +kernel
theorem dX4_group_102 : decode cX4_group 102 = .ok (.invokevirtual 151, 3) := by decide +kernel
theorem dX4_group_105 : decode cX4_group 105 = .ok (.aload 4, 2) := by decide +kernel
theorem dX4_group_107 : decode cX4_group 107 = .ok (.getfield 146, 3) := by decide +kernel
theorem dX4_group_110 : decode cX4_group 110 = .ok (.ireturn, 1) := by decide +kernel
set_option maxRecDepth 20000 in
theorem ggX4_slot_X4_isSlot : GoodIn wsX4_slot wsX4_isSlot := goodIn_r _ [8] (by decide +kernel) (by decide +kernel)
set_option maxRecDepth 20000 in
theorem gX4_slot_X4_isSlot : GoodIn wsX4_slot (va_wsS RX4 154 yX4_isSlot wsX4_isSlot) := goodIn_app (goodIn_of _ (by decide +kernel)) ggX4_slot_X4_isSlot
set_option maxRecDepth 20000 in
theorem ggX4_slot_X4_require : GoodIn wsX4_slot wsX4_require := goodIn_ca (goodIn_r _ [11, 12, 13] (by decide +kernel) (by decide +kernel)) (goodIn_sub (fun _ h => List.mem_cons_of_mem _ (List.mem_append_right _ h)) (by decide +kernel))
set_option maxRecDepth 20000 in
theorem gX4_slot_X4_require : GoodIn wsX4_slot (va_wsS RX4 87 yX4_require wsX4_require) := goodIn_app (goodIn_of _ (by decide +kernel)) ggX4_slot_X4_require
theorem dX4_slot_0 : decode cX4_slot 0 = .ok (.iload_n 1, 1) := by decide +kernel
theorem dX4_slot_1 : decode cX4_slot 1 = .ok (.iload_n 2, 1) := by decide +kernel
theorem dX4_slot_2 : decode cX4_slot 2 = .ok (.invokestatic 154, 3) := by decide +kernel
theorem dX4_slot_5 : decode cX4_slot 5 = .ok (.invokestatic 87, 3) := by decide +kernel
theorem dX4_slot_8 : decode cX4_slot 8 = .ok (.aload_n 0, 1) := by decide +kernel
theorem dX4_slot_9 : decode cX4_slot 9 = .ok (.getfield 21, 3) := by decide +kernel
theorem dX4_slot_12 : decode cX4_slot 12 = .ok (.getfield 158, 3) := by decide +kernel
theorem dX4_slot_15 : decode cX4_slot 15 = .ok (.iload_n 1, 1) := by decide +kernel
theorem dX4_slot_16 : decode cX4_slot 16 = .ok (.aaload, 1) := by decide +kernel
theorem dX4_slot_17 : decode cX4_slot 17 = .ok (.iload_n 2, 1) := by decide +kernel
theorem dX4_slot_18 : decode cX4_slot 18 = .ok (.iaload, 1) := by decide +kernel
theorem dX4_slot_19 : decode cX4_slot 19 = .ok (.ifCond .lt 13, 3) := by decide +kernel
theorem dX4_slot_22 : decode cX4_slot 22 = .ok (.new 57, 3) := by decide +kernel
theorem dX4_slot_25 : decode cX4_slot 25 = .ok (.dup, 1) := by decide +kernel
theorem dX4_slot_26 : decode cX4_slot 26 = .ok (.ldc 162, 2) := by decide +kernel
theorem dX4_slot_28 : decode cX4_slot 28 = .ok (.invokespecial 61, 3) := by decide +kernel
theorem dX4_slot_31 : decode cX4_slot 31 = .ok (.athrow, 1) := by decide +kernel
theorem dX4_slot_32 : decode cX4_slot 32 = .ok (.aload_n 0, 1) := by decide +kernel
theorem dX4_slot_33 : decode cX4_slot 33 = .ok (.getfield 21, 3) := by decide +kernel
theorem dX4_slot_36 : decode cX4_slot 36 = .ok (.getfield 158, 3) := by decide +kernel
theorem dX4_slot_39 : decode cX4_slot 39 = .ok (.iload_n 1, 1) := by decide +kernel
theorem dX4_slot_40 : decode cX4_slot 40 = .ok (.aaload, 1) := by decide +kernel
theorem dX4_slot_41 : decode cX4_slot 41 = .ok (.iload_n 2, 1) := by decide +kernel
theorem dX4_slot_42 : decode cX4_slot 42 = .ok (.iload_n 3, 1) := by decide +kernel
theorem dX4_slot_43 : decode cX4_slot 43 = .ok (.ifCond .eq 7, 3) := by decide +kernel
theorem dX4_slot_46 : decode cX4_slot 46 = .ok (.iconst (-1), 1) := by decide +kernel
theorem dX4_slot_47 : decode cX4_slot 47 = .ok (.goto 5, 3) := by decide +kernel
theorem dX4_slot_50 : decode cX4_slot 50 = .ok (.bipush (-2), 2) := by decide +kernel
theorem dX4_slot_52 : decode cX4_slot 52 = .ok (.iastore, 1) := by decide +kernel
theorem dX4_slot_53 : decode cX4_slot 53 = .ok (.return_, 1) := by decide +kernel
set_option maxRecDepth 20000 in
theorem ggX4_carries_X4_isSlot : GoodIn wsX4_carries wsX4_isSlot := goodIn_r _ [6] (by decide +kernel) (by decide +kernel)
set_option maxRecDepth 20000 in
theorem gX4_carries_X4_isSlot : GoodIn wsX4_carries (va_wsS RX4 154 yX4_isSlot wsX4_isSlot) := goodIn_app (goodIn_of _ (by decide +kernel)) ggX4_carries_X4_isSlot
set_option maxRecDepth 20000 in
theorem ggX4_carries_X4_require : GoodIn wsX4_carries wsX4_require := goodIn_ca (goodIn_r _ [9, 10, 11] (by decide +kernel) (by decide +kernel)) (goodIn_sub (fun _ h => List.mem_cons_of_mem _ (List.mem_append_right _ h)) (by decide +kernel))
set_option maxRecDepth 20000 in
theorem gX4_carries_X4_require : GoodIn wsX4_carries (va_wsS RX4 87 yX4_require wsX4_require) := goodIn_app (goodIn_of _ (by decide +kernel)) ggX4_carries_X4_require
theorem dX4_carries_0 : decode cX4_carries 0 = .ok (.iload_n 1, 1) := by decide +kernel
theorem dX4_carries_1 : decode cX4_carries 1 = .ok (.iload_n 2, 1) := by decide +kernel
theorem dX4_carries_2 : decode cX4_carries 2 = .ok (.invokestatic 154, 3) := by decide +kernel
theorem dX4_carries_5 : decode cX4_carries 5 = .ok (.invokestatic 87, 3) := by decide +kernel
theorem dX4_carries_8 : decode cX4_carries 8 = .ok (.aload_n 0, 1) := by decide +kernel
theorem dX4_carries_9 : decode cX4_carries 9 = .ok (.getfield 21, 3) := by decide +kernel
theorem dX4_carries_12 : decode cX4_carries 12 = .ok (.getfield 158, 3) := by decide +kernel
theorem dX4_carries_15 : decode cX4_carries 15 = .ok (.iload_n 1, 1) := by decide +kernel
theorem dX4_carries_16 : decode cX4_carries 16 = .ok (.aaload, 1) := by decide +kernel
theorem dX4_carries_17 : decode cX4_carries 17 = .ok (.iload_n 2, 1) := by decide +kernel
theorem dX4_carries_18 : decode cX4_carries 18 = .ok (.iaload, 1) := by decide +kernel
theorem dX4_carries_19 : decode cX4_carries 19 = .ok (.ireturn, 1) := by decide +kernel
set_option maxRecDepth 20000 in
theorem ggX4_line_X4_lineOf : GoodIn wsX4_line wsX4_lineOf := goodIn_ca (goodIn_r _ [11, 12, 13, 14, 10, 15, 16, 17, 18, 19, 20, 55, 56, 57, 58, 59, 60, 61] (by decide +kernel) (by decide +kernel)) (goodIn_sub (fun _ h => List.mem_cons_of_mem _ (List.mem_append_right _ h)) (by decide +kernel))
set_option maxRecDepth 20000 in
theorem gX4_line_X4_lineOf : GoodIn wsX4_line (wsV RX4 49 RX4 yX4_lineOf wsX4_lineOf) := goodIn_app (goodIn_of _ (by decide +kernel)) ggX4_line_X4_lineOf
set_option maxRecDepth 20000 in
theorem ggX4_line_X4_require : GoodIn wsX4_line wsX4_require := goodIn_ca (goodIn_r _ [18, 19, 20] (by decide +kernel) (by decide +kernel)) (goodIn_sub (fun _ h => List.mem_cons_of_mem _ (List.mem_append_right _ h)) (by decide +kernel))
set_option maxRecDepth 20000 in
theorem gX4_line_X4_require : GoodIn wsX4_line (va_wsS RX4 87 yX4_require wsX4_require) := goodIn_app (goodIn_of _ (by decide +kernel)) ggX4_line_X4_require
set_option maxRecDepth 20000 in
theorem ggX4_line_X4_lowestRinging : GoodIn wsX4_line wsX4_lowestRinging := goodIn_r _ [24, 12, 25, 26, 27, 28, 29, 30, 31, 55, 56, 57, 58, 59, 60, 61, 44, 45, 46, 47, 48, 49, 50, 51, 52, 53, 54] (by decide +kernel) (by decide +kernel)
set_option maxRecDepth 20000 in
theorem gX4_line_X4_lowestRinging : GoodIn wsX4_line (wsV RX4 164 RX4 yX4_lowestRinging wsX4_lowestRinging) := goodIn_app (goodIn_of _ (by decide +kernel)) ggX4_line_X4_lowestRinging
set_option maxRecDepth 20000 in
theorem ggX4_line_X4_slotOf : GoodIn wsX4_line wsX4_slotOf := goodIn_r _ [35, 1, 36, 37, 12, 21, 22, 23, 10, 24, 25, 26, 27, 28, 29, 30, 31, 44, 45, 46, 47, 48, 49, 50, 51, 52, 53, 54, 55, 56, 57, 58, 59, 60, 61] (by decide +kernel) (by decide +kernel)
set_option maxRecDepth 20000 in
theorem gX4_line_X4_slotOf : GoodIn wsX4_line (wsV RX4 168 RX4 yX4_slotOf wsX4_slotOf) := goodIn_app (goodIn_of _ (by decide +kernel)) ggX4_line_X4_slotOf
set_option maxRecDepth 20000 in
theorem ggX4_line_X4_unitsOf : GoodIn wsX4_line wsX4_unitsOf := goodIn_r _ [41, 42, 43, 55, 56, 57, 58, 59, 60, 61, 44, 45, 46, 47, 48, 49, 50, 51, 52, 53, 54] (by decide +kernel) (by decide +kernel)
set_option maxRecDepth 20000 in
theorem gX4_line_X4_unitsOf : GoodIn wsX4_line (wsV RX4 179 RX4 yX4_unitsOf wsX4_unitsOf) := goodIn_app (goodIn_of _ (by decide +kernel)) ggX4_line_X4_unitsOf
theorem dX4_line_0 : decode cX4_line 0 = .ok (.aload_n 0, 1) := by decide +kernel
theorem dX4_line_1 : decode cX4_line 1 = .ok (.iload_n 1, 1) := by decide +kernel
theorem dX4_line_2 : decode cX4_line 2 = .ok (.invokevirtual 49, 3) := by decide +kernel
theorem dX4_line_5 : decode cX4_line 5 = .ok (.astore_n 3, 1) := by decide +kernel
theorem dX4_line_6 : decode cX4_line 6 = .ok (.iload_n 2, 1) := by decide +kernel
theorem dX4_line_7 : decode cX4_line 7 = .ok (.ifCond .lt 12, 3) := by decide +kernel
theorem dX4_line_10 : decode cX4_line 10 = .ok (.iload_n 2, 1) := by decide +kernel
theorem dX4_line_11 : decode cX4_line 11 = .ok (.iconst 5, 1) := by decide +kernel
theorem dX4_line_12 : decode cX4_line 12 = .ok (.if_icmp .gt 7, 3) := by decide +kernel
theorem dX4_line_15 : decode cX4_line 15 = .ok (.iconst 1, 1) := by decide +kernel
theorem dX4_line_16 : decode cX4_line 16 = .ok (.goto 4, 3) := by decide +kernel
theorem dX4_line_19 : decode cX4_line 19 = .ok (.iconst 0, 1) := by decide +kernel
theorem dX4_line_20 : decode cX4_line 20 = .ok (.invokestatic 87, 3) := by decide +kernel
theorem dX4_line_23 : decode cX4_line 23 = .ok (.iload_n 2, 1) := by decide +kernel
theorem dX4_line_24 : decode cX4_line 24 = .ok (.tableswitch 106 0 4 #[36, 41, 62, 68, 93], 36) := by decide +kernel
theorem dX4_line_60 : decode cX4_line 60 = .ok (.aload_n 3, 1) := by decide +kernel
theorem dX4_line_61 : decode cX4_line 61 = .ok (.getfield 64, 3) := by decide +kernel
theorem dX4_line_64 : decode cX4_line 64 = .ok (.ireturn, 1) := by decide +kernel
theorem dX4_line_65 : decode cX4_line 65 = .ok (.aload_n 3, 1) := by decide +kernel
theorem dX4_line_66 : decode cX4_line 66 = .ok (.getfield 64, 3) := by decide +kernel
theorem dX4_line_69 : decode cX4_line 69 = .ok (.iconst 3, 1) := by decide +kernel
theorem dX4_line_70 : decode cX4_line 70 = .ok (.if_icmp .ne 11, 3) := by decide +kernel
theorem dX4_line_73 : decode cX4_line 73 = .ok (.aload_n 0, 1) := by decide +kernel
theorem dX4_line_74 : decode cX4_line 74 = .ok (.iload_n 1, 1) := by decide +kernel
theorem dX4_line_75 : decode cX4_line 75 = .ok (.invokevirtual 164, 3) := by decide +kernel
theorem dX4_line_78 : decode cX4_line 78 = .ok (.goto 7, 3) := by decide +kernel
theorem dX4_line_81 : decode cX4_line 81 = .ok (.aload_n 3, 1) := by decide +kernel
theorem dX4_line_82 : decode cX4_line 82 = .ok (.getfield 106, 3) := by decide +kernel
theorem dX4_line_85 : decode cX4_line 85 = .ok (.ireturn, 1) := by decide +kernel
theorem dX4_line_86 : decode cX4_line 86 = .ok (.aload_n 0, 1) := by decide +kernel
theorem dX4_line_87 : decode cX4_line 87 = .ok (.aload_n 3, 1) := by decide +kernel
theorem dX4_line_88 : decode cX4_line 88 = .ok (.invokevirtual 168, 3) := by decide +kernel
theorem dX4_line_91 : decode cX4_line 91 = .ok (.ireturn, 1) := by decide +kernel
theorem dX4_line_92 : decode cX4_line 92 = .ok (.aload_n 3, 1) := by decide +kernel
theorem dX4_line_93 : decode cX4_line 93 = .ok (.getfield 172, 3) := by decide +kernel
theorem dX4_line_96 : decode cX4_line 96 = .ok (.ifCond .eq 16, 3) := by decide +kernel
theorem dX4_line_99 : decode cX4_line 99 = .ok (.aload_n 3, 1) := by decide +kernel
theorem dX4_line_100 : decode cX4_line 100 = .ok (.getfield 176, 3) := by decide +kernel
theorem dX4_line_103 : decode cX4_line 103 = .ok (.aload_n 0, 1) := by decide +kernel
theorem dX4_line_104 : decode cX4_line 104 = .ok (.aload_n 3, 1) := by decide +kernel
theorem dX4_line_105 : decode cX4_line 105 = .ok (.invokevirtual 179, 3) := by decide +kernel
theorem dX4_line_108 : decode cX4_line 108 = .ok (.iadd, 1) := by decide +kernel
theorem dX4_line_109 : decode cX4_line 109 = .ok (.goto 7, 3) := by decide +kernel
theorem dX4_line_112 : decode cX4_line 112 = .ok (.aload_n 3, 1) := by decide +kernel
theorem dX4_line_113 : decode cX4_line 113 = .ok (.getfield 176, 3) := by decide +kernel
theorem dX4_line_116 : decode cX4_line 116 = .ok (.ireturn, 1) := by decide +kernel
theorem dX4_line_117 : decode cX4_line 117 = .ok (.aload_n 3, 1) := by decide +kernel
theorem dX4_line_118 : decode cX4_line 118 = .ok (.getfield 182, 3) := by decide +kernel
theorem dX4_line_121 : decode cX4_line 121 = .ok (.ifCond .eq 7, 3) := by decide +kernel
theorem dX4_line_124 : decode cX4_line 124 = .ok (.iconst 1, 1) := by decide +kernel
theorem dX4_line_125 : decode cX4_line 125 = .ok (.goto 4, 3) := by decide +kernel
theorem dX4_line_128 : decode cX4_line 128 = .ok (.iconst 0, 1) := by decide +kernel
theorem dX4_line_129 : decode cX4_line 129 = .ok (.ireturn, 1) := by decide +kernel
theorem dX4_line_130 : decode cX4_line 130 = .ok (.aload_n 3, 1) := by decide +kernel
theorem dX4_line_131 : decode cX4_line 131 = .ok (.getfield 101, 3) := by decide +kernel
theorem dX4_line_134 : decode cX4_line 134 = .ok (.ireturn, 1) := by decide +kernel
set_option maxRecDepth 20000 in
theorem ggX4_count_X4_require : GoodIn wsX4_count wsX4_require := goodIn_ca (goodIn_r _ [8, 9, 10] (by decide +kernel) (by decide +kernel)) (goodIn_sub (fun _ h => List.mem_cons_of_mem _ (List.mem_append_right _ h)) (by decide +kernel))
set_option maxRecDepth 20000 in
theorem gX4_count_X4_require : GoodIn wsX4_count (va_wsS RX4 87 yX4_require wsX4_require) := goodIn_app (goodIn_of _ (by decide +kernel)) ggX4_count_X4_require
set_option maxRecDepth 20000 in
theorem ggX4_count_X3_slotsInUse : GoodIn wsX4_count wsX3_slotsInUse := goodIn_r _ [15, 16, 26] (by decide +kernel) (by decide +kernel)
set_option maxRecDepth 20000 in
theorem gX4_count_X3_slotsInUse : GoodIn wsX4_count (wsV RX4 191 RX3 yX3_slotsInUse wsX3_slotsInUse) := goodIn_app (goodIn_of _ (by decide +kernel)) ggX4_count_X3_slotsInUse
theorem dX4_count_0 : decode cX4_count 0 = .ok (.iload_n 1, 1) := by decide +kernel
theorem dX4_count_1 : decode cX4_count 1 = .ok (.ifCond .lt 12, 3) := by decide +kernel
theorem dX4_count_4 : decode cX4_count 4 = .ok (.iload_n 1, 1) := by decide +kernel
theorem dX4_count_5 : decode cX4_count 5 = .ok (.iconst 2, 1) := by decide +kernel
theorem dX4_count_6 : decode cX4_count 6 = .ok (.if_icmp .gt 7, 3) := by decide +kernel
theorem dX4_count_9 : decode cX4_count 9 = .ok (.iconst 1, 1) := by decide +kernel
theorem dX4_count_10 : decode cX4_count 10 = .ok (.goto 4, 3) := by decide +kernel
theorem dX4_count_13 : decode cX4_count 13 = .ok (.iconst 0, 1) := by decide +kernel
theorem dX4_count_14 : decode cX4_count 14 = .ok (.invokestatic 87, 3) := by decide +kernel
theorem dX4_count_17 : decode cX4_count 17 = .ok (.iload_n 1, 1) := by decide +kernel
theorem dX4_count_18 : decode cX4_count 18 = .ok (.ifCond .ne 8, 3) := by decide +kernel
theorem dX4_count_21 : decode cX4_count 21 = .ok (.aload_n 0, 1) := by decide +kernel
theorem dX4_count_22 : decode cX4_count 22 = .ok (.getfield 185, 3) := by decide +kernel
theorem dX4_count_25 : decode cX4_count 25 = .ok (.ireturn, 1) := by decide +kernel
theorem dX4_count_26 : decode cX4_count 26 = .ok (.iload_n 1, 1) := by decide +kernel
theorem dX4_count_27 : decode cX4_count 27 = .ok (.iconst 1, 1) := by decide +kernel
theorem dX4_count_28 : decode cX4_count 28 = .ok (.if_icmp .ne 13, 3) := by decide +kernel
theorem dX4_count_31 : decode cX4_count 31 = .ok (.aload_n 0, 1) := by decide +kernel
theorem dX4_count_32 : decode cX4_count 32 = .ok (.getfield 45, 3) := by decide +kernel
theorem dX4_count_35 : decode cX4_count 35 = .ok (.getfield 188, 3) := by decide +kernel
theorem dX4_count_38 : decode cX4_count 38 = .ok (.goto 10, 3) := by decide +kernel
theorem dX4_count_41 : decode cX4_count 41 = .ok (.aload_n 0, 1) := by decide +kernel
theorem dX4_count_42 : decode cX4_count 42 = .ok (.getfield 21, 3) := by decide +kernel
theorem dX4_count_45 : decode cX4_count 45 = .ok (.invokevirtual 191, 3) := by decide +kernel
theorem dX4_count_48 : decode cX4_count 48 = .ok (.ireturn, 1) := by decide +kernel
set_option maxRecDepth 20000 in
theorem ggX4_book_X4_require : GoodIn wsX4_book wsX4_require := goodIn_ca (goodIn_r _ [7, 8, 9] (by decide +kernel) (by decide +kernel)) (goodIn_sub (fun _ h => List.mem_cons_of_mem _ (List.mem_append_right _ h)) (by decide +kernel))
set_option maxRecDepth 20000 in
theorem gX4_book_X4_require : GoodIn wsX4_book (va_wsS RX4 87 yX4_require wsX4_require) := goodIn_app (goodIn_of _ (by decide +kernel)) ggX4_book_X4_require
set_option maxRecDepth 20000 in
theorem ggX4_book_X0_keeps : GoodIn wsX4_book wsX0_keeps := goodIn_r _ [14, 15, 28, 29] (by decide +kernel) (by decide +kernel)
set_option maxRecDepth 20000 in
theorem gX4_book_X0_keeps : GoodIn wsX4_book (wsV RX4 194 RX0 yX0_keeps wsX0_keeps) := goodIn_app (goodIn_of _ (by decide +kernel)) ggX4_book_X0_keeps
set_option maxRecDepth 20000 in
theorem ggX4_book_X0_read : GoodIn wsX4_book wsX0_read := goodIn_r _ [19, 20, 28, 29] (by decide +kernel) (by decide +kernel)
set_option maxRecDepth 20000 in
theorem gX4_book_X0_read : GoodIn wsX4_book (wsV RX4 202 RX0 yX0_read wsX0_read) := goodIn_app (goodIn_of _ (by decide +kernel)) ggX4_book_X0_read
theorem dX4_book_0 : decode cX4_book 0 = .ok (.iload_n 2, 1) := by decide +kernel
theorem dX4_book_1 : decode cX4_book 1 = .ok (.ifCond .lt 12, 3) := by decide +kernel
theorem dX4_book_4 : decode cX4_book 4 = .ok (.iload_n 2, 1) := by decide +kernel
theorem dX4_book_5 : decode cX4_book 5 = .ok (.iconst 4, 1) := by decide +kernel
theorem dX4_book_6 : decode cX4_book 6 = .ok (.if_icmp .ge 7, 3) := by decide +kernel
theorem dX4_book_9 : decode cX4_book 9 = .ok (.iconst 1, 1) := by decide +kernel
theorem dX4_book_10 : decode cX4_book 10 = .ok (.goto 4, 3) := by decide +kernel
theorem dX4_book_13 : decode cX4_book 13 = .ok (.iconst 0, 1) := by decide +kernel
theorem dX4_book_14 : decode cX4_book 14 = .ok (.invokestatic 87, 3) := by decide +kernel
theorem dX4_book_17 : decode cX4_book 17 = .ok (.aload_n 0, 1) := by decide +kernel
theorem dX4_book_18 : decode cX4_book 18 = .ok (.getfield 45, 3) := by decide +kernel
theorem dX4_book_21 : decode cX4_book 21 = .ok (.iload_n 1, 1) := by decide +kernel
theorem dX4_book_22 : decode cX4_book 22 = .ok (.invokevirtual 194, 3) := by decide +kernel
theorem dX4_book_25 : decode cX4_book 25 = .ok (.ifCond .ne 13, 3) := by decide +kernel
theorem dX4_book_28 : decode cX4_book 28 = .ok (.new 197, 3) := by decide +kernel
theorem dX4_book_31 : decode cX4_book 31 = .ok (.dup, 1) := by decide +kernel
theorem dX4_book_32 : decode cX4_book 32 = .ok (.ldc 199, 2) := by decide +kernel
theorem dX4_book_34 : decode cX4_book 34 = .ok (.invokespecial 201, 3) := by decide +kernel
theorem dX4_book_37 : decode cX4_book 37 = .ok (.athrow, 1) := by decide +kernel
theorem dX4_book_38 : decode cX4_book 38 = .ok (.aload_n 0, 1) := by decide +kernel
theorem dX4_book_39 : decode cX4_book 39 = .ok (.getfield 45, 3) := by decide +kernel
theorem dX4_book_42 : decode cX4_book 42 = .ok (.iload_n 1, 1) := by decide +kernel
theorem dX4_book_43 : decode cX4_book 43 = .ok (.iload_n 2, 1) := by decide +kernel
theorem dX4_book_44 : decode cX4_book 44 = .ok (.invokevirtual 202, 3) := by decide +kernel
theorem dX4_book_47 : decode cX4_book 47 = .ok (.ireturn, 1) := by decide +kernel
theorem dX4_require_0 : decode cX4_require 0 = .ok (.iload_n 0, 1) := by decide +kernel
theorem dX4_require_1 : decode cX4_require 1 = .ok (.ifCond .ne 13, 3) := by decide +kernel
theorem dX4_require_4 : decode cX4_require 4 = .ok (.new 205, 3) := by decide +kernel
theorem dX4_require_7 : decode cX4_require 7 = .ok (.dup, 1) := by decide +kernel
theorem dX4_require_8 : decode cX4_require 8 = .ok (.ldc 207, 2) := by decide +kernel
theorem dX4_require_10 : decode cX4_require 10 = .ok (.invokespecial 209, 3) := by decide +kernel
theorem dX4_require_13 : decode cX4_require 13 = .ok (.athrow, 1) := by decide +kernel
theorem dX4_require_14 : decode cX4_require 14 = .ok (.return_, 1) := by decide +kernel
theorem dX4_isLine_0 : decode cX4_isLine 0 = .ok (.iload_n 0, 1) := by decide +kernel
theorem dX4_isLine_1 : decode cX4_isLine 1 = .ok (.ifCond .lt 13, 3) := by decide +kernel
theorem dX4_isLine_4 : decode cX4_isLine 4 = .ok (.iload_n 0, 1) := by decide +kernel
theorem dX4_isLine_5 : decode cX4_isLine 5 = .ok (.bipush 24, 2) := by decide +kernel
theorem dX4_isLine_7 : decode cX4_isLine 7 = .ok (.if_icmp .ge 7, 3) := by decide +kernel
theorem dX4_isLine_10 : decode cX4_isLine 10 = .ok (.iconst 1, 1) := by decide +kernel
theorem dX4_isLine_11 : decode cX4_isLine 11 = .ok (.goto 4, 3) := by decide +kernel
theorem dX4_isLine_14 : decode cX4_isLine 14 = .ok (.iconst 0, 1) := by decide +kernel
theorem dX4_isLine_15 : decode cX4_isLine 15 = .ok (.ireturn, 1) := by decide +kernel
theorem dX4_isSlot_0 : decode cX4_isSlot 0 = .ok (.iload_n 0, 1) := by decide +kernel
theorem dX4_isSlot_1 : decode cX4_isSlot 1 = .ok (.ifCond .lt 22, 3) := by decide +kernel
theorem dX4_isSlot_4 : decode cX4_isSlot 4 = .ok (.iload_n 0, 1) := by decide +kernel
theorem dX4_isSlot_5 : decode cX4_isSlot 5 = .ok (.iconst 4, 1) := by decide +kernel
theorem dX4_isSlot_6 : decode cX4_isSlot 6 = .ok (.if_icmp .ge 17, 3) := by decide +kernel
theorem dX4_isSlot_9 : decode cX4_isSlot 9 = .ok (.iload_n 1, 1) := by decide +kernel
theorem dX4_isSlot_10 : decode cX4_isSlot 10 = .ok (.ifCond .lt 13, 3) := by decide +kernel
theorem dX4_isSlot_13 : decode cX4_isSlot 13 = .ok (.iload_n 1, 1) := by decide +kernel
theorem dX4_isSlot_14 : decode cX4_isSlot 14 = .ok (.bipush 8, 2) := by decide +kernel
theorem dX4_isSlot_16 : decode cX4_isSlot 16 = .ok (.if_icmp .ge 7, 3) := by decide +kernel
theorem dX4_isSlot_19 : decode cX4_isSlot 19 = .ok (.iconst 1, 1) := by decide +kernel
theorem dX4_isSlot_20 : decode cX4_isSlot 20 = .ok (.goto 4, 3) := by decide +kernel
theorem dX4_isSlot_23 : decode cX4_isSlot 23 = .ok (.iconst 0, 1) := by decide +kernel
theorem dX4_isSlot_24 : decode cX4_isSlot 24 = .ok (.ireturn, 1) := by decide +kernel
set_option maxRecDepth 20000 in
theorem ggX4_lineOf_X4_isLine : GoodIn wsX4_lineOf wsX4_isLine := goodIn_r _ [5] (by decide +kernel) (by decide +kernel)
set_option maxRecDepth 20000 in
theorem gX4_lineOf_X4_isLine : GoodIn wsX4_lineOf (va_wsS RX4 139 yX4_isLine wsX4_isLine) := goodIn_app (goodIn_of _ (by decide +kernel)) ggX4_lineOf_X4_isLine
set_option maxRecDepth 20000 in
theorem ggX4_lineOf_X4_require : GoodIn wsX4_lineOf wsX4_require := goodIn_ca (goodIn_r _ [8, 9, 10] (by decide +kernel) (by decide +kernel)) (goodIn_sub (fun _ h => List.mem_cons_of_mem _ (List.mem_append_right _ h)) (by decide +kernel))
set_option maxRecDepth 20000 in
theorem gX4_lineOf_X4_require : GoodIn wsX4_lineOf (va_wsS RX4 87 yX4_require wsX4_require) := goodIn_app (goodIn_of _ (by decide +kernel)) ggX4_lineOf_X4_require
theorem dX4_lineOf_0 : decode cX4_lineOf 0 = .ok (.iload_n 1, 1) := by decide +kernel
theorem dX4_lineOf_1 : decode cX4_lineOf 1 = .ok (.invokestatic 139, 3) := by decide +kernel
theorem dX4_lineOf_4 : decode cX4_lineOf 4 = .ok (.invokestatic 87, 3) := by decide +kernel
theorem dX4_lineOf_7 : decode cX4_lineOf 7 = .ok (.aload_n 0, 1) := by decide +kernel
theorem dX4_lineOf_8 : decode cX4_lineOf 8 = .ok (.getfield 11, 3) := by decide +kernel
theorem dX4_lineOf_11 : decode cX4_lineOf 11 = .ok (.iload_n 1, 1) := by decide +kernel
theorem dX4_lineOf_12 : decode cX4_lineOf 12 = .ok (.aaload, 1) := by decide +kernel
theorem dX4_lineOf_13 : decode cX4_lineOf 13 = .ok (.areturn, 1) := by decide +kernel
set_option maxRecDepth 20000 in
theorem ggX4_slotOf_X4_lowestRinging : GoodIn wsX4_slotOf wsX4_lowestRinging := goodIn_r _ [9, 4, 10, 11, 12, 13, 14, 15, 16, 28, 29, 30, 31, 32, 33, 34, 17, 18, 19, 20, 21, 22, 23, 24, 25, 26, 27] (by decide +kernel) (by decide +kernel)
set_option maxRecDepth 20000 in
theorem gX4_slotOf_X4_lowestRinging : GoodIn wsX4_slotOf (wsV RX4 164 RX4 yX4_lowestRinging wsX4_lowestRinging) := goodIn_app (goodIn_of _ (by decide +kernel)) ggX4_slotOf_X4_lowestRinging
theorem dX4_slotOf_0 : decode cX4_slotOf 0 = .ok (.aload_n 1, 1) := by decide +kernel
theorem dX4_slotOf_1 : decode cX4_slotOf 1 = .ok (.getfield 64, 3) := by decide +kernel
theorem dX4_slotOf_4 : decode cX4_slotOf 4 = .ok (.iconst 3, 1) := by decide +kernel
theorem dX4_slotOf_5 : decode cX4_slotOf 5 = .ok (.if_icmp .eq 8, 3) := by decide +kernel
theorem dX4_slotOf_8 : decode cX4_slotOf 8 = .ok (.aload_n 1, 1) := by decide +kernel
theorem dX4_slotOf_9 : decode cX4_slotOf 9 = .ok (.getfield 210, 3) := by decide +kernel
theorem dX4_slotOf_12 : decode cX4_slotOf 12 = .ok (.ireturn, 1) := by decide +kernel
theorem dX4_slotOf_13 : decode cX4_slotOf 13 = .ok (.aload_n 0, 1) := by decide +kernel
theorem dX4_slotOf_14 : decode cX4_slotOf 14 = .ok (.aload_n 1, 1) := by decide +kernel
theorem dX4_slotOf_15 : decode cX4_slotOf 15 = .ok (.getfield 115, 3) := by decide +kernel
theorem dX4_slotOf_18 : decode cX4_slotOf 18 = .ok (.invokevirtual 164, 3) := by decide +kernel
theorem dX4_slotOf_21 : decode cX4_slotOf 21 = .ok (.istore_n 2, 1) := by decide +kernel
theorem dX4_slotOf_22 : decode cX4_slotOf 22 = .ok (.iload_n 2, 1) := by decide +kernel
theorem dX4_slotOf_23 : decode cX4_slotOf 23 = .ok (.iconst (-1), 1) := by decide +kernel
theorem dX4_slotOf_24 : decode cX4_slotOf 24 = .ok (.if_icmp .ne 7, 3) := by decide +kernel
theorem dX4_slotOf_27 : decode cX4_slotOf 27 = .ok (.iconst (-1), 1) := by decide +kernel
theorem dX4_slotOf_28 : decode cX4_slotOf 28 = .ok (.goto 12, 3) := by decide +kernel
theorem dX4_slotOf_31 : decode cX4_slotOf 31 = .ok (.aload_n 0, 1) := by decide +kernel
theorem dX4_slotOf_32 : decode cX4_slotOf 32 = .ok (.getfield 11, 3) := by decide +kernel
theorem dX4_slotOf_35 : decode cX4_slotOf 35 = .ok (.iload_n 2, 1) := by decide +kernel
theorem dX4_slotOf_36 : decode cX4_slotOf 36 = .ok (.aaload, 1) := by decide +kernel
theorem dX4_slotOf_37 : decode cX4_slotOf 37 = .ok (.getfield 210, 3) := by decide +kernel
theorem dX4_slotOf_40 : decode cX4_slotOf 40 = .ok (.ireturn, 1) := by decide +kernel
set_option maxRecDepth 20000 in
theorem ggX4_lowestRinging_X2_ringsFor : GoodIn wsX4_lowestRinging wsX2_ringsFor := goodIn_r _ [6, 7, 8, 16, 17, 18, 19, 20, 21, 22, 23, 24, 25, 26] (by decide +kernel) (by decide +kernel)
set_option maxRecDepth 20000 in
theorem gX4_lowestRinging_X2_ringsFor : GoodIn wsX4_lowestRinging (wsV RX4 213 RX2 yX2_ringsFor wsX2_ringsFor) := goodIn_app (goodIn_of _ (by decide +kernel)) ggX4_lowestRinging_X2_ringsFor
theorem dX4_lowestRinging_0 : decode cX4_lowestRinging 0 = .ok (.iconst 0, 1) := by decide +kernel
theorem dX4_lowestRinging_1 : decode cX4_lowestRinging 1 = .ok (.istore_n 2, 1) := by decide +kernel
theorem dX4_lowestRinging_2 : decode cX4_lowestRinging 2 = .ok (.iload_n 2, 1) := by decide +kernel
theorem dX4_lowestRinging_3 : decode cX4_lowestRinging 3 = .ok (.bipush 24, 2) := by decide +kernel
theorem dX4_lowestRinging_5 : decode cX4_lowestRinging 5 = .ok (.if_icmp .ge 24, 3) := by decide +kernel
theorem dX4_lowestRinging_8 : decode cX4_lowestRinging 8 = .ok (.aload_n 0, 1) := by decide +kernel
theorem dX4_lowestRinging_9 : decode cX4_lowestRinging 9 = .ok (.getfield 11, 3) := by decide +kernel
theorem dX4_lowestRinging_12 : decode cX4_lowestRinging 12 = .ok (.iload_n 2, 1) := by decide +kernel
theorem dX4_lowestRinging_13 : decode cX4_lowestRinging 13 = .ok (.aaload, 1) := by decide +kernel
theorem dX4_lowestRinging_14 : decode cX4_lowestRinging 14 = .ok (.iload_n 1, 1) := by decide +kernel
theorem dX4_lowestRinging_15 : decode cX4_lowestRinging 15 = .ok (.invokevirtual 213, 3) := by decide +kernel
theorem dX4_lowestRinging_18 : decode cX4_lowestRinging 18 = .ok (.ifCond .eq 5, 3) := by decide +kernel
theorem dX4_lowestRinging_21 : decode cX4_lowestRinging 21 = .ok (.iload_n 2, 1) := by decide +kernel
theorem dX4_lowestRinging_22 : decode cX4_lowestRinging 22 = .ok (.ireturn, 1) := by decide +kernel
theorem dX4_lowestRinging_23 : decode cX4_lowestRinging 23 = .ok (.iinc 2 1, 3) := by decide +kernel
theorem dX4_lowestRinging_26 : decode cX4_lowestRinging 26 = .ok (.goto (-24), 3) := by decide +kernel
theorem dX4_lowestRinging_29 : decode cX4_lowestRinging 29 = .ok (.iconst (-1), 1) := by decide +kernel
theorem dX4_lowestRinging_30 : decode cX4_lowestRinging 30 = .ok (.ireturn, 1) := by decide +kernel
set_option maxRecDepth 20000 in
theorem ggX4_call_X4_callLine : GoodIn wsX4_call wsX4_callLine := goodIn_r _ [9, 3, 4, 10, 11, 12, 13, 14, 15, 16, 17, 18, 19, 20, 21, 22, 23, 24, 25, 26, 8, 27, 28, 29, 30, 31, 32, 33, 34, 35, 36, 37, 38, 39, 40, 41, 42, 43, 44, 45, 46, 47, 48, 49, 50, 51, 52, 53, 54, 139, 140, 141, 142, 143, 144, 145, 146, 147, 148, 149, 132, 133, 134, 135, 136, 137, 138, 150] (by decide +kernel) (by decide +kernel)
set_option maxRecDepth 20000 in
theorem gX4_call_X4_callLine : GoodIn wsX4_call (wsV RX4 216 RX4 yX4_callLine wsX4_callLine) := goodIn_app (goodIn_of _ (by decide +kernel)) ggX4_call_X4_callLine
set_option maxRecDepth 20000 in
theorem ggX4_call_X4_callGroup : GoodIn wsX4_call wsX4_callGroup := goodIn_r _ [58, 59, 4, 60, 61, 62, 8, 63, 64, 1, 65, 66, 67, 68, 10, 3, 24, 25, 26, 27, 28, 11, 29, 30, 31, 32, 33, 34, 35, 36, 37, 38, 39, 40, 41, 42, 43, 44, 45, 46, 47, 48, 49, 13, 14, 15, 16, 17, 18, 19, 20, 21, 22, 23, 69, 70, 71, 72, 73, 74, 75, 76, 77, 78, 79, 80, 81, 82, 83, 84, 85, 86, 87, 88, 89, 90, 91, 92, 50, 51, 52, 53, 54, 151, 152, 153, 154, 132, 133, 134, 135, 136, 137, 138, 139, 140, 141, 142, 143, 144, 145, 146, 147, 148, 149, 150] (by decide +kernel) (by decide +kernel)
set_option maxRecDepth 20000 in
theorem gX4_call_X4_callGroup : GoodIn wsX4_call (wsV RX4 220 RX4 yX4_callGroup wsX4_callGroup) := goodIn_app (goodIn_of _ (by decide +kernel)) ggX4_call_X4_callGroup
set_option maxRecDepth 20000 in
theorem ggX4_call_X4_pickUp : GoodIn wsX4_call wsX4_pickUp := goodIn_r _ [96, 11, 4, 1, 29, 97, 98, 99, 8, 100, 78, 10, 79, 13, 14, 15, 16, 17, 18, 19, 20, 21, 22, 23, 101, 102, 103, 104, 28, 30, 105, 106, 107, 108, 109, 110, 111, 34, 112, 46, 47, 48, 49, 45, 36, 113, 114, 115, 116, 31, 32, 33, 35, 37, 38, 39, 40, 41, 42, 43, 44, 117, 118, 119, 120, 121, 122, 123, 124, 125, 126, 50, 51, 52, 53, 54, 139, 140, 141, 142, 143, 144, 145, 146, 147, 148, 149, 132, 133, 134, 135, 136, 137, 138, 150] (by decide +kernel) (by decide +kernel)
set_option maxRecDepth 20000 in
theorem gX4_call_X4_pickUp : GoodIn wsX4_call (wsV RX4 224 RX4 yX4_pickUp wsX4_pickUp) := goodIn_app (goodIn_of _ (by decide +kernel)) ggX4_call_X4_pickUp
set_option maxRecDepth 20000 in
theorem ggX4_call_X4_takeParked : GoodIn wsX4_call wsX4_takeParked := goodIn_r _ [130, 131, 4, 1, 13, 14, 15, 16, 17, 18, 19, 20, 21, 22, 23, 113, 114, 115, 8, 116, 28, 31, 32, 33, 34, 35, 36, 37, 38, 39, 40, 41, 42, 43, 44, 45, 46, 47, 48, 49, 117, 118, 119, 120, 11, 121, 122, 123, 124, 125, 126, 50, 51, 52, 53, 54, 132, 133, 134, 135, 136, 137, 138, 139, 140, 141, 142, 143, 144, 145, 146, 147, 148, 149, 150] (by decide +kernel) (by decide +kernel)
set_option maxRecDepth 20000 in
theorem gX4_call_X4_takeParked : GoodIn wsX4_call (wsV RX4 227 RX4 yX4_takeParked wsX4_takeParked) := goodIn_app (goodIn_of _ (by decide +kernel)) ggX4_call_X4_takeParked
set_option maxRecDepth 20000 in
theorem ggX4_call_X2_enter : GoodIn wsX4_call wsX2_enter := goodIn_r _ [17, 18, 19, 20, 21, 22, 23, 139, 140, 141, 142, 143, 144, 145, 146, 147, 148, 149] (by decide +kernel) (by decide +kernel)
set_option maxRecDepth 20000 in
theorem gX4_call_X2_enter : GoodIn wsX4_call (wsV RX4 78 RX2 yX2_enter wsX2_enter) := goodIn_app (goodIn_of _ (by decide +kernel)) ggX4_call_X2_enter
theorem dX4_call_0 : decode cX4_call 0 = .ok (.iload_n 2, 1) := by decide +kernel
theorem dX4_call_1 : decode cX4_call 1 = .ok (.bipush 10, 2) := by decide +kernel
theorem dX4_call_3 : decode cX4_call 3 = .ok (.if_icmp .lt 26, 3) := by decide +kernel
theorem dX4_call_6 : decode cX4_call 6 = .ok (.iload_n 2, 1) := by decide +kernel
theorem dX4_call_7 : decode cX4_call 7 = .ok (.bipush 34, 2) := by decide +kernel
theorem dX4_call_9 : decode cX4_call 9 = .ok (.if_icmp .ge 20, 3) := by decide +kernel
theorem dX4_call_12 : decode cX4_call 12 = .ok (.aload_n 0, 1) := by decide +kernel
theorem dX4_call_13 : decode cX4_call 13 = .ok (.aload_n 1, 1) := by decide +kernel
theorem dX4_call_14 : decode cX4_call 14 = .ok (.aload_n 0, 1) := by decide +kernel
theorem dX4_call_15 : decode cX4_call 15 = .ok (.getfield 11, 3) := by decide +kernel
theorem dX4_call_18 : decode cX4_call 18 = .ok (.iload_n 2, 1) := by decide +kernel
theorem dX4_call_19 : decode cX4_call 19 = .ok (.bipush 10, 2) := by decide +kernel
theorem dX4_call_21 : decode cX4_call 21 = .ok (.isub, 1) := by decide +kernel
theorem dX4_call_22 : decode cX4_call 22 = .ok (.aaload, 1) := by decide +kernel
theorem dX4_call_23 : decode cX4_call 23 = .ok (.invokevirtual 216, 3) := by decide +kernel
theorem dX4_call_26 : decode cX4_call 26 = .ok (.goto 106, 3) := by decide +kernel
theorem dX4_call_29 : decode cX4_call 29 = .ok (.iload_n 2, 1) := by decide +kernel
theorem dX4_call_30 : decode cX4_call 30 = .ok (.bipush 40, 2) := by decide +kernel
theorem dX4_call_32 : decode cX4_call 32 = .ok (.if_icmp .lt 26, 3) := by decide +kernel
theorem dX4_call_35 : decode cX4_call 35 = .ok (.iload_n 2, 1) := by decide +kernel
theorem dX4_call_36 : decode cX4_call 36 = .ok (.bipush 44, 2) := by decide +kernel
theorem dX4_call_38 : decode cX4_call 38 = .ok (.if_icmp .ge 20, 3) := by decide +kernel
theorem dX4_call_41 : decode cX4_call 41 = .ok (.aload_n 0, 1) := by decide +kernel
theorem dX4_call_42 : decode cX4_call 42 = .ok (.aload_n 1, 1) := by decide +kernel
theorem dX4_call_43 : decode cX4_call 43 = .ok (.aload_n 0, 1) := by decide +kernel
theorem dX4_call_44 : decode cX4_call 44 = .ok (.getfield 27, 3) := by decide +kernel
theorem dX4_call_47 : decode cX4_call 47 = .ok (.iload_n 2, 1) := by decide +kernel
theorem dX4_call_48 : decode cX4_call 48 = .ok (.bipush 40, 2) := by decide +kernel
theorem dX4_call_50 : decode cX4_call 50 = .ok (.isub, 1) := by decide +kernel
theorem dX4_call_51 : decode cX4_call 51 = .ok (.aaload, 1) := by decide +kernel
theorem dX4_call_52 : decode cX4_call 52 = .ok (.invokevirtual 220, 3) := by decide +kernel
theorem dX4_call_55 : decode cX4_call 55 = .ok (.goto 77, 3) := by decide +kernel
theorem dX4_call_58 : decode cX4_call 58 = .ok (.iload_n 2, 1) := by decide +kernel
theorem dX4_call_59 : decode cX4_call 59 = .ok (.bipush 50, 2) := by decide +kernel
theorem dX4_call_61 : decode cX4_call 61 = .ok (.if_icmp .ne 11, 3) := by decide +kernel
theorem dX4_call_64 : decode cX4_call 64 = .ok (.aload_n 0, 1) := by decide +kernel
theorem dX4_call_65 : decode cX4_call 65 = .ok (.aload_n 1, 1) := by decide +kernel
theorem dX4_call_66 : decode cX4_call 66 = .ok (.invokevirtual 224, 3) := by decide +kernel
theorem dX4_call_69 : decode cX4_call 69 = .ok (.goto 63, 3) := by decide +kernel
theorem dX4_call_72 : decode cX4_call 72 = .ok (.iload_n 2, 1) := by decide +kernel
theorem dX4_call_73 : decode cX4_call 73 = .ok (.bipush 60, 2) := by decide +kernel
theorem dX4_call_75 : decode cX4_call 75 = .ok (.if_icmp .lt 21, 3) := by decide +kernel
theorem dX4_call_78 : decode cX4_call 78 = .ok (.iload_n 2, 1) := by decide +kernel
theorem dX4_call_79 : decode cX4_call 79 = .ok (.bipush 64, 2) := by decide +kernel
theorem dX4_call_81 : decode cX4_call 81 = .ok (.if_icmp .ge 15, 3) := by decide +kernel
theorem dX4_call_84 : decode cX4_call 84 = .ok (.aload_n 0, 1) := by decide +kernel
theorem dX4_call_85 : decode cX4_call 85 = .ok (.aload_n 1, 1) := by decide +kernel
theorem dX4_call_86 : decode cX4_call 86 = .ok (.iload_n 2, 1) := by decide +kernel
theorem dX4_call_87 : decode cX4_call 87 = .ok (.bipush 60, 2) := by decide +kernel
theorem dX4_call_89 : decode cX4_call 89 = .ok (.isub, 1) := by decide +kernel
theorem dX4_call_90 : decode cX4_call 90 = .ok (.invokevirtual 227, 3) := by decide +kernel
theorem dX4_call_93 : decode cX4_call 93 = .ok (.goto 39, 3) := by decide +kernel
theorem dX4_call_96 : decode cX4_call 96 = .ok (.iload_n 2, 1) := by decide +kernel
theorem dX4_call_97 : decode cX4_call 97 = .ok (.bipush 51, 2) := by decide +kernel
theorem dX4_call_99 : decode cX4_call 99 = .ok (.if_icmp .eq 9, 3) := by decide +kernel
theorem dX4_call_102 : decode cX4_call 102 = .ok (.iload_n 2, 1) := by decide +kernel
theorem dX4_call_103 : decode cX4_call 103 = .ok (.bipush 52, 2) := by decide +kernel
theorem dX4_call_105 : decode cX4_call 105 = .ok (.if_icmp .ne 18, 3) := by decide +kernel
theorem dX4_call_108 : decode cX4_call 108 = .ok (.aload_n 1, 1) := by decide +kernel
theorem dX4_call_109 : decode cX4_call 109 = .ok (.iload_n 2, 1) := by decide +kernel
theorem dX4_call_110 : decode cX4_call 110 = .ok (.bipush 51, 2) := by decide +kernel
theorem dX4_call_112 : decode cX4_call 112 = .ok (.if_icmp .ne 7, 3) := by decide +kernel
theorem dX4_call_115 : decode cX4_call 115 = .ok (.iconst 1, 1) := by decide +kernel
theorem dX4_call_116 : decode cX4_call 116 = .ok (.goto 4, 3) := by decide +kernel
theorem dX4_call_119 : decode cX4_call 119 = .ok (.iconst 0, 1) := by decide +kernel
theorem dX4_call_120 : decode cX4_call 120 = .ok (.putfield 182, 3) := by decide +kernel
theorem dX4_call_123 : decode cX4_call 123 = .ok (.aload_n 1, 1) := by decide +kernel
theorem dX4_call_124 : decode cX4_call 124 = .ok (.iconst 5, 1) := by decide +kernel
theorem dX4_call_125 : decode cX4_call 125 = .ok (.aload_n 0, 1) := by decide +kernel
theorem dX4_call_126 : decode cX4_call 126 = .ok (.getfield 75, 3) := by decide +kernel
theorem dX4_call_129 : decode cX4_call 129 = .ok (.invokevirtual 78, 3) := by decide +kernel
theorem dX4_call_132 : decode cX4_call 132 = .ok (.return_, 1) := by decide +kernel
set_option maxRecDepth 20000 in
theorem ggX4_callLine_X2_enter : GoodIn wsX4_callLine wsX2_enter := goodIn_r _ [10, 11, 12, 13, 14, 15, 16, 49, 50, 51, 52, 53, 54, 55, 56, 57, 58, 59] (by decide +kernel) (by decide +kernel)
set_option maxRecDepth 20000 in
theorem gX4_callLine_X2_enter : GoodIn wsX4_callLine (wsV RX4 78 RX2 yX2_enter wsX2_enter) := goodIn_app (goodIn_of _ (by decide +kernel)) ggX4_callLine_X2_enter
set_option maxRecDepth 20000 in
theorem ggX4_callLine_X4_ring : GoodIn wsX4_callLine wsX4_ring := goodIn_r _ [21, 22, 2, 4, 23, 24, 25, 26, 27, 28, 29, 30, 31, 32, 33, 34, 35, 36, 37, 38, 39, 40, 41, 42, 43, 6, 7, 8, 9, 10, 11, 12, 13, 14, 15, 16, 60, 61, 62, 63, 64, 65, 66, 49, 50, 51, 52, 53, 54, 55, 56, 57, 58, 59, 67] (by decide +kernel) (by decide +kernel)
set_option maxRecDepth 20000 in
theorem gX4_callLine_X4_ring : GoodIn wsX4_callLine (wsV RX4 230 RX4 yX4_ring wsX4_ring) := goodIn_app (goodIn_of _ (by decide +kernel)) ggX4_callLine_X4_ring
set_option maxRecDepth 20000 in
theorem ggX4_callLine_X4_block : GoodIn wsX4_callLine wsX4_block := goodIn_r _ [47, 2, 48, 6, 7, 8, 9, 10, 11, 12, 13, 14, 15, 16, 60, 61, 62, 63, 64, 65, 66, 49, 50, 51, 52, 53, 54, 55, 56, 57, 58, 59] (by decide +kernel) (by decide +kernel)
set_option maxRecDepth 20000 in
theorem gX4_callLine_X4_block : GoodIn wsX4_callLine (wsV RX4 234 RX4 yX4_block wsX4_block) := goodIn_app (goodIn_of _ (by decide +kernel)) ggX4_callLine_X4_block
theorem dX4_callLine_0 : decode cX4_callLine 0 = .ok (.aload_n 2, 1) := by decide +kernel
theorem dX4_callLine_1 : decode cX4_callLine 1 = .ok (.aload_n 1, 1) := by decide +kernel
theorem dX4_callLine_2 : decode cX4_callLine 2 = .ok (.if_acmp .eq 10, 3) := by decide +kernel
theorem dX4_callLine_5 : decode cX4_callLine 5 = .ok (.aload_n 2, 1) := by decide +kernel
theorem dX4_callLine_6 : decode cX4_callLine 6 = .ok (.getfield 182, 3) := by decide +kernel
theorem dX4_callLine_9 : decode cX4_callLine 9 = .ok (.ifCond .eq 15, 3) := by decide +kernel
theorem dX4_callLine_12 : decode cX4_callLine 12 = .ok (.aload_n 1, 1) := by decide +kernel
theorem dX4_callLine_13 : decode cX4_callLine 13 = .ok (.iconst 5, 1) := by decide +kernel
theorem dX4_callLine_14 : decode cX4_callLine 14 = .ok (.aload_n 0, 1) := by decide +kernel
theorem dX4_callLine_15 : decode cX4_callLine 15 = .ok (.getfield 75, 3) := by decide +kernel
theorem dX4_callLine_18 : decode cX4_callLine 18 = .ok (.invokevirtual 78, 3) := by decide +kernel
theorem dX4_callLine_21 : decode cX4_callLine 21 = .ok (.goto 56, 3) := by decide +kernel
theorem dX4_callLine_24 : decode cX4_callLine 24 = .ok (.aload_n 2, 1) := by decide +kernel
theorem dX4_callLine_25 : decode cX4_callLine 25 = .ok (.getfield 64, 3) := by decide +kernel
theorem dX4_callLine_28 : decode cX4_callLine 28 = .ok (.ifCond .eq 23, 3) := by decide +kernel
theorem dX4_callLine_31 : decode cX4_callLine 31 = .ok (.aload_n 1, 1) := by decide +kernel
theorem dX4_callLine_32 : decode cX4_callLine 32 = .ok (.iconst 5, 1) := by decide +kernel
theorem dX4_callLine_33 : decode cX4_callLine 33 = .ok (.aload_n 0, 1) := by decide +kernel
theorem dX4_callLine_34 : decode cX4_callLine 34 = .ok (.getfield 75, 3) := by decide +kernel
theorem dX4_callLine_37 : decode cX4_callLine 37 = .ok (.invokevirtual 78, 3) := by decide +kernel
theorem dX4_callLine_40 : decode cX4_callLine 40 = .ok (.aload_n 1, 1) := by decide +kernel
theorem dX4_callLine_41 : decode cX4_callLine 41 = .ok (.aload_n 2, 1) := by decide +kernel
theorem dX4_callLine_42 : decode cX4_callLine 42 = .ok (.getfield 115, 3) := by decide +kernel
theorem dX4_callLine_45 : decode cX4_callLine 45 = .ok (.putfield 98, 3) := by decide +kernel
theorem dX4_callLine_48 : decode cX4_callLine 48 = .ok (.goto 29, 3) := by decide +kernel
theorem dX4_callLine_51 : decode cX4_callLine 51 = .ok (.aload_n 0, 1) := by decide +kernel
theorem dX4_callLine_52 : decode cX4_callLine 52 = .ok (.aload_n 1, 1) := by decide +kernel
theorem dX4_callLine_53 : decode cX4_callLine 53 = .ok (.aload_n 2, 1) := by decide +kernel
theorem dX4_callLine_54 : decode cX4_callLine 54 = .ok (.invokevirtual 230, 3) := by decide +kernel
theorem dX4_callLine_57 : decode cX4_callLine 57 = .ok (.ifCond .eq 15, 3) := by decide +kernel
end
section
theorem dX4_callLine_60 : decode cX4_callLine 60 = .ok (.aload_n 1, 1) := by decide +kernel
theorem dX4_callLine_61 : decode cX4_callLine 61 = .ok (.iconst 3, 1) := by decide +kernel
theorem dX4_callLine_62 : decode cX4_callLine 62 = .ok (.aload_n 0, 1) := by decide +kernel
theorem dX4_callLine_63 : decode cX4_callLine 63 = .ok (.getfield 75, 3) := by decide +kernel
theorem dX4_callLine_66 : decode cX4_callLine 66 = .ok (.invokevirtual 78, 3) := by decide +kernel
theorem dX4_callLine_69 : decode cX4_callLine 69 = .ok (.goto 8, 3) := by decide +kernel
theorem dX4_callLine_72 : decode cX4_callLine 72 = .ok (.aload_n 0, 1) := by decide +kernel
theorem dX4_callLine_73 : decode cX4_callLine 73 = .ok (.aload_n 1, 1) := by decide +kernel
theorem dX4_callLine_74 : decode cX4_callLine 74 = .ok (.invokevirtual 234, 3) := by decide +kernel
theorem dX4_callLine_77 : decode cX4_callLine 77 = .ok (.return_, 1) := by decide +kernel
set_option maxRecDepth 20000 in
theorem ggX4_callGroup_X4_ringAll : GoodIn wsX4_callGroup wsX4_ringAll := goodIn_r _ [7, 8, 9, 10, 11, 12, 6, 13, 14, 15, 16, 17, 18, 19, 20, 2, 21, 22, 23, 24, 25, 26, 27, 28, 29, 30, 31, 32, 33, 34, 35, 36, 37, 38, 39, 40, 41, 42, 43, 44, 45, 46, 47, 48, 49, 50, 51, 52, 53, 83, 84, 85, 86, 87, 88, 89, 90, 91, 92, 93, 94, 95, 96, 97, 98, 99, 100, 101, 102, 103, 104, 105] (by decide +kernel) (by decide +kernel)
set_option maxRecDepth 20000 in
theorem gX4_callGroup_X4_ringAll : GoodIn wsX4_callGroup (wsV RX4 240 RX4 yX4_ringAll wsX4_ringAll) := goodIn_app (goodIn_of _ (by decide +kernel)) ggX4_callGroup_X4_ringAll
set_option maxRecDepth 20000 in
theorem ggX4_callGroup_X4_ringOne : GoodIn wsX4_callGroup wsX4_ringOne := goodIn_r _ [57, 1, 58, 9, 10, 59, 60, 61, 6, 62, 63, 8, 64, 65, 66, 67, 68, 20, 11, 12, 13, 14, 15, 69, 35, 36, 27, 37, 38, 29, 70, 71, 72, 73, 16, 17, 18, 19, 2, 21, 22, 23, 24, 25, 26, 28, 30, 31, 32, 33, 34, 39, 40, 41, 42, 43, 44, 45, 46, 47, 48, 49, 50, 51, 52, 53, 83, 84, 85, 86, 87, 88, 89, 90, 91, 92, 93, 94, 95, 96, 97, 98, 99, 100, 101, 102, 103, 104, 105] (by decide +kernel) (by decide +kernel)
set_option maxRecDepth 20000 in
theorem gX4_callGroup_X4_ringOne : GoodIn wsX4_callGroup (wsV RX4 244 RX4 yX4_ringOne wsX4_ringOne) := goodIn_app (goodIn_of _ (by decide +kernel)) ggX4_callGroup_X4_ringOne
set_option maxRecDepth 20000 in
theorem ggX4_callGroup_X2_enter : GoodIn wsX4_callGroup wsX2_enter := goodIn_r _ [47, 48, 49, 50, 51, 52, 53, 94, 95, 96, 97, 98, 99, 100, 101, 102, 103, 104] (by decide +kernel) (by decide +kernel)
set_option maxRecDepth 20000 in
theorem gX4_callGroup_X2_enter : GoodIn wsX4_callGroup (wsV RX4 78 RX2 yX2_enter wsX2_enter) := goodIn_app (goodIn_of _ (by decide +kernel)) ggX4_callGroup_X2_enter
set_option maxRecDepth 20000 in
theorem ggX4_callGroup_X4_hasWilling : GoodIn wsX4_callGroup wsX4_hasWilling := goodIn_r _ [77, 8, 9, 10, 11, 12, 6, 13, 14, 15, 83, 84, 85, 86, 87, 88, 89, 90, 91, 92, 93, 94, 95, 96, 97, 98, 99, 100, 101, 102, 103, 104] (by decide +kernel) (by decide +kernel)
set_option maxRecDepth 20000 in
theorem gX4_callGroup_X4_hasWilling : GoodIn wsX4_callGroup (wsV RX4 247 RX4 yX4_hasWilling wsX4_hasWilling) := goodIn_app (goodIn_of _ (by decide +kernel)) ggX4_callGroup_X4_hasWilling
set_option maxRecDepth 20000 in
theorem ggX4_callGroup_X4_block : GoodIn wsX4_callGroup wsX4_block := goodIn_r _ [81, 2, 82, 43, 44, 45, 46, 47, 48, 49, 50, 51, 52, 53, 87, 88, 89, 90, 91, 92, 93, 94, 95, 96, 97, 98, 99, 100, 101, 102, 103, 104] (by decide +kernel) (by decide +kernel)
set_option maxRecDepth 20000 in
theorem gX4_callGroup_X4_block : GoodIn wsX4_callGroup (wsV RX4 234 RX4 yX4_block wsX4_block) := goodIn_app (goodIn_of _ (by decide +kernel)) ggX4_callGroup_X4_block
theorem dX4_callGroup_0 : decode cX4_callGroup 0 = .ok (.aload_n 2, 1) := by decide +kernel
theorem dX4_callGroup_1 : decode cX4_callGroup 1 = .ok (.getfield 237, 3) := by decide +kernel
theorem dX4_callGroup_4 : decode cX4_callGroup 4 = .ok (.iconst 3, 1) := by decide +kernel
theorem dX4_callGroup_5 : decode cX4_callGroup 5 = .ok (.if_icmp .ne 12, 3) := by decide +kernel
theorem dX4_callGroup_8 : decode cX4_callGroup 8 = .ok (.aload_n 0, 1) := by decide +kernel
theorem dX4_callGroup_9 : decode cX4_callGroup 9 = .ok (.aload_n 1, 1) := by decide +kernel
theorem dX4_callGroup_10 : decode cX4_callGroup 10 = .ok (.aload_n 2, 1) := by decide +kernel
theorem dX4_callGroup_11 : decode cX4_callGroup 11 = .ok (.invokevirtual 240, 3) := by decide +kernel
theorem dX4_callGroup_14 : decode cX4_callGroup 14 = .ok (.goto 9, 3) := by decide +kernel
theorem dX4_callGroup_17 : decode cX4_callGroup 17 = .ok (.aload_n 0, 1) := by decide +kernel
theorem dX4_callGroup_18 : decode cX4_callGroup 18 = .ok (.aload_n 1, 1) := by decide +kernel
theorem dX4_callGroup_19 : decode cX4_callGroup 19 = .ok (.aload_n 2, 1) := by decide +kernel
theorem dX4_callGroup_20 : decode cX4_callGroup 20 = .ok (.invokevirtual 244, 3) := by decide +kernel
theorem dX4_callGroup_23 : decode cX4_callGroup 23 = .ok (.istore_n 3, 1) := by decide +kernel
theorem dX4_callGroup_24 : decode cX4_callGroup 24 = .ok (.iload_n 3, 1) := by decide +kernel
theorem dX4_callGroup_25 : decode cX4_callGroup 25 = .ok (.ifCond .eq 15, 3) := by decide +kernel
theorem dX4_callGroup_28 : decode cX4_callGroup 28 = .ok (.aload_n 1, 1) := by decide +kernel
theorem dX4_callGroup_29 : decode cX4_callGroup 29 = .ok (.iconst 3, 1) := by decide +kernel
theorem dX4_callGroup_30 : decode cX4_callGroup 30 = .ok (.aload_n 0, 1) := by decide +kernel
theorem dX4_callGroup_31 : decode cX4_callGroup 31 = .ok (.getfield 75, 3) := by decide +kernel
theorem dX4_callGroup_34 : decode cX4_callGroup 34 = .ok (.invokevirtual 78, 3) := by decide +kernel
theorem dX4_callGroup_37 : decode cX4_callGroup 37 = .ok (.goto 29, 3) := by decide +kernel
theorem dX4_callGroup_40 : decode cX4_callGroup 40 = .ok (.aload_n 0, 1) := by decide +kernel
theorem dX4_callGroup_41 : decode cX4_callGroup 41 = .ok (.aload_n 1, 1) := by decide +kernel
theorem dX4_callGroup_42 : decode cX4_callGroup 42 = .ok (.aload_n 2, 1) := by decide +kernel
theorem dX4_callGroup_43 : decode cX4_callGroup 43 = .ok (.invokevirtual 247, 3) := by decide +kernel
theorem dX4_callGroup_46 : decode cX4_callGroup 46 = .ok (.ifCond .eq 11, 3) := by decide +kernel
theorem dX4_callGroup_49 : decode cX4_callGroup 49 = .ok (.aload_n 0, 1) := by decide +kernel
theorem dX4_callGroup_50 : decode cX4_callGroup 50 = .ok (.aload_n 1, 1) := by decide +kernel
theorem dX4_callGroup_51 : decode cX4_callGroup 51 = .ok (.invokevirtual 234, 3) := by decide +kernel
theorem dX4_callGroup_54 : decode cX4_callGroup 54 = .ok (.goto 12, 3) := by decide +kernel
theorem dX4_callGroup_57 : decode cX4_callGroup 57 = .ok (.aload_n 1, 1) := by decide +kernel
theorem dX4_callGroup_58 : decode cX4_callGroup 58 = .ok (.iconst 5, 1) := by decide +kernel
theorem dX4_callGroup_59 : decode cX4_callGroup 59 = .ok (.aload_n 0, 1) := by decide +kernel
theorem dX4_callGroup_60 : decode cX4_callGroup 60 = .ok (.getfield 75, 3) := by decide +kernel
theorem dX4_callGroup_63 : decode cX4_callGroup 63 = .ok (.invokevirtual 78, 3) := by decide +kernel
theorem dX4_callGroup_66 : decode cX4_callGroup 66 = .ok (.return_, 1) := by decide +kernel
set_option maxRecDepth 20000 in
theorem ggX4_ringAll_X4_isWilling : GoodIn wsX4_ringAll wsX4_isWilling := goodIn_r _ [7, 8, 9, 60, 61, 62, 63, 64, 65, 66, 67, 68, 69, 70] (by decide +kernel) (by decide +kernel)
set_option maxRecDepth 20000 in
theorem gX4_ringAll_X4_isWilling : GoodIn wsX4_ringAll (va_wsS RX4 253 yX4_isWilling wsX4_isWilling) := goodIn_app (goodIn_of _ (by decide +kernel)) ggX4_ringAll_X4_isWilling
set_option maxRecDepth 20000 in
theorem ggX4_ringAll_X4_ring : GoodIn wsX4_ringAll wsX4_ring := goodIn_r _ [13, 14, 15, 16, 17, 18, 19, 20, 21, 22, 23, 24, 25, 26, 27, 28, 29, 30, 31, 32, 33, 34, 35, 36, 37, 38, 39, 40, 41, 42, 43, 44, 45, 46, 47, 48, 53, 54, 55, 56, 57, 58, 59, 60, 61, 62, 63, 64, 65, 66, 67, 68, 69, 70, 71] (by decide +kernel) (by decide +kernel)
set_option maxRecDepth 20000 in
theorem gX4_ringAll_X4_ring : GoodIn wsX4_ringAll (wsV RX4 230 RX4 yX4_ring wsX4_ring) := goodIn_app (goodIn_of _ (by decide +kernel)) ggX4_ringAll_X4_ring
theorem dX4_ringAll_0 : decode cX4_ringAll 0 = .ok (.iconst 0, 1) := by decide +kernel
theorem dX4_ringAll_1 : decode cX4_ringAll 1 = .ok (.istore_n 3, 1) := by decide +kernel
theorem dX4_ringAll_2 : decode cX4_ringAll 2 = .ok (.iconst 0, 1) := by decide +kernel
theorem dX4_ringAll_3 : decode cX4_ringAll 3 = .ok (.istore 4, 2) := by decide +kernel
theorem dX4_ringAll_5 : decode cX4_ringAll 5 = .ok (.iload 4, 2) := by decide +kernel
theorem dX4_ringAll_7 : decode cX4_ringAll 7 = .ok (.aload_n 2, 1) := by decide +kernel
theorem dX4_ringAll_8 : decode cX4_ringAll 8 = .ok (.getfield 146, 3) := by decide +kernel
theorem dX4_ringAll_11 : decode cX4_ringAll 11 = .ok (.if_icmp .ge 44, 3) := by decide +kernel
theorem dX4_ringAll_14 : decode cX4_ringAll 14 = .ok (.aload_n 0, 1) := by decide +kernel
theorem dX4_ringAll_15 : decode cX4_ringAll 15 = .ok (.getfield 11, 3) := by decide +kernel
theorem dX4_ringAll_18 : decode cX4_ringAll 18 = .ok (.aload_n 2, 1) := by decide +kernel
theorem dX4_ringAll_19 : decode cX4_ringAll 19 = .ok (.getfield 250, 3) := by decide +kernel
theorem dX4_ringAll_22 : decode cX4_ringAll 22 = .ok (.iload 4, 2) := by decide +kernel
theorem dX4_ringAll_24 : decode cX4_ringAll 24 = .ok (.iaload, 1) := by decide +kernel
theorem dX4_ringAll_25 : decode cX4_ringAll 25 = .ok (.aaload, 1) := by decide +kernel
theorem dX4_ringAll_26 : decode cX4_ringAll 26 = .ok (.astore 5, 2) := by decide +kernel
theorem dX4_ringAll_28 : decode cX4_ringAll 28 = .ok (.aload_n 1, 1) := by decide +kernel
theorem dX4_ringAll_29 : decode cX4_ringAll 29 = .ok (.aload 5, 2) := by decide +kernel
theorem dX4_ringAll_31 : decode cX4_ringAll 31 = .ok (.invokestatic 253, 3) := by decide +kernel
theorem dX4_ringAll_34 : decode cX4_ringAll 34 = .ok (.ifCond .eq 15, 3) := by decide +kernel
theorem dX4_ringAll_37 : decode cX4_ringAll 37 = .ok (.aload_n 0, 1) := by decide +kernel
theorem dX4_ringAll_38 : decode cX4_ringAll 38 = .ok (.aload_n 1, 1) := by decide +kernel
theorem dX4_ringAll_39 : decode cX4_ringAll 39 = .ok (.aload 5, 2) := by decide +kernel
theorem dX4_ringAll_41 : decode cX4_ringAll 41 = .ok (.invokevirtual 230, 3) := by decide +kernel
theorem dX4_ringAll_44 : decode cX4_ringAll 44 = .ok (.ifCond .eq 5, 3) := by decide +kernel
theorem dX4_ringAll_47 : decode cX4_ringAll 47 = .ok (.iconst 1, 1) := by decide +kernel
theorem dX4_ringAll_48 : decode cX4_ringAll 48 = .ok (.istore_n 3, 1) := by decide +kernel
theorem dX4_ringAll_49 : decode cX4_ringAll 49 = .ok (.iinc 4 1, 3) := by decide +kernel
theorem dX4_ringAll_52 : decode cX4_ringAll 52 = .ok (.goto (-47), 3) := by decide +kernel
theorem dX4_ringAll_55 : decode cX4_ringAll 55 = .ok (.iload_n 3, 1) := by decide +kernel
theorem dX4_ringAll_56 : decode cX4_ringAll 56 = .ok (.ireturn, 1) := by decide +kernel
set_option maxRecDepth 20000 in
theorem ggX4_ringOne_X4_longestIdle : GoodIn wsX4_ringOne wsX4_longestIdle := goodIn_r _ [9, 10, 11, 3, 4, 12, 13, 14, 15, 8, 16, 17, 18, 19, 20, 21, 22, 23, 24, 25, 26, 27, 28, 29, 66, 67, 68, 69, 70, 71, 72, 73, 74, 75, 76, 77, 78, 79, 80, 81, 82, 83, 84, 85, 86, 87, 88] (by decide +kernel) (by decide +kernel)
set_option maxRecDepth 20000 in
theorem gX4_ringOne_X4_longestIdle : GoodIn wsX4_ringOne (wsV RX4 256 RX4 yX4_longestIdle wsX4_longestIdle) := goodIn_app (goodIn_of _ (by decide +kernel)) ggX4_ringOne_X4_longestIdle
set_option maxRecDepth 20000 in
theorem ggX4_ringOne_X4_firstToTake : GoodIn wsX4_ringOne wsX4_firstToTake := goodIn_r _ [33, 1, 2, 11, 3, 4, 13, 14, 15, 8, 16, 17, 18, 19, 20, 21, 22, 23, 24, 25, 26, 27, 28, 29, 66, 67, 68, 69, 70, 71, 72, 73, 74, 75, 76, 77, 78, 79, 80, 81, 82, 83, 84, 85, 86, 87, 88] (by decide +kernel) (by decide +kernel)
set_option maxRecDepth 20000 in
theorem gX4_ringOne_X4_firstToTake : GoodIn wsX4_ringOne (wsV RX4 260 RX4 yX4_firstToTake wsX4_firstToTake) := goodIn_app (goodIn_of _ (by decide +kernel)) ggX4_ringOne_X4_firstToTake
set_option maxRecDepth 20000 in
theorem ggX4_ringOne_X4_ring : GoodIn wsX4_ringOne wsX4_ring := goodIn_r _ [37, 17, 38, 39, 40, 41, 42, 43, 44, 26, 45, 29, 46, 47, 48, 49, 50, 24, 25, 27, 28, 51, 52, 53, 54, 55, 56, 57, 58, 59, 60, 61, 62, 63, 64, 65, 70, 71, 72, 73, 74, 75, 76, 77, 78, 79, 80, 81, 82, 83, 84, 85, 86, 87, 88] (by decide +kernel) (by decide +kernel)
set_option maxRecDepth 20000 in
theorem gX4_ringOne_X4_ring : GoodIn wsX4_ringOne (wsV RX4 230 RX4 yX4_ring wsX4_ring) := goodIn_app (goodIn_of _ (by decide +kernel)) ggX4_ringOne_X4_ring
theorem dX4_ringOne_0 : decode cX4_ringOne 0 = .ok (.aload_n 2, 1) := by decide +kernel
theorem dX4_ringOne_1 : decode cX4_ringOne 1 = .ok (.getfield 237, 3) := by decide +kernel
theorem dX4_ringOne_4 : decode cX4_ringOne 4 = .ok (.iconst 2, 1) := by decide +kernel
theorem dX4_ringOne_5 : decode cX4_ringOne 5 = .ok (.if_icmp .ne 12, 3) := by decide +kernel
theorem dX4_ringOne_8 : decode cX4_ringOne 8 = .ok (.aload_n 0, 1) := by decide +kernel
theorem dX4_ringOne_9 : decode cX4_ringOne 9 = .ok (.aload_n 1, 1) := by decide +kernel
theorem dX4_ringOne_10 : decode cX4_ringOne 10 = .ok (.aload_n 2, 1) := by decide +kernel
theorem dX4_ringOne_11 : decode cX4_ringOne 11 = .ok (.invokevirtual 256, 3) := by decide +kernel
theorem dX4_ringOne_14 : decode cX4_ringOne 14 = .ok (.goto 9, 3) := by decide +kernel
theorem dX4_ringOne_17 : decode cX4_ringOne 17 = .ok (.aload_n 0, 1) := by decide +kernel
theorem dX4_ringOne_18 : decode cX4_ringOne 18 = .ok (.aload_n 1, 1) := by decide +kernel
theorem dX4_ringOne_19 : decode cX4_ringOne 19 = .ok (.aload_n 2, 1) := by decide +kernel
theorem dX4_ringOne_20 : decode cX4_ringOne 20 = .ok (.invokevirtual 260, 3) := by decide +kernel
theorem dX4_ringOne_23 : decode cX4_ringOne 23 = .ok (.istore_n 3, 1) := by decide +kernel
theorem dX4_ringOne_24 : decode cX4_ringOne 24 = .ok (.iload_n 3, 1) := by decide +kernel
theorem dX4_ringOne_25 : decode cX4_ringOne 25 = .ok (.iconst (-1), 1) := by decide +kernel
theorem dX4_ringOne_26 : decode cX4_ringOne 26 = .ok (.if_icmp .ne 5, 3) := by decide +kernel
theorem dX4_ringOne_29 : decode cX4_ringOne 29 = .ok (.iconst 0, 1) := by decide +kernel
theorem dX4_ringOne_30 : decode cX4_ringOne 30 = .ok (.ireturn, 1) := by decide +kernel
theorem dX4_ringOne_31 : decode cX4_ringOne 31 = .ok (.aload_n 2, 1) := by decide +kernel
theorem dX4_ringOne_32 : decode cX4_ringOne 32 = .ok (.iload_n 3, 1) := by decide +kernel
theorem dX4_ringOne_33 : decode cX4_ringOne 33 = .ok (.putfield 263, 3) := by decide +kernel
theorem dX4_ringOne_36 : decode cX4_ringOne 36 = .ok (.aload_n 0, 1) := by decide +kernel
theorem dX4_ringOne_37 : decode cX4_ringOne 37 = .ok (.aload_n 1, 1) := by decide +kernel
theorem dX4_ringOne_38 : decode cX4_ringOne 38 = .ok (.aload_n 0, 1) := by decide +kernel
theorem dX4_ringOne_39 : decode cX4_ringOne 39 = .ok (.getfield 11, 3) := by decide +kernel
theorem dX4_ringOne_42 : decode cX4_ringOne 42 = .ok (.aload_n 2, 1) := by decide +kernel
theorem dX4_ringOne_43 : decode cX4_ringOne 43 = .ok (.getfield 250, 3) := by decide +kernel
theorem dX4_ringOne_46 : decode cX4_ringOne 46 = .ok (.iload_n 3, 1) := by decide +kernel
theorem dX4_ringOne_47 : decode cX4_ringOne 47 = .ok (.iaload, 1) := by decide +kernel
theorem dX4_ringOne_48 : decode cX4_ringOne 48 = .ok (.aaload, 1) := by decide +kernel
theorem dX4_ringOne_49 : decode cX4_ringOne 49 = .ok (.invokevirtual 230, 3) := by decide +kernel
theorem dX4_ringOne_52 : decode cX4_ringOne 52 = .ok (.ireturn, 1) := by decide +kernel
set_option maxRecDepth 20000 in
theorem ggX4_firstToTake_X4_canTake : GoodIn wsX4_firstToTake wsX4_canTake := goodIn_r _ [10, 11, 12, 13, 9, 14, 15, 16, 17, 18, 19, 20, 21, 22, 23, 28, 29, 30, 31, 32, 33, 34, 35, 36, 37, 38, 39, 40, 41, 42, 43, 44, 45, 46] (by decide +kernel) (by decide +kernel)
set_option maxRecDepth 20000 in
theorem gX4_firstToTake_X4_canTake : GoodIn wsX4_firstToTake (wsV RX4 266 RX4 yX4_canTake wsX4_canTake) := goodIn_app (goodIn_of _ (by decide +kernel)) ggX4_firstToTake_X4_canTake
theorem dX4_firstToTake_0 : decode cX4_firstToTake 0 = .ok (.aload_n 2, 1) := by decide +kernel
theorem dX4_firstToTake_1 : decode cX4_firstToTake 1 = .ok (.getfield 237, 3) := by decide +kernel
theorem dX4_firstToTake_4 : decode cX4_firstToTake 4 = .ok (.iconst 1, 1) := by decide +kernel
theorem dX4_firstToTake_5 : decode cX4_firstToTake 5 = .ok (.if_icmp .ne 12, 3) := by decide +kernel
theorem dX4_firstToTake_8 : decode cX4_firstToTake 8 = .ok (.aload_n 2, 1) := by decide +kernel
theorem dX4_firstToTake_9 : decode cX4_firstToTake 9 = .ok (.getfield 263, 3) := by decide +kernel
theorem dX4_firstToTake_12 : decode cX4_firstToTake 12 = .ok (.iconst 1, 1) := by decide +kernel
theorem dX4_firstToTake_13 : decode cX4_firstToTake 13 = .ok (.iadd, 1) := by decide +kernel
theorem dX4_firstToTake_14 : decode cX4_firstToTake 14 = .ok (.goto 4, 3) := by decide +kernel
theorem dX4_firstToTake_17 : decode cX4_firstToTake 17 = .ok (.iconst 0, 1) := by decide +kernel
theorem dX4_firstToTake_18 : decode cX4_firstToTake 18 = .ok (.istore_n 3, 1) := by decide +kernel
theorem dX4_firstToTake_19 : decode cX4_firstToTake 19 = .ok (.iconst 0, 1) := by decide +kernel
theorem dX4_firstToTake_20 : decode cX4_firstToTake 20 = .ok (.istore 4, 2) := by decide +kernel
theorem dX4_firstToTake_22 : decode cX4_firstToTake 22 = .ok (.iload 4, 2) := by decide +kernel
theorem dX4_firstToTake_24 : decode cX4_firstToTake 24 = .ok (.aload_n 2, 1) := by decide +kernel
theorem dX4_firstToTake_25 : decode cX4_firstToTake 25 = .ok (.getfield 146, 3) := by decide +kernel
theorem dX4_firstToTake_28 : decode cX4_firstToTake 28 = .ok (.if_icmp .ge 43, 3) := by decide +kernel
theorem dX4_firstToTake_31 : decode cX4_firstToTake 31 = .ok (.iload_n 3, 1) := by decide +kernel
theorem dX4_firstToTake_32 : decode cX4_firstToTake 32 = .ok (.iload 4, 2) := by decide +kernel
theorem dX4_firstToTake_34 : decode cX4_firstToTake 34 = .ok (.iadd, 1) := by decide +kernel
theorem dX4_firstToTake_35 : decode cX4_firstToTake 35 = .ok (.aload_n 2, 1) := by decide +kernel
theorem dX4_firstToTake_36 : decode cX4_firstToTake 36 = .ok (.getfield 146, 3) := by decide +kernel
theorem dX4_firstToTake_39 : decode cX4_firstToTake 39 = .ok (.irem, 1) := by decide +kernel
theorem dX4_firstToTake_40 : decode cX4_firstToTake 40 = .ok (.istore 5, 2) := by decide +kernel
theorem dX4_firstToTake_42 : decode cX4_firstToTake 42 = .ok (.aload_n 0, 1) := by decide +kernel
theorem dX4_firstToTake_43 : decode cX4_firstToTake 43 = .ok (.aload_n 1, 1) := by decide +kernel
theorem dX4_firstToTake_44 : decode cX4_firstToTake 44 = .ok (.aload_n 0, 1) := by decide +kernel
theorem dX4_firstToTake_45 : decode cX4_firstToTake 45 = .ok (.getfield 11, 3) := by decide +kernel
theorem dX4_firstToTake_48 : decode cX4_firstToTake 48 = .ok (.aload_n 2, 1) := by decide +kernel
theorem dX4_firstToTake_49 : decode cX4_firstToTake 49 = .ok (.getfield 250, 3) := by decide +kernel
theorem dX4_firstToTake_52 : decode cX4_firstToTake 52 = .ok (.iload 5, 2) := by decide +kernel
theorem dX4_firstToTake_54 : decode cX4_firstToTake 54 = .ok (.iaload, 1) := by decide +kernel
theorem dX4_firstToTake_55 : decode cX4_firstToTake 55 = .ok (.aaload, 1) := by decide +kernel
theorem dX4_firstToTake_56 : decode cX4_firstToTake 56 = .ok (.invokevirtual 266, 3) := by decide +kernel
theorem dX4_firstToTake_59 : decode cX4_firstToTake 59 = .ok (.ifCond .eq 6, 3) := by decide +kernel
theorem dX4_firstToTake_62 : decode cX4_firstToTake 62 = .ok (.iload 5, 2) := by decide +kernel
theorem dX4_firstToTake_64 : decode cX4_firstToTake 64 = .ok (.ireturn, 1) := by decide +kernel
theorem dX4_firstToTake_65 : decode cX4_firstToTake 65 = .ok (.iinc 4 1, 3) := by decide +kernel
theorem dX4_firstToTake_68 : decode cX4_firstToTake 68 = .ok (.goto (-46), 3) := by decide +kernel
theorem dX4_firstToTake_71 : decode cX4_firstToTake 71 = .ok (.iconst (-1), 1) := by decide +kernel
theorem dX4_firstToTake_72 : decode cX4_firstToTake 72 = .ok (.ireturn, 1) := by decide +kernel
set_option maxRecDepth 20000 in
theorem ggX4_longestIdle_X4_canTake : GoodIn wsX4_longestIdle wsX4_canTake := goodIn_r _ [10, 11, 12, 13, 9, 14, 15, 16, 17, 18, 19, 20, 21, 22, 23, 28, 29, 30, 31, 32, 33, 34, 35, 36, 37, 38, 39, 40, 41, 42, 43, 44, 45, 46] (by decide +kernel) (by decide +kernel)
set_option maxRecDepth 20000 in
theorem gX4_longestIdle_X4_canTake : GoodIn wsX4_longestIdle (wsV RX4 266 RX4 yX4_canTake wsX4_canTake) := goodIn_app (goodIn_of _ (by decide +kernel)) ggX4_longestIdle_X4_canTake
theorem dX4_longestIdle_0 : decode cX4_longestIdle 0 = .ok (.iconst (-1), 1) := by decide +kernel
theorem dX4_longestIdle_1 : decode cX4_longestIdle 1 = .ok (.istore_n 3, 1) := by decide +kernel
theorem dX4_longestIdle_2 : decode cX4_longestIdle 2 = .ok (.ldc_w 269, 3) := by decide +kernel
theorem dX4_longestIdle_5 : decode cX4_longestIdle 5 = .ok (.istore 4, 2) := by decide +kernel
theorem dX4_longestIdle_7 : decode cX4_longestIdle 7 = .ok (.iconst 0, 1) := by decide +kernel
theorem dX4_longestIdle_8 : decode cX4_longestIdle 8 = .ok (.istore 5, 2) := by decide +kernel
theorem dX4_longestIdle_10 : decode cX4_longestIdle 10 = .ok (.iload 5, 2) := by decide +kernel
theorem dX4_longestIdle_12 : decode cX4_longestIdle 12 = .ok (.aload_n 2, 1) := by decide +kernel
theorem dX4_longestIdle_13 : decode cX4_longestIdle 13 = .ok (.getfield 146, 3) := by decide +kernel
theorem dX4_longestIdle_16 : decode cX4_longestIdle 16 = .ok (.if_icmp .ge 53, 3) := by decide +kernel
theorem dX4_longestIdle_19 : decode cX4_longestIdle 19 = .ok (.aload_n 0, 1) := by decide +kernel
theorem dX4_longestIdle_20 : decode cX4_longestIdle 20 = .ok (.getfield 11, 3) := by decide +kernel
theorem dX4_longestIdle_23 : decode cX4_longestIdle 23 = .ok (.aload_n 2, 1) := by decide +kernel
theorem dX4_longestIdle_24 : decode cX4_longestIdle 24 = .ok (.getfield 250, 3) := by decide +kernel
theorem dX4_longestIdle_27 : decode cX4_longestIdle 27 = .ok (.iload 5, 2) := by decide +kernel
theorem dX4_longestIdle_29 : decode cX4_longestIdle 29 = .ok (.iaload, 1) := by decide +kernel
theorem dX4_longestIdle_30 : decode cX4_longestIdle 30 = .ok (.aaload, 1) := by decide +kernel
theorem dX4_longestIdle_31 : decode cX4_longestIdle 31 = .ok (.astore 6, 2) := by decide +kernel
theorem dX4_longestIdle_33 : decode cX4_longestIdle 33 = .ok (.aload 6, 2) := by decide +kernel
theorem dX4_longestIdle_35 : decode cX4_longestIdle 35 = .ok (.getfield 270, 3) := by decide +kernel
theorem dX4_longestIdle_38 : decode cX4_longestIdle 38 = .ok (.iload 4, 2) := by decide +kernel
theorem dX4_longestIdle_40 : decode cX4_longestIdle 40 = .ok (.if_icmp .ge 23, 3) := by decide +kernel
theorem dX4_longestIdle_43 : decode cX4_longestIdle 43 = .ok (.aload_n 0, 1) := by decide +kernel
theorem dX4_longestIdle_44 : decode cX4_longestIdle 44 = .ok (.aload_n 1, 1) := by decide +kernel
theorem dX4_longestIdle_45 : decode cX4_longestIdle 45 = .ok (.aload 6, 2) := by decide +kernel
theorem dX4_longestIdle_47 : decode cX4_longestIdle 47 = .ok (.invokevirtual 266, 3) := by decide +kernel
theorem dX4_longestIdle_50 : decode cX4_longestIdle 50 = .ok (.ifCond .eq 13, 3) := by decide +kernel
theorem dX4_longestIdle_53 : decode cX4_longestIdle 53 = .ok (.iload 5, 2) := by decide +kernel
theorem dX4_longestIdle_55 : decode cX4_longestIdle 55 = .ok (.istore_n 3, 1) := by decide +kernel
theorem dX4_longestIdle_56 : decode cX4_longestIdle 56 = .ok (.aload 6, 2) := by decide +kernel
theorem dX4_longestIdle_58 : decode cX4_longestIdle 58 = .ok (.getfield 270, 3) := by decide +kernel
theorem dX4_longestIdle_61 : decode cX4_longestIdle 61 = .ok (.istore 4, 2) := by decide +kernel
theorem dX4_longestIdle_63 : decode cX4_longestIdle 63 = .ok (.iinc 5 1, 3) := by decide +kernel
theorem dX4_longestIdle_66 : decode cX4_longestIdle 66 = .ok (.goto (-56), 3) := by decide +kernel
theorem dX4_longestIdle_69 : decode cX4_longestIdle 69 = .ok (.iload_n 3, 1) := by decide +kernel
theorem dX4_longestIdle_70 : decode cX4_longestIdle 70 = .ok (.ireturn, 1) := by decide +kernel
set_option maxRecDepth 20000 in
theorem ggX4_hasWilling_X4_isWilling : GoodIn wsX4_hasWilling wsX4_isWilling := goodIn_r _ [7, 8, 9, 21, 22, 23, 24, 25, 26, 27, 28, 29, 30, 31] (by decide +kernel) (by decide +kernel)
set_option maxRecDepth 20000 in
theorem gX4_hasWilling_X4_isWilling : GoodIn wsX4_hasWilling (va_wsS RX4 253 yX4_isWilling wsX4_isWilling) := goodIn_app (goodIn_of _ (by decide +kernel)) ggX4_hasWilling_X4_isWilling
theorem dX4_hasWilling_0 : decode cX4_hasWilling 0 = .ok (.iconst 0, 1) := by decide +kernel
theorem dX4_hasWilling_1 : decode cX4_hasWilling 1 = .ok (.istore_n 3, 1) := by decide +kernel
theorem dX4_hasWilling_2 : decode cX4_hasWilling 2 = .ok (.iload_n 3, 1) := by decide +kernel
theorem dX4_hasWilling_3 : decode cX4_hasWilling 3 = .ok (.aload_n 2, 1) := by decide +kernel
theorem dX4_hasWilling_4 : decode cX4_hasWilling 4 = .ok (.getfield 146, 3) := by decide +kernel
theorem dX4_hasWilling_7 : decode cX4_hasWilling 7 = .ok (.if_icmp .ge 29, 3) := by decide +kernel
theorem dX4_hasWilling_10 : decode cX4_hasWilling 10 = .ok (.aload_n 1, 1) := by decide +kernel
theorem dX4_hasWilling_11 : decode cX4_hasWilling 11 = .ok (.aload_n 0, 1) := by decide +kernel
theorem dX4_hasWilling_12 : decode cX4_hasWilling 12 = .ok (.getfield 11, 3) := by decide +kernel
theorem dX4_hasWilling_15 : decode cX4_hasWilling 15 = .ok (.aload_n 2, 1) := by decide +kernel
theorem dX4_hasWilling_16 : decode cX4_hasWilling 16 = .ok (.getfield 250, 3) := by decide +kernel
theorem dX4_hasWilling_19 : decode cX4_hasWilling 19 = .ok (.iload_n 3, 1) := by decide +kernel
theorem dX4_hasWilling_20 : decode cX4_hasWilling 20 = .ok (.iaload, 1) := by decide +kernel
theorem dX4_hasWilling_21 : decode cX4_hasWilling 21 = .ok (.aaload, 1) := by decide +kernel
theorem dX4_hasWilling_22 : decode cX4_hasWilling 22 = .ok (.invokestatic 253, 3) := by decide +kernel
theorem dX4_hasWilling_25 : decode cX4_hasWilling 25 = .ok (.ifCond .eq 5, 3) := by decide +kernel
theorem dX4_hasWilling_28 : decode cX4_hasWilling 28 = .ok (.iconst 1, 1) := by decide +kernel
theorem dX4_hasWilling_29 : decode cX4_hasWilling 29 = .ok (.ireturn, 1) := by decide +kernel
theorem dX4_hasWilling_30 : decode cX4_hasWilling 30 = .ok (.iinc 3 1, 3) := by decide +kernel
theorem dX4_hasWilling_33 : decode cX4_hasWilling 33 = .ok (.goto (-31), 3) := by decide +kernel
theorem dX4_hasWilling_36 : decode cX4_hasWilling 36 = .ok (.iconst 0, 1) := by decide +kernel
theorem dX4_hasWilling_37 : decode cX4_hasWilling 37 = .ok (.ireturn, 1) := by decide +kernel
theorem dX4_isWilling_0 : decode cX4_isWilling 0 = .ok (.aload_n 1, 1) := by decide +kernel
theorem dX4_isWilling_1 : decode cX4_isWilling 1 = .ok (.aload_n 0, 1) := by decide +kernel
theorem dX4_isWilling_2 : decode cX4_isWilling 2 = .ok (.if_acmp .eq 21, 3) := by decide +kernel
theorem dX4_isWilling_5 : decode cX4_isWilling 5 = .ok (.aload_n 1, 1) := by decide +kernel
theorem dX4_isWilling_6 : decode cX4_isWilling 6 = .ok (.getfield 64, 3) := by decide +kernel
theorem dX4_isWilling_9 : decode cX4_isWilling 9 = .ok (.ifCond .ne 14, 3) := by decide +kernel
theorem dX4_isWilling_12 : decode cX4_isWilling 12 = .ok (.aload_n 1, 1) := by decide +kernel
theorem dX4_isWilling_13 : decode cX4_isWilling 13 = .ok (.getfield 182, 3) := by decide +kernel
theorem dX4_isWilling_16 : decode cX4_isWilling 16 = .ok (.ifCond .ne 7, 3) := by decide +kernel
theorem dX4_isWilling_19 : decode cX4_isWilling 19 = .ok (.iconst 1, 1) := by decide +kernel
theorem dX4_isWilling_20 : decode cX4_isWilling 20 = .ok (.goto 4, 3) := by decide +kernel
theorem dX4_isWilling_23 : decode cX4_isWilling 23 = .ok (.iconst 0, 1) := by decide +kernel
theorem dX4_isWilling_24 : decode cX4_isWilling 24 = .ok (.ireturn, 1) := by decide +kernel
set_option maxRecDepth 20000 in
theorem ggX4_canTake_X4_isWilling : GoodIn wsX4_canTake wsX4_isWilling := goodIn_r _ [5, 6, 7, 22, 23, 24, 25, 26, 27, 28, 29, 30, 31, 32] (by decide +kernel) (by decide +kernel)
set_option maxRecDepth 20000 in
theorem gX4_canTake_X4_isWilling : GoodIn wsX4_canTake (va_wsS RX4 253 yX4_isWilling wsX4_isWilling) := goodIn_app (goodIn_of _ (by decide +kernel)) ggX4_canTake_X4_isWilling
set_option maxRecDepth 20000 in
theorem ggX4_canTake_X3_lowestFree : GoodIn wsX4_canTake wsX3_lowestFree := goodIn_r _ [12, 13, 14, 33, 22, 23, 24, 25, 26, 27, 28, 29, 30, 31, 32] (by decide +kernel) (by decide +kernel)
set_option maxRecDepth 20000 in
theorem gX4_canTake_X3_lowestFree : GoodIn wsX4_canTake (wsV RX4 273 RX3 yX3_lowestFree wsX3_lowestFree) := goodIn_app (goodIn_of _ (by decide +kernel)) ggX4_canTake_X3_lowestFree
theorem dX4_canTake_0 : decode cX4_canTake 0 = .ok (.aload_n 1, 1) := by decide +kernel
theorem dX4_canTake_1 : decode cX4_canTake 1 = .ok (.aload_n 2, 1) := by decide +kernel
theorem dX4_canTake_2 : decode cX4_canTake 2 = .ok (.invokestatic 253, 3) := by decide +kernel
theorem dX4_canTake_5 : decode cX4_canTake 5 = .ok (.ifCond .eq 20, 3) := by decide +kernel
theorem dX4_canTake_8 : decode cX4_canTake 8 = .ok (.aload_n 0, 1) := by decide +kernel
theorem dX4_canTake_9 : decode cX4_canTake 9 = .ok (.getfield 21, 3) := by decide +kernel
theorem dX4_canTake_12 : decode cX4_canTake 12 = .ok (.aload_n 1, 1) := by decide +kernel
theorem dX4_canTake_13 : decode cX4_canTake 13 = .ok (.aload_n 2, 1) := by decide +kernel
theorem dX4_canTake_14 : decode cX4_canTake 14 = .ok (.invokevirtual 273, 3) := by decide +kernel
theorem dX4_canTake_17 : decode cX4_canTake 17 = .ok (.iconst (-1), 1) := by decide +kernel
theorem dX4_canTake_18 : decode cX4_canTake 18 = .ok (.if_icmp .eq 7, 3) := by decide +kernel
theorem dX4_canTake_21 : decode cX4_canTake 21 = .ok (.iconst 1, 1) := by decide +kernel
theorem dX4_canTake_22 : decode cX4_canTake 22 = .ok (.goto 4, 3) := by decide +kernel
theorem dX4_canTake_25 : decode cX4_canTake 25 = .ok (.iconst 0, 1) := by decide +kernel
theorem dX4_canTake_26 : decode cX4_canTake 26 = .ok (.ireturn, 1) := by decide +kernel
set_option maxRecDepth 20000 in
theorem ggX4_ring_X3_take : GoodIn wsX4_ring wsX3_take := goodIn_r _ [10, 11, 12, 13, 14, 15, 16, 17, 18, 9, 19, 20, 21, 22, 23, 24, 43, 44, 45, 46, 47, 48, 49, 50, 51, 52, 53, 54] (by decide +kernel) (by decide +kernel)
set_option maxRecDepth 20000 in
theorem gX4_ring_X3_take : GoodIn wsX4_ring (wsV RX4 277 RX3 yX3_take wsX3_take) := goodIn_app (goodIn_of _ (by decide +kernel)) ggX4_ring_X3_take
set_option maxRecDepth 20000 in
theorem ggX4_ring_X2_enter : GoodIn wsX4_ring wsX2_enter := goodIn_r _ [29, 30, 31, 32, 33, 34, 35, 43, 44, 45, 46, 47, 48, 49, 50, 51, 52, 53] (by decide +kernel) (by decide +kernel)
set_option maxRecDepth 20000 in
theorem gX4_ring_X2_enter : GoodIn wsX4_ring (wsV RX4 78 RX2 yX2_enter wsX2_enter) := goodIn_app (goodIn_of _ (by decide +kernel)) ggX4_ring_X2_enter
theorem dX4_ring_0 : decode cX4_ring 0 = .ok (.aload_n 0, 1) := by decide +kernel
theorem dX4_ring_1 : decode cX4_ring 1 = .ok (.getfield 21, 3) := by decide +kernel
theorem dX4_ring_4 : decode cX4_ring 4 = .ok (.aload_n 1, 1) := by decide +kernel
theorem dX4_ring_5 : decode cX4_ring 5 = .ok (.aload_n 2, 1) := by decide +kernel
theorem dX4_ring_6 : decode cX4_ring 6 = .ok (.invokevirtual 277, 3) := by decide +kernel
theorem dX4_ring_9 : decode cX4_ring 9 = .ok (.istore_n 3, 1) := by decide +kernel
theorem dX4_ring_10 : decode cX4_ring 10 = .ok (.iload_n 3, 1) := by decide +kernel
theorem dX4_ring_11 : decode cX4_ring 11 = .ok (.iconst (-1), 1) := by decide +kernel
theorem dX4_ring_12 : decode cX4_ring 12 = .ok (.if_icmp .ne 5, 3) := by decide +kernel
theorem dX4_ring_15 : decode cX4_ring 15 = .ok (.iconst 0, 1) := by decide +kernel
theorem dX4_ring_16 : decode cX4_ring 16 = .ok (.ireturn, 1) := by decide +kernel
theorem dX4_ring_17 : decode cX4_ring 17 = .ok (.aload_n 2, 1) := by decide +kernel
theorem dX4_ring_18 : decode cX4_ring 18 = .ok (.iconst 4, 1) := by decide +kernel
theorem dX4_ring_19 : decode cX4_ring 19 = .ok (.aload_n 0, 1) := by decide +kernel
theorem dX4_ring_20 : decode cX4_ring 20 = .ok (.getfield 75, 3) := by decide +kernel
theorem dX4_ring_23 : decode cX4_ring 23 = .ok (.invokevirtual 78, 3) := by decide +kernel
theorem dX4_ring_26 : decode cX4_ring 26 = .ok (.aload_n 2, 1) := by decide +kernel
theorem dX4_ring_27 : decode cX4_ring 27 = .ok (.aload_n 1, 1) := by decide +kernel
theorem dX4_ring_28 : decode cX4_ring 28 = .ok (.getfield 115, 3) := by decide +kernel
theorem dX4_ring_31 : decode cX4_ring 31 = .ok (.putfield 106, 3) := by decide +kernel
theorem dX4_ring_34 : decode cX4_ring 34 = .ok (.aload_n 2, 1) := by decide +kernel
theorem dX4_ring_35 : decode cX4_ring 35 = .ok (.iload_n 3, 1) := by decide +kernel
theorem dX4_ring_36 : decode cX4_ring 36 = .ok (.putfield 210, 3) := by decide +kernel
theorem dX4_ring_39 : decode cX4_ring 39 = .ok (.iconst 1, 1) := by decide +kernel
theorem dX4_ring_40 : decode cX4_ring 40 = .ok (.ireturn, 1) := by decide +kernel
set_option maxRecDepth 20000 in
theorem ggX4_block_X2_enter : GoodIn wsX4_block wsX2_enter := goodIn_r _ [7, 8, 9, 10, 11, 12, 13, 21, 22, 23, 24, 25, 26, 27, 28, 29, 30, 31] (by decide +kernel) (by decide +kernel)
set_option maxRecDepth 20000 in
theorem gX4_block_X2_enter : GoodIn wsX4_block (wsV RX4 78 RX2 yX2_enter wsX2_enter) := goodIn_app (goodIn_of _ (by decide +kernel)) ggX4_block_X2_enter
theorem dX4_block_0 : decode cX4_block 0 = .ok (.aload_n 1, 1) := by decide +kernel
theorem dX4_block_1 : decode cX4_block 1 = .ok (.iconst 5, 1) := by decide +kernel
theorem dX4_block_2 : decode cX4_block 2 = .ok (.aload_n 0, 1) := by decide +kernel
theorem dX4_block_3 : decode cX4_block 3 = .ok (.getfield 75, 3) := by decide +kernel
theorem dX4_block_6 : decode cX4_block 6 = .ok (.invokevirtual 78, 3) := by decide +kernel
theorem dX4_block_9 : decode cX4_block 9 = .ok (.aload_n 0, 1) := by decide +kernel
theorem dX4_block_10 : decode cX4_block 10 = .ok (.dup, 1) := by decide +kernel
theorem dX4_block_11 : decode cX4_block 11 = .ok (.getfield 185, 3) := by decide +kernel
theorem dX4_block_14 : decode cX4_block 14 = .ok (.iconst 1, 1) := by decide +kernel
theorem dX4_block_15 : decode cX4_block 15 = .ok (.iadd, 1) := by decide +kernel
theorem dX4_block_16 : decode cX4_block 16 = .ok (.putfield 185, 3) := by decide +kernel
theorem dX4_block_19 : decode cX4_block 19 = .ok (.return_, 1) := by decide +kernel
set_option maxRecDepth 20000 in
theorem ggX4_answer_X4_beginTalk : GoodIn wsX4_answer wsX4_beginTalk := goodIn_r _ [8, 9, 10, 11, 12, 13, 14, 15, 16, 17, 18, 19, 20, 21, 22, 23, 24, 25, 26, 55, 56, 57, 58, 59, 60, 61, 62, 63, 64, 65, 48, 49, 50, 51, 52, 53, 54] (by decide +kernel) (by decide +kernel)
set_option maxRecDepth 20000 in
theorem gX4_answer_X4_beginTalk : GoodIn wsX4_answer (wsV RX4 280 RX4 yX4_beginTalk wsX4_beginTalk) := goodIn_app (goodIn_of _ (by decide +kernel)) ggX4_answer_X4_beginTalk
set_option maxRecDepth 20000 in
theorem ggX4_answer_X4_stopRinging : GoodIn wsX4_answer wsX4_stopRinging := goodIn_r _ [30, 1, 9, 31, 3, 10, 32, 33, 34, 15, 35, 23, 17, 36, 37, 38, 39, 40, 41, 42, 43, 44, 45, 46, 47, 20, 21, 22, 24, 18, 25, 26, 48, 49, 50, 51, 52, 53, 54, 55, 56, 57, 58, 59, 60, 61, 62, 63, 64, 65, 66] (by decide +kernel) (by decide +kernel)
set_option maxRecDepth 20000 in
theorem gX4_answer_X4_stopRinging : GoodIn wsX4_answer (wsV RX4 284 RX4 yX4_stopRinging wsX4_stopRinging) := goodIn_app (goodIn_of _ (by decide +kernel)) ggX4_answer_X4_stopRinging
theorem dX4_answer_0 : decode cX4_answer 0 = .ok (.aload_n 0, 1) := by decide +kernel
theorem dX4_answer_1 : decode cX4_answer 1 = .ok (.getfield 11, 3) := by decide +kernel
theorem dX4_answer_4 : decode cX4_answer 4 = .ok (.aload_n 1, 1) := by decide +kernel
theorem dX4_answer_5 : decode cX4_answer 5 = .ok (.getfield 106, 3) := by decide +kernel
theorem dX4_answer_8 : decode cX4_answer 8 = .ok (.aaload, 1) := by decide +kernel
theorem dX4_answer_9 : decode cX4_answer 9 = .ok (.astore_n 2, 1) := by decide +kernel
theorem dX4_answer_10 : decode cX4_answer 10 = .ok (.aload_n 0, 1) := by decide +kernel
theorem dX4_answer_11 : decode cX4_answer 11 = .ok (.aload_n 2, 1) := by decide +kernel
theorem dX4_answer_12 : decode cX4_answer 12 = .ok (.aload_n 1, 1) := by decide +kernel
theorem dX4_answer_13 : decode cX4_answer 13 = .ok (.aload_n 1, 1) := by decide +kernel
theorem dX4_answer_14 : decode cX4_answer 14 = .ok (.getfield 210, 3) := by decide +kernel
theorem dX4_answer_17 : decode cX4_answer 17 = .ok (.invokevirtual 280, 3) := by decide +kernel
theorem dX4_answer_20 : decode cX4_answer 20 = .ok (.aload_n 0, 1) := by decide +kernel
theorem dX4_answer_21 : decode cX4_answer 21 = .ok (.aload_n 2, 1) := by decide +kernel
theorem dX4_answer_22 : decode cX4_answer 22 = .ok (.invokevirtual 284, 3) := by decide +kernel
theorem dX4_answer_25 : decode cX4_answer 25 = .ok (.return_, 1) := by decide +kernel
set_option maxRecDepth 20000 in
theorem ggX4_pickUp_X4_firstRinging : GoodIn wsX4_pickUp wsX4_firstRinging := goodIn_r _ [9, 10, 3, 11, 12, 87, 88, 89, 90, 91, 92, 93, 76, 77, 78, 79, 80, 81, 82, 83, 84, 85, 86] (by decide +kernel) (by decide +kernel)
set_option maxRecDepth 20000 in
theorem gX4_pickUp_X4_firstRinging : GoodIn wsX4_pickUp (wsV RX4 287 RX4 yX4_firstRinging wsX4_firstRinging) := goodIn_app (goodIn_of _ (by decide +kernel)) ggX4_pickUp_X4_firstRinging
set_option maxRecDepth 20000 in
theorem ggX4_pickUp_X2_enter : GoodIn wsX4_pickUp wsX2_enter := goodIn_r _ [17, 18, 19, 20, 21, 22, 23, 76, 77, 78, 79, 80, 81, 82, 83, 84, 85, 86] (by decide +kernel) (by decide +kernel)
set_option maxRecDepth 20000 in
theorem gX4_pickUp_X2_enter : GoodIn wsX4_pickUp (wsV RX4 78 RX2 yX2_enter wsX2_enter) := goodIn_app (goodIn_of _ (by decide +kernel)) ggX4_pickUp_X2_enter
set_option maxRecDepth 20000 in
theorem ggX4_pickUp_X4_stopRinging : GoodIn wsX4_pickUp wsX4_stopRinging := goodIn_r _ [27, 3, 1, 28, 29, 2, 30, 31, 32, 16, 33, 18, 20, 34, 35, 36, 37, 38, 39, 40, 41, 42, 43, 44, 13, 14, 15, 17, 19, 21, 22, 23, 87, 88, 89, 90, 91, 92, 93, 76, 77, 78, 79, 80, 81, 82, 83, 84, 85, 86, 94] (by decide +kernel) (by decide +kernel)
set_option maxRecDepth 20000 in
theorem gX4_pickUp_X4_stopRinging : GoodIn wsX4_pickUp (wsV RX4 284 RX4 yX4_stopRinging wsX4_stopRinging) := goodIn_app (goodIn_of _ (by decide +kernel)) ggX4_pickUp_X4_stopRinging
set_option maxRecDepth 20000 in
theorem ggX4_pickUp_X4_talkByNewPath : GoodIn wsX4_pickUp wsX4_talkByNewPath := goodIn_r _ [48, 28, 49, 50, 51, 37, 52, 44, 53, 54, 55, 56, 57, 58, 59, 60, 43, 39, 40, 41, 42, 61, 62, 63, 8, 64, 1, 2, 65, 66, 67, 68, 16, 69, 20, 21, 70, 14, 15, 17, 18, 19, 22, 23, 87, 88, 89, 90, 91, 92, 93, 76, 77, 78, 79, 80, 81, 82, 83, 84, 85, 86, 94] (by decide +kernel) (by decide +kernel)
set_option maxRecDepth 20000 in
theorem gX4_pickUp_X4_talkByNewPath : GoodIn wsX4_pickUp (wsV RX4 290 RX4 yX4_talkByNewPath wsX4_talkByNewPath) := goodIn_app (goodIn_of _ (by decide +kernel)) ggX4_pickUp_X4_talkByNewPath
set_option maxRecDepth 20000 in
theorem ggX4_pickUp_X4_block : GoodIn wsX4_pickUp wsX4_block := goodIn_r _ [74, 2, 75, 13, 14, 15, 16, 17, 18, 19, 20, 21, 22, 23, 87, 88, 89, 90, 91, 92, 93, 76, 77, 78, 79, 80, 81, 82, 83, 84, 85, 86] (by decide +kernel) (by decide +kernel)
set_option maxRecDepth 20000 in
theorem gX4_pickUp_X4_block : GoodIn wsX4_pickUp (wsV RX4 234 RX4 yX4_block wsX4_block) := goodIn_app (goodIn_of _ (by decide +kernel)) ggX4_pickUp_X4_block
theorem dX4_pickUp_0 : decode cX4_pickUp 0 = .ok (.aload_n 0, 1) := by decide +kernel
theorem dX4_pickUp_1 : decode cX4_pickUp 1 = .ok (.aload_n 1, 1) := by decide +kernel
theorem dX4_pickUp_2 : decode cX4_pickUp 2 = .ok (.getfield 115, 3) := by decide +kernel
theorem dX4_pickUp_5 : decode cX4_pickUp 5 = .ok (.bipush 6, 2) := by decide +kernel
theorem dX4_pickUp_7 : decode cX4_pickUp 7 = .ok (.idiv, 1) := by decide +kernel
theorem dX4_pickUp_8 : decode cX4_pickUp 8 = .ok (.invokevirtual 287, 3) := by decide +kernel
theorem dX4_pickUp_11 : decode cX4_pickUp 11 = .ok (.astore_n 2, 1) := by decide +kernel
theorem dX4_pickUp_12 : decode cX4_pickUp 12 = .ok (.aload_n 2, 1) := by decide +kernel
theorem dX4_pickUp_13 : decode cX4_pickUp 13 = .ok (.ifnonnull 13, 3) := by decide +kernel
theorem dX4_pickUp_16 : decode cX4_pickUp 16 = .ok (.aload_n 1, 1) := by decide +kernel
theorem dX4_pickUp_17 : decode cX4_pickUp 17 = .ok (.iconst 5, 1) := by decide +kernel
theorem dX4_pickUp_18 : decode cX4_pickUp 18 = .ok (.aload_n 0, 1) := by decide +kernel
theorem dX4_pickUp_19 : decode cX4_pickUp 19 = .ok (.getfield 75, 3) := by decide +kernel
theorem dX4_pickUp_22 : decode cX4_pickUp 22 = .ok (.invokevirtual 78, 3) := by decide +kernel
theorem dX4_pickUp_25 : decode cX4_pickUp 25 = .ok (.return_, 1) := by decide +kernel
theorem dX4_pickUp_26 : decode cX4_pickUp 26 = .ok (.aload_n 0, 1) := by decide +kernel
theorem dX4_pickUp_27 : decode cX4_pickUp 27 = .ok (.getfield 11, 3) := by decide +kernel
theorem dX4_pickUp_30 : decode cX4_pickUp 30 = .ok (.aload_n 2, 1) := by decide +kernel
theorem dX4_pickUp_31 : decode cX4_pickUp 31 = .ok (.getfield 106, 3) := by decide +kernel
theorem dX4_pickUp_34 : decode cX4_pickUp 34 = .ok (.aaload, 1) := by decide +kernel
theorem dX4_pickUp_35 : decode cX4_pickUp 35 = .ok (.astore_n 3, 1) := by decide +kernel
theorem dX4_pickUp_36 : decode cX4_pickUp 36 = .ok (.aload_n 0, 1) := by decide +kernel
theorem dX4_pickUp_37 : decode cX4_pickUp 37 = .ok (.aload_n 3, 1) := by decide +kernel
theorem dX4_pickUp_38 : decode cX4_pickUp 38 = .ok (.invokevirtual 284, 3) := by decide +kernel
theorem dX4_pickUp_41 : decode cX4_pickUp 41 = .ok (.aload_n 0, 1) := by decide +kernel
theorem dX4_pickUp_42 : decode cX4_pickUp 42 = .ok (.aload_n 3, 1) := by decide +kernel
theorem dX4_pickUp_43 : decode cX4_pickUp 43 = .ok (.aload_n 1, 1) := by decide +kernel
theorem dX4_pickUp_44 : decode cX4_pickUp 44 = .ok (.invokevirtual 290, 3) := by decide +kernel
theorem dX4_pickUp_47 : decode cX4_pickUp 47 = .ok (.ifCond .ne 17, 3) := by decide +kernel
theorem dX4_pickUp_50 : decode cX4_pickUp 50 = .ok (.aload_n 3, 1) := by decide +kernel
theorem dX4_pickUp_51 : decode cX4_pickUp 51 = .ok (.iconst 5, 1) := by decide +kernel
theorem dX4_pickUp_52 : decode cX4_pickUp 52 = .ok (.aload_n 0, 1) := by decide +kernel
theorem dX4_pickUp_53 : decode cX4_pickUp 53 = .ok (.getfield 75, 3) := by decide +kernel
theorem dX4_pickUp_56 : decode cX4_pickUp 56 = .ok (.invokevirtual 78, 3) := by decide +kernel
theorem dX4_pickUp_59 : decode cX4_pickUp 59 = .ok (.aload_n 0, 1) := by decide +kernel
theorem dX4_pickUp_60 : decode cX4_pickUp 60 = .ok (.aload_n 1, 1) := by decide +kernel
theorem dX4_pickUp_61 : decode cX4_pickUp 61 = .ok (.invokevirtual 234, 3) := by decide +kernel
theorem dX4_pickUp_64 : decode cX4_pickUp 64 = .ok (.return_, 1) := by decide +kernel
theorem dX4_firstRinging_0 : decode cX4_firstRinging 0 = .ok (.aconst_null, 1) := by decide +kernel
theorem dX4_firstRinging_1 : decode cX4_firstRinging 1 = .ok (.astore_n 2, 1) := by decide +kernel
theorem dX4_firstRinging_2 : decode cX4_firstRinging 2 = .ok (.ldc_w 269, 3) := by decide +kernel
theorem dX4_firstRinging_5 : decode cX4_firstRinging 5 = .ok (.istore_n 3, 1) := by decide +kernel
theorem dX4_firstRinging_6 : decode cX4_firstRinging 6 = .ok (.iload_n 1, 1) := by decide +kernel
theorem dX4_firstRinging_7 : decode cX4_firstRinging 7 = .ok (.bipush 6, 2) := by decide +kernel
theorem dX4_firstRinging_9 : decode cX4_firstRinging 9 = .ok (.imul, 1) := by decide +kernel
theorem dX4_firstRinging_10 : decode cX4_firstRinging 10 = .ok (.istore 4, 2) := by decide +kernel
theorem dX4_firstRinging_12 : decode cX4_firstRinging 12 = .ok (.iload 4, 2) := by decide +kernel
theorem dX4_firstRinging_14 : decode cX4_firstRinging 14 = .ok (.iload_n 1, 1) := by decide +kernel
theorem dX4_firstRinging_15 : decode cX4_firstRinging 15 = .ok (.iconst 1, 1) := by decide +kernel
theorem dX4_firstRinging_16 : decode cX4_firstRinging 16 = .ok (.iadd, 1) := by decide +kernel
theorem dX4_firstRinging_17 : decode cX4_firstRinging 17 = .ok (.bipush 6, 2) := by decide +kernel
theorem dX4_firstRinging_19 : decode cX4_firstRinging 19 = .ok (.imul, 1) := by decide +kernel
theorem dX4_firstRinging_20 : decode cX4_firstRinging 20 = .ok (.if_icmp .ge 45, 3) := by decide +kernel
theorem dX4_firstRinging_23 : decode cX4_firstRinging 23 = .ok (.aload_n 0, 1) := by decide +kernel
theorem dX4_firstRinging_24 : decode cX4_firstRinging 24 = .ok (.getfield 11, 3) := by decide +kernel
theorem dX4_firstRinging_27 : decode cX4_firstRinging 27 = .ok (.iload 4, 2) := by decide +kernel
theorem dX4_firstRinging_29 : decode cX4_firstRinging 29 = .ok (.aaload, 1) := by decide +kernel
theorem dX4_firstRinging_30 : decode cX4_firstRinging 30 = .ok (.astore 5, 2) := by decide +kernel
theorem dX4_firstRinging_32 : decode cX4_firstRinging 32 = .ok (.aload 5, 2) := by decide +kernel
theorem dX4_firstRinging_34 : decode cX4_firstRinging 34 = .ok (.getfield 64, 3) := by decide +kernel
theorem dX4_firstRinging_37 : decode cX4_firstRinging 37 = .ok (.iconst 4, 1) := by decide +kernel
theorem dX4_firstRinging_38 : decode cX4_firstRinging 38 = .ok (.if_icmp .ne 21, 3) := by decide +kernel
theorem dX4_firstRinging_41 : decode cX4_firstRinging 41 = .ok (.aload 5, 2) := by decide +kernel
theorem dX4_firstRinging_43 : decode cX4_firstRinging 43 = .ok (.getfield 270, 3) := by decide +kernel
theorem dX4_firstRinging_46 : decode cX4_firstRinging 46 = .ok (.iload_n 3, 1) := by decide +kernel
theorem dX4_firstRinging_47 : decode cX4_firstRinging 47 = .ok (.if_icmp .ge 12, 3) := by decide +kernel
theorem dX4_firstRinging_50 : decode cX4_firstRinging 50 = .ok (.aload 5, 2) := by decide +kernel
theorem dX4_firstRinging_52 : decode cX4_firstRinging 52 = .ok (.astore_n 2, 1) := by decide +kernel
theorem dX4_firstRinging_53 : decode cX4_firstRinging 53 = .ok (.aload 5, 2) := by decide +kernel
theorem dX4_firstRinging_55 : decode cX4_firstRinging 55 = .ok (.getfield 270, 3) := by decide +kernel
theorem dX4_firstRinging_58 : decode cX4_firstRinging 58 = .ok (.istore_n 3, 1) := by decide +kernel
theorem dX4_firstRinging_59 : decode cX4_firstRinging 59 = .ok (.iinc 4 1, 3) := by decide +kernel
theorem dX4_firstRinging_62 : decode cX4_firstRinging 62 = .ok (.goto (-50), 3) := by decide +kernel
theorem dX4_firstRinging_65 : decode cX4_firstRinging 65 = .ok (.aload_n 2, 1) := by decide +kernel
theorem dX4_firstRinging_66 : decode cX4_firstRinging 66 = .ok (.areturn, 1) := by decide +kernel
set_option maxRecDepth 20000 in
theorem ggX4_takeParked_X2_enter : GoodIn wsX4_takeParked wsX2_enter := goodIn_r _ [8, 9, 10, 11, 12, 13, 14, 63, 64, 65, 66, 67, 68, 69, 70, 71, 72, 73] (by decide +kernel) (by decide +kernel)
set_option maxRecDepth 20000 in
theorem gX4_takeParked_X2_enter : GoodIn wsX4_takeParked (wsV RX4 78 RX2 yX2_enter wsX2_enter) := goodIn_app (goodIn_of _ (by decide +kernel)) ggX4_takeParked_X2_enter
set_option maxRecDepth 20000 in
theorem ggX4_takeParked_X4_talkByNewPath : GoodIn wsX4_takeParked wsX4_talkByNewPath := goodIn_r _ [19, 20, 21, 22, 23, 24, 25, 26, 27, 28, 29, 30, 31, 32, 33, 34, 35, 36, 37, 38, 39, 40, 41, 42, 18, 43, 44, 2, 45, 46, 47, 48, 7, 49, 11, 12, 50, 5, 6, 8, 9, 10, 13, 14, 56, 57, 58, 59, 60, 61, 62, 63, 64, 65, 66, 67, 68, 69, 70, 71, 72, 73, 74] (by decide +kernel) (by decide +kernel)
set_option maxRecDepth 20000 in
theorem gX4_takeParked_X4_talkByNewPath : GoodIn wsX4_takeParked (wsV RX4 290 RX4 yX4_talkByNewPath wsX4_talkByNewPath) := goodIn_app (goodIn_of _ (by decide +kernel)) ggX4_takeParked_X4_talkByNewPath
set_option maxRecDepth 20000 in
theorem ggX4_takeParked_X4_block : GoodIn wsX4_takeParked wsX4_block := goodIn_r _ [54, 2, 55, 4, 5, 6, 7, 8, 9, 10, 11, 12, 13, 14, 56, 57, 58, 59, 60, 61, 62, 63, 64, 65, 66, 67, 68, 69, 70, 71, 72, 73] (by decide +kernel) (by decide +kernel)
set_option maxRecDepth 20000 in
theorem gX4_takeParked_X4_block : GoodIn wsX4_takeParked (wsV RX4 234 RX4 yX4_block wsX4_block) := goodIn_app (goodIn_of _ (by decide +kernel)) ggX4_takeParked_X4_block
theorem dX4_takeParked_0 : decode cX4_takeParked 0 = .ok (.aload_n 0, 1) := by decide +kernel
theorem dX4_takeParked_1 : decode cX4_takeParked 1 = .ok (.getfield 32, 3) := by decide +kernel
theorem dX4_takeParked_4 : decode cX4_takeParked 4 = .ok (.iload_n 2, 1) := by decide +kernel
theorem dX4_takeParked_5 : decode cX4_takeParked 5 = .ok (.iaload, 1) := by decide +kernel
theorem dX4_takeParked_6 : decode cX4_takeParked 6 = .ok (.istore_n 3, 1) := by decide +kernel
theorem dX4_takeParked_7 : decode cX4_takeParked 7 = .ok (.iload_n 3, 1) := by decide +kernel
theorem dX4_takeParked_8 : decode cX4_takeParked 8 = .ok (.iconst (-1), 1) := by decide +kernel
theorem dX4_takeParked_9 : decode cX4_takeParked 9 = .ok (.if_icmp .ne 15, 3) := by decide +kernel
theorem dX4_takeParked_12 : decode cX4_takeParked 12 = .ok (.aload_n 1, 1) := by decide +kernel
theorem dX4_takeParked_13 : decode cX4_takeParked 13 = .ok (.iconst 5, 1) := by decide +kernel
theorem dX4_takeParked_14 : decode cX4_takeParked 14 = .ok (.aload_n 0, 1) := by decide +kernel
theorem dX4_takeParked_15 : decode cX4_takeParked 15 = .ok (.getfield 75, 3) := by decide +kernel
theorem dX4_takeParked_18 : decode cX4_takeParked 18 = .ok (.invokevirtual 78, 3) := by decide +kernel
theorem dX4_takeParked_21 : decode cX4_takeParked 21 = .ok (.goto 32, 3) := by decide +kernel
theorem dX4_takeParked_24 : decode cX4_takeParked 24 = .ok (.aload_n 0, 1) := by decide +kernel
theorem dX4_takeParked_25 : decode cX4_takeParked 25 = .ok (.aload_n 0, 1) := by decide +kernel
theorem dX4_takeParked_26 : decode cX4_takeParked 26 = .ok (.getfield 11, 3) := by decide +kernel
theorem dX4_takeParked_29 : decode cX4_takeParked 29 = .ok (.iload_n 3, 1) := by decide +kernel
theorem dX4_takeParked_30 : decode cX4_takeParked 30 = .ok (.aaload, 1) := by decide +kernel
theorem dX4_takeParked_31 : decode cX4_takeParked 31 = .ok (.aload_n 1, 1) := by decide +kernel
theorem dX4_takeParked_32 : decode cX4_takeParked 32 = .ok (.invokevirtual 290, 3) := by decide +kernel
theorem dX4_takeParked_35 : decode cX4_takeParked 35 = .ok (.ifCond .eq 13, 3) := by decide +kernel
theorem dX4_takeParked_38 : decode cX4_takeParked 38 = .ok (.aload_n 0, 1) := by decide +kernel
theorem dX4_takeParked_39 : decode cX4_takeParked 39 = .ok (.getfield 32, 3) := by decide +kernel
theorem dX4_takeParked_42 : decode cX4_takeParked 42 = .ok (.iload_n 2, 1) := by decide +kernel
theorem dX4_takeParked_43 : decode cX4_takeParked 43 = .ok (.iconst (-1), 1) := by decide +kernel
theorem dX4_takeParked_44 : decode cX4_takeParked 44 = .ok (.iastore, 1) := by decide +kernel
theorem dX4_takeParked_45 : decode cX4_takeParked 45 = .ok (.goto 8, 3) := by decide +kernel
theorem dX4_takeParked_48 : decode cX4_takeParked 48 = .ok (.aload_n 0, 1) := by decide +kernel
theorem dX4_takeParked_49 : decode cX4_takeParked 49 = .ok (.aload_n 1, 1) := by decide +kernel
theorem dX4_takeParked_50 : decode cX4_takeParked 50 = .ok (.invokevirtual 234, 3) := by decide +kernel
theorem dX4_takeParked_53 : decode cX4_takeParked 53 = .ok (.return_, 1) := by decide +kernel
set_option maxRecDepth 20000 in
theorem ggX4_talkByNewPath_X3_take : GoodIn wsX4_talkByNewPath wsX3_take := goodIn_r _ [6, 7, 8, 9, 10, 11, 12, 13, 14, 5, 15, 16, 17, 18, 19, 20, 51, 52, 53, 54, 55, 56, 57, 58, 59, 60, 61, 62] (by decide +kernel) (by decide +kernel)
set_option maxRecDepth 20000 in
theorem gX4_talkByNewPath_X3_take : GoodIn wsX4_talkByNewPath (wsV RX4 277 RX3 yX3_take wsX3_take) := goodIn_app (goodIn_of _ (by decide +kernel)) ggX4_talkByNewPath_X3_take
set_option maxRecDepth 20000 in
theorem ggX4_talkByNewPath_X4_beginTalk : GoodIn wsX4_talkByNewPath wsX4_beginTalk := goodIn_r _ [25, 26, 27, 28, 29, 30, 31, 32, 33, 34, 35, 36, 37, 38, 39, 40, 41, 42, 43, 51, 52, 53, 54, 55, 56, 57, 58, 59, 60, 61, 44, 45, 46, 47, 48, 49, 50] (by decide +kernel) (by decide +kernel)
set_option maxRecDepth 20000 in
theorem gX4_talkByNewPath_X4_beginTalk : GoodIn wsX4_talkByNewPath (wsV RX4 280 RX4 yX4_beginTalk wsX4_beginTalk) := goodIn_app (goodIn_of _ (by decide +kernel)) ggX4_talkByNewPath_X4_beginTalk
theorem dX4_talkByNewPath_0 : decode cX4_talkByNewPath 0 = .ok (.aload_n 0, 1) := by decide +kernel
theorem dX4_talkByNewPath_1 : decode cX4_talkByNewPath 1 = .ok (.getfield 21, 3) := by decide +kernel
theorem dX4_talkByNewPath_4 : decode cX4_talkByNewPath 4 = .ok (.aload_n 1, 1) := by decide +kernel
theorem dX4_talkByNewPath_5 : decode cX4_talkByNewPath 5 = .ok (.aload_n 2, 1) := by decide +kernel
theorem dX4_talkByNewPath_6 : decode cX4_talkByNewPath 6 = .ok (.invokevirtual 277, 3) := by decide +kernel
theorem dX4_talkByNewPath_9 : decode cX4_talkByNewPath 9 = .ok (.istore_n 3, 1) := by decide +kernel
theorem dX4_talkByNewPath_10 : decode cX4_talkByNewPath 10 = .ok (.iload_n 3, 1) := by decide +kernel
theorem dX4_talkByNewPath_11 : decode cX4_talkByNewPath 11 = .ok (.iconst (-1), 1) := by decide +kernel
theorem dX4_talkByNewPath_12 : decode cX4_talkByNewPath 12 = .ok (.if_icmp .ne 5, 3) := by decide +kernel
theorem dX4_talkByNewPath_15 : decode cX4_talkByNewPath 15 = .ok (.iconst 0, 1) := by decide +kernel
theorem dX4_talkByNewPath_16 : decode cX4_talkByNewPath 16 = .ok (.ireturn, 1) := by decide +kernel
theorem dX4_talkByNewPath_17 : decode cX4_talkByNewPath 17 = .ok (.aload_n 0, 1) := by decide +kernel
theorem dX4_talkByNewPath_18 : decode cX4_talkByNewPath 18 = .ok (.aload_n 1, 1) := by decide +kernel
theorem dX4_talkByNewPath_19 : decode cX4_talkByNewPath 19 = .ok (.aload_n 2, 1) := by decide +kernel
theorem dX4_talkByNewPath_20 : decode cX4_talkByNewPath 20 = .ok (.iload_n 3, 1) := by decide +kernel
theorem dX4_talkByNewPath_21 : decode cX4_talkByNewPath 21 = .ok (.invokevirtual 280, 3) := by decide +kernel
theorem dX4_talkByNewPath_24 : decode cX4_talkByNewPath 24 = .ok (.iconst 1, 1) := by decide +kernel
theorem dX4_talkByNewPath_25 : decode cX4_talkByNewPath 25 = .ok (.ireturn, 1) := by decide +kernel
set_option maxRecDepth 20000 in
theorem ggX4_beginTalk_X2_talk : GoodIn wsX4_beginTalk wsX2_talk := goodIn_r _ [8, 9, 10, 11, 12, 13, 7, 14, 15, 16, 17, 18, 19, 20, 21, 22, 23, 24, 25, 26, 27, 28, 29] (by decide +kernel) (by decide +kernel)
set_option maxRecDepth 20000 in
theorem gX4_beginTalk_X2_talk : GoodIn wsX4_beginTalk (wsV RX4 293 RX2 yX2_talk wsX2_talk) := goodIn_app (goodIn_of _ (by decide +kernel)) ggX4_beginTalk_X2_talk
theorem dX4_beginTalk_0 : decode cX4_beginTalk 0 = .ok (.aload_n 1, 1) := by decide +kernel
theorem dX4_beginTalk_1 : decode cX4_beginTalk 1 = .ok (.aload_n 2, 1) := by decide +kernel
theorem dX4_beginTalk_2 : decode cX4_beginTalk 2 = .ok (.getfield 115, 3) := by decide +kernel
theorem dX4_beginTalk_5 : decode cX4_beginTalk 5 = .ok (.iload_n 3, 1) := by decide +kernel
theorem dX4_beginTalk_6 : decode cX4_beginTalk 6 = .ok (.aload_n 0, 1) := by decide +kernel
theorem dX4_beginTalk_7 : decode cX4_beginTalk 7 = .ok (.getfield 75, 3) := by decide +kernel
theorem dX4_beginTalk_10 : decode cX4_beginTalk 10 = .ok (.invokevirtual 293, 3) := by decide +kernel
theorem dX4_beginTalk_13 : decode cX4_beginTalk 13 = .ok (.aload_n 2, 1) := by decide +kernel
theorem dX4_beginTalk_14 : decode cX4_beginTalk 14 = .ok (.aload_n 1, 1) := by decide +kernel
theorem dX4_beginTalk_15 : decode cX4_beginTalk 15 = .ok (.getfield 115, 3) := by decide +kernel
theorem dX4_beginTalk_18 : decode cX4_beginTalk 18 = .ok (.iload_n 3, 1) := by decide +kernel
theorem dX4_beginTalk_19 : decode cX4_beginTalk 19 = .ok (.aload_n 0, 1) := by decide +kernel
theorem dX4_beginTalk_20 : decode cX4_beginTalk 20 = .ok (.getfield 75, 3) := by decide +kernel
theorem dX4_beginTalk_23 : decode cX4_beginTalk 23 = .ok (.invokevirtual 293, 3) := by decide +kernel
theorem dX4_beginTalk_26 : decode cX4_beginTalk 26 = .ok (.aload_n 1, 1) := by decide +kernel
theorem dX4_beginTalk_27 : decode cX4_beginTalk 27 = .ok (.iconst 1, 1) := by decide +kernel
theorem dX4_beginTalk_28 : decode cX4_beginTalk 28 = .ok (.putfield 172, 3) := by decide +kernel
theorem dX4_beginTalk_31 : decode cX4_beginTalk 31 = .ok (.return_, 1) := by decide +kernel
set_option maxRecDepth 20000 in
theorem ggX4_endTalk_X4_unitsOf : GoodIn wsX4_endTalk wsX4_unitsOf := goodIn_r _ [15, 10, 7, 45, 46, 47, 48, 49, 50, 51, 52, 53, 54, 55, 56, 57, 58, 59, 60, 61, 62] (by decide +kernel) (by decide +kernel)
set_option maxRecDepth 20000 in
theorem gX4_endTalk_X4_unitsOf : GoodIn wsX4_endTalk (wsV RX4 179 RX4 yX4_unitsOf wsX4_unitsOf) := goodIn_app (goodIn_of _ (by decide +kernel)) ggX4_endTalk_X4_unitsOf
set_option maxRecDepth 20000 in
theorem ggX4_endTalk_X0_write : GoodIn wsX4_endTalk wsX0_write := goodIn_r _ [20, 21, 22, 63, 64] (by decide +kernel) (by decide +kernel)
set_option maxRecDepth 20000 in
theorem gX4_endTalk_X0_write : GoodIn wsX4_endTalk (wsV RX4 297 RX0 yX0_write wsX0_write) := goodIn_app (goodIn_of _ (by decide +kernel)) ggX4_endTalk_X0_write
set_option maxRecDepth 20000 in
theorem ggX4_endTalk_X3_release : GoodIn wsX4_endTalk wsX3_release := goodIn_r _ [27, 28, 29, 30, 26, 31, 32, 33, 65, 52, 53, 54, 55, 56, 57, 58, 59, 60, 61, 62] (by decide +kernel) (by decide +kernel)
set_option maxRecDepth 20000 in
theorem gX4_endTalk_X3_release : GoodIn wsX4_endTalk (wsV RX4 301 RX3 yX3_release wsX3_release) := goodIn_app (goodIn_of _ (by decide +kernel)) ggX4_endTalk_X3_release
set_option maxRecDepth 20000 in
theorem ggX4_endTalk_X2_enter : GoodIn wsX4_endTalk wsX2_enter := goodIn_r _ [38, 39, 40, 41, 42, 43, 44, 52, 53, 54, 55, 56, 57, 58, 59, 60, 61, 62] (by decide +kernel) (by decide +kernel)
set_option maxRecDepth 20000 in
theorem gX4_endTalk_X2_enter : GoodIn wsX4_endTalk (wsV RX4 78 RX2 yX2_enter wsX2_enter) := goodIn_app (goodIn_of _ (by decide +kernel)) ggX4_endTalk_X2_enter
theorem dX4_endTalk_0 : decode cX4_endTalk 0 = .ok (.aload_n 0, 1) := by decide +kernel
theorem dX4_endTalk_1 : decode cX4_endTalk 1 = .ok (.getfield 11, 3) := by decide +kernel
theorem dX4_endTalk_4 : decode cX4_endTalk 4 = .ok (.aload_n 1, 1) := by decide +kernel
theorem dX4_endTalk_5 : decode cX4_endTalk 5 = .ok (.getfield 106, 3) := by decide +kernel
theorem dX4_endTalk_8 : decode cX4_endTalk 8 = .ok (.aaload, 1) := by decide +kernel
theorem dX4_endTalk_9 : decode cX4_endTalk 9 = .ok (.astore_n 2, 1) := by decide +kernel
theorem dX4_endTalk_10 : decode cX4_endTalk 10 = .ok (.aload_n 1, 1) := by decide +kernel
theorem dX4_endTalk_11 : decode cX4_endTalk 11 = .ok (.getfield 172, 3) := by decide +kernel
theorem dX4_endTalk_14 : decode cX4_endTalk 14 = .ok (.ifCond .eq 7, 3) := by decide +kernel
theorem dX4_endTalk_17 : decode cX4_endTalk 17 = .ok (.aload_n 1, 1) := by decide +kernel
theorem dX4_endTalk_18 : decode cX4_endTalk 18 = .ok (.goto 4, 3) := by decide +kernel
theorem dX4_endTalk_21 : decode cX4_endTalk 21 = .ok (.aload_n 2, 1) := by decide +kernel
theorem dX4_endTalk_22 : decode cX4_endTalk 22 = .ok (.astore_n 3, 1) := by decide +kernel
theorem dX4_endTalk_23 : decode cX4_endTalk 23 = .ok (.aload_n 0, 1) := by decide +kernel
theorem dX4_endTalk_24 : decode cX4_endTalk 24 = .ok (.aload_n 3, 1) := by decide +kernel
theorem dX4_endTalk_25 : decode cX4_endTalk 25 = .ok (.invokevirtual 179, 3) := by decide +kernel
theorem dX4_endTalk_28 : decode cX4_endTalk 28 = .ok (.istore 4, 2) := by decide +kernel
theorem dX4_endTalk_30 : decode cX4_endTalk 30 = .ok (.aload_n 3, 1) := by decide +kernel
theorem dX4_endTalk_31 : decode cX4_endTalk 31 = .ok (.dup, 1) := by decide +kernel
theorem dX4_endTalk_32 : decode cX4_endTalk 32 = .ok (.getfield 176, 3) := by decide +kernel
theorem dX4_endTalk_35 : decode cX4_endTalk 35 = .ok (.iload 4, 2) := by decide +kernel
theorem dX4_endTalk_37 : decode cX4_endTalk 37 = .ok (.iadd, 1) := by decide +kernel
theorem dX4_endTalk_38 : decode cX4_endTalk 38 = .ok (.putfield 176, 3) := by decide +kernel
theorem dX4_endTalk_41 : decode cX4_endTalk 41 = .ok (.aload_n 0, 1) := by decide +kernel
theorem dX4_endTalk_42 : decode cX4_endTalk 42 = .ok (.getfield 45, 3) := by decide +kernel
theorem dX4_endTalk_45 : decode cX4_endTalk 45 = .ok (.aload_n 3, 1) := by decide +kernel
theorem dX4_endTalk_46 : decode cX4_endTalk 46 = .ok (.getfield 115, 3) := by decide +kernel
theorem dX4_endTalk_49 : decode cX4_endTalk 49 = .ok (.aload_n 3, 1) := by decide +kernel
theorem dX4_endTalk_50 : decode cX4_endTalk 50 = .ok (.getfield 106, 3) := by decide +kernel
theorem dX4_endTalk_53 : decode cX4_endTalk 53 = .ok (.aload_n 3, 1) := by decide +kernel
theorem dX4_endTalk_54 : decode cX4_endTalk 54 = .ok (.getfield 270, 3) := by decide +kernel
theorem dX4_endTalk_57 : decode cX4_endTalk 57 = .ok (.iload 4, 2) := by decide +kernel
theorem dX4_endTalk_59 : decode cX4_endTalk 59 = .ok (.invokevirtual 297, 3) := by decide +kernel
theorem dX4_endTalk_62 : decode cX4_endTalk 62 = .ok (.aload_n 0, 1) := by decide +kernel
theorem dX4_endTalk_63 : decode cX4_endTalk 63 = .ok (.getfield 21, 3) := by decide +kernel
theorem dX4_endTalk_66 : decode cX4_endTalk 66 = .ok (.aload_n 1, 1) := by decide +kernel
theorem dX4_endTalk_67 : decode cX4_endTalk 67 = .ok (.aload_n 2, 1) := by decide +kernel
theorem dX4_endTalk_68 : decode cX4_endTalk 68 = .ok (.aload_n 1, 1) := by decide +kernel
theorem dX4_endTalk_69 : decode cX4_endTalk 69 = .ok (.getfield 210, 3) := by decide +kernel
theorem dX4_endTalk_72 : decode cX4_endTalk 72 = .ok (.invokevirtual 301, 3) := by decide +kernel
theorem dX4_endTalk_75 : decode cX4_endTalk 75 = .ok (.aload_n 1, 1) := by decide +kernel
theorem dX4_endTalk_76 : decode cX4_endTalk 76 = .ok (.iconst 5, 1) := by decide +kernel
theorem dX4_endTalk_77 : decode cX4_endTalk 77 = .ok (.aload_n 0, 1) := by decide +kernel
theorem dX4_endTalk_78 : decode cX4_endTalk 78 = .ok (.getfield 75, 3) := by decide +kernel
theorem dX4_endTalk_81 : decode cX4_endTalk 81 = .ok (.invokevirtual 78, 3) := by decide +kernel
theorem dX4_endTalk_84 : decode cX4_endTalk 84 = .ok (.aload_n 2, 1) := by decide +kernel
theorem dX4_endTalk_85 : decode cX4_endTalk 85 = .ok (.iconst 5, 1) := by decide +kernel
theorem dX4_endTalk_86 : decode cX4_endTalk 86 = .ok (.aload_n 0, 1) := by decide +kernel
theorem dX4_endTalk_87 : decode cX4_endTalk 87 = .ok (.getfield 75, 3) := by decide +kernel
theorem dX4_endTalk_90 : decode cX4_endTalk 90 = .ok (.invokevirtual 78, 3) := by decide +kernel
theorem dX4_endTalk_93 : decode cX4_endTalk 93 = .ok (.aload_n 2, 1) := by decide +kernel
theorem dX4_endTalk_94 : decode cX4_endTalk 94 = .ok (.areturn, 1) := by decide +kernel
theorem dX4_unitsOf_0 : decode cX4_unitsOf 0 = .ok (.iconst 1, 1) := by decide +kernel
theorem dX4_unitsOf_1 : decode cX4_unitsOf 1 = .ok (.aload_n 0, 1) := by decide +kernel
theorem dX4_unitsOf_2 : decode cX4_unitsOf 2 = .ok (.getfield 75, 3) := by decide +kernel
theorem dX4_unitsOf_5 : decode cX4_unitsOf 5 = .ok (.aload_n 1, 1) := by decide +kernel
theorem dX4_unitsOf_6 : decode cX4_unitsOf 6 = .ok (.getfield 270, 3) := by decide +kernel
theorem dX4_unitsOf_9 : decode cX4_unitsOf 9 = .ok (.isub, 1) := by decide +kernel
theorem dX4_unitsOf_10 : decode cX4_unitsOf 10 = .ok (.bipush 60, 2) := by decide +kernel
theorem dX4_unitsOf_12 : decode cX4_unitsOf 12 = .ok (.idiv, 1) := by decide +kernel
theorem dX4_unitsOf_13 : decode cX4_unitsOf 13 = .ok (.iadd, 1) := by decide +kernel
theorem dX4_unitsOf_14 : decode cX4_unitsOf 14 = .ok (.ireturn, 1) := by decide +kernel
set_option maxRecDepth 20000 in
theorem ggX4_stopRinging_X2_ringsFor : GoodIn wsX4_stopRinging wsX2_ringsFor := goodIn_r _ [10, 11, 12, 39, 40, 41, 42, 43, 44, 45, 46, 47, 48, 49] (by decide +kernel) (by decide +kernel)
set_option maxRecDepth 20000 in
theorem gX4_stopRinging_X2_ringsFor : GoodIn wsX4_stopRinging (wsV RX4 213 RX2 yX2_ringsFor wsX2_ringsFor) := goodIn_app (goodIn_of _ (by decide +kernel)) ggX4_stopRinging_X2_ringsFor
set_option maxRecDepth 20000 in
theorem ggX4_stopRinging_X3_release : GoodIn wsX4_stopRinging wsX3_release := goodIn_r _ [17, 18, 19, 20, 16, 21, 22, 23, 50, 39, 40, 41, 42, 43, 44, 45, 46, 47, 48, 49] (by decide +kernel) (by decide +kernel)
set_option maxRecDepth 20000 in
theorem gX4_stopRinging_X3_release : GoodIn wsX4_stopRinging (wsV RX4 301 RX3 yX3_release wsX3_release) := goodIn_app (goodIn_of _ (by decide +kernel)) ggX4_stopRinging_X3_release
set_option maxRecDepth 20000 in
theorem ggX4_stopRinging_X2_enter : GoodIn wsX4_stopRinging wsX2_enter := goodIn_r _ [27, 11, 28, 12, 29, 30, 31, 39, 40, 41, 42, 43, 44, 45, 46, 47, 48, 49] (by decide +kernel) (by decide +kernel)
set_option maxRecDepth 20000 in
theorem gX4_stopRinging_X2_enter : GoodIn wsX4_stopRinging (wsV RX4 78 RX2 yX2_enter wsX2_enter) := goodIn_app (goodIn_of _ (by decide +kernel)) ggX4_stopRinging_X2_enter
theorem dX4_stopRinging_0 : decode cX4_stopRinging 0 = .ok (.iconst 0, 1) := by decide +kernel
theorem dX4_stopRinging_1 : decode cX4_stopRinging 1 = .ok (.istore_n 2, 1) := by decide +kernel
theorem dX4_stopRinging_2 : decode cX4_stopRinging 2 = .ok (.iload_n 2, 1) := by decide +kernel
theorem dX4_stopRinging_3 : decode cX4_stopRinging 3 = .ok (.bipush 24, 2) := by decide +kernel
theorem dX4_stopRinging_5 : decode cX4_stopRinging 5 = .ok (.if_icmp .ge 49, 3) := by decide +kernel
theorem dX4_stopRinging_8 : decode cX4_stopRinging 8 = .ok (.aload_n 0, 1) := by decide +kernel
theorem dX4_stopRinging_9 : decode cX4_stopRinging 9 = .ok (.getfield 11, 3) := by decide +kernel
theorem dX4_stopRinging_12 : decode cX4_stopRinging 12 = .ok (.iload_n 2, 1) := by decide +kernel
theorem dX4_stopRinging_13 : decode cX4_stopRinging 13 = .ok (.aaload, 1) := by decide +kernel
theorem dX4_stopRinging_14 : decode cX4_stopRinging 14 = .ok (.astore_n 3, 1) := by decide +kernel
theorem dX4_stopRinging_15 : decode cX4_stopRinging 15 = .ok (.aload_n 3, 1) := by decide +kernel
theorem dX4_stopRinging_16 : decode cX4_stopRinging 16 = .ok (.aload_n 1, 1) := by decide +kernel
theorem dX4_stopRinging_17 : decode cX4_stopRinging 17 = .ok (.getfield 115, 3) := by decide +kernel
theorem dX4_stopRinging_20 : decode cX4_stopRinging 20 = .ok (.invokevirtual 213, 3) := by decide +kernel
theorem dX4_stopRinging_23 : decode cX4_stopRinging 23 = .ok (.ifCond .eq 25, 3) := by decide +kernel
theorem dX4_stopRinging_26 : decode cX4_stopRinging 26 = .ok (.aload_n 0, 1) := by decide +kernel
theorem dX4_stopRinging_27 : decode cX4_stopRinging 27 = .ok (.getfield 21, 3) := by decide +kernel
theorem dX4_stopRinging_30 : decode cX4_stopRinging 30 = .ok (.aload_n 1, 1) := by decide +kernel
theorem dX4_stopRinging_31 : decode cX4_stopRinging 31 = .ok (.aload_n 3, 1) := by decide +kernel
theorem dX4_stopRinging_32 : decode cX4_stopRinging 32 = .ok (.aload_n 3, 1) := by decide +kernel
theorem dX4_stopRinging_33 : decode cX4_stopRinging 33 = .ok (.getfield 210, 3) := by decide +kernel
theorem dX4_stopRinging_36 : decode cX4_stopRinging 36 = .ok (.invokevirtual 301, 3) := by decide +kernel
theorem dX4_stopRinging_39 : decode cX4_stopRinging 39 = .ok (.aload_n 3, 1) := by decide +kernel
theorem dX4_stopRinging_40 : decode cX4_stopRinging 40 = .ok (.iconst 0, 1) := by decide +kernel
theorem dX4_stopRinging_41 : decode cX4_stopRinging 41 = .ok (.aload_n 0, 1) := by decide +kernel
theorem dX4_stopRinging_42 : decode cX4_stopRinging 42 = .ok (.getfield 75, 3) := by decide +kernel
theorem dX4_stopRinging_45 : decode cX4_stopRinging 45 = .ok (.invokevirtual 78, 3) := by decide +kernel
theorem dX4_stopRinging_48 : decode cX4_stopRinging 48 = .ok (.iinc 2 1, 3) := by decide +kernel
theorem dX4_stopRinging_51 : decode cX4_stopRinging 51 = .ok (.goto (-49), 3) := by decide +kernel
theorem dX4_stopRinging_54 : decode cX4_stopRinging 54 = .ok (.return_, 1) := by decide +kernel
set_option maxRecDepth 20000 in
theorem ggX4_leave_X4_endTalk : GoodIn wsX4_leave wsX4_endTalk := goodIn_r _ [10, 4, 3, 11, 12, 13, 14, 15, 16, 17, 18, 19, 20, 21, 9, 22, 23, 24, 25, 26, 27, 28, 29, 30, 31, 32, 33, 34, 35, 36, 37, 38, 39, 40, 41, 42, 43, 44, 45, 46, 47, 48, 49, 50, 51, 71, 72, 73, 74, 75, 76, 77, 60, 61, 62, 63, 64, 65, 66, 67, 68, 69, 70, 78, 79, 80] (by decide +kernel) (by decide +kernel)
set_option maxRecDepth 20000 in
theorem gX4_leave_X4_endTalk : GoodIn wsX4_leave (wsV RX4 111 RX4 yX4_endTalk wsX4_endTalk) := goodIn_app (goodIn_of _ (by decide +kernel)) ggX4_leave_X4_endTalk
set_option maxRecDepth 20000 in
theorem ggX4_leave_X4_stopRinging : GoodIn wsX4_leave wsX4_stopRinging := goodIn_r _ [55, 4, 14, 16, 17, 18, 56, 57, 58, 44, 59, 46, 48, 30, 31, 32, 33, 34, 35, 36, 37, 38, 39, 40, 41, 42, 43, 45, 47, 49, 50, 51, 71, 72, 73, 74, 75, 76, 77, 60, 61, 62, 63, 64, 65, 66, 67, 68, 69, 70, 80] (by decide +kernel) (by decide +kernel)
set_option maxRecDepth 20000 in
theorem gX4_leave_X4_stopRinging : GoodIn wsX4_leave (wsV RX4 284 RX4 yX4_stopRinging wsX4_stopRinging) := goodIn_app (goodIn_of _ (by decide +kernel)) ggX4_leave_X4_stopRinging
theorem dX4_leave_0 : decode cX4_leave 0 = .ok (.aload_n 1, 1) := by decide +kernel
theorem dX4_leave_1 : decode cX4_leave 1 = .ok (.getfield 64, 3) := by decide +kernel
theorem dX4_leave_4 : decode cX4_leave 4 = .ok (.tableswitch 86 3 8 #[49, 86, 86, 40, 57, 70], 40) := by decide +kernel
theorem dX4_leave_44 : decode cX4_leave 44 = .ok (.aload_n 0, 1) := by decide +kernel
theorem dX4_leave_45 : decode cX4_leave 45 = .ok (.aload_n 1, 1) := by decide +kernel
theorem dX4_leave_46 : decode cX4_leave 46 = .ok (.invokevirtual 111, 3) := by decide +kernel
theorem dX4_leave_49 : decode cX4_leave 49 = .ok (.pop, 1) := by decide +kernel
theorem dX4_leave_50 : decode cX4_leave 50 = .ok (.goto 40, 3) := by decide +kernel
theorem dX4_leave_53 : decode cX4_leave 53 = .ok (.aload_n 0, 1) := by decide +kernel
theorem dX4_leave_54 : decode cX4_leave 54 = .ok (.aload_n 1, 1) := by decide +kernel
theorem dX4_leave_55 : decode cX4_leave 55 = .ok (.invokevirtual 284, 3) := by decide +kernel
theorem dX4_leave_58 : decode cX4_leave 58 = .ok (.goto 32, 3) := by decide +kernel
theorem dX4_leave_61 : decode cX4_leave 61 = .ok (.aload_n 0, 1) := by decide +kernel
theorem dX4_leave_62 : decode cX4_leave 62 = .ok (.getfield 32, 3) := by decide +kernel
theorem dX4_leave_65 : decode cX4_leave 65 = .ok (.aload_n 1, 1) := by decide +kernel
theorem dX4_leave_66 : decode cX4_leave 66 = .ok (.getfield 106, 3) := by decide +kernel
theorem dX4_leave_69 : decode cX4_leave 69 = .ok (.iconst (-1), 1) := by decide +kernel
theorem dX4_leave_70 : decode cX4_leave 70 = .ok (.iastore, 1) := by decide +kernel
theorem dX4_leave_71 : decode cX4_leave 71 = .ok (.goto 19, 3) := by decide +kernel
theorem dX4_leave_74 : decode cX4_leave 74 = .ok (.aload_n 0, 1) := by decide +kernel
theorem dX4_leave_75 : decode cX4_leave 75 = .ok (.getfield 11, 3) := by decide +kernel
theorem dX4_leave_78 : decode cX4_leave 78 = .ok (.aload_n 1, 1) := by decide +kernel
theorem dX4_leave_79 : decode cX4_leave 79 = .ok (.getfield 106, 3) := by decide +kernel
theorem dX4_leave_82 : decode cX4_leave 82 = .ok (.aaload, 1) := by decide +kernel
theorem dX4_leave_83 : decode cX4_leave 83 = .ok (.iconst (-1), 1) := by decide +kernel
theorem dX4_leave_84 : decode cX4_leave 84 = .ok (.putfield 101, 3) := by decide +kernel
theorem dX4_leave_87 : decode cX4_leave 87 = .ok (.goto 3, 3) := by decide +kernel
theorem dX4_leave_90 : decode cX4_leave 90 = .ok (.return_, 1) := by decide +kernel
set_option maxRecDepth 20000 in
theorem ggX4_callFromCamps_X4_callLine : GoodIn wsX4_callFromCamps wsX4_callLine := goodIn_r _ [8, 9, 10, 3, 11, 12, 13, 14, 15, 16, 17, 18, 19, 20, 21, 22, 23, 24, 25, 26, 7, 27, 28, 29, 30, 31, 32, 33, 34, 35, 36, 37, 38, 39, 40, 41, 42, 43, 44, 45, 46, 47, 48, 49, 50, 51, 52, 53, 54, 62, 63, 64, 65, 66, 67, 68, 69, 70, 71, 72, 55, 56, 57, 58, 59, 60, 61, 73] (by decide +kernel) (by decide +kernel)
set_option maxRecDepth 20000 in
theorem gX4_callFromCamps_X4_callLine : GoodIn wsX4_callFromCamps (wsV RX4 216 RX4 yX4_callLine wsX4_callLine) := goodIn_app (goodIn_of _ (by decide +kernel)) ggX4_callFromCamps_X4_callLine
theorem dX4_callFromCamps_0 : decode cX4_callFromCamps 0 = .ok (.iconst 0, 1) := by decide +kernel
theorem dX4_callFromCamps_1 : decode cX4_callFromCamps 1 = .ok (.istore_n 1, 1) := by decide +kernel
theorem dX4_callFromCamps_2 : decode cX4_callFromCamps 2 = .ok (.iload_n 1, 1) := by decide +kernel
theorem dX4_callFromCamps_3 : decode cX4_callFromCamps 3 = .ok (.bipush 24, 2) := by decide +kernel
theorem dX4_callFromCamps_5 : decode cX4_callFromCamps 5 = .ok (.if_icmp .ge 52, 3) := by decide +kernel
theorem dX4_callFromCamps_8 : decode cX4_callFromCamps 8 = .ok (.aload_n 0, 1) := by decide +kernel
theorem dX4_callFromCamps_9 : decode cX4_callFromCamps 9 = .ok (.getfield 11, 3) := by decide +kernel
theorem dX4_callFromCamps_12 : decode cX4_callFromCamps 12 = .ok (.iload_n 1, 1) := by decide +kernel
theorem dX4_callFromCamps_13 : decode cX4_callFromCamps 13 = .ok (.aaload, 1) := by decide +kernel
theorem dX4_callFromCamps_14 : decode cX4_callFromCamps 14 = .ok (.astore_n 2, 1) := by decide +kernel
theorem dX4_callFromCamps_15 : decode cX4_callFromCamps 15 = .ok (.aload_n 2, 1) := by decide +kernel
theorem dX4_callFromCamps_16 : decode cX4_callFromCamps 16 = .ok (.getfield 101, 3) := by decide +kernel
theorem dX4_callFromCamps_19 : decode cX4_callFromCamps 19 = .ok (.iconst (-1), 1) := by decide +kernel
theorem dX4_callFromCamps_20 : decode cX4_callFromCamps 20 = .ok (.if_icmp .eq 31, 3) := by decide +kernel
theorem dX4_callFromCamps_23 : decode cX4_callFromCamps 23 = .ok (.aload_n 2, 1) := by decide +kernel
theorem dX4_callFromCamps_24 : decode cX4_callFromCamps 24 = .ok (.getfield 64, 3) := by decide +kernel
theorem dX4_callFromCamps_27 : decode cX4_callFromCamps 27 = .ok (.ifCond .ne 24, 3) := by decide +kernel
theorem dX4_callFromCamps_30 : decode cX4_callFromCamps 30 = .ok (.aload_n 0, 1) := by decide +kernel
theorem dX4_callFromCamps_31 : decode cX4_callFromCamps 31 = .ok (.getfield 11, 3) := by decide +kernel
theorem dX4_callFromCamps_34 : decode cX4_callFromCamps 34 = .ok (.aload_n 2, 1) := by decide +kernel
theorem dX4_callFromCamps_35 : decode cX4_callFromCamps 35 = .ok (.getfield 101, 3) := by decide +kernel
theorem dX4_callFromCamps_38 : decode cX4_callFromCamps 38 = .ok (.aaload, 1) := by decide +kernel
theorem dX4_callFromCamps_39 : decode cX4_callFromCamps 39 = .ok (.astore_n 3, 1) := by decide +kernel
theorem dX4_callFromCamps_40 : decode cX4_callFromCamps 40 = .ok (.aload_n 2, 1) := by decide +kernel
theorem dX4_callFromCamps_41 : decode cX4_callFromCamps 41 = .ok (.iconst (-1), 1) := by decide +kernel
theorem dX4_callFromCamps_42 : decode cX4_callFromCamps 42 = .ok (.putfield 101, 3) := by decide +kernel
theorem dX4_callFromCamps_45 : decode cX4_callFromCamps 45 = .ok (.aload_n 0, 1) := by decide +kernel
theorem dX4_callFromCamps_46 : decode cX4_callFromCamps 46 = .ok (.aload_n 3, 1) := by decide +kernel
theorem dX4_callFromCamps_47 : decode cX4_callFromCamps 47 = .ok (.aload_n 2, 1) := by decide +kernel
theorem dX4_callFromCamps_48 : decode cX4_callFromCamps 48 = .ok (.invokevirtual 216, 3) := by decide +kernel
theorem dX4_callFromCamps_51 : decode cX4_callFromCamps 51 = .ok (.iinc 1 1, 3) := by decide +kernel
theorem dX4_callFromCamps_54 : decode cX4_callFromCamps 54 = .ok (.goto (-52), 3) := by decide +kernel
theorem dX4_callFromCamps_57 : decode cX4_callFromCamps 57 = .ok (.return_, 1) := by decide +kernel
set_option maxRecDepth 20000 in
theorem ggX4_earliestDue_X2_due : GoodIn wsX4_earliestDue wsX2_due := goodIn_r _ [11, 12, 13, 14, 22, 23, 24, 25, 26, 27, 28, 29, 30, 31, 32] (by decide +kernel) (by decide +kernel)
set_option maxRecDepth 20000 in
theorem gX4_earliestDue_X2_due : GoodIn wsX4_earliestDue (wsV RX4 304 RX2 yX2_due wsX2_due) := goodIn_app (goodIn_of _ (by decide +kernel)) ggX4_earliestDue_X2_due
theorem dX4_earliestDue_0 : decode cX4_earliestDue 0 = .ok (.ldc_w 269, 3) := by decide +kernel
theorem dX4_earliestDue_3 : decode cX4_earliestDue 3 = .ok (.istore_n 1, 1) := by decide +kernel
theorem dX4_earliestDue_4 : decode cX4_earliestDue 4 = .ok (.iconst 0, 1) := by decide +kernel
theorem dX4_earliestDue_5 : decode cX4_earliestDue 5 = .ok (.istore_n 2, 1) := by decide +kernel
theorem dX4_earliestDue_6 : decode cX4_earliestDue 6 = .ok (.iload_n 2, 1) := by decide +kernel
theorem dX4_earliestDue_7 : decode cX4_earliestDue 7 = .ok (.bipush 24, 2) := by decide +kernel
theorem dX4_earliestDue_9 : decode cX4_earliestDue 9 = .ok (.if_icmp .ge 23, 3) := by decide +kernel
theorem dX4_earliestDue_12 : decode cX4_earliestDue 12 = .ok (.iload_n 1, 1) := by decide +kernel
theorem dX4_earliestDue_13 : decode cX4_earliestDue 13 = .ok (.aload_n 0, 1) := by decide +kernel
theorem dX4_earliestDue_14 : decode cX4_earliestDue 14 = .ok (.getfield 11, 3) := by decide +kernel
theorem dX4_earliestDue_17 : decode cX4_earliestDue 17 = .ok (.iload_n 2, 1) := by decide +kernel
theorem dX4_earliestDue_18 : decode cX4_earliestDue 18 = .ok (.aaload, 1) := by decide +kernel
theorem dX4_earliestDue_19 : decode cX4_earliestDue 19 = .ok (.invokevirtual 304, 3) := by decide +kernel
theorem dX4_earliestDue_22 : decode cX4_earliestDue 22 = .ok (.invokestatic 130, 3) := by decide +kernel
theorem dX4_earliestDue_25 : decode cX4_earliestDue 25 = .ok (.istore_n 1, 1) := by decide +kernel
theorem dX4_earliestDue_26 : decode cX4_earliestDue 26 = .ok (.iinc 2 1, 3) := by decide +kernel
theorem dX4_earliestDue_29 : decode cX4_earliestDue 29 = .ok (.goto (-23), 3) := by decide +kernel
theorem dX4_earliestDue_32 : decode cX4_earliestDue 32 = .ok (.iload_n 1, 1) := by decide +kernel
theorem dX4_earliestDue_33 : decode cX4_earliestDue 33 = .ok (.ireturn, 1) := by decide +kernel
set_option maxRecDepth 20000 in
theorem ggX4_lookAtTimers_X2_due : GoodIn wsX4_lookAtTimers wsX2_due := goodIn_r _ [7, 8, 9, 10, 111, 112, 113, 114, 115, 116, 117, 118, 119, 120, 121] (by decide +kernel) (by decide +kernel)
set_option maxRecDepth 20000 in
theorem gX4_lookAtTimers_X2_due : GoodIn wsX4_lookAtTimers (wsV RX4 304 RX2 yX2_due wsX2_due) := goodIn_app (goodIn_of _ (by decide +kernel)) ggX4_lookAtTimers_X2_due
set_option maxRecDepth 20000 in
theorem ggX4_lookAtTimers_X4_runOut : GoodIn wsX4_lookAtTimers wsX4_runOut := goodIn_r _ [15, 16, 2, 17, 18, 19, 6, 20, 8, 9, 21, 22, 23, 24, 25, 26, 27, 14, 28, 29, 30, 1, 31, 32, 33, 34, 35, 36, 37, 38, 39, 40, 41, 42, 43, 44, 45, 46, 47, 48, 49, 50, 51, 52, 53, 54, 55, 56, 57, 58, 59, 60, 61, 62, 63, 64, 65, 66, 67, 68, 69, 70, 71, 72, 111, 112, 113, 114, 115, 116, 117, 118, 119, 120, 121, 104, 105, 106, 107, 108, 109, 110, 122, 123, 124] (by decide +kernel) (by decide +kernel)
set_option maxRecDepth 20000 in
theorem gX4_lookAtTimers_X4_runOut : GoodIn wsX4_lookAtTimers (wsV RX4 307 RX4 yX4_runOut wsX4_runOut) := goodIn_app (goodIn_of _ (by decide +kernel)) ggX4_lookAtTimers_X4_runOut
set_option maxRecDepth 20000 in
theorem ggX4_lookAtTimers_X4_callFromCamps : GoodIn wsX4_lookAtTimers wsX4_callFromCamps := goodIn_r _ [76, 1, 31, 16, 77, 78, 79, 14, 80, 81, 2, 39, 82, 17, 18, 19, 6, 20, 8, 9, 21, 22, 23, 24, 83, 84, 85, 86, 41, 30, 42, 87, 88, 89, 57, 90, 64, 91, 92, 93, 94, 95, 96, 97, 98, 63, 59, 60, 61, 62, 99, 100, 101, 102, 103, 104, 105, 106, 107, 108, 109, 110, 111, 112, 113, 114, 115, 116, 117, 118, 119, 120, 121, 124] (by decide +kernel) (by decide +kernel)
set_option maxRecDepth 20000 in
theorem gX4_lookAtTimers_X4_callFromCamps : GoodIn wsX4_lookAtTimers (wsV RX4 72 RX4 yX4_callFromCamps wsX4_callFromCamps) := goodIn_app (goodIn_of _ (by decide +kernel)) ggX4_lookAtTimers_X4_callFromCamps
theorem dX4_lookAtTimers_0 : decode cX4_lookAtTimers 0 = .ok (.iconst 0, 1) := by decide +kernel
theorem dX4_lookAtTimers_1 : decode cX4_lookAtTimers 1 = .ok (.istore_n 1, 1) := by decide +kernel
theorem dX4_lookAtTimers_2 : decode cX4_lookAtTimers 2 = .ok (.iload_n 1, 1) := by decide +kernel
theorem dX4_lookAtTimers_3 : decode cX4_lookAtTimers 3 = .ok (.bipush 24, 2) := by decide +kernel
theorem dX4_lookAtTimers_5 : decode cX4_lookAtTimers 5 = .ok (.if_icmp .ge 39, 3) := by decide +kernel
theorem dX4_lookAtTimers_8 : decode cX4_lookAtTimers 8 = .ok (.aload_n 0, 1) := by decide +kernel
theorem dX4_lookAtTimers_9 : decode cX4_lookAtTimers 9 = .ok (.getfield 11, 3) := by decide +kernel
theorem dX4_lookAtTimers_12 : decode cX4_lookAtTimers 12 = .ok (.iload_n 1, 1) := by decide +kernel
theorem dX4_lookAtTimers_13 : decode cX4_lookAtTimers 13 = .ok (.aaload, 1) := by decide +kernel
theorem dX4_lookAtTimers_14 : decode cX4_lookAtTimers 14 = .ok (.invokevirtual 304, 3) := by decide +kernel
theorem dX4_lookAtTimers_17 : decode cX4_lookAtTimers 17 = .ok (.aload_n 0, 1) := by decide +kernel
theorem dX4_lookAtTimers_18 : decode cX4_lookAtTimers 18 = .ok (.getfield 75, 3) := by decide +kernel
theorem dX4_lookAtTimers_21 : decode cX4_lookAtTimers 21 = .ok (.if_icmp .gt 17, 3) := by decide +kernel
theorem dX4_lookAtTimers_24 : decode cX4_lookAtTimers 24 = .ok (.aload_n 0, 1) := by decide +kernel
theorem dX4_lookAtTimers_25 : decode cX4_lookAtTimers 25 = .ok (.aload_n 0, 1) := by decide +kernel
theorem dX4_lookAtTimers_26 : decode cX4_lookAtTimers 26 = .ok (.getfield 11, 3) := by decide +kernel
theorem dX4_lookAtTimers_29 : decode cX4_lookAtTimers 29 = .ok (.iload_n 1, 1) := by decide +kernel
theorem dX4_lookAtTimers_30 : decode cX4_lookAtTimers 30 = .ok (.aaload, 1) := by decide +kernel
theorem dX4_lookAtTimers_31 : decode cX4_lookAtTimers 31 = .ok (.invokevirtual 307, 3) := by decide +kernel
theorem dX4_lookAtTimers_34 : decode cX4_lookAtTimers 34 = .ok (.aload_n 0, 1) := by decide +kernel
theorem dX4_lookAtTimers_35 : decode cX4_lookAtTimers 35 = .ok (.invokevirtual 72, 3) := by decide +kernel
theorem dX4_lookAtTimers_38 : decode cX4_lookAtTimers 38 = .ok (.iinc 1 1, 3) := by decide +kernel
theorem dX4_lookAtTimers_41 : decode cX4_lookAtTimers 41 = .ok (.goto (-39), 3) := by decide +kernel
theorem dX4_lookAtTimers_44 : decode cX4_lookAtTimers 44 = .ok (.return_, 1) := by decide +kernel
set_option maxRecDepth 20000 in
theorem ggX4_runOut_X2_enter : GoodIn wsX4_runOut wsX2_enter := goodIn_r _ [7, 8, 9, 10, 11, 12, 13, 64, 65, 66, 67, 68, 69, 70, 71, 72, 73, 74] (by decide +kernel) (by decide +kernel)
set_option maxRecDepth 20000 in
theorem gX4_runOut_X2_enter : GoodIn wsX4_runOut (wsV RX4 78 RX2 yX2_enter wsX2_enter) := goodIn_app (goodIn_of _ (by decide +kernel)) ggX4_runOut_X2_enter
set_option maxRecDepth 20000 in
theorem ggX4_runOut_X4_leave : GoodIn wsX4_runOut wsX4_leave := goodIn_r _ [18, 1, 19, 20, 21, 22, 23, 24, 25, 17, 26, 27, 28, 29, 30, 31, 32, 33, 2, 34, 35, 36, 37, 38, 39, 40, 41, 42, 43, 44, 45, 46, 47, 48, 49, 50, 51, 52, 53, 54, 55, 3, 4, 5, 6, 7, 8, 9, 10, 11, 12, 13, 56, 57, 58, 59, 60, 61, 62, 63, 64, 65, 66, 67, 68, 69, 70, 71, 72, 73, 74, 75, 76, 77, 78, 79, 80, 81, 82, 83, 84] (by decide +kernel) (by decide +kernel)
set_option maxRecDepth 20000 in
theorem gX4_runOut_X4_leave : GoodIn wsX4_runOut (wsV RX4 84 RX4 yX4_leave wsX4_leave) := goodIn_app (goodIn_of _ (by decide +kernel)) ggX4_runOut_X4_leave
theorem dX4_runOut_0 : decode cX4_runOut 0 = .ok (.aload_n 1, 1) := by decide +kernel
theorem dX4_runOut_1 : decode cX4_runOut 1 = .ok (.getfield 64, 3) := by decide +kernel
theorem dX4_runOut_4 : decode cX4_runOut 4 = .ok (.iconst 1, 1) := by decide +kernel
theorem dX4_runOut_5 : decode cX4_runOut 5 = .ok (.if_icmp .eq 11, 3) := by decide +kernel
theorem dX4_runOut_8 : decode cX4_runOut 8 = .ok (.aload_n 1, 1) := by decide +kernel
theorem dX4_runOut_9 : decode cX4_runOut 9 = .ok (.getfield 64, 3) := by decide +kernel
theorem dX4_runOut_12 : decode cX4_runOut 12 = .ok (.iconst 2, 1) := by decide +kernel
theorem dX4_runOut_13 : decode cX4_runOut 13 = .ok (.if_icmp .ne 16, 3) := by decide +kernel
theorem dX4_runOut_16 : decode cX4_runOut 16 = .ok (.aload_n 1, 1) := by decide +kernel
theorem dX4_runOut_17 : decode cX4_runOut 17 = .ok (.bipush 9, 2) := by decide +kernel
theorem dX4_runOut_19 : decode cX4_runOut 19 = .ok (.aload_n 0, 1) := by decide +kernel
theorem dX4_runOut_20 : decode cX4_runOut 20 = .ok (.getfield 75, 3) := by decide +kernel
theorem dX4_runOut_23 : decode cX4_runOut 23 = .ok (.invokevirtual 78, 3) := by decide +kernel
theorem dX4_runOut_26 : decode cX4_runOut 26 = .ok (.goto 17, 3) := by decide +kernel
theorem dX4_runOut_29 : decode cX4_runOut 29 = .ok (.aload_n 0, 1) := by decide +kernel
theorem dX4_runOut_30 : decode cX4_runOut 30 = .ok (.aload_n 1, 1) := by decide +kernel
theorem dX4_runOut_31 : decode cX4_runOut 31 = .ok (.invokevirtual 84, 3) := by decide +kernel
theorem dX4_runOut_34 : decode cX4_runOut 34 = .ok (.aload_n 1, 1) := by decide +kernel
theorem dX4_runOut_35 : decode cX4_runOut 35 = .ok (.iconst 5, 1) := by decide +kernel
theorem dX4_runOut_36 : decode cX4_runOut 36 = .ok (.aload_n 0, 1) := by decide +kernel
theorem dX4_runOut_37 : decode cX4_runOut 37 = .ok (.getfield 75, 3) := by decide +kernel
theorem dX4_runOut_40 : decode cX4_runOut 40 = .ok (.invokevirtual 78, 3) := by decide +kernel
theorem dX4_runOut_43 : decode cX4_runOut 43 = .ok (.return_, 1) := by decide +kernel
theorem dX5_init_0 : decode cX5_init 0 = .ok (.aload_n 0, 1) := by decide +kernel
theorem dX5_init_1 : decode cX5_init 1 = .ok (.invokespecial 1, 3) := by decide +kernel
theorem dX5_init_4 : decode cX5_init 4 = .ok (.aload_n 0, 1) := by decide +kernel
theorem dX5_init_5 : decode cX5_init 5 = .ok (.bipush 24, 2) := by decide +kernel
theorem dX5_init_7 : decode cX5_init 7 = .ok (.newarray .int, 2) := by decide +kernel
theorem dX5_init_9 : decode cX5_init 9 = .ok (.putfield 7, 3) := by decide +kernel
theorem dX5_init_12 : decode cX5_init 12 = .ok (.aload_n 0, 1) := by decide +kernel
theorem dX5_init_13 : decode cX5_init 13 = .ok (.bipush 24, 2) := by decide +kernel
theorem dX5_init_15 : decode cX5_init 15 = .ok (.newarray .int, 2) := by decide +kernel
theorem dX5_init_17 : decode cX5_init 17 = .ok (.putfield 13, 3) := by decide +kernel
theorem dX5_init_20 : decode cX5_init 20 = .ok (.aload_n 0, 1) := by decide +kernel
theorem dX5_init_21 : decode cX5_init 21 = .ok (.bipush 24, 2) := by decide +kernel
theorem dX5_init_23 : decode cX5_init 23 = .ok (.newarray .int, 2) := by decide +kernel
theorem dX5_init_25 : decode cX5_init 25 = .ok (.putfield 16, 3) := by decide +kernel
theorem dX5_init_28 : decode cX5_init 28 = .ok (.aload_n 0, 1) := by decide +kernel
theorem dX5_init_29 : decode cX5_init 29 = .ok (.bipush 24, 2) := by decide +kernel
theorem dX5_init_31 : decode cX5_init 31 = .ok (.newarray .int, 2) := by decide +kernel
theorem dX5_init_33 : decode cX5_init 33 = .ok (.putfield 19, 3) := by decide +kernel
theorem dX5_init_36 : decode cX5_init 36 = .ok (.aload_n 0, 1) := by decide +kernel
theorem dX5_init_37 : decode cX5_init 37 = .ok (.bipush 24, 2) := by decide +kernel
theorem dX5_init_39 : decode cX5_init 39 = .ok (.newarray .int, 2) := by decide +kernel
theorem dX5_init_41 : decode cX5_init 41 = .ok (.putfield 22, 3) := by decide +kernel
theorem dX5_init_44 : decode cX5_init 44 = .ok (.aload_n 0, 1) := by decide +kernel
theorem dX5_init_45 : decode cX5_init 45 = .ok (.bipush 24, 2) := by decide +kernel
theorem dX5_init_47 : decode cX5_init 47 = .ok (.newarray .int, 2) := by decide +kernel
theorem dX5_init_49 : decode cX5_init 49 = .ok (.putfield 25, 3) := by decide +kernel
theorem dX5_init_52 : decode cX5_init 52 = .ok (.aload_n 0, 1) := by decide +kernel
theorem dX5_init_53 : decode cX5_init 53 = .ok (.bipush 24, 2) := by decide +kernel
theorem dX5_init_55 : decode cX5_init 55 = .ok (.newarray .int, 2) := by decide +kernel
theorem dX5_init_57 : decode cX5_init 57 = .ok (.putfield 28, 3) := by decide +kernel
theorem dX5_init_60 : decode cX5_init 60 = .ok (.aload_n 0, 1) := by decide +kernel
theorem dX5_init_61 : decode cX5_init 61 = .ok (.bipush 24, 2) := by decide +kernel
theorem dX5_init_63 : decode cX5_init 63 = .ok (.newarray .int, 2) := by decide +kernel
theorem dX5_init_65 : decode cX5_init 65 = .ok (.putfield 31, 3) := by decide +kernel
theorem dX5_init_68 : decode cX5_init 68 = .ok (.aload_n 0, 1) := by decide +kernel
theorem dX5_init_69 : decode cX5_init 69 = .ok (.bipush 24, 2) := by decide +kernel
theorem dX5_init_71 : decode cX5_init 71 = .ok (.newarray .boolean, 2) := by decide +kernel
theorem dX5_init_73 : decode cX5_init 73 = .ok (.putfield 34, 3) := by decide +kernel
theorem dX5_init_76 : decode cX5_init 76 = .ok (.aload_n 0, 1) := by decide +kernel
theorem dX5_init_77 : decode cX5_init 77 = .ok (.bipush 24, 2) := by decide +kernel
theorem dX5_init_79 : decode cX5_init 79 = .ok (.newarray .int, 2) := by decide +kernel
theorem dX5_init_81 : decode cX5_init 81 = .ok (.putfield 38, 3) := by decide +kernel
theorem dX5_init_84 : decode cX5_init 84 = .ok (.aload_n 0, 1) := by decide +kernel
theorem dX5_init_85 : decode cX5_init 85 = .ok (.bipush 24, 2) := by decide +kernel
theorem dX5_init_87 : decode cX5_init 87 = .ok (.newarray .boolean, 2) := by decide +kernel
theorem dX5_init_89 : decode cX5_init 89 = .ok (.putfield 41, 3) := by decide +kernel
theorem dX5_init_92 : decode cX5_init 92 = .ok (.aload_n 0, 1) := by decide +kernel
theorem dX5_init_93 : decode cX5_init 93 = .ok (.bipush 24, 2) := by decide +kernel
theorem dX5_init_95 : decode cX5_init 95 = .ok (.newarray .int, 2) := by decide +kernel
theorem dX5_init_97 : decode cX5_init 97 = .ok (.putfield 44, 3) := by decide +kernel
theorem dX5_init_100 : decode cX5_init 100 = .ok (.aload_n 0, 1) := by decide +kernel
theorem dX5_init_101 : decode cX5_init 101 = .ok (.bipush 24, 2) := by decide +kernel
theorem dX5_init_103 : decode cX5_init 103 = .ok (.newarray .int, 2) := by decide +kernel
theorem dX5_init_105 : decode cX5_init 105 = .ok (.putfield 47, 3) := by decide +kernel
theorem dX5_init_108 : decode cX5_init 108 = .ok (.aload_n 0, 1) := by decide +kernel
theorem dX5_init_109 : decode cX5_init 109 = .ok (.iconst 4, 1) := by decide +kernel
theorem dX5_init_110 : decode cX5_init 110 = .ok (.newarray .int, 2) := by decide +kernel
theorem dX5_init_112 : decode cX5_init 112 = .ok (.putfield 50, 3) := by decide +kernel
theorem dX5_init_115 : decode cX5_init 115 = .ok (.aload_n 0, 1) := by decide +kernel
theorem dX5_init_116 : decode cX5_init 116 = .ok (.bipush 32, 2) := by decide +kernel
theorem dX5_init_118 : decode cX5_init 118 = .ok (.newarray .int, 2) := by decide +kernel
theorem dX5_init_120 : decode cX5_init 120 = .ok (.putfield 53, 3) := by decide +kernel
theorem dX5_init_123 : decode cX5_init 123 = .ok (.aload_n 0, 1) := by decide +kernel
theorem dX5_init_124 : decode cX5_init 124 = .ok (.bipush 24, 2) := by decide +kernel
theorem dX5_init_126 : decode cX5_init 126 = .ok (.newarray .int, 2) := by decide +kernel
theorem dX5_init_128 : decode cX5_init 128 = .ok (.putfield 56, 3) := by decide +kernel
theorem dX5_init_131 : decode cX5_init 131 = .ok (.aload_n 0, 1) := by decide +kernel
theorem dX5_init_132 : decode cX5_init 132 = .ok (.iconst 4, 1) := by decide +kernel
theorem dX5_init_133 : decode cX5_init 133 = .ok (.newarray .int, 2) := by decide +kernel
theorem dX5_init_135 : decode cX5_init 135 = .ok (.putfield 59, 3) := by decide +kernel
theorem dX5_init_138 : decode cX5_init 138 = .ok (.aload_n 0, 1) := by decide +kernel
theorem dX5_init_139 : decode cX5_init 139 = .ok (.iconst 4, 1) := by decide +kernel
theorem dX5_init_140 : decode cX5_init 140 = .ok (.newarray .int, 2) := by decide +kernel
theorem dX5_init_142 : decode cX5_init 142 = .ok (.putfield 62, 3) := by decide +kernel
theorem dX5_init_145 : decode cX5_init 145 = .ok (.aload_n 0, 1) := by decide +kernel
theorem dX5_init_146 : decode cX5_init 146 = .ok (.iconst 4, 1) := by decide +kernel
theorem dX5_init_147 : decode cX5_init 147 = .ok (.newarray .int, 2) := by decide +kernel
theorem dX5_init_149 : decode cX5_init 149 = .ok (.putfield 65, 3) := by decide +kernel
theorem dX5_init_152 : decode cX5_init 152 = .ok (.aload_n 0, 1) := by decide +kernel
theorem dX5_init_153 : decode cX5_init 153 = .ok (.sipush 240, 3) := by decide +kernel
theorem dX5_init_156 : decode cX5_init 156 = .ok (.newarray .int, 2) := by decide +kernel
theorem dX5_init_158 : decode cX5_init 158 = .ok (.putfield 68, 3) := by decide +kernel
theorem dX5_init_161 : decode cX5_init 161 = .ok (.iconst 0, 1) := by decide +kernel
theorem dX5_init_162 : decode cX5_init 162 = .ok (.istore_n 1, 1) := by decide +kernel
theorem dX5_init_163 : decode cX5_init 163 = .ok (.iload_n 1, 1) := by decide +kernel
theorem dX5_init_164 : decode cX5_init 164 = .ok (.bipush 24, 2) := by decide +kernel
theorem dX5_init_166 : decode cX5_init 166 = .ok (.if_icmp .ge 44, 3) := by decide +kernel
theorem dX5_init_169 : decode cX5_init 169 = .ok (.aload_n 0, 1) := by decide +kernel
theorem dX5_init_170 : decode cX5_init 170 = .ok (.getfield 16, 3) := by decide +kernel
theorem dX5_init_173 : decode cX5_init 173 = .ok (.iload_n 1, 1) := by decide +kernel
theorem dX5_init_174 : decode cX5_init 174 = .ok (.iconst (-1), 1) := by decide +kernel
theorem dX5_init_175 : decode cX5_init 175 = .ok (.iastore, 1) := by decide +kernel
theorem dX5_init_176 : decode cX5_init 176 = .ok (.aload_n 0, 1) := by decide +kernel
theorem dX5_init_177 : decode cX5_init 177 = .ok (.getfield 22, 3) := by decide +kernel
theorem dX5_init_180 : decode cX5_init 180 = .ok (.iload_n 1, 1) := by decide +kernel
theorem dX5_init_181 : decode cX5_init 181 = .ok (.iconst (-1), 1) := by decide +kernel
theorem dX5_init_182 : decode cX5_init 182 = .ok (.iastore, 1) := by decide +kernel
theorem dX5_init_183 : decode cX5_init 183 = .ok (.aload_n 0, 1) := by decide +kernel
theorem dX5_init_184 : decode cX5_init 184 = .ok (.getfield 25, 3) := by decide +kernel
theorem dX5_init_187 : decode cX5_init 187 = .ok (.iload_n 1, 1) := by decide +kernel
theorem dX5_init_188 : decode cX5_init 188 = .ok (.iconst (-1), 1) := by decide +kernel
theorem dX5_init_189 : decode cX5_init 189 = .ok (.iastore, 1) := by decide +kernel
theorem dX5_init_190 : decode cX5_init 190 = .ok (.aload_n 0, 1) := by decide +kernel
theorem dX5_init_191 : decode cX5_init 191 = .ok (.getfield 31, 3) := by decide +kernel
theorem dX5_init_194 : decode cX5_init 194 = .ok (.iload_n 1, 1) := by decide +kernel
theorem dX5_init_195 : decode cX5_init 195 = .ok (.iconst (-1), 1) := by decide +kernel
theorem dX5_init_196 : decode cX5_init 196 = .ok (.iastore, 1) := by decide +kernel
theorem dX5_init_197 : decode cX5_init 197 = .ok (.aload_n 0, 1) := by decide +kernel
theorem dX5_init_198 : decode cX5_init 198 = .ok (.getfield 47, 3) := by decide +kernel
theorem dX5_init_201 : decode cX5_init 201 = .ok (.iload_n 1, 1) := by decide +kernel
theorem dX5_init_202 : decode cX5_init 202 = .ok (.iconst (-1), 1) := by decide +kernel
theorem dX5_init_203 : decode cX5_init 203 = .ok (.iastore, 1) := by decide +kernel
theorem dX5_init_204 : decode cX5_init 204 = .ok (.iinc 1 1, 3) := by decide +kernel
theorem dX5_init_207 : decode cX5_init 207 = .ok (.goto (-44), 3) := by decide +kernel
theorem dX5_init_210 : decode cX5_init 210 = .ok (.iconst 0, 1) := by decide +kernel
theorem dX5_init_211 : decode cX5_init 211 = .ok (.istore_n 1, 1) := by decide +kernel
theorem dX5_init_212 : decode cX5_init 212 = .ok (.iload_n 1, 1) := by decide +kernel
theorem dX5_init_213 : decode cX5_init 213 = .ok (.iconst 4, 1) := by decide +kernel
theorem dX5_init_214 : decode cX5_init 214 = .ok (.if_icmp .ge 23, 3) := by decide +kernel
theorem dX5_init_217 : decode cX5_init 217 = .ok (.aload_n 0, 1) := by decide +kernel
theorem dX5_init_218 : decode cX5_init 218 = .ok (.getfield 50, 3) := by decide +kernel
theorem dX5_init_221 : decode cX5_init 221 = .ok (.iload_n 1, 1) := by decide +kernel
theorem dX5_init_222 : decode cX5_init 222 = .ok (.iconst (-1), 1) := by decide +kernel
theorem dX5_init_223 : decode cX5_init 223 = .ok (.iastore, 1) := by decide +kernel
theorem dX5_init_224 : decode cX5_init 224 = .ok (.aload_n 0, 1) := by decide +kernel
theorem dX5_init_225 : decode cX5_init 225 = .ok (.getfield 65, 3) := by decide +kernel
theorem dX5_init_228 : decode cX5_init 228 = .ok (.iload_n 1, 1) := by decide +kernel
theorem dX5_init_229 : decode cX5_init 229 = .ok (.iconst (-1), 1) := by decide +kernel
theorem dX5_init_230 : decode cX5_init 230 = .ok (.iastore, 1) := by decide +kernel
theorem dX5_init_231 : decode cX5_init 231 = .ok (.iinc 1 1, 3) := by decide +kernel
theorem dX5_init_234 : decode cX5_init 234 = .ok (.goto (-22), 3) := by decide +kernel
theorem dX5_init_237 : decode cX5_init 237 = .ok (.iconst 0, 1) := by decide +kernel
theorem dX5_init_238 : decode cX5_init 238 = .ok (.istore_n 1, 1) := by decide +kernel
theorem dX5_init_239 : decode cX5_init 239 = .ok (.iload_n 1, 1) := by decide +kernel
theorem dX5_init_240 : decode cX5_init 240 = .ok (.bipush 32, 2) := by decide +kernel
theorem dX5_init_242 : decode cX5_init 242 = .ok (.if_icmp .ge 16, 3) := by decide +kernel
theorem dX5_init_245 : decode cX5_init 245 = .ok (.aload_n 0, 1) := by decide +kernel
theorem dX5_init_246 : decode cX5_init 246 = .ok (.getfield 53, 3) := by decide +kernel
theorem dX5_init_249 : decode cX5_init 249 = .ok (.iload_n 1, 1) := by decide +kernel
theorem dX5_init_250 : decode cX5_init 250 = .ok (.iconst (-1), 1) := by decide +kernel
theorem dX5_init_251 : decode cX5_init 251 = .ok (.iastore, 1) := by decide +kernel
theorem dX5_init_252 : decode cX5_init 252 = .ok (.iinc 1 1, 3) := by decide +kernel
theorem dX5_init_255 : decode cX5_init 255 = .ok (.goto (-16), 3) := by decide +kernel
theorem dX5_init_258 : decode cX5_init 258 = .ok (.return_, 1) := by decide +kernel
theorem dX5_thrown_0 : decode cX5_thrown 0 = .ok (.aload_n 0, 1) := by decide +kernel
theorem dX5_thrown_1 : decode cX5_thrown 1 = .ok (.getfield 71, 3) := by decide +kernel
theorem dX5_thrown_4 : decode cX5_thrown 4 = .ok (.ireturn, 1) := by decide +kernel
theorem dX5_throwing_0 : decode cX5_throwing 0 = .ok (.aload_n 0, 1) := by decide +kernel
theorem dX5_throwing_1 : decode cX5_throwing 1 = .ok (.iload_n 1, 1) := by decide +kernel
theorem dX5_throwing_2 : decode cX5_throwing 2 = .ok (.ifCond .eq 7, 3) := by decide +kernel
theorem dX5_throwing_5 : decode cX5_throwing 5 = .ok (.iconst 1, 1) := by decide +kernel
theorem dX5_throwing_6 : decode cX5_throwing 6 = .ok (.goto 12, 3) := by decide +kernel
theorem dX5_throwing_9 : decode cX5_throwing 9 = .ok (.iload_n 2, 1) := by decide +kernel
theorem dX5_throwing_10 : decode cX5_throwing 10 = .ok (.ifCond .eq 7, 3) := by decide +kernel
theorem dX5_throwing_13 : decode cX5_throwing 13 = .ok (.iconst 2, 1) := by decide +kernel
theorem dX5_throwing_14 : decode cX5_throwing 14 = .ok (.goto 4, 3) := by decide +kernel
theorem dX5_throwing_17 : decode cX5_throwing 17 = .ok (.iconst 0, 1) := by decide +kernel
theorem dX5_throwing_18 : decode cX5_throwing 18 = .ok (.putfield 71, 3) := by decide +kernel
theorem dX5_throwing_21 : decode cX5_throwing 21 = .ok (.aload_n 0, 1) := by decide +kernel
theorem dX5_throwing_22 : decode cX5_throwing 22 = .ok (.getfield 71, 3) := by decide +kernel
theorem dX5_throwing_25 : decode cX5_throwing 25 = .ok (.ifCond .le 7, 3) := by decide +kernel
theorem dX5_throwing_28 : decode cX5_throwing 28 = .ok (.iconst 1, 1) := by decide +kernel
theorem dX5_throwing_29 : decode cX5_throwing 29 = .ok (.goto 4, 3) := by decide +kernel
theorem dX5_throwing_32 : decode cX5_throwing 32 = .ok (.iconst 0, 1) := by decide +kernel
theorem dX5_throwing_33 : decode cX5_throwing 33 = .ok (.ireturn, 1) := by decide +kernel
theorem dX5_in_0 : decode cX5_in 0 = .ok (.iload_n 0, 1) := by decide +kernel
theorem dX5_in_1 : decode cX5_in 1 = .ok (.iload_n 1, 1) := by decide +kernel
theorem dX5_in_2 : decode cX5_in 2 = .ok (.if_icmp .lt 12, 3) := by decide +kernel
theorem dX5_in_5 : decode cX5_in 5 = .ok (.iload_n 0, 1) := by decide +kernel
theorem dX5_in_6 : decode cX5_in 6 = .ok (.iload_n 2, 1) := by decide +kernel
theorem dX5_in_7 : decode cX5_in 7 = .ok (.if_icmp .gt 7, 3) := by decide +kernel
theorem dX5_in_10 : decode cX5_in 10 = .ok (.iconst 1, 1) := by decide +kernel
theorem dX5_in_11 : decode cX5_in 11 = .ok (.goto 4, 3) := by decide +kernel
theorem dX5_in_14 : decode cX5_in 14 = .ok (.iconst 0, 1) := by decide +kernel
theorem dX5_in_15 : decode cX5_in 15 = .ok (.ireturn, 1) := by decide +kernel
set_option maxRecDepth 20000 in
theorem ggX5_isLine_X5_in : GoodIn wsX5_isLine wsX5_in := goodIn_r _ [4] (by decide +kernel) (by decide +kernel)
set_option maxRecDepth 20000 in
theorem gX5_isLine_X5_in : GoodIn wsX5_isLine (va_wsS RX5 75 yX5_in wsX5_in) := goodIn_app (goodIn_of _ (by decide +kernel)) ggX5_isLine_X5_in
theorem dX5_isLine_0 : decode cX5_isLine 0 = .ok (.iload_n 0, 1) := by decide +kernel
theorem dX5_isLine_1 : decode cX5_isLine 1 = .ok (.iconst 0, 1) := by decide +kernel
theorem dX5_isLine_2 : decode cX5_isLine 2 = .ok (.bipush 23, 2) := by decide +kernel
theorem dX5_isLine_4 : decode cX5_isLine 4 = .ok (.invokestatic 75, 3) := by decide +kernel
theorem dX5_isLine_7 : decode cX5_isLine 7 = .ok (.ireturn, 1) := by decide +kernel
theorem dX5_free_0 : decode cX5_free 0 = .ok (.iconst 0, 1) := by decide +kernel
theorem dX5_free_1 : decode cX5_free 1 = .ok (.istore_n 3, 1) := by decide +kernel
theorem dX5_free_2 : decode cX5_free 2 = .ok (.iload_n 3, 1) := by decide +kernel
theorem dX5_free_3 : decode cX5_free 3 = .ok (.bipush 8, 2) := by decide +kernel
theorem dX5_free_5 : decode cX5_free 5 = .ok (.if_icmp .ge 47, 3) := by decide +kernel
theorem dX5_free_8 : decode cX5_free 8 = .ok (.aload_n 0, 1) := by decide +kernel
theorem dX5_free_9 : decode cX5_free 9 = .ok (.getfield 53, 3) := by decide +kernel
theorem dX5_free_12 : decode cX5_free 12 = .ok (.bipush 8, 2) := by decide +kernel
theorem dX5_free_14 : decode cX5_free 14 = .ok (.iload_n 1, 1) := by decide +kernel
theorem dX5_free_15 : decode cX5_free 15 = .ok (.bipush 6, 2) := by decide +kernel
theorem dX5_free_17 : decode cX5_free 17 = .ok (.idiv, 1) := by decide +kernel
theorem dX5_free_18 : decode cX5_free 18 = .ok (.imul, 1) := by decide +kernel
theorem dX5_free_19 : decode cX5_free 19 = .ok (.iload_n 3, 1) := by decide +kernel
theorem dX5_free_20 : decode cX5_free 20 = .ok (.iadd, 1) := by decide +kernel
theorem dX5_free_21 : decode cX5_free 21 = .ok (.iaload, 1) := by decide +kernel
theorem dX5_free_22 : decode cX5_free 22 = .ok (.iconst (-1), 1) := by decide +kernel
theorem dX5_free_23 : decode cX5_free 23 = .ok (.if_icmp .ne 23, 3) := by decide +kernel
theorem dX5_free_26 : decode cX5_free 26 = .ok (.aload_n 0, 1) := by decide +kernel
theorem dX5_free_27 : decode cX5_free 27 = .ok (.getfield 53, 3) := by decide +kernel
theorem dX5_free_30 : decode cX5_free 30 = .ok (.bipush 8, 2) := by decide +kernel
theorem dX5_free_32 : decode cX5_free 32 = .ok (.iload_n 2, 1) := by decide +kernel
theorem dX5_free_33 : decode cX5_free 33 = .ok (.bipush 6, 2) := by decide +kernel
theorem dX5_free_35 : decode cX5_free 35 = .ok (.idiv, 1) := by decide +kernel
theorem dX5_free_36 : decode cX5_free 36 = .ok (.imul, 1) := by decide +kernel
theorem dX5_free_37 : decode cX5_free 37 = .ok (.iload_n 3, 1) := by decide +kernel
theorem dX5_free_38 : decode cX5_free 38 = .ok (.iadd, 1) := by decide +kernel
theorem dX5_free_39 : decode cX5_free 39 = .ok (.iaload, 1) := by decide +kernel
theorem dX5_free_40 : decode cX5_free 40 = .ok (.iconst (-1), 1) := by decide +kernel
theorem dX5_free_41 : decode cX5_free 41 = .ok (.if_icmp .ne 5, 3) := by decide +kernel
theorem dX5_free_44 : decode cX5_free 44 = .ok (.iload_n 3, 1) := by decide +kernel
theorem dX5_free_45 : decode cX5_free 45 = .ok (.ireturn, 1) := by decide +kernel
theorem dX5_free_46 : decode cX5_free 46 = .ok (.iinc 3 1, 3) := by decide +kernel
theorem dX5_free_49 : decode cX5_free 49 = .ok (.goto (-47), 3) := by decide +kernel
theorem dX5_free_52 : decode cX5_free 52 = .ok (.iconst (-1), 1) := by decide +kernel
theorem dX5_free_53 : decode cX5_free 53 = .ok (.ireturn, 1) := by decide +kernel
theorem dX5_use_0 : decode cX5_use 0 = .ok (.aload_n 0, 1) := by decide +kernel
theorem dX5_use_1 : decode cX5_use 1 = .ok (.getfield 53, 3) := by decide +kernel
theorem dX5_use_4 : decode cX5_use 4 = .ok (.bipush 8, 2) := by decide +kernel
theorem dX5_use_6 : decode cX5_use 6 = .ok (.iload_n 1, 1) := by decide +kernel
theorem dX5_use_7 : decode cX5_use 7 = .ok (.bipush 6, 2) := by decide +kernel
theorem dX5_use_9 : decode cX5_use 9 = .ok (.idiv, 1) := by decide +kernel
theorem dX5_use_10 : decode cX5_use 10 = .ok (.imul, 1) := by decide +kernel
theorem dX5_use_11 : decode cX5_use 11 = .ok (.iload_n 3, 1) := by decide +kernel
theorem dX5_use_12 : decode cX5_use 12 = .ok (.iadd, 1) := by decide +kernel
theorem dX5_use_13 : decode cX5_use 13 = .ok (.iload 4, 2) := by decide +kernel
theorem dX5_use_15 : decode cX5_use 15 = .ok (.iastore, 1) := by decide +kernel
theorem dX5_use_16 : decode cX5_use 16 = .ok (.aload_n 0, 1) := by decide +kernel
theorem dX5_use_17 : decode cX5_use 17 = .ok (.getfield 53, 3) := by decide +kernel
theorem dX5_use_20 : decode cX5_use 20 = .ok (.bipush 8, 2) := by decide +kernel
theorem dX5_use_22 : decode cX5_use 22 = .ok (.iload_n 2, 1) := by decide +kernel
theorem dX5_use_23 : decode cX5_use 23 = .ok (.bipush 6, 2) := by decide +kernel
theorem dX5_use_25 : decode cX5_use 25 = .ok (.idiv, 1) := by decide +kernel
theorem dX5_use_26 : decode cX5_use 26 = .ok (.imul, 1) := by decide +kernel
theorem dX5_use_27 : decode cX5_use 27 = .ok (.iload_n 3, 1) := by decide +kernel
theorem dX5_use_28 : decode cX5_use 28 = .ok (.iadd, 1) := by decide +kernel
theorem dX5_use_29 : decode cX5_use 29 = .ok (.iload 4, 2) := by decide +kernel
theorem dX5_use_31 : decode cX5_use 31 = .ok (.iastore, 1) := by decide +kernel
theorem dX5_use_32 : decode cX5_use 32 = .ok (.return_, 1) := by decide +kernel
set_option maxRecDepth 20000 in
theorem ggX5_take_X5_free : GoodIn wsX5_take wsX5_free := goodIn_r _ [5, 6, 11, 12, 13, 14, 15, 16, 17, 18, 19, 20, 21, 22, 23, 24, 25, 26, 27, 28, 29, 30, 31, 32, 33, 34, 35] (by decide +kernel) (by decide +kernel)
set_option maxRecDepth 20000 in
theorem gX5_take_X5_free : GoodIn wsX5_take (wsV RX5 79 RX5 yX5_free wsX5_free) := goodIn_app (goodIn_of _ (by decide +kernel)) ggX5_take_X5_free
set_option maxRecDepth 20000 in
theorem ggX5_take_X5_use : GoodIn wsX5_take wsX5_use := goodIn_r _ [10, 6, 11, 12, 13, 14, 15, 16, 17, 18, 19, 20, 21, 22, 23, 24, 25, 26, 27, 28, 29, 30, 31, 32, 33, 34, 35] (by decide +kernel) (by decide +kernel)
set_option maxRecDepth 20000 in
theorem gX5_take_X5_use : GoodIn wsX5_take (wsV RX5 83 RX5 yX5_use wsX5_use) := goodIn_app (goodIn_of _ (by decide +kernel)) ggX5_take_X5_use
theorem dX5_take_0 : decode cX5_take 0 = .ok (.aload_n 0, 1) := by decide +kernel
theorem dX5_take_1 : decode cX5_take 1 = .ok (.iload_n 1, 1) := by decide +kernel
theorem dX5_take_2 : decode cX5_take 2 = .ok (.iload_n 2, 1) := by decide +kernel
theorem dX5_take_3 : decode cX5_take 3 = .ok (.invokevirtual 79, 3) := by decide +kernel
theorem dX5_take_6 : decode cX5_take 6 = .ok (.istore_n 3, 1) := by decide +kernel
theorem dX5_take_7 : decode cX5_take 7 = .ok (.iload_n 3, 1) := by decide +kernel
theorem dX5_take_8 : decode cX5_take 8 = .ok (.ifCond .lt 20, 3) := by decide +kernel
theorem dX5_take_11 : decode cX5_take 11 = .ok (.aload_n 0, 1) := by decide +kernel
theorem dX5_take_12 : decode cX5_take 12 = .ok (.iload_n 1, 1) := by decide +kernel
theorem dX5_take_13 : decode cX5_take 13 = .ok (.iload_n 2, 1) := by decide +kernel
theorem dX5_take_14 : decode cX5_take 14 = .ok (.iload_n 3, 1) := by decide +kernel
theorem dX5_take_15 : decode cX5_take 15 = .ok (.iload_n 1, 1) := by decide +kernel
theorem dX5_take_16 : decode cX5_take 16 = .ok (.iload_n 2, 1) := by decide +kernel
theorem dX5_take_17 : decode cX5_take 17 = .ok (.if_icmp .ge 7, 3) := by decide +kernel
theorem dX5_take_20 : decode cX5_take 20 = .ok (.iload_n 1, 1) := by decide +kernel
theorem dX5_take_21 : decode cX5_take 21 = .ok (.goto 4, 3) := by decide +kernel
theorem dX5_take_24 : decode cX5_take 24 = .ok (.iload_n 2, 1) := by decide +kernel
theorem dX5_take_25 : decode cX5_take 25 = .ok (.invokevirtual 83, 3) := by decide +kernel
theorem dX5_take_28 : decode cX5_take 28 = .ok (.iload_n 3, 1) := by decide +kernel
theorem dX5_take_29 : decode cX5_take 29 = .ok (.ireturn, 1) := by decide +kernel
theorem dX5_become_0 : decode cX5_become 0 = .ok (.aload_n 0, 1) := by decide +kernel
theorem dX5_become_1 : decode cX5_become 1 = .ok (.getfield 7, 3) := by decide +kernel
theorem dX5_become_4 : decode cX5_become 4 = .ok (.iload_n 1, 1) := by decide +kernel
theorem dX5_become_5 : decode cX5_become 5 = .ok (.iload_n 2, 1) := by decide +kernel
theorem dX5_become_6 : decode cX5_become 6 = .ok (.iastore, 1) := by decide +kernel
theorem dX5_become_7 : decode cX5_become 7 = .ok (.aload_n 0, 1) := by decide +kernel
theorem dX5_become_8 : decode cX5_become 8 = .ok (.getfield 13, 3) := by decide +kernel
theorem dX5_become_11 : decode cX5_become 11 = .ok (.iload_n 1, 1) := by decide +kernel
theorem dX5_become_12 : decode cX5_become 12 = .ok (.aload_n 0, 1) := by decide +kernel
theorem dX5_become_13 : decode cX5_become 13 = .ok (.getfield 87, 3) := by decide +kernel
theorem dX5_become_16 : decode cX5_become 16 = .ok (.iastore, 1) := by decide +kernel
theorem dX5_become_17 : decode cX5_become 17 = .ok (.aload_n 0, 1) := by decide +kernel
theorem dX5_become_18 : decode cX5_become 18 = .ok (.getfield 31, 3) := by decide +kernel
theorem dX5_become_21 : decode cX5_become 21 = .ok (.iload_n 1, 1) := by decide +kernel
theorem dX5_become_22 : decode cX5_become 22 = .ok (.iconst (-1), 1) := by decide +kernel
theorem dX5_become_23 : decode cX5_become 23 = .ok (.iastore, 1) := by decide +kernel
theorem dX5_become_24 : decode cX5_become 24 = .ok (.iload_n 2, 1) := by decide +kernel
theorem dX5_become_25 : decode cX5_become 25 = .ok (.ifCond .eq 4, 3) := by decide +kernel
theorem dX5_become_28 : decode cX5_become 28 = .ok (.return_, 1) := by decide +kernel
theorem dX5_become_29 : decode cX5_become 29 = .ok (.aload_n 0, 1) := by decide +kernel
theorem dX5_become_30 : decode cX5_become 30 = .ok (.getfield 16, 3) := by decide +kernel
theorem dX5_become_33 : decode cX5_become 33 = .ok (.iload_n 1, 1) := by decide +kernel
theorem dX5_become_34 : decode cX5_become 34 = .ok (.aload_n 0, 1) := by decide +kernel
theorem dX5_become_35 : decode cX5_become 35 = .ok (.getfield 87, 3) := by decide +kernel
theorem dX5_become_38 : decode cX5_become 38 = .ok (.iastore, 1) := by decide +kernel
theorem dX5_become_39 : decode cX5_become 39 = .ok (.aload_n 0, 1) := by decide +kernel
theorem dX5_become_40 : decode cX5_become 40 = .ok (.getfield 22, 3) := by decide +kernel
theorem dX5_become_43 : decode cX5_become 43 = .ok (.iload_n 1, 1) := by decide +kernel
theorem dX5_become_44 : decode cX5_become 44 = .ok (.iconst (-1), 1) := by decide +kernel
theorem dX5_become_45 : decode cX5_become 45 = .ok (.iastore, 1) := by decide +kernel
theorem dX5_become_46 : decode cX5_become 46 = .ok (.aload_n 0, 1) := by decide +kernel
theorem dX5_become_47 : decode cX5_become 47 = .ok (.getfield 25, 3) := by decide +kernel
theorem dX5_become_50 : decode cX5_become 50 = .ok (.iload_n 1, 1) := by decide +kernel
theorem dX5_become_51 : decode cX5_become 51 = .ok (.iconst (-1), 1) := by decide +kernel
theorem dX5_become_52 : decode cX5_become 52 = .ok (.iastore, 1) := by decide +kernel
theorem dX5_become_53 : decode cX5_become 53 = .ok (.return_, 1) := by decide +kernel
set_option maxRecDepth 20000 in
theorem ggX5_busy_X5_become : GoodIn wsX5_busy wsX5_become := goodIn_r _ [7, 8, 9, 10, 11, 12, 1, 2, 13, 14, 15, 16, 17, 18, 19, 20, 21, 22, 23, 24, 25, 26, 27, 28, 29, 30, 31, 32, 33, 34, 35, 36, 37] (by decide +kernel) (by decide +kernel)
set_option maxRecDepth 20000 in
theorem gX5_busy_X5_become : GoodIn wsX5_busy (wsV RX5 90 RX5 yX5_become wsX5_become) := goodIn_app (goodIn_of _ (by decide +kernel)) ggX5_busy_X5_become
theorem dX5_busy_0 : decode cX5_busy 0 = .ok (.aload_n 0, 1) := by decide +kernel
theorem dX5_busy_1 : decode cX5_busy 1 = .ok (.iload_n 1, 1) := by decide +kernel
theorem dX5_busy_2 : decode cX5_busy 2 = .ok (.iconst 5, 1) := by decide +kernel
theorem dX5_busy_3 : decode cX5_busy 3 = .ok (.invokevirtual 90, 3) := by decide +kernel
theorem dX5_busy_6 : decode cX5_busy 6 = .ok (.aload_n 0, 1) := by decide +kernel
theorem dX5_busy_7 : decode cX5_busy 7 = .ok (.getfield 22, 3) := by decide +kernel
theorem dX5_busy_10 : decode cX5_busy 10 = .ok (.iload_n 1, 1) := by decide +kernel
theorem dX5_busy_11 : decode cX5_busy 11 = .ok (.iconst (-1), 1) := by decide +kernel
theorem dX5_busy_12 : decode cX5_busy 12 = .ok (.iastore, 1) := by decide +kernel
theorem dX5_busy_13 : decode cX5_busy 13 = .ok (.aload_n 0, 1) := by decide +kernel
theorem dX5_busy_14 : decode cX5_busy 14 = .ok (.getfield 25, 3) := by decide +kernel
theorem dX5_busy_17 : decode cX5_busy 17 = .ok (.iload_n 1, 1) := by decide +kernel
theorem dX5_busy_18 : decode cX5_busy 18 = .ok (.iconst (-1), 1) := by decide +kernel
theorem dX5_busy_19 : decode cX5_busy 19 = .ok (.iastore, 1) := by decide +kernel
theorem dX5_busy_20 : decode cX5_busy 20 = .ok (.return_, 1) := by decide +kernel
set_option maxRecDepth 20000 in
theorem ggX5_ring_X5_become : GoodIn wsX5_ring wsX5_become := goodIn_r _ [10, 5, 11, 12, 13, 14, 1, 2, 15, 16, 17, 18, 19, 20, 21, 22, 23, 24, 25, 26, 27, 28, 29, 30, 31, 32, 33, 34, 35, 36, 37, 38, 39] (by decide +kernel) (by decide +kernel)
set_option maxRecDepth 20000 in
theorem gX5_ring_X5_become : GoodIn wsX5_ring (wsV RX5 90 RX5 yX5_become wsX5_become) := goodIn_app (goodIn_of _ (by decide +kernel)) ggX5_ring_X5_become
theorem dX5_ring_0 : decode cX5_ring 0 = .ok (.aload_n 0, 1) := by decide +kernel
theorem dX5_ring_1 : decode cX5_ring 1 = .ok (.iload_n 2, 1) := by decide +kernel
theorem dX5_ring_2 : decode cX5_ring 2 = .ok (.iconst 4, 1) := by decide +kernel
theorem dX5_ring_3 : decode cX5_ring 3 = .ok (.invokevirtual 90, 3) := by decide +kernel
theorem dX5_ring_6 : decode cX5_ring 6 = .ok (.aload_n 0, 1) := by decide +kernel
theorem dX5_ring_7 : decode cX5_ring 7 = .ok (.getfield 22, 3) := by decide +kernel
theorem dX5_ring_10 : decode cX5_ring 10 = .ok (.iload_n 2, 1) := by decide +kernel
theorem dX5_ring_11 : decode cX5_ring 11 = .ok (.iload_n 1, 1) := by decide +kernel
theorem dX5_ring_12 : decode cX5_ring 12 = .ok (.iastore, 1) := by decide +kernel
theorem dX5_ring_13 : decode cX5_ring 13 = .ok (.aload_n 0, 1) := by decide +kernel
theorem dX5_ring_14 : decode cX5_ring 14 = .ok (.getfield 25, 3) := by decide +kernel
theorem dX5_ring_17 : decode cX5_ring 17 = .ok (.iload_n 2, 1) := by decide +kernel
theorem dX5_ring_18 : decode cX5_ring 18 = .ok (.iload_n 3, 1) := by decide +kernel
theorem dX5_ring_19 : decode cX5_ring 19 = .ok (.iastore, 1) := by decide +kernel
theorem dX5_ring_20 : decode cX5_ring 20 = .ok (.aload_n 0, 1) := by decide +kernel
theorem dX5_ring_21 : decode cX5_ring 21 = .ok (.getfield 28, 3) := by decide +kernel
theorem dX5_ring_24 : decode cX5_ring 24 = .ok (.iload_n 2, 1) := by decide +kernel
theorem dX5_ring_25 : decode cX5_ring 25 = .ok (.aload_n 0, 1) := by decide +kernel
theorem dX5_ring_26 : decode cX5_ring 26 = .ok (.getfield 94, 3) := by decide +kernel
theorem dX5_ring_29 : decode cX5_ring 29 = .ok (.iastore, 1) := by decide +kernel
theorem dX5_ring_30 : decode cX5_ring 30 = .ok (.aload_n 0, 1) := by decide +kernel
theorem dX5_ring_31 : decode cX5_ring 31 = .ok (.dup, 1) := by decide +kernel
theorem dX5_ring_32 : decode cX5_ring 32 = .ok (.getfield 94, 3) := by decide +kernel
theorem dX5_ring_35 : decode cX5_ring 35 = .ok (.iconst 1, 1) := by decide +kernel
theorem dX5_ring_36 : decode cX5_ring 36 = .ok (.iadd, 1) := by decide +kernel
theorem dX5_ring_37 : decode cX5_ring 37 = .ok (.putfield 94, 3) := by decide +kernel
theorem dX5_ring_40 : decode cX5_ring 40 = .ok (.aload_n 0, 1) := by decide +kernel
theorem dX5_ring_41 : decode cX5_ring 41 = .ok (.getfield 7, 3) := by decide +kernel
theorem dX5_ring_44 : decode cX5_ring 44 = .ok (.iload_n 1, 1) := by decide +kernel
theorem dX5_ring_45 : decode cX5_ring 45 = .ok (.iaload, 1) := by decide +kernel
theorem dX5_ring_46 : decode cX5_ring 46 = .ok (.iconst 3, 1) := by decide +kernel
theorem dX5_ring_47 : decode cX5_ring 47 = .ok (.if_icmp .eq 9, 3) := by decide +kernel
theorem dX5_ring_50 : decode cX5_ring 50 = .ok (.aload_n 0, 1) := by decide +kernel
theorem dX5_ring_51 : decode cX5_ring 51 = .ok (.iload_n 1, 1) := by decide +kernel
theorem dX5_ring_52 : decode cX5_ring 52 = .ok (.iconst 3, 1) := by decide +kernel
theorem dX5_ring_53 : decode cX5_ring 53 = .ok (.invokevirtual 90, 3) := by decide +kernel
theorem dX5_ring_56 : decode cX5_ring 56 = .ok (.return_, 1) := by decide +kernel
set_option maxRecDepth 20000 in
theorem ggX5_connect_X5_become : GoodIn wsX5_connect wsX5_become := goodIn_r _ [10, 11, 12, 5, 13, 14, 1, 2, 15, 16, 17, 18, 19, 20, 21, 22, 23, 24, 25, 26, 27, 28, 29, 30, 31, 32, 33, 34, 35, 36, 37, 38, 39] (by decide +kernel) (by decide +kernel)
set_option maxRecDepth 20000 in
theorem gX5_connect_X5_become : GoodIn wsX5_connect (wsV RX5 90 RX5 yX5_become wsX5_become) := goodIn_app (goodIn_of _ (by decide +kernel)) ggX5_connect_X5_become
theorem dX5_connect_0 : decode cX5_connect 0 = .ok (.aload_n 0, 1) := by decide +kernel
theorem dX5_connect_1 : decode cX5_connect 1 = .ok (.iload_n 1, 1) := by decide +kernel
theorem dX5_connect_2 : decode cX5_connect 2 = .ok (.bipush 6, 2) := by decide +kernel
theorem dX5_connect_4 : decode cX5_connect 4 = .ok (.invokevirtual 90, 3) := by decide +kernel
theorem dX5_connect_7 : decode cX5_connect 7 = .ok (.aload_n 0, 1) := by decide +kernel
theorem dX5_connect_8 : decode cX5_connect 8 = .ok (.iload_n 2, 1) := by decide +kernel
theorem dX5_connect_9 : decode cX5_connect 9 = .ok (.bipush 6, 2) := by decide +kernel
theorem dX5_connect_11 : decode cX5_connect 11 = .ok (.invokevirtual 90, 3) := by decide +kernel
theorem dX5_connect_14 : decode cX5_connect 14 = .ok (.aload_n 0, 1) := by decide +kernel
theorem dX5_connect_15 : decode cX5_connect 15 = .ok (.getfield 22, 3) := by decide +kernel
theorem dX5_connect_18 : decode cX5_connect 18 = .ok (.iload_n 1, 1) := by decide +kernel
theorem dX5_connect_19 : decode cX5_connect 19 = .ok (.iload_n 2, 1) := by decide +kernel
theorem dX5_connect_20 : decode cX5_connect 20 = .ok (.iastore, 1) := by decide +kernel
theorem dX5_connect_21 : decode cX5_connect 21 = .ok (.aload_n 0, 1) := by decide +kernel
theorem dX5_connect_22 : decode cX5_connect 22 = .ok (.getfield 22, 3) := by decide +kernel
theorem dX5_connect_25 : decode cX5_connect 25 = .ok (.iload_n 2, 1) := by decide +kernel
theorem dX5_connect_26 : decode cX5_connect 26 = .ok (.iload_n 1, 1) := by decide +kernel
theorem dX5_connect_27 : decode cX5_connect 27 = .ok (.iastore, 1) := by decide +kernel
theorem dX5_connect_28 : decode cX5_connect 28 = .ok (.aload_n 0, 1) := by decide +kernel
theorem dX5_connect_29 : decode cX5_connect 29 = .ok (.getfield 25, 3) := by decide +kernel
theorem dX5_connect_32 : decode cX5_connect 32 = .ok (.iload_n 1, 1) := by decide +kernel
theorem dX5_connect_33 : decode cX5_connect 33 = .ok (.iload_n 3, 1) := by decide +kernel
theorem dX5_connect_34 : decode cX5_connect 34 = .ok (.iastore, 1) := by decide +kernel
theorem dX5_connect_35 : decode cX5_connect 35 = .ok (.aload_n 0, 1) := by decide +kernel
theorem dX5_connect_36 : decode cX5_connect 36 = .ok (.getfield 25, 3) := by decide +kernel
theorem dX5_connect_39 : decode cX5_connect 39 = .ok (.iload_n 2, 1) := by decide +kernel
theorem dX5_connect_40 : decode cX5_connect 40 = .ok (.iload_n 3, 1) := by decide +kernel
theorem dX5_connect_41 : decode cX5_connect 41 = .ok (.iastore, 1) := by decide +kernel
theorem dX5_connect_42 : decode cX5_connect 42 = .ok (.aload_n 0, 1) := by decide +kernel
theorem dX5_connect_43 : decode cX5_connect 43 = .ok (.getfield 41, 3) := by decide +kernel
theorem dX5_connect_46 : decode cX5_connect 46 = .ok (.iload_n 1, 1) := by decide +kernel
theorem dX5_connect_47 : decode cX5_connect 47 = .ok (.iconst 1, 1) := by decide +kernel
theorem dX5_connect_48 : decode cX5_connect 48 = .ok (.bastore, 1) := by decide +kernel
theorem dX5_connect_49 : decode cX5_connect 49 = .ok (.aload_n 0, 1) := by decide +kernel
theorem dX5_connect_50 : decode cX5_connect 50 = .ok (.getfield 41, 3) := by decide +kernel
theorem dX5_connect_53 : decode cX5_connect 53 = .ok (.iload_n 2, 1) := by decide +kernel
theorem dX5_connect_54 : decode cX5_connect 54 = .ok (.iconst 0, 1) := by decide +kernel
theorem dX5_connect_55 : decode cX5_connect 55 = .ok (.bastore, 1) := by decide +kernel
theorem dX5_connect_56 : decode cX5_connect 56 = .ok (.aload_n 0, 1) := by decide +kernel
theorem dX5_connect_57 : decode cX5_connect 57 = .ok (.getfield 44, 3) := by decide +kernel
theorem dX5_connect_60 : decode cX5_connect 60 = .ok (.iload_n 1, 1) := by decide +kernel
theorem dX5_connect_61 : decode cX5_connect 61 = .ok (.aload_n 0, 1) := by decide +kernel
theorem dX5_connect_62 : decode cX5_connect 62 = .ok (.getfield 87, 3) := by decide +kernel
theorem dX5_connect_65 : decode cX5_connect 65 = .ok (.iastore, 1) := by decide +kernel
theorem dX5_connect_66 : decode cX5_connect 66 = .ok (.return_, 1) := by decide +kernel
set_option maxRecDepth 20000 in
theorem ggX5_hush_X5_use : GoodIn wsX5_hush wsX5_use := goodIn_r _ [8, 9, 18, 19, 20, 21, 22, 23, 24, 25, 26, 27, 28, 29, 30, 31, 32, 33, 34, 35, 36, 37, 38, 39, 40, 41, 42] (by decide +kernel) (by decide +kernel)
set_option maxRecDepth 20000 in
theorem gX5_hush_X5_use : GoodIn wsX5_hush (wsV RX5 83 RX5 yX5_use wsX5_use) := goodIn_app (goodIn_of _ (by decide +kernel)) ggX5_hush_X5_use
set_option maxRecDepth 20000 in
theorem ggX5_hush_X5_become : GoodIn wsX5_hush wsX5_become := goodIn_r _ [13, 1, 14, 15, 16, 17, 2, 3, 18, 19, 20, 21, 22, 23, 24, 25, 26, 27, 28, 29, 30, 31, 32, 33, 34, 35, 36, 37, 38, 39, 40, 41, 42] (by decide +kernel) (by decide +kernel)
set_option maxRecDepth 20000 in
theorem gX5_hush_X5_become : GoodIn wsX5_hush (wsV RX5 90 RX5 yX5_become wsX5_become) := goodIn_app (goodIn_of _ (by decide +kernel)) ggX5_hush_X5_become
theorem dX5_hush_0 : decode cX5_hush 0 = .ok (.iconst 0, 1) := by decide +kernel
theorem dX5_hush_1 : decode cX5_hush 1 = .ok (.istore_n 3, 1) := by decide +kernel
theorem dX5_hush_2 : decode cX5_hush 2 = .ok (.iload_n 3, 1) := by decide +kernel
theorem dX5_hush_3 : decode cX5_hush 3 = .ok (.bipush 24, 2) := by decide +kernel
theorem dX5_hush_5 : decode cX5_hush 5 = .ok (.if_icmp .ge 53, 3) := by decide +kernel
theorem dX5_hush_8 : decode cX5_hush 8 = .ok (.aload_n 0, 1) := by decide +kernel
theorem dX5_hush_9 : decode cX5_hush 9 = .ok (.getfield 7, 3) := by decide +kernel
theorem dX5_hush_12 : decode cX5_hush 12 = .ok (.iload_n 3, 1) := by decide +kernel
theorem dX5_hush_13 : decode cX5_hush 13 = .ok (.iaload, 1) := by decide +kernel
theorem dX5_hush_14 : decode cX5_hush 14 = .ok (.iconst 4, 1) := by decide +kernel
theorem dX5_hush_15 : decode cX5_hush 15 = .ok (.if_icmp .ne 37, 3) := by decide +kernel
theorem dX5_hush_18 : decode cX5_hush 18 = .ok (.aload_n 0, 1) := by decide +kernel
theorem dX5_hush_19 : decode cX5_hush 19 = .ok (.getfield 22, 3) := by decide +kernel
theorem dX5_hush_22 : decode cX5_hush 22 = .ok (.iload_n 3, 1) := by decide +kernel
theorem dX5_hush_23 : decode cX5_hush 23 = .ok (.iaload, 1) := by decide +kernel
theorem dX5_hush_24 : decode cX5_hush 24 = .ok (.iload_n 1, 1) := by decide +kernel
theorem dX5_hush_25 : decode cX5_hush 25 = .ok (.if_icmp .ne 27, 3) := by decide +kernel
theorem dX5_hush_28 : decode cX5_hush 28 = .ok (.iload_n 3, 1) := by decide +kernel
theorem dX5_hush_29 : decode cX5_hush 29 = .ok (.iload_n 2, 1) := by decide +kernel
theorem dX5_hush_30 : decode cX5_hush 30 = .ok (.if_icmp .eq 22, 3) := by decide +kernel
theorem dX5_hush_33 : decode cX5_hush 33 = .ok (.aload_n 0, 1) := by decide +kernel
theorem dX5_hush_34 : decode cX5_hush 34 = .ok (.iload_n 1, 1) := by decide +kernel
theorem dX5_hush_35 : decode cX5_hush 35 = .ok (.iload_n 3, 1) := by decide +kernel
theorem dX5_hush_36 : decode cX5_hush 36 = .ok (.aload_n 0, 1) := by decide +kernel
theorem dX5_hush_37 : decode cX5_hush 37 = .ok (.getfield 25, 3) := by decide +kernel
theorem dX5_hush_40 : decode cX5_hush 40 = .ok (.iload_n 3, 1) := by decide +kernel
theorem dX5_hush_41 : decode cX5_hush 41 = .ok (.iaload, 1) := by decide +kernel
theorem dX5_hush_42 : decode cX5_hush 42 = .ok (.iconst (-1), 1) := by decide +kernel
theorem dX5_hush_43 : decode cX5_hush 43 = .ok (.invokevirtual 83, 3) := by decide +kernel
theorem dX5_hush_46 : decode cX5_hush 46 = .ok (.aload_n 0, 1) := by decide +kernel
theorem dX5_hush_47 : decode cX5_hush 47 = .ok (.iload_n 3, 1) := by decide +kernel
theorem dX5_hush_48 : decode cX5_hush 48 = .ok (.iconst 0, 1) := by decide +kernel
theorem dX5_hush_49 : decode cX5_hush 49 = .ok (.invokevirtual 90, 3) := by decide +kernel
theorem dX5_hush_52 : decode cX5_hush 52 = .ok (.iinc 3 1, 3) := by decide +kernel
theorem dX5_hush_55 : decode cX5_hush 55 = .ok (.goto (-53), 3) := by decide +kernel
theorem dX5_hush_58 : decode cX5_hush 58 = .ok (.return_, 1) := by decide +kernel
theorem dX5_unitsOf_0 : decode cX5_unitsOf 0 = .ok (.iconst 1, 1) := by decide +kernel
theorem dX5_unitsOf_1 : decode cX5_unitsOf 1 = .ok (.aload_n 0, 1) := by decide +kernel
theorem dX5_unitsOf_2 : decode cX5_unitsOf 2 = .ok (.getfield 87, 3) := by decide +kernel
theorem dX5_unitsOf_5 : decode cX5_unitsOf 5 = .ok (.aload_n 0, 1) := by decide +kernel
theorem dX5_unitsOf_6 : decode cX5_unitsOf 6 = .ok (.getfield 44, 3) := by decide +kernel
theorem dX5_unitsOf_9 : decode cX5_unitsOf 9 = .ok (.iload_n 1, 1) := by decide +kernel
theorem dX5_unitsOf_10 : decode cX5_unitsOf 10 = .ok (.iaload, 1) := by decide +kernel
theorem dX5_unitsOf_11 : decode cX5_unitsOf 11 = .ok (.isub, 1) := by decide +kernel
theorem dX5_unitsOf_12 : decode cX5_unitsOf 12 = .ok (.bipush 60, 2) := by decide +kernel
theorem dX5_unitsOf_14 : decode cX5_unitsOf 14 = .ok (.idiv, 1) := by decide +kernel
theorem dX5_unitsOf_15 : decode cX5_unitsOf 15 = .ok (.iadd, 1) := by decide +kernel
theorem dX5_unitsOf_16 : decode cX5_unitsOf 16 = .ok (.ireturn, 1) := by decide +kernel
set_option maxRecDepth 20000 in
theorem ggX5_finish_X5_unitsOf : GoodIn wsX5_finish wsX5_unitsOf := goodIn_r _ [12, 13, 5, 19, 20, 21, 22, 23, 24, 25, 26, 27, 28, 29, 30, 31, 32, 33, 34, 35, 36, 37, 38, 39, 40, 41, 42, 43] (by decide +kernel) (by decide +kernel)
set_option maxRecDepth 20000 in
theorem gX5_finish_X5_unitsOf : GoodIn wsX5_finish (wsV RX5 100 RX5 yX5_unitsOf wsX5_unitsOf) := goodIn_app (goodIn_of _ (by decide +kernel)) ggX5_finish_X5_unitsOf
set_option maxRecDepth 20000 in
theorem ggX5_finish_X5_use : GoodIn wsX5_finish wsX5_use := goodIn_r _ [17, 18, 19, 20, 21, 22, 23, 24, 25, 26, 27, 28, 29, 30, 31, 32, 33, 34, 35, 36, 37, 38, 39, 40, 41, 42, 43] (by decide +kernel) (by decide +kernel)
set_option maxRecDepth 20000 in
theorem gX5_finish_X5_use : GoodIn wsX5_finish (wsV RX5 83 RX5 yX5_use wsX5_use) := goodIn_app (goodIn_of _ (by decide +kernel)) ggX5_finish_X5_use
theorem dX5_finish_0 : decode cX5_finish 0 = .ok (.aload_n 0, 1) := by decide +kernel
theorem dX5_finish_1 : decode cX5_finish 1 = .ok (.getfield 22, 3) := by decide +kernel
theorem dX5_finish_4 : decode cX5_finish 4 = .ok (.iload_n 1, 1) := by decide +kernel
theorem dX5_finish_5 : decode cX5_finish 5 = .ok (.iaload, 1) := by decide +kernel
theorem dX5_finish_6 : decode cX5_finish 6 = .ok (.istore_n 2, 1) := by decide +kernel
theorem dX5_finish_7 : decode cX5_finish 7 = .ok (.aload_n 0, 1) := by decide +kernel
theorem dX5_finish_8 : decode cX5_finish 8 = .ok (.getfield 41, 3) := by decide +kernel
theorem dX5_finish_11 : decode cX5_finish 11 = .ok (.iload_n 1, 1) := by decide +kernel
theorem dX5_finish_12 : decode cX5_finish 12 = .ok (.baload, 1) := by decide +kernel
theorem dX5_finish_13 : decode cX5_finish 13 = .ok (.ifCond .eq 7, 3) := by decide +kernel
theorem dX5_finish_16 : decode cX5_finish 16 = .ok (.iload_n 1, 1) := by decide +kernel
theorem dX5_finish_17 : decode cX5_finish 17 = .ok (.goto 4, 3) := by decide +kernel
theorem dX5_finish_20 : decode cX5_finish 20 = .ok (.iload_n 2, 1) := by decide +kernel
theorem dX5_finish_21 : decode cX5_finish 21 = .ok (.istore_n 3, 1) := by decide +kernel
theorem dX5_finish_22 : decode cX5_finish 22 = .ok (.iconst 4, 1) := by decide +kernel
theorem dX5_finish_23 : decode cX5_finish 23 = .ok (.aload_n 0, 1) := by decide +kernel
theorem dX5_finish_24 : decode cX5_finish 24 = .ok (.getfield 97, 3) := by decide +kernel
theorem dX5_finish_27 : decode cX5_finish 27 = .ok (.bipush 60, 2) := by decide +kernel
theorem dX5_finish_29 : decode cX5_finish 29 = .ok (.irem, 1) := by decide +kernel
theorem dX5_finish_30 : decode cX5_finish 30 = .ok (.imul, 1) := by decide +kernel
theorem dX5_finish_31 : decode cX5_finish 31 = .ok (.istore 4, 2) := by decide +kernel
theorem dX5_finish_33 : decode cX5_finish 33 = .ok (.aload_n 0, 1) := by decide +kernel
theorem dX5_finish_34 : decode cX5_finish 34 = .ok (.getfield 68, 3) := by decide +kernel
theorem dX5_finish_37 : decode cX5_finish 37 = .ok (.iload 4, 2) := by decide +kernel
theorem dX5_finish_39 : decode cX5_finish 39 = .ok (.iload_n 3, 1) := by decide +kernel
theorem dX5_finish_40 : decode cX5_finish 40 = .ok (.iastore, 1) := by decide +kernel
theorem dX5_finish_41 : decode cX5_finish 41 = .ok (.aload_n 0, 1) := by decide +kernel
theorem dX5_finish_42 : decode cX5_finish 42 = .ok (.getfield 68, 3) := by decide +kernel
theorem dX5_finish_45 : decode cX5_finish 45 = .ok (.iload 4, 2) := by decide +kernel
theorem dX5_finish_47 : decode cX5_finish 47 = .ok (.iconst 1, 1) := by decide +kernel
end
section
theorem dX5_finish_48 : decode cX5_finish 48 = .ok (.iadd, 1) := by decide +kernel
theorem dX5_finish_49 : decode cX5_finish 49 = .ok (.aload_n 0, 1) := by decide +kernel
theorem dX5_finish_50 : decode cX5_finish 50 = .ok (.getfield 41, 3) := by decide +kernel
theorem dX5_finish_53 : decode cX5_finish 53 = .ok (.iload_n 1, 1) := by decide +kernel
theorem dX5_finish_54 : decode cX5_finish 54 = .ok (.baload, 1) := by decide +kernel
theorem dX5_finish_55 : decode cX5_finish 55 = .ok (.ifCond .eq 7, 3) := by decide +kernel
theorem dX5_finish_58 : decode cX5_finish 58 = .ok (.iload_n 2, 1) := by decide +kernel
theorem dX5_finish_59 : decode cX5_finish 59 = .ok (.goto 4, 3) := by decide +kernel
theorem dX5_finish_62 : decode cX5_finish 62 = .ok (.iload_n 1, 1) := by decide +kernel
theorem dX5_finish_63 : decode cX5_finish 63 = .ok (.iastore, 1) := by decide +kernel
theorem dX5_finish_64 : decode cX5_finish 64 = .ok (.aload_n 0, 1) := by decide +kernel
theorem dX5_finish_65 : decode cX5_finish 65 = .ok (.getfield 68, 3) := by decide +kernel
theorem dX5_finish_68 : decode cX5_finish 68 = .ok (.iload 4, 2) := by decide +kernel
theorem dX5_finish_70 : decode cX5_finish 70 = .ok (.iconst 2, 1) := by decide +kernel
theorem dX5_finish_71 : decode cX5_finish 71 = .ok (.iadd, 1) := by decide +kernel
theorem dX5_finish_72 : decode cX5_finish 72 = .ok (.aload_n 0, 1) := by decide +kernel
theorem dX5_finish_73 : decode cX5_finish 73 = .ok (.getfield 44, 3) := by decide +kernel
theorem dX5_finish_76 : decode cX5_finish 76 = .ok (.iload_n 3, 1) := by decide +kernel
theorem dX5_finish_77 : decode cX5_finish 77 = .ok (.iaload, 1) := by decide +kernel
theorem dX5_finish_78 : decode cX5_finish 78 = .ok (.iastore, 1) := by decide +kernel
theorem dX5_finish_79 : decode cX5_finish 79 = .ok (.aload_n 0, 1) := by decide +kernel
theorem dX5_finish_80 : decode cX5_finish 80 = .ok (.getfield 68, 3) := by decide +kernel
theorem dX5_finish_83 : decode cX5_finish 83 = .ok (.iload 4, 2) := by decide +kernel
theorem dX5_finish_85 : decode cX5_finish 85 = .ok (.iconst 3, 1) := by decide +kernel
theorem dX5_finish_86 : decode cX5_finish 86 = .ok (.iadd, 1) := by decide +kernel
theorem dX5_finish_87 : decode cX5_finish 87 = .ok (.aload_n 0, 1) := by decide +kernel
theorem dX5_finish_88 : decode cX5_finish 88 = .ok (.iload_n 3, 1) := by decide +kernel
theorem dX5_finish_89 : decode cX5_finish 89 = .ok (.invokevirtual 100, 3) := by decide +kernel
theorem dX5_finish_92 : decode cX5_finish 92 = .ok (.iastore, 1) := by decide +kernel
theorem dX5_finish_93 : decode cX5_finish 93 = .ok (.aload_n 0, 1) := by decide +kernel
theorem dX5_finish_94 : decode cX5_finish 94 = .ok (.dup, 1) := by decide +kernel
theorem dX5_finish_95 : decode cX5_finish 95 = .ok (.getfield 97, 3) := by decide +kernel
theorem dX5_finish_98 : decode cX5_finish 98 = .ok (.iconst 1, 1) := by decide +kernel
theorem dX5_finish_99 : decode cX5_finish 99 = .ok (.iadd, 1) := by decide +kernel
theorem dX5_finish_100 : decode cX5_finish 100 = .ok (.putfield 97, 3) := by decide +kernel
theorem dX5_finish_103 : decode cX5_finish 103 = .ok (.aload_n 0, 1) := by decide +kernel
theorem dX5_finish_104 : decode cX5_finish 104 = .ok (.getfield 38, 3) := by decide +kernel
theorem dX5_finish_107 : decode cX5_finish 107 = .ok (.iload_n 3, 1) := by decide +kernel
theorem dX5_finish_108 : decode cX5_finish 108 = .ok (.dup2, 1) := by decide +kernel
theorem dX5_finish_109 : decode cX5_finish 109 = .ok (.iaload, 1) := by decide +kernel
theorem dX5_finish_110 : decode cX5_finish 110 = .ok (.aload_n 0, 1) := by decide +kernel
theorem dX5_finish_111 : decode cX5_finish 111 = .ok (.iload_n 3, 1) := by decide +kernel
theorem dX5_finish_112 : decode cX5_finish 112 = .ok (.invokevirtual 100, 3) := by decide +kernel
theorem dX5_finish_115 : decode cX5_finish 115 = .ok (.iadd, 1) := by decide +kernel
theorem dX5_finish_116 : decode cX5_finish 116 = .ok (.iastore, 1) := by decide +kernel
theorem dX5_finish_117 : decode cX5_finish 117 = .ok (.aload_n 0, 1) := by decide +kernel
theorem dX5_finish_118 : decode cX5_finish 118 = .ok (.iload_n 1, 1) := by decide +kernel
theorem dX5_finish_119 : decode cX5_finish 119 = .ok (.iload_n 2, 1) := by decide +kernel
theorem dX5_finish_120 : decode cX5_finish 120 = .ok (.aload_n 0, 1) := by decide +kernel
theorem dX5_finish_121 : decode cX5_finish 121 = .ok (.getfield 25, 3) := by decide +kernel
theorem dX5_finish_124 : decode cX5_finish 124 = .ok (.iload_n 1, 1) := by decide +kernel
theorem dX5_finish_125 : decode cX5_finish 125 = .ok (.iaload, 1) := by decide +kernel
theorem dX5_finish_126 : decode cX5_finish 126 = .ok (.iconst (-1), 1) := by decide +kernel
theorem dX5_finish_127 : decode cX5_finish 127 = .ok (.invokevirtual 83, 3) := by decide +kernel
theorem dX5_finish_130 : decode cX5_finish 130 = .ok (.aload_n 0, 1) := by decide +kernel
theorem dX5_finish_131 : decode cX5_finish 131 = .ok (.getfield 41, 3) := by decide +kernel
theorem dX5_finish_134 : decode cX5_finish 134 = .ok (.iload_n 1, 1) := by decide +kernel
theorem dX5_finish_135 : decode cX5_finish 135 = .ok (.iconst 0, 1) := by decide +kernel
theorem dX5_finish_136 : decode cX5_finish 136 = .ok (.bastore, 1) := by decide +kernel
theorem dX5_finish_137 : decode cX5_finish 137 = .ok (.aload_n 0, 1) := by decide +kernel
theorem dX5_finish_138 : decode cX5_finish 138 = .ok (.getfield 41, 3) := by decide +kernel
theorem dX5_finish_141 : decode cX5_finish 141 = .ok (.iload_n 2, 1) := by decide +kernel
theorem dX5_finish_142 : decode cX5_finish 142 = .ok (.iconst 0, 1) := by decide +kernel
theorem dX5_finish_143 : decode cX5_finish 143 = .ok (.bastore, 1) := by decide +kernel
theorem dX5_finish_144 : decode cX5_finish 144 = .ok (.aload_n 0, 1) := by decide +kernel
theorem dX5_finish_145 : decode cX5_finish 145 = .ok (.getfield 22, 3) := by decide +kernel
theorem dX5_finish_148 : decode cX5_finish 148 = .ok (.iload_n 1, 1) := by decide +kernel
theorem dX5_finish_149 : decode cX5_finish 149 = .ok (.iconst (-1), 1) := by decide +kernel
theorem dX5_finish_150 : decode cX5_finish 150 = .ok (.iastore, 1) := by decide +kernel
theorem dX5_finish_151 : decode cX5_finish 151 = .ok (.aload_n 0, 1) := by decide +kernel
theorem dX5_finish_152 : decode cX5_finish 152 = .ok (.getfield 25, 3) := by decide +kernel
theorem dX5_finish_155 : decode cX5_finish 155 = .ok (.iload_n 1, 1) := by decide +kernel
theorem dX5_finish_156 : decode cX5_finish 156 = .ok (.iconst (-1), 1) := by decide +kernel
theorem dX5_finish_157 : decode cX5_finish 157 = .ok (.iastore, 1) := by decide +kernel
theorem dX5_finish_158 : decode cX5_finish 158 = .ok (.aload_n 0, 1) := by decide +kernel
theorem dX5_finish_159 : decode cX5_finish 159 = .ok (.getfield 22, 3) := by decide +kernel
theorem dX5_finish_162 : decode cX5_finish 162 = .ok (.iload_n 2, 1) := by decide +kernel
theorem dX5_finish_163 : decode cX5_finish 163 = .ok (.iconst (-1), 1) := by decide +kernel
theorem dX5_finish_164 : decode cX5_finish 164 = .ok (.iastore, 1) := by decide +kernel
theorem dX5_finish_165 : decode cX5_finish 165 = .ok (.aload_n 0, 1) := by decide +kernel
theorem dX5_finish_166 : decode cX5_finish 166 = .ok (.getfield 25, 3) := by decide +kernel
theorem dX5_finish_169 : decode cX5_finish 169 = .ok (.iload_n 2, 1) := by decide +kernel
theorem dX5_finish_170 : decode cX5_finish 170 = .ok (.iconst (-1), 1) := by decide +kernel
theorem dX5_finish_171 : decode cX5_finish 171 = .ok (.iastore, 1) := by decide +kernel
theorem dX5_finish_172 : decode cX5_finish 172 = .ok (.return_, 1) := by decide +kernel
set_option maxRecDepth 20000 in
theorem ggX5_call_X5_in : GoodIn wsX5_call wsX5_in := goodIn_r _ [5] (by decide +kernel) (by decide +kernel)
set_option maxRecDepth 20000 in
theorem gX5_call_X5_in : GoodIn wsX5_call (va_wsS RX5 75 yX5_in wsX5_in) := goodIn_app (goodIn_of _ (by decide +kernel)) ggX5_call_X5_in
set_option maxRecDepth 20000 in
theorem ggX5_call_X5_callLine : GoodIn wsX5_call wsX5_callLine := goodIn_r _ [9, 1, 10, 11, 12, 13, 14, 15, 4, 16, 17, 18, 19, 20, 21, 22, 23, 24, 25, 26, 27, 28, 29, 30, 31, 32, 33, 34, 35, 36, 37, 38, 39, 40, 41, 42, 43, 44, 76, 77, 78, 79, 80, 81, 82, 83, 84, 85, 86, 87, 88, 89, 90, 91, 92, 93, 94, 95, 96, 97, 98, 99, 100] (by decide +kernel) (by decide +kernel)
set_option maxRecDepth 20000 in
theorem gX5_call_X5_callLine : GoodIn wsX5_call (wsV RX5 104 RX5 yX5_callLine wsX5_callLine) := goodIn_app (goodIn_of _ (by decide +kernel)) ggX5_call_X5_callLine
set_option maxRecDepth 20000 in
theorem ggX5_call_X5_callGroup : GoodIn wsX5_call wsX5_callGroup := goodIn_r _ [48, 49, 50, 51, 52, 25, 12, 53, 54, 55, 4, 56, 10, 1, 30, 31, 32, 33, 34, 26, 27, 28, 29, 35, 36, 37, 38, 39, 40, 41, 42, 17, 18, 43, 44, 19, 20, 21, 22, 23, 24, 11, 13, 14, 15, 16, 76, 77, 78, 79, 80, 81, 82, 83, 84, 85, 86, 87, 88, 89, 90, 91, 92, 93, 94, 95, 96, 97, 98, 99, 100] (by decide +kernel) (by decide +kernel)
set_option maxRecDepth 20000 in
theorem gX5_call_X5_callGroup : GoodIn wsX5_call (wsV RX5 107 RX5 yX5_callGroup wsX5_callGroup) := goodIn_app (goodIn_of _ (by decide +kernel)) ggX5_call_X5_callGroup
set_option maxRecDepth 20000 in
theorem ggX5_call_X5_pick : GoodIn wsX5_call wsX5_pick := goodIn_r _ [60, 10, 23, 17, 12, 13, 14, 15, 4, 16, 18, 19, 20, 21, 22, 24, 11, 25, 61, 62, 63, 64, 35, 36, 37, 38, 34, 26, 27, 28, 29, 30, 31, 32, 33, 65, 66, 67, 68, 69, 70, 76, 77, 78, 79, 80, 81, 82, 83, 84, 85, 86, 87, 88, 89, 90, 91, 92, 93, 94, 95, 96, 97, 98, 99, 100] (by decide +kernel) (by decide +kernel)
set_option maxRecDepth 20000 in
theorem gX5_call_X5_pick : GoodIn wsX5_call (wsV RX5 110 RX5 yX5_pick wsX5_pick) := goodIn_app (goodIn_of _ (by decide +kernel)) ggX5_call_X5_pick
set_option maxRecDepth 20000 in
theorem ggX5_call_X5_unpark : GoodIn wsX5_call wsX5_unpark := goodIn_r _ [74, 75, 12, 26, 27, 28, 4, 29, 30, 31, 32, 33, 34, 35, 36, 37, 38, 13, 14, 15, 16, 17, 18, 19, 20, 21, 22, 10, 23, 24, 11, 25, 65, 66, 67, 68, 69, 70, 76, 77, 78, 79, 80, 81, 82, 83, 84, 85, 86, 87, 88, 89, 90, 91, 92, 93, 94, 95, 96, 97, 98, 99, 100] (by decide +kernel) (by decide +kernel)
set_option maxRecDepth 20000 in
theorem gX5_call_X5_unpark : GoodIn wsX5_call (wsV RX5 114 RX5 yX5_unpark wsX5_unpark) := goodIn_app (goodIn_of _ (by decide +kernel)) ggX5_call_X5_unpark
set_option maxRecDepth 20000 in
theorem ggX5_call_X5_busy : GoodIn wsX5_call wsX5_busy := goodIn_r _ [16, 17, 18, 19, 20, 21, 4, 22, 10, 23, 24, 11, 25, 76, 77, 78, 79, 80, 81, 82, 83, 84, 85, 86, 87, 88, 89, 90, 91, 92, 93, 94, 95, 96, 97, 98, 99, 100] (by decide +kernel) (by decide +kernel)
set_option maxRecDepth 20000 in
theorem gX5_call_X5_busy : GoodIn wsX5_call (wsV RX5 117 RX5 yX5_busy wsX5_busy) := goodIn_app (goodIn_of _ (by decide +kernel)) ggX5_call_X5_busy
theorem dX5_call_0 : decode cX5_call 0 = .ok (.iload_n 2, 1) := by decide +kernel
theorem dX5_call_1 : decode cX5_call 1 = .ok (.bipush 10, 2) := by decide +kernel
theorem dX5_call_3 : decode cX5_call 3 = .ok (.bipush 33, 2) := by decide +kernel
theorem dX5_call_5 : decode cX5_call 5 = .ok (.invokestatic 75, 3) := by decide +kernel
theorem dX5_call_8 : decode cX5_call 8 = .ok (.ifCond .eq 15, 3) := by decide +kernel
theorem dX5_call_11 : decode cX5_call 11 = .ok (.aload_n 0, 1) := by decide +kernel
theorem dX5_call_12 : decode cX5_call 12 = .ok (.iload_n 1, 1) := by decide +kernel
theorem dX5_call_13 : decode cX5_call 13 = .ok (.iload_n 2, 1) := by decide +kernel
theorem dX5_call_14 : decode cX5_call 14 = .ok (.bipush 10, 2) := by decide +kernel
theorem dX5_call_16 : decode cX5_call 16 = .ok (.isub, 1) := by decide +kernel
theorem dX5_call_17 : decode cX5_call 17 = .ok (.invokevirtual 104, 3) := by decide +kernel
theorem dX5_call_20 : decode cX5_call 20 = .ok (.goto 94, 3) := by decide +kernel
theorem dX5_call_23 : decode cX5_call 23 = .ok (.iload_n 2, 1) := by decide +kernel
theorem dX5_call_24 : decode cX5_call 24 = .ok (.bipush 40, 2) := by decide +kernel
theorem dX5_call_26 : decode cX5_call 26 = .ok (.bipush 43, 2) := by decide +kernel
theorem dX5_call_28 : decode cX5_call 28 = .ok (.invokestatic 75, 3) := by decide +kernel
theorem dX5_call_31 : decode cX5_call 31 = .ok (.ifCond .eq 15, 3) := by decide +kernel
theorem dX5_call_34 : decode cX5_call 34 = .ok (.aload_n 0, 1) := by decide +kernel
theorem dX5_call_35 : decode cX5_call 35 = .ok (.iload_n 1, 1) := by decide +kernel
theorem dX5_call_36 : decode cX5_call 36 = .ok (.iload_n 2, 1) := by decide +kernel
theorem dX5_call_37 : decode cX5_call 37 = .ok (.bipush 40, 2) := by decide +kernel
theorem dX5_call_39 : decode cX5_call 39 = .ok (.isub, 1) := by decide +kernel
theorem dX5_call_40 : decode cX5_call 40 = .ok (.invokevirtual 107, 3) := by decide +kernel
theorem dX5_call_43 : decode cX5_call 43 = .ok (.goto 71, 3) := by decide +kernel
theorem dX5_call_46 : decode cX5_call 46 = .ok (.iload_n 2, 1) := by decide +kernel
theorem dX5_call_47 : decode cX5_call 47 = .ok (.bipush 50, 2) := by decide +kernel
theorem dX5_call_49 : decode cX5_call 49 = .ok (.if_icmp .ne 11, 3) := by decide +kernel
theorem dX5_call_52 : decode cX5_call 52 = .ok (.aload_n 0, 1) := by decide +kernel
theorem dX5_call_53 : decode cX5_call 53 = .ok (.iload_n 1, 1) := by decide +kernel
theorem dX5_call_54 : decode cX5_call 54 = .ok (.invokevirtual 110, 3) := by decide +kernel
theorem dX5_call_57 : decode cX5_call 57 = .ok (.goto 57, 3) := by decide +kernel
theorem dX5_call_60 : decode cX5_call 60 = .ok (.iload_n 2, 1) := by decide +kernel
theorem dX5_call_61 : decode cX5_call 61 = .ok (.bipush 60, 2) := by decide +kernel
theorem dX5_call_63 : decode cX5_call 63 = .ok (.bipush 63, 2) := by decide +kernel
theorem dX5_call_65 : decode cX5_call 65 = .ok (.invokestatic 75, 3) := by decide +kernel
theorem dX5_call_68 : decode cX5_call 68 = .ok (.ifCond .eq 15, 3) := by decide +kernel
theorem dX5_call_71 : decode cX5_call 71 = .ok (.aload_n 0, 1) := by decide +kernel
theorem dX5_call_72 : decode cX5_call 72 = .ok (.iload_n 1, 1) := by decide +kernel
theorem dX5_call_73 : decode cX5_call 73 = .ok (.iload_n 2, 1) := by decide +kernel
theorem dX5_call_74 : decode cX5_call 74 = .ok (.bipush 60, 2) := by decide +kernel
theorem dX5_call_76 : decode cX5_call 76 = .ok (.isub, 1) := by decide +kernel
theorem dX5_call_77 : decode cX5_call 77 = .ok (.invokevirtual 114, 3) := by decide +kernel
theorem dX5_call_80 : decode cX5_call 80 = .ok (.goto 34, 3) := by decide +kernel
theorem dX5_call_83 : decode cX5_call 83 = .ok (.iload_n 2, 1) := by decide +kernel
theorem dX5_call_84 : decode cX5_call 84 = .ok (.bipush 51, 2) := by decide +kernel
theorem dX5_call_86 : decode cX5_call 86 = .ok (.if_icmp .ne 10, 3) := by decide +kernel
theorem dX5_call_89 : decode cX5_call 89 = .ok (.aload_n 0, 1) := by decide +kernel
theorem dX5_call_90 : decode cX5_call 90 = .ok (.getfield 34, 3) := by decide +kernel
theorem dX5_call_93 : decode cX5_call 93 = .ok (.iload_n 1, 1) := by decide +kernel
theorem dX5_call_94 : decode cX5_call 94 = .ok (.iconst 1, 1) := by decide +kernel
theorem dX5_call_95 : decode cX5_call 95 = .ok (.bastore, 1) := by decide +kernel
theorem dX5_call_96 : decode cX5_call 96 = .ok (.iload_n 2, 1) := by decide +kernel
theorem dX5_call_97 : decode cX5_call 97 = .ok (.bipush 52, 2) := by decide +kernel
theorem dX5_call_99 : decode cX5_call 99 = .ok (.if_icmp .ne 10, 3) := by decide +kernel
theorem dX5_call_102 : decode cX5_call 102 = .ok (.aload_n 0, 1) := by decide +kernel
theorem dX5_call_103 : decode cX5_call 103 = .ok (.getfield 34, 3) := by decide +kernel
theorem dX5_call_106 : decode cX5_call 106 = .ok (.iload_n 1, 1) := by decide +kernel
theorem dX5_call_107 : decode cX5_call 107 = .ok (.iconst 0, 1) := by decide +kernel
theorem dX5_call_108 : decode cX5_call 108 = .ok (.bastore, 1) := by decide +kernel
theorem dX5_call_109 : decode cX5_call 109 = .ok (.aload_n 0, 1) := by decide +kernel
theorem dX5_call_110 : decode cX5_call 110 = .ok (.iload_n 1, 1) := by decide +kernel
theorem dX5_call_111 : decode cX5_call 111 = .ok (.invokevirtual 117, 3) := by decide +kernel
theorem dX5_call_114 : decode cX5_call 114 = .ok (.return_, 1) := by decide +kernel
set_option maxRecDepth 20000 in
theorem ggX5_callLine_X5_busy : GoodIn wsX5_callLine wsX5_busy := goodIn_r _ [9, 10, 11, 12, 13, 14, 8, 15, 2, 16, 17, 3, 18, 38, 39, 40, 41, 42, 43, 44, 45, 46, 47, 48, 49, 50, 51, 52, 53, 54, 55, 56, 57, 58, 59, 60, 61, 62] (by decide +kernel) (by decide +kernel)
set_option maxRecDepth 20000 in
theorem gX5_callLine_X5_busy : GoodIn wsX5_callLine (wsV RX5 117 RX5 yX5_busy wsX5_busy) := goodIn_app (goodIn_of _ (by decide +kernel)) ggX5_callLine_X5_busy
set_option maxRecDepth 20000 in
theorem ggX5_callLine_X5_take : GoodIn wsX5_callLine wsX5_take := goodIn_r _ [22, 23, 24, 25, 8, 26, 27, 28, 29, 30, 31, 38, 39, 40, 41, 42, 43, 44, 45, 46, 47, 48, 49, 50, 51, 52, 53, 54, 55, 56, 57, 58, 59, 60, 61, 62] (by decide +kernel) (by decide +kernel)
set_option maxRecDepth 20000 in
theorem gX5_callLine_X5_take : GoodIn wsX5_callLine (wsV RX5 120 RX5 yX5_take wsX5_take) := goodIn_app (goodIn_of _ (by decide +kernel)) ggX5_callLine_X5_take
set_option maxRecDepth 20000 in
theorem ggX5_callLine_X5_ring : GoodIn wsX5_callLine wsX5_ring := goodIn_r _ [35, 10, 11, 36, 37, 2, 12, 13, 14, 8, 15, 16, 17, 3, 18, 38, 39, 40, 41, 42, 43, 44, 45, 46, 47, 48, 49, 50, 51, 52, 53, 54, 55, 56, 57, 58, 59, 60, 61, 62] (by decide +kernel) (by decide +kernel)
set_option maxRecDepth 20000 in
theorem gX5_callLine_X5_ring : GoodIn wsX5_callLine (wsV RX5 126 RX5 yX5_ring wsX5_ring) := goodIn_app (goodIn_of _ (by decide +kernel)) ggX5_callLine_X5_ring
theorem dX5_callLine_0 : decode cX5_callLine 0 = .ok (.iload_n 2, 1) := by decide +kernel
theorem dX5_callLine_1 : decode cX5_callLine 1 = .ok (.iload_n 1, 1) := by decide +kernel
theorem dX5_callLine_2 : decode cX5_callLine 2 = .ok (.if_icmp .eq 12, 3) := by decide +kernel
theorem dX5_callLine_5 : decode cX5_callLine 5 = .ok (.aload_n 0, 1) := by decide +kernel
theorem dX5_callLine_6 : decode cX5_callLine 6 = .ok (.getfield 34, 3) := by decide +kernel
theorem dX5_callLine_9 : decode cX5_callLine 9 = .ok (.iload_n 2, 1) := by decide +kernel
theorem dX5_callLine_10 : decode cX5_callLine 10 = .ok (.baload, 1) := by decide +kernel
theorem dX5_callLine_11 : decode cX5_callLine 11 = .ok (.ifCond .eq 11, 3) := by decide +kernel
theorem dX5_callLine_14 : decode cX5_callLine 14 = .ok (.aload_n 0, 1) := by decide +kernel
theorem dX5_callLine_15 : decode cX5_callLine 15 = .ok (.iload_n 1, 1) := by decide +kernel
theorem dX5_callLine_16 : decode cX5_callLine 16 = .ok (.invokevirtual 117, 3) := by decide +kernel
theorem dX5_callLine_19 : decode cX5_callLine 19 = .ok (.goto 63, 3) := by decide +kernel
theorem dX5_callLine_22 : decode cX5_callLine 22 = .ok (.aload_n 0, 1) := by decide +kernel
theorem dX5_callLine_23 : decode cX5_callLine 23 = .ok (.getfield 7, 3) := by decide +kernel
theorem dX5_callLine_26 : decode cX5_callLine 26 = .ok (.iload_n 2, 1) := by decide +kernel
theorem dX5_callLine_27 : decode cX5_callLine 27 = .ok (.iaload, 1) := by decide +kernel
theorem dX5_callLine_28 : decode cX5_callLine 28 = .ok (.ifCond .eq 18, 3) := by decide +kernel
theorem dX5_callLine_31 : decode cX5_callLine 31 = .ok (.aload_n 0, 1) := by decide +kernel
theorem dX5_callLine_32 : decode cX5_callLine 32 = .ok (.iload_n 1, 1) := by decide +kernel
theorem dX5_callLine_33 : decode cX5_callLine 33 = .ok (.invokevirtual 117, 3) := by decide +kernel
theorem dX5_callLine_36 : decode cX5_callLine 36 = .ok (.aload_n 0, 1) := by decide +kernel
theorem dX5_callLine_37 : decode cX5_callLine 37 = .ok (.getfield 31, 3) := by decide +kernel
theorem dX5_callLine_40 : decode cX5_callLine 40 = .ok (.iload_n 1, 1) := by decide +kernel
theorem dX5_callLine_41 : decode cX5_callLine 41 = .ok (.iload_n 2, 1) := by decide +kernel
theorem dX5_callLine_42 : decode cX5_callLine 42 = .ok (.iastore, 1) := by decide +kernel
theorem dX5_callLine_43 : decode cX5_callLine 43 = .ok (.goto 39, 3) := by decide +kernel
theorem dX5_callLine_46 : decode cX5_callLine 46 = .ok (.aload_n 0, 1) := by decide +kernel
theorem dX5_callLine_47 : decode cX5_callLine 47 = .ok (.iload_n 1, 1) := by decide +kernel
theorem dX5_callLine_48 : decode cX5_callLine 48 = .ok (.iload_n 2, 1) := by decide +kernel
theorem dX5_callLine_49 : decode cX5_callLine 49 = .ok (.invokevirtual 120, 3) := by decide +kernel
theorem dX5_callLine_52 : decode cX5_callLine 52 = .ok (.istore_n 3, 1) := by decide +kernel
theorem dX5_callLine_53 : decode cX5_callLine 53 = .ok (.iload_n 3, 1) := by decide +kernel
theorem dX5_callLine_54 : decode cX5_callLine 54 = .ok (.ifCond .ge 21, 3) := by decide +kernel
theorem dX5_callLine_57 : decode cX5_callLine 57 = .ok (.aload_n 0, 1) := by decide +kernel
theorem dX5_callLine_58 : decode cX5_callLine 58 = .ok (.dup, 1) := by decide +kernel
theorem dX5_callLine_59 : decode cX5_callLine 59 = .ok (.getfield 123, 3) := by decide +kernel
theorem dX5_callLine_62 : decode cX5_callLine 62 = .ok (.iconst 1, 1) := by decide +kernel
theorem dX5_callLine_63 : decode cX5_callLine 63 = .ok (.iadd, 1) := by decide +kernel
theorem dX5_callLine_64 : decode cX5_callLine 64 = .ok (.putfield 123, 3) := by decide +kernel
theorem dX5_callLine_67 : decode cX5_callLine 67 = .ok (.aload_n 0, 1) := by decide +kernel
theorem dX5_callLine_68 : decode cX5_callLine 68 = .ok (.iload_n 1, 1) := by decide +kernel
theorem dX5_callLine_69 : decode cX5_callLine 69 = .ok (.invokevirtual 117, 3) := by decide +kernel
theorem dX5_callLine_72 : decode cX5_callLine 72 = .ok (.goto 10, 3) := by decide +kernel
theorem dX5_callLine_75 : decode cX5_callLine 75 = .ok (.aload_n 0, 1) := by decide +kernel
theorem dX5_callLine_76 : decode cX5_callLine 76 = .ok (.iload_n 1, 1) := by decide +kernel
theorem dX5_callLine_77 : decode cX5_callLine 77 = .ok (.iload_n 2, 1) := by decide +kernel
theorem dX5_callLine_78 : decode cX5_callLine 78 = .ok (.iload_n 3, 1) := by decide +kernel
theorem dX5_callLine_79 : decode cX5_callLine 79 = .ok (.invokevirtual 126, 3) := by decide +kernel
theorem dX5_callLine_82 : decode cX5_callLine 82 = .ok (.return_, 1) := by decide +kernel
theorem dX5_mayRing_0 : decode cX5_mayRing 0 = .ok (.aload_n 0, 1) := by decide +kernel
theorem dX5_mayRing_1 : decode cX5_mayRing 1 = .ok (.getfield 7, 3) := by decide +kernel
theorem dX5_mayRing_4 : decode cX5_mayRing 4 = .ok (.iload_n 2, 1) := by decide +kernel
theorem dX5_mayRing_5 : decode cX5_mayRing 5 = .ok (.iaload, 1) := by decide +kernel
theorem dX5_mayRing_6 : decode cX5_mayRing 6 = .ok (.ifCond .ne 21, 3) := by decide +kernel
theorem dX5_mayRing_9 : decode cX5_mayRing 9 = .ok (.aload_n 0, 1) := by decide +kernel
theorem dX5_mayRing_10 : decode cX5_mayRing 10 = .ok (.getfield 34, 3) := by decide +kernel
theorem dX5_mayRing_13 : decode cX5_mayRing 13 = .ok (.iload_n 2, 1) := by decide +kernel
theorem dX5_mayRing_14 : decode cX5_mayRing 14 = .ok (.baload, 1) := by decide +kernel
theorem dX5_mayRing_15 : decode cX5_mayRing 15 = .ok (.ifCond .ne 12, 3) := by decide +kernel
theorem dX5_mayRing_18 : decode cX5_mayRing 18 = .ok (.iload_n 2, 1) := by decide +kernel
theorem dX5_mayRing_19 : decode cX5_mayRing 19 = .ok (.iload_n 1, 1) := by decide +kernel
theorem dX5_mayRing_20 : decode cX5_mayRing 20 = .ok (.if_icmp .eq 7, 3) := by decide +kernel
theorem dX5_mayRing_23 : decode cX5_mayRing 23 = .ok (.iconst 1, 1) := by decide +kernel
theorem dX5_mayRing_24 : decode cX5_mayRing 24 = .ok (.goto 4, 3) := by decide +kernel
theorem dX5_mayRing_27 : decode cX5_mayRing 27 = .ok (.iconst 0, 1) := by decide +kernel
theorem dX5_mayRing_28 : decode cX5_mayRing 28 = .ok (.ireturn, 1) := by decide +kernel
set_option maxRecDepth 20000 in
theorem ggX5_callGroup_X5_mayRing : GoodIn wsX5_callGroup wsX5_mayRing := goodIn_r _ [11, 12, 13, 46, 47, 48, 49, 50, 51, 52, 53, 54, 55, 56, 57, 58, 59, 60, 61, 62, 63, 64, 65, 66, 67, 68, 69, 70] (by decide +kernel) (by decide +kernel)
set_option maxRecDepth 20000 in
theorem gX5_callGroup_X5_mayRing : GoodIn wsX5_callGroup (wsV RX5 130 RX5 yX5_mayRing wsX5_mayRing) := goodIn_app (goodIn_of _ (by decide +kernel)) ggX5_callGroup_X5_mayRing
set_option maxRecDepth 20000 in
theorem ggX5_callGroup_X5_free : GoodIn wsX5_callGroup wsX5_free := goodIn_r _ [17, 18, 46, 47, 48, 49, 50, 51, 52, 53, 54, 55, 56, 57, 58, 59, 60, 61, 62, 63, 64, 65, 66, 67, 68, 69, 70] (by decide +kernel) (by decide +kernel)
set_option maxRecDepth 20000 in
theorem gX5_callGroup_X5_free : GoodIn wsX5_callGroup (wsV RX5 79 RX5 yX5_free wsX5_free) := goodIn_app (goodIn_of _ (by decide +kernel)) ggX5_callGroup_X5_free
set_option maxRecDepth 20000 in
theorem ggX5_callGroup_X5_take : GoodIn wsX5_callGroup wsX5_take := goodIn_r _ [22, 14, 15, 16, 10, 17, 18, 23, 24, 25, 26, 46, 47, 48, 49, 50, 51, 52, 53, 54, 55, 56, 57, 58, 59, 60, 61, 62, 63, 64, 65, 66, 67, 68, 69, 70] (by decide +kernel) (by decide +kernel)
set_option maxRecDepth 20000 in
theorem gX5_callGroup_X5_take : GoodIn wsX5_callGroup (wsV RX5 120 RX5 yX5_take wsX5_take) := goodIn_app (goodIn_of _ (by decide +kernel)) ggX5_callGroup_X5_take
set_option maxRecDepth 20000 in
theorem ggX5_callGroup_X5_ring : GoodIn wsX5_callGroup wsX5_ring := goodIn_r _ [30, 31, 32, 33, 34, 12, 35, 36, 37, 10, 38, 39, 40, 41, 5, 46, 47, 48, 49, 50, 51, 52, 53, 54, 55, 56, 57, 58, 59, 60, 61, 62, 63, 64, 65, 66, 67, 68, 69, 70] (by decide +kernel) (by decide +kernel)
set_option maxRecDepth 20000 in
theorem gX5_callGroup_X5_ring : GoodIn wsX5_callGroup (wsV RX5 126 RX5 yX5_ring wsX5_ring) := goodIn_app (goodIn_of _ (by decide +kernel)) ggX5_callGroup_X5_ring
set_option maxRecDepth 20000 in
theorem ggX5_callGroup_X5_busy : GoodIn wsX5_callGroup wsX5_busy := goodIn_r _ [45, 31, 32, 35, 36, 37, 10, 38, 12, 39, 40, 41, 5, 46, 47, 48, 49, 50, 51, 52, 53, 54, 55, 56, 57, 58, 59, 60, 61, 62, 63, 64, 65, 66, 67, 68, 69, 70] (by decide +kernel) (by decide +kernel)
set_option maxRecDepth 20000 in
theorem gX5_callGroup_X5_busy : GoodIn wsX5_callGroup (wsV RX5 117 RX5 yX5_busy wsX5_busy) := goodIn_app (goodIn_of _ (by decide +kernel)) ggX5_callGroup_X5_busy
theorem dX5_callGroup_0 : decode cX5_callGroup 0 = .ok (.iconst 0, 1) := by decide +kernel
theorem dX5_callGroup_1 : decode cX5_callGroup 1 = .ok (.istore_n 3, 1) := by decide +kernel
theorem dX5_callGroup_2 : decode cX5_callGroup 2 = .ok (.iconst (-1), 1) := by decide +kernel
theorem dX5_callGroup_3 : decode cX5_callGroup 3 = .ok (.istore 4, 2) := by decide +kernel
theorem dX5_callGroup_5 : decode cX5_callGroup 5 = .ok (.iconst 0, 1) := by decide +kernel
theorem dX5_callGroup_6 : decode cX5_callGroup 6 = .ok (.istore 5, 2) := by decide +kernel
theorem dX5_callGroup_8 : decode cX5_callGroup 8 = .ok (.iload 5, 2) := by decide +kernel
theorem dX5_callGroup_10 : decode cX5_callGroup 10 = .ok (.aload_n 0, 1) := by decide +kernel
theorem dX5_callGroup_11 : decode cX5_callGroup 11 = .ok (.getfield 59, 3) := by decide +kernel
theorem dX5_callGroup_14 : decode cX5_callGroup 14 = .ok (.iload_n 2, 1) := by decide +kernel
theorem dX5_callGroup_15 : decode cX5_callGroup 15 = .ok (.iaload, 1) := by decide +kernel
theorem dX5_callGroup_16 : decode cX5_callGroup 16 = .ok (.if_icmp .ge 196, 3) := by decide +kernel
theorem dX5_callGroup_19 : decode cX5_callGroup 19 = .ok (.aload_n 0, 1) := by decide +kernel
theorem dX5_callGroup_20 : decode cX5_callGroup 20 = .ok (.getfield 62, 3) := by decide +kernel
theorem dX5_callGroup_23 : decode cX5_callGroup 23 = .ok (.iload_n 2, 1) := by decide +kernel
theorem dX5_callGroup_24 : decode cX5_callGroup 24 = .ok (.iaload, 1) := by decide +kernel
theorem dX5_callGroup_25 : decode cX5_callGroup 25 = .ok (.iconst 1, 1) := by decide +kernel
theorem dX5_callGroup_26 : decode cX5_callGroup 26 = .ok (.if_icmp .ne 24, 3) := by decide +kernel
theorem dX5_callGroup_29 : decode cX5_callGroup 29 = .ok (.aload_n 0, 1) := by decide +kernel
theorem dX5_callGroup_30 : decode cX5_callGroup 30 = .ok (.getfield 65, 3) := by decide +kernel
theorem dX5_callGroup_33 : decode cX5_callGroup 33 = .ok (.iload_n 2, 1) := by decide +kernel
theorem dX5_callGroup_34 : decode cX5_callGroup 34 = .ok (.iaload, 1) := by decide +kernel
theorem dX5_callGroup_35 : decode cX5_callGroup 35 = .ok (.iconst 1, 1) := by decide +kernel
theorem dX5_callGroup_36 : decode cX5_callGroup 36 = .ok (.iadd, 1) := by decide +kernel
theorem dX5_callGroup_37 : decode cX5_callGroup 37 = .ok (.iload 5, 2) := by decide +kernel
theorem dX5_callGroup_39 : decode cX5_callGroup 39 = .ok (.iadd, 1) := by decide +kernel
theorem dX5_callGroup_40 : decode cX5_callGroup 40 = .ok (.aload_n 0, 1) := by decide +kernel
theorem dX5_callGroup_41 : decode cX5_callGroup 41 = .ok (.getfield 59, 3) := by decide +kernel
theorem dX5_callGroup_44 : decode cX5_callGroup 44 = .ok (.iload_n 2, 1) := by decide +kernel
theorem dX5_callGroup_45 : decode cX5_callGroup 45 = .ok (.iaload, 1) := by decide +kernel
theorem dX5_callGroup_46 : decode cX5_callGroup 46 = .ok (.irem, 1) := by decide +kernel
theorem dX5_callGroup_47 : decode cX5_callGroup 47 = .ok (.goto 5, 3) := by decide +kernel
theorem dX5_callGroup_50 : decode cX5_callGroup 50 = .ok (.iload 5, 2) := by decide +kernel
theorem dX5_callGroup_52 : decode cX5_callGroup 52 = .ok (.istore 6, 2) := by decide +kernel
theorem dX5_callGroup_54 : decode cX5_callGroup 54 = .ok (.aload_n 0, 1) := by decide +kernel
theorem dX5_callGroup_55 : decode cX5_callGroup 55 = .ok (.getfield 56, 3) := by decide +kernel
theorem dX5_callGroup_58 : decode cX5_callGroup 58 = .ok (.bipush 6, 2) := by decide +kernel
theorem dX5_callGroup_60 : decode cX5_callGroup 60 = .ok (.iload_n 2, 1) := by decide +kernel
theorem dX5_callGroup_61 : decode cX5_callGroup 61 = .ok (.imul, 1) := by decide +kernel
theorem dX5_callGroup_62 : decode cX5_callGroup 62 = .ok (.iload 6, 2) := by decide +kernel
theorem dX5_callGroup_64 : decode cX5_callGroup 64 = .ok (.iadd, 1) := by decide +kernel
theorem dX5_callGroup_65 : decode cX5_callGroup 65 = .ok (.iaload, 1) := by decide +kernel
theorem dX5_callGroup_66 : decode cX5_callGroup 66 = .ok (.istore 7, 2) := by decide +kernel
theorem dX5_callGroup_68 : decode cX5_callGroup 68 = .ok (.aload_n 0, 1) := by decide +kernel
theorem dX5_callGroup_69 : decode cX5_callGroup 69 = .ok (.iload_n 1, 1) := by decide +kernel
theorem dX5_callGroup_70 : decode cX5_callGroup 70 = .ok (.iload 7, 2) := by decide +kernel
theorem dX5_callGroup_72 : decode cX5_callGroup 72 = .ok (.invokevirtual 130, 3) := by decide +kernel
theorem dX5_callGroup_75 : decode cX5_callGroup 75 = .ok (.ifCond .eq 131, 3) := by decide +kernel
theorem dX5_callGroup_78 : decode cX5_callGroup 78 = .ok (.aload_n 0, 1) := by decide +kernel
theorem dX5_callGroup_79 : decode cX5_callGroup 79 = .ok (.iload_n 1, 1) := by decide +kernel
theorem dX5_callGroup_80 : decode cX5_callGroup 80 = .ok (.iload 7, 2) := by decide +kernel
theorem dX5_callGroup_82 : decode cX5_callGroup 82 = .ok (.invokevirtual 79, 3) := by decide +kernel
theorem dX5_callGroup_85 : decode cX5_callGroup 85 = .ok (.istore 8, 2) := by decide +kernel
theorem dX5_callGroup_87 : decode cX5_callGroup 87 = .ok (.iload_n 3, 1) := by decide +kernel
theorem dX5_callGroup_88 : decode cX5_callGroup 88 = .ok (.ifCond .ne 8, 3) := by decide +kernel
theorem dX5_callGroup_91 : decode cX5_callGroup 91 = .ok (.iload 8, 2) := by decide +kernel
theorem dX5_callGroup_93 : decode cX5_callGroup 93 = .ok (.ifCond .ge 7, 3) := by decide +kernel
theorem dX5_callGroup_96 : decode cX5_callGroup 96 = .ok (.iconst 1, 1) := by decide +kernel
theorem dX5_callGroup_97 : decode cX5_callGroup 97 = .ok (.goto 4, 3) := by decide +kernel
theorem dX5_callGroup_100 : decode cX5_callGroup 100 = .ok (.iconst 0, 1) := by decide +kernel
theorem dX5_callGroup_101 : decode cX5_callGroup 101 = .ok (.istore_n 3, 1) := by decide +kernel
theorem dX5_callGroup_102 : decode cX5_callGroup 102 = .ok (.iload 8, 2) := by decide +kernel
theorem dX5_callGroup_104 : decode cX5_callGroup 104 = .ok (.ifCond .lt 34, 3) := by decide +kernel
theorem dX5_callGroup_107 : decode cX5_callGroup 107 = .ok (.aload_n 0, 1) := by decide +kernel
theorem dX5_callGroup_108 : decode cX5_callGroup 108 = .ok (.getfield 62, 3) := by decide +kernel
theorem dX5_callGroup_111 : decode cX5_callGroup 111 = .ok (.iload_n 2, 1) := by decide +kernel
theorem dX5_callGroup_112 : decode cX5_callGroup 112 = .ok (.iaload, 1) := by decide +kernel
theorem dX5_callGroup_113 : decode cX5_callGroup 113 = .ok (.iconst 3, 1) := by decide +kernel
theorem dX5_callGroup_114 : decode cX5_callGroup 114 = .ok (.if_icmp .ne 24, 3) := by decide +kernel
theorem dX5_callGroup_117 : decode cX5_callGroup 117 = .ok (.aload_n 0, 1) := by decide +kernel
theorem dX5_callGroup_118 : decode cX5_callGroup 118 = .ok (.iload_n 1, 1) := by decide +kernel
theorem dX5_callGroup_119 : decode cX5_callGroup 119 = .ok (.iload 7, 2) := by decide +kernel
theorem dX5_callGroup_121 : decode cX5_callGroup 121 = .ok (.aload_n 0, 1) := by decide +kernel
theorem dX5_callGroup_122 : decode cX5_callGroup 122 = .ok (.iload_n 1, 1) := by decide +kernel
theorem dX5_callGroup_123 : decode cX5_callGroup 123 = .ok (.iload 7, 2) := by decide +kernel
theorem dX5_callGroup_125 : decode cX5_callGroup 125 = .ok (.invokevirtual 120, 3) := by decide +kernel
theorem dX5_callGroup_128 : decode cX5_callGroup 128 = .ok (.invokevirtual 126, 3) := by decide +kernel
theorem dX5_callGroup_131 : decode cX5_callGroup 131 = .ok (.iload 6, 2) := by decide +kernel
theorem dX5_callGroup_133 : decode cX5_callGroup 133 = .ok (.istore 4, 2) := by decide +kernel
theorem dX5_callGroup_135 : decode cX5_callGroup 135 = .ok (.goto 71, 3) := by decide +kernel
theorem dX5_callGroup_138 : decode cX5_callGroup 138 = .ok (.iload 8, 2) := by decide +kernel
theorem dX5_callGroup_140 : decode cX5_callGroup 140 = .ok (.ifCond .lt 66, 3) := by decide +kernel
theorem dX5_callGroup_143 : decode cX5_callGroup 143 = .ok (.iload 4, 2) := by decide +kernel
theorem dX5_callGroup_145 : decode cX5_callGroup 145 = .ok (.ifCond .lt 40, 3) := by decide +kernel
theorem dX5_callGroup_148 : decode cX5_callGroup 148 = .ok (.aload_n 0, 1) := by decide +kernel
theorem dX5_callGroup_149 : decode cX5_callGroup 149 = .ok (.getfield 62, 3) := by decide +kernel
theorem dX5_callGroup_152 : decode cX5_callGroup 152 = .ok (.iload_n 2, 1) := by decide +kernel
theorem dX5_callGroup_153 : decode cX5_callGroup 153 = .ok (.iaload, 1) := by decide +kernel
theorem dX5_callGroup_154 : decode cX5_callGroup 154 = .ok (.iconst 2, 1) := by decide +kernel
theorem dX5_callGroup_155 : decode cX5_callGroup 155 = .ok (.if_icmp .ne 34, 3) := by decide +kernel
theorem dX5_callGroup_158 : decode cX5_callGroup 158 = .ok (.aload_n 0, 1) := by decide +kernel
theorem dX5_callGroup_159 : decode cX5_callGroup 159 = .ok (.getfield 16, 3) := by decide +kernel
theorem dX5_callGroup_162 : decode cX5_callGroup 162 = .ok (.iload 7, 2) := by decide +kernel
theorem dX5_callGroup_164 : decode cX5_callGroup 164 = .ok (.iaload, 1) := by decide +kernel
theorem dX5_callGroup_165 : decode cX5_callGroup 165 = .ok (.aload_n 0, 1) := by decide +kernel
theorem dX5_callGroup_166 : decode cX5_callGroup 166 = .ok (.getfield 16, 3) := by decide +kernel
theorem dX5_callGroup_169 : decode cX5_callGroup 169 = .ok (.aload_n 0, 1) := by decide +kernel
theorem dX5_callGroup_170 : decode cX5_callGroup 170 = .ok (.getfield 56, 3) := by decide +kernel
theorem dX5_callGroup_173 : decode cX5_callGroup 173 = .ok (.bipush 6, 2) := by decide +kernel
theorem dX5_callGroup_175 : decode cX5_callGroup 175 = .ok (.iload_n 2, 1) := by decide +kernel
theorem dX5_callGroup_176 : decode cX5_callGroup 176 = .ok (.imul, 1) := by decide +kernel
theorem dX5_callGroup_177 : decode cX5_callGroup 177 = .ok (.iload 4, 2) := by decide +kernel
theorem dX5_callGroup_179 : decode cX5_callGroup 179 = .ok (.iadd, 1) := by decide +kernel
theorem dX5_callGroup_180 : decode cX5_callGroup 180 = .ok (.iaload, 1) := by decide +kernel
theorem dX5_callGroup_181 : decode cX5_callGroup 181 = .ok (.iaload, 1) := by decide +kernel
theorem dX5_callGroup_182 : decode cX5_callGroup 182 = .ok (.if_icmp .ge 7, 3) := by decide +kernel
theorem dX5_callGroup_185 : decode cX5_callGroup 185 = .ok (.iconst 1, 1) := by decide +kernel
theorem dX5_callGroup_186 : decode cX5_callGroup 186 = .ok (.goto 4, 3) := by decide +kernel
theorem dX5_callGroup_189 : decode cX5_callGroup 189 = .ok (.iconst 0, 1) := by decide +kernel
theorem dX5_callGroup_190 : decode cX5_callGroup 190 = .ok (.istore 9, 2) := by decide +kernel
theorem dX5_callGroup_192 : decode cX5_callGroup 192 = .ok (.iload 9, 2) := by decide +kernel
theorem dX5_callGroup_194 : decode cX5_callGroup 194 = .ok (.ifCond .eq 8, 3) := by decide +kernel
theorem dX5_callGroup_197 : decode cX5_callGroup 197 = .ok (.iload 6, 2) := by decide +kernel
theorem dX5_callGroup_199 : decode cX5_callGroup 199 = .ok (.goto 5, 3) := by decide +kernel
theorem dX5_callGroup_202 : decode cX5_callGroup 202 = .ok (.iload 4, 2) := by decide +kernel
theorem dX5_callGroup_204 : decode cX5_callGroup 204 = .ok (.istore 4, 2) := by decide +kernel
theorem dX5_callGroup_206 : decode cX5_callGroup 206 = .ok (.iinc 5 1, 3) := by decide +kernel
theorem dX5_callGroup_209 : decode cX5_callGroup 209 = .ok (.goto (-201), 3) := by decide +kernel
theorem dX5_callGroup_212 : decode cX5_callGroup 212 = .ok (.iload 4, 2) := by decide +kernel
theorem dX5_callGroup_214 : decode cX5_callGroup 214 = .ok (.ifCond .ge 23, 3) := by decide +kernel
theorem dX5_callGroup_217 : decode cX5_callGroup 217 = .ok (.iload_n 3, 1) := by decide +kernel
theorem dX5_callGroup_218 : decode cX5_callGroup 218 = .ok (.ifCond .eq 13, 3) := by decide +kernel
theorem dX5_callGroup_221 : decode cX5_callGroup 221 = .ok (.aload_n 0, 1) := by decide +kernel
theorem dX5_callGroup_222 : decode cX5_callGroup 222 = .ok (.dup, 1) := by decide +kernel
theorem dX5_callGroup_223 : decode cX5_callGroup 223 = .ok (.getfield 123, 3) := by decide +kernel
theorem dX5_callGroup_226 : decode cX5_callGroup 226 = .ok (.iconst 1, 1) := by decide +kernel
theorem dX5_callGroup_227 : decode cX5_callGroup 227 = .ok (.iadd, 1) := by decide +kernel
theorem dX5_callGroup_228 : decode cX5_callGroup 228 = .ok (.putfield 123, 3) := by decide +kernel
theorem dX5_callGroup_231 : decode cX5_callGroup 231 = .ok (.aload_n 0, 1) := by decide +kernel
theorem dX5_callGroup_232 : decode cX5_callGroup 232 = .ok (.iload_n 1, 1) := by decide +kernel
theorem dX5_callGroup_233 : decode cX5_callGroup 233 = .ok (.invokevirtual 117, 3) := by decide +kernel
theorem dX5_callGroup_236 : decode cX5_callGroup 236 = .ok (.return_, 1) := by decide +kernel
theorem dX5_callGroup_237 : decode cX5_callGroup 237 = .ok (.aload_n 0, 1) := by decide +kernel
theorem dX5_callGroup_238 : decode cX5_callGroup 238 = .ok (.getfield 65, 3) := by decide +kernel
theorem dX5_callGroup_241 : decode cX5_callGroup 241 = .ok (.iload_n 2, 1) := by decide +kernel
theorem dX5_callGroup_242 : decode cX5_callGroup 242 = .ok (.iload 4, 2) := by decide +kernel
theorem dX5_callGroup_244 : decode cX5_callGroup 244 = .ok (.iastore, 1) := by decide +kernel
theorem dX5_callGroup_245 : decode cX5_callGroup 245 = .ok (.aload_n 0, 1) := by decide +kernel
theorem dX5_callGroup_246 : decode cX5_callGroup 246 = .ok (.getfield 62, 3) := by decide +kernel
theorem dX5_callGroup_249 : decode cX5_callGroup 249 = .ok (.iload_n 2, 1) := by decide +kernel
theorem dX5_callGroup_250 : decode cX5_callGroup 250 = .ok (.iaload, 1) := by decide +kernel
theorem dX5_callGroup_251 : decode cX5_callGroup 251 = .ok (.iconst 3, 1) := by decide +kernel
theorem dX5_callGroup_252 : decode cX5_callGroup 252 = .ok (.if_icmp .ne 4, 3) := by decide +kernel
theorem dX5_callGroup_255 : decode cX5_callGroup 255 = .ok (.return_, 1) := by decide +kernel
theorem dX5_callGroup_256 : decode cX5_callGroup 256 = .ok (.aload_n 0, 1) := by decide +kernel
theorem dX5_callGroup_257 : decode cX5_callGroup 257 = .ok (.getfield 56, 3) := by decide +kernel
theorem dX5_callGroup_260 : decode cX5_callGroup 260 = .ok (.bipush 6, 2) := by decide +kernel
theorem dX5_callGroup_262 : decode cX5_callGroup 262 = .ok (.iload_n 2, 1) := by decide +kernel
theorem dX5_callGroup_263 : decode cX5_callGroup 263 = .ok (.imul, 1) := by decide +kernel
theorem dX5_callGroup_264 : decode cX5_callGroup 264 = .ok (.iload 4, 2) := by decide +kernel
theorem dX5_callGroup_266 : decode cX5_callGroup 266 = .ok (.iadd, 1) := by decide +kernel
theorem dX5_callGroup_267 : decode cX5_callGroup 267 = .ok (.iaload, 1) := by decide +kernel
theorem dX5_callGroup_268 : decode cX5_callGroup 268 = .ok (.istore 5, 2) := by decide +kernel
theorem dX5_callGroup_270 : decode cX5_callGroup 270 = .ok (.aload_n 0, 1) := by decide +kernel
theorem dX5_callGroup_271 : decode cX5_callGroup 271 = .ok (.iload_n 1, 1) := by decide +kernel
theorem dX5_callGroup_272 : decode cX5_callGroup 272 = .ok (.iload 5, 2) := by decide +kernel
theorem dX5_callGroup_274 : decode cX5_callGroup 274 = .ok (.aload_n 0, 1) := by decide +kernel
theorem dX5_callGroup_275 : decode cX5_callGroup 275 = .ok (.iload_n 1, 1) := by decide +kernel
theorem dX5_callGroup_276 : decode cX5_callGroup 276 = .ok (.iload 5, 2) := by decide +kernel
theorem dX5_callGroup_278 : decode cX5_callGroup 278 = .ok (.invokevirtual 120, 3) := by decide +kernel
theorem dX5_callGroup_281 : decode cX5_callGroup 281 = .ok (.invokevirtual 126, 3) := by decide +kernel
theorem dX5_callGroup_284 : decode cX5_callGroup 284 = .ok (.return_, 1) := by decide +kernel
set_option maxRecDepth 20000 in
theorem ggX5_pick_X5_busy : GoodIn wsX5_pick wsX5_busy := goodIn_r _ [9, 3, 10, 11, 12, 13, 8, 14, 1, 2, 15, 16, 17, 41, 42, 43, 44, 45, 46, 47, 48, 49, 50, 51, 52, 53, 54, 55, 56, 57, 58, 59, 60, 61, 62, 63, 64, 65] (by decide +kernel) (by decide +kernel)
set_option maxRecDepth 20000 in
theorem gX5_pick_X5_busy : GoodIn wsX5_pick (wsV RX5 117 RX5 yX5_busy wsX5_busy) := goodIn_app (goodIn_of _ (by decide +kernel)) ggX5_pick_X5_busy
set_option maxRecDepth 20000 in
theorem ggX5_pick_X5_hush : GoodIn wsX5_pick wsX5_hush := goodIn_r _ [21, 1, 3, 10, 22, 23, 24, 8, 25, 26, 11, 12, 13, 14, 2, 15, 16, 17, 41, 42, 43, 44, 45, 46, 47, 48, 49, 50, 51, 52, 53, 54, 55, 56, 57, 58, 59, 60, 61, 62, 63, 64, 65] (by decide +kernel) (by decide +kernel)
set_option maxRecDepth 20000 in
theorem gX5_pick_X5_hush : GoodIn wsX5_pick (wsV RX5 134 RX5 yX5_hush wsX5_hush) := goodIn_app (goodIn_of _ (by decide +kernel)) ggX5_pick_X5_hush
set_option maxRecDepth 20000 in
theorem ggX5_pick_X5_take : GoodIn wsX5_pick wsX5_take := goodIn_r _ [30, 31, 32, 33, 8, 34, 26, 22, 23, 24, 25, 41, 42, 43, 44, 45, 46, 47, 48, 49, 50, 51, 52, 53, 54, 55, 56, 57, 58, 59, 60, 61, 62, 63, 64, 65] (by decide +kernel) (by decide +kernel)
set_option maxRecDepth 20000 in
theorem gX5_pick_X5_take : GoodIn wsX5_pick (wsV RX5 120 RX5 yX5_take wsX5_take) := goodIn_app (goodIn_of _ (by decide +kernel)) ggX5_pick_X5_take
set_option maxRecDepth 20000 in
theorem ggX5_pick_X5_connect : GoodIn wsX5_pick wsX5_connect := goodIn_r _ [38, 3, 10, 39, 40, 15, 11, 12, 13, 8, 14, 1, 2, 16, 17, 41, 42, 43, 44, 45, 46, 47, 48, 49, 50, 51, 52, 53, 54, 55, 56, 57, 58, 59, 60, 61, 62, 63, 64, 65] (by decide +kernel) (by decide +kernel)
set_option maxRecDepth 20000 in
theorem gX5_pick_X5_connect : GoodIn wsX5_pick (wsV RX5 137 RX5 yX5_connect wsX5_connect) := goodIn_app (goodIn_of _ (by decide +kernel)) ggX5_pick_X5_connect
theorem dX5_pick_0 : decode cX5_pick 0 = .ok (.iconst (-1), 1) := by decide +kernel
theorem dX5_pick_1 : decode cX5_pick 1 = .ok (.istore_n 2, 1) := by decide +kernel
theorem dX5_pick_2 : decode cX5_pick 2 = .ok (.bipush 6, 2) := by decide +kernel
theorem dX5_pick_4 : decode cX5_pick 4 = .ok (.iload_n 1, 1) := by decide +kernel
theorem dX5_pick_5 : decode cX5_pick 5 = .ok (.bipush 6, 2) := by decide +kernel
theorem dX5_pick_7 : decode cX5_pick 7 = .ok (.idiv, 1) := by decide +kernel
theorem dX5_pick_8 : decode cX5_pick 8 = .ok (.imul, 1) := by decide +kernel
theorem dX5_pick_9 : decode cX5_pick 9 = .ok (.istore_n 3, 1) := by decide +kernel
theorem dX5_pick_10 : decode cX5_pick 10 = .ok (.iload_n 3, 1) := by decide +kernel
theorem dX5_pick_11 : decode cX5_pick 11 = .ok (.bipush 6, 2) := by decide +kernel
theorem dX5_pick_13 : decode cX5_pick 13 = .ok (.iload_n 1, 1) := by decide +kernel
theorem dX5_pick_14 : decode cX5_pick 14 = .ok (.bipush 6, 2) := by decide +kernel
theorem dX5_pick_16 : decode cX5_pick 16 = .ok (.idiv, 1) := by decide +kernel
theorem dX5_pick_17 : decode cX5_pick 17 = .ok (.imul, 1) := by decide +kernel
theorem dX5_pick_18 : decode cX5_pick 18 = .ok (.bipush 6, 2) := by decide +kernel
theorem dX5_pick_20 : decode cX5_pick 20 = .ok (.iadd, 1) := by decide +kernel
theorem dX5_pick_21 : decode cX5_pick 21 = .ok (.if_icmp .ge 56, 3) := by decide +kernel
theorem dX5_pick_24 : decode cX5_pick 24 = .ok (.aload_n 0, 1) := by decide +kernel
theorem dX5_pick_25 : decode cX5_pick 25 = .ok (.getfield 7, 3) := by decide +kernel
theorem dX5_pick_28 : decode cX5_pick 28 = .ok (.iload_n 3, 1) := by decide +kernel
theorem dX5_pick_29 : decode cX5_pick 29 = .ok (.iaload, 1) := by decide +kernel
theorem dX5_pick_30 : decode cX5_pick 30 = .ok (.iconst 4, 1) := by decide +kernel
theorem dX5_pick_31 : decode cX5_pick 31 = .ok (.if_icmp .ne 26, 3) := by decide +kernel
theorem dX5_pick_34 : decode cX5_pick 34 = .ok (.iload_n 2, 1) := by decide +kernel
theorem dX5_pick_35 : decode cX5_pick 35 = .ok (.ifCond .lt 18, 3) := by decide +kernel
theorem dX5_pick_38 : decode cX5_pick 38 = .ok (.aload_n 0, 1) := by decide +kernel
theorem dX5_pick_39 : decode cX5_pick 39 = .ok (.getfield 13, 3) := by decide +kernel
theorem dX5_pick_42 : decode cX5_pick 42 = .ok (.iload_n 3, 1) := by decide +kernel
theorem dX5_pick_43 : decode cX5_pick 43 = .ok (.iaload, 1) := by decide +kernel
theorem dX5_pick_44 : decode cX5_pick 44 = .ok (.aload_n 0, 1) := by decide +kernel
theorem dX5_pick_45 : decode cX5_pick 45 = .ok (.getfield 13, 3) := by decide +kernel
theorem dX5_pick_48 : decode cX5_pick 48 = .ok (.iload_n 2, 1) := by decide +kernel
theorem dX5_pick_49 : decode cX5_pick 49 = .ok (.iaload, 1) := by decide +kernel
theorem dX5_pick_50 : decode cX5_pick 50 = .ok (.if_icmp .ge 7, 3) := by decide +kernel
theorem dX5_pick_53 : decode cX5_pick 53 = .ok (.iconst 1, 1) := by decide +kernel
theorem dX5_pick_54 : decode cX5_pick 54 = .ok (.goto 4, 3) := by decide +kernel
theorem dX5_pick_57 : decode cX5_pick 57 = .ok (.iconst 0, 1) := by decide +kernel
theorem dX5_pick_58 : decode cX5_pick 58 = .ok (.istore 4, 2) := by decide +kernel
theorem dX5_pick_60 : decode cX5_pick 60 = .ok (.iload 4, 2) := by decide +kernel
theorem dX5_pick_62 : decode cX5_pick 62 = .ok (.ifCond .eq 7, 3) := by decide +kernel
theorem dX5_pick_65 : decode cX5_pick 65 = .ok (.iload_n 3, 1) := by decide +kernel
theorem dX5_pick_66 : decode cX5_pick 66 = .ok (.goto 4, 3) := by decide +kernel
theorem dX5_pick_69 : decode cX5_pick 69 = .ok (.iload_n 2, 1) := by decide +kernel
theorem dX5_pick_70 : decode cX5_pick 70 = .ok (.istore_n 2, 1) := by decide +kernel
theorem dX5_pick_71 : decode cX5_pick 71 = .ok (.iinc 3 1, 3) := by decide +kernel
theorem dX5_pick_74 : decode cX5_pick 74 = .ok (.goto (-64), 3) := by decide +kernel
theorem dX5_pick_77 : decode cX5_pick 77 = .ok (.iload_n 2, 1) := by decide +kernel
theorem dX5_pick_78 : decode cX5_pick 78 = .ok (.ifCond .ge 9, 3) := by decide +kernel
theorem dX5_pick_81 : decode cX5_pick 81 = .ok (.aload_n 0, 1) := by decide +kernel
theorem dX5_pick_82 : decode cX5_pick 82 = .ok (.iload_n 1, 1) := by decide +kernel
theorem dX5_pick_83 : decode cX5_pick 83 = .ok (.invokevirtual 117, 3) := by decide +kernel
theorem dX5_pick_86 : decode cX5_pick 86 = .ok (.return_, 1) := by decide +kernel
theorem dX5_pick_87 : decode cX5_pick 87 = .ok (.aload_n 0, 1) := by decide +kernel
theorem dX5_pick_88 : decode cX5_pick 88 = .ok (.getfield 22, 3) := by decide +kernel
theorem dX5_pick_91 : decode cX5_pick 91 = .ok (.iload_n 2, 1) := by decide +kernel
theorem dX5_pick_92 : decode cX5_pick 92 = .ok (.iaload, 1) := by decide +kernel
theorem dX5_pick_93 : decode cX5_pick 93 = .ok (.istore_n 3, 1) := by decide +kernel
theorem dX5_pick_94 : decode cX5_pick 94 = .ok (.aload_n 0, 1) := by decide +kernel
theorem dX5_pick_95 : decode cX5_pick 95 = .ok (.iload_n 3, 1) := by decide +kernel
theorem dX5_pick_96 : decode cX5_pick 96 = .ok (.iconst (-1), 1) := by decide +kernel
theorem dX5_pick_97 : decode cX5_pick 97 = .ok (.invokevirtual 134, 3) := by decide +kernel
theorem dX5_pick_100 : decode cX5_pick 100 = .ok (.aload_n 0, 1) := by decide +kernel
theorem dX5_pick_101 : decode cX5_pick 101 = .ok (.iload_n 3, 1) := by decide +kernel
theorem dX5_pick_102 : decode cX5_pick 102 = .ok (.iload_n 1, 1) := by decide +kernel
theorem dX5_pick_103 : decode cX5_pick 103 = .ok (.invokevirtual 120, 3) := by decide +kernel
theorem dX5_pick_106 : decode cX5_pick 106 = .ok (.istore 4, 2) := by decide +kernel
theorem dX5_pick_108 : decode cX5_pick 108 = .ok (.iload 4, 2) := by decide +kernel
theorem dX5_pick_110 : decode cX5_pick 110 = .ok (.ifCond .ge 26, 3) := by decide +kernel
theorem dX5_pick_113 : decode cX5_pick 113 = .ok (.aload_n 0, 1) := by decide +kernel
theorem dX5_pick_114 : decode cX5_pick 114 = .ok (.dup, 1) := by decide +kernel
theorem dX5_pick_115 : decode cX5_pick 115 = .ok (.getfield 123, 3) := by decide +kernel
theorem dX5_pick_118 : decode cX5_pick 118 = .ok (.iconst 1, 1) := by decide +kernel
theorem dX5_pick_119 : decode cX5_pick 119 = .ok (.iadd, 1) := by decide +kernel
theorem dX5_pick_120 : decode cX5_pick 120 = .ok (.putfield 123, 3) := by decide +kernel
theorem dX5_pick_123 : decode cX5_pick 123 = .ok (.aload_n 0, 1) := by decide +kernel
theorem dX5_pick_124 : decode cX5_pick 124 = .ok (.iload_n 3, 1) := by decide +kernel
theorem dX5_pick_125 : decode cX5_pick 125 = .ok (.invokevirtual 117, 3) := by decide +kernel
theorem dX5_pick_128 : decode cX5_pick 128 = .ok (.aload_n 0, 1) := by decide +kernel
theorem dX5_pick_129 : decode cX5_pick 129 = .ok (.iload_n 1, 1) := by decide +kernel
theorem dX5_pick_130 : decode cX5_pick 130 = .ok (.invokevirtual 117, 3) := by decide +kernel
theorem dX5_pick_133 : decode cX5_pick 133 = .ok (.goto 11, 3) := by decide +kernel
theorem dX5_pick_136 : decode cX5_pick 136 = .ok (.aload_n 0, 1) := by decide +kernel
theorem dX5_pick_137 : decode cX5_pick 137 = .ok (.iload_n 3, 1) := by decide +kernel
theorem dX5_pick_138 : decode cX5_pick 138 = .ok (.iload_n 1, 1) := by decide +kernel
theorem dX5_pick_139 : decode cX5_pick 139 = .ok (.iload 4, 2) := by decide +kernel
theorem dX5_pick_141 : decode cX5_pick 141 = .ok (.invokevirtual 137, 3) := by decide +kernel
theorem dX5_pick_144 : decode cX5_pick 144 = .ok (.return_, 1) := by decide +kernel
set_option maxRecDepth 20000 in
theorem ggX5_unpark_X5_take : GoodIn wsX5_unpark wsX5_take := goodIn_r _ [7, 8, 9, 10, 6, 11, 12, 13, 14, 15, 16, 38, 39, 40, 41, 42, 43, 44, 45, 46, 47, 48, 49, 50, 51, 52, 53, 54, 55, 56, 57, 58, 59, 60, 61, 62] (by decide +kernel) (by decide +kernel)
set_option maxRecDepth 20000 in
theorem gX5_unpark_X5_take : GoodIn wsX5_unpark (wsV RX5 120 RX5 yX5_take wsX5_take) := goodIn_app (goodIn_of _ (by decide +kernel)) ggX5_unpark_X5_take
set_option maxRecDepth 20000 in
theorem ggX5_unpark_X5_busy : GoodIn wsX5_unpark wsX5_busy := goodIn_r _ [20, 21, 22, 23, 24, 25, 6, 26, 27, 28, 29, 30, 31, 38, 39, 40, 41, 42, 43, 44, 45, 46, 47, 48, 49, 50, 51, 52, 53, 54, 55, 56, 57, 58, 59, 60, 61, 62] (by decide +kernel) (by decide +kernel)
set_option maxRecDepth 20000 in
theorem gX5_unpark_X5_busy : GoodIn wsX5_unpark (wsV RX5 117 RX5 yX5_busy wsX5_busy) := goodIn_app (goodIn_of _ (by decide +kernel)) ggX5_unpark_X5_busy
set_option maxRecDepth 20000 in
theorem ggX5_unpark_X5_connect : GoodIn wsX5_unpark wsX5_connect := goodIn_r _ [35, 21, 22, 36, 37, 29, 23, 24, 25, 6, 26, 27, 28, 30, 31, 38, 39, 40, 41, 42, 43, 44, 45, 46, 47, 48, 49, 50, 51, 52, 53, 54, 55, 56, 57, 58, 59, 60, 61, 62] (by decide +kernel) (by decide +kernel)
set_option maxRecDepth 20000 in
theorem gX5_unpark_X5_connect : GoodIn wsX5_unpark (wsV RX5 137 RX5 yX5_connect wsX5_connect) := goodIn_app (goodIn_of _ (by decide +kernel)) ggX5_unpark_X5_connect
theorem dX5_unpark_0 : decode cX5_unpark 0 = .ok (.aload_n 0, 1) := by decide +kernel
theorem dX5_unpark_1 : decode cX5_unpark 1 = .ok (.getfield 50, 3) := by decide +kernel
theorem dX5_unpark_4 : decode cX5_unpark 4 = .ok (.iload_n 2, 1) := by decide +kernel
theorem dX5_unpark_5 : decode cX5_unpark 5 = .ok (.iaload, 1) := by decide +kernel
theorem dX5_unpark_6 : decode cX5_unpark 6 = .ok (.istore_n 3, 1) := by decide +kernel
theorem dX5_unpark_7 : decode cX5_unpark 7 = .ok (.iload_n 3, 1) := by decide +kernel
theorem dX5_unpark_8 : decode cX5_unpark 8 = .ok (.ifCond .ge 7, 3) := by decide +kernel
theorem dX5_unpark_11 : decode cX5_unpark 11 = .ok (.iconst (-1), 1) := by decide +kernel
theorem dX5_unpark_12 : decode cX5_unpark 12 = .ok (.goto 9, 3) := by decide +kernel
theorem dX5_unpark_15 : decode cX5_unpark 15 = .ok (.aload_n 0, 1) := by decide +kernel
theorem dX5_unpark_16 : decode cX5_unpark 16 = .ok (.iload_n 3, 1) := by decide +kernel
theorem dX5_unpark_17 : decode cX5_unpark 17 = .ok (.iload_n 1, 1) := by decide +kernel
theorem dX5_unpark_18 : decode cX5_unpark 18 = .ok (.invokevirtual 120, 3) := by decide +kernel
theorem dX5_unpark_21 : decode cX5_unpark 21 = .ok (.istore 4, 2) := by decide +kernel
theorem dX5_unpark_23 : decode cX5_unpark 23 = .ok (.iload 4, 2) := by decide +kernel
theorem dX5_unpark_25 : decode cX5_unpark 25 = .ok (.ifCond .ge 23, 3) := by decide +kernel
theorem dX5_unpark_28 : decode cX5_unpark 28 = .ok (.iload_n 3, 1) := by decide +kernel
theorem dX5_unpark_29 : decode cX5_unpark 29 = .ok (.ifCond .lt 13, 3) := by decide +kernel
theorem dX5_unpark_32 : decode cX5_unpark 32 = .ok (.aload_n 0, 1) := by decide +kernel
theorem dX5_unpark_33 : decode cX5_unpark 33 = .ok (.dup, 1) := by decide +kernel
theorem dX5_unpark_34 : decode cX5_unpark 34 = .ok (.getfield 123, 3) := by decide +kernel
theorem dX5_unpark_37 : decode cX5_unpark 37 = .ok (.iconst 1, 1) := by decide +kernel
theorem dX5_unpark_38 : decode cX5_unpark 38 = .ok (.iadd, 1) := by decide +kernel
theorem dX5_unpark_39 : decode cX5_unpark 39 = .ok (.putfield 123, 3) := by decide +kernel
theorem dX5_unpark_42 : decode cX5_unpark 42 = .ok (.aload_n 0, 1) := by decide +kernel
theorem dX5_unpark_43 : decode cX5_unpark 43 = .ok (.iload_n 1, 1) := by decide +kernel
theorem dX5_unpark_44 : decode cX5_unpark 44 = .ok (.invokevirtual 117, 3) := by decide +kernel
theorem dX5_unpark_47 : decode cX5_unpark 47 = .ok (.return_, 1) := by decide +kernel
theorem dX5_unpark_48 : decode cX5_unpark 48 = .ok (.aload_n 0, 1) := by decide +kernel
theorem dX5_unpark_49 : decode cX5_unpark 49 = .ok (.getfield 50, 3) := by decide +kernel
theorem dX5_unpark_52 : decode cX5_unpark 52 = .ok (.iload_n 2, 1) := by decide +kernel
theorem dX5_unpark_53 : decode cX5_unpark 53 = .ok (.iconst (-1), 1) := by decide +kernel
theorem dX5_unpark_54 : decode cX5_unpark 54 = .ok (.iastore, 1) := by decide +kernel
theorem dX5_unpark_55 : decode cX5_unpark 55 = .ok (.aload_n 0, 1) := by decide +kernel
theorem dX5_unpark_56 : decode cX5_unpark 56 = .ok (.iload_n 3, 1) := by decide +kernel
theorem dX5_unpark_57 : decode cX5_unpark 57 = .ok (.iload_n 1, 1) := by decide +kernel
theorem dX5_unpark_58 : decode cX5_unpark 58 = .ok (.iload 4, 2) := by decide +kernel
theorem dX5_unpark_60 : decode cX5_unpark 60 = .ok (.invokevirtual 137, 3) := by decide +kernel
theorem dX5_unpark_63 : decode cX5_unpark 63 = .ok (.return_, 1) := by decide +kernel
set_option maxRecDepth 20000 in
theorem ggX5_settle_X5_callLine : GoodIn wsX5_settle wsX5_callLine := goodIn_r _ [8, 9, 1, 10, 11, 12, 13, 14, 7, 15, 3, 16, 17, 18, 19, 20, 21, 22, 23, 24, 25, 26, 27, 28, 29, 30, 31, 32, 33, 34, 35, 36, 37, 38, 39, 40, 41, 42, 43, 44, 45, 46, 47, 48, 49, 50, 51, 52, 53, 54, 55, 56, 57, 58, 59, 60, 61, 62, 63, 64, 65, 66, 67] (by decide +kernel) (by decide +kernel)
set_option maxRecDepth 20000 in
theorem gX5_settle_X5_callLine : GoodIn wsX5_settle (wsV RX5 104 RX5 yX5_callLine wsX5_callLine) := goodIn_app (goodIn_of _ (by decide +kernel)) ggX5_settle_X5_callLine
theorem dX5_settle_0 : decode cX5_settle 0 = .ok (.iconst 0, 1) := by decide +kernel
theorem dX5_settle_1 : decode cX5_settle 1 = .ok (.istore_n 1, 1) := by decide +kernel
theorem dX5_settle_2 : decode cX5_settle 2 = .ok (.iload_n 1, 1) := by decide +kernel
theorem dX5_settle_3 : decode cX5_settle 3 = .ok (.bipush 24, 2) := by decide +kernel
theorem dX5_settle_5 : decode cX5_settle 5 = .ok (.if_icmp .ge 54, 3) := by decide +kernel
theorem dX5_settle_8 : decode cX5_settle 8 = .ok (.aload_n 0, 1) := by decide +kernel
theorem dX5_settle_9 : decode cX5_settle 9 = .ok (.getfield 7, 3) := by decide +kernel
theorem dX5_settle_12 : decode cX5_settle 12 = .ok (.iload_n 1, 1) := by decide +kernel
theorem dX5_settle_13 : decode cX5_settle 13 = .ok (.iaload, 1) := by decide +kernel
theorem dX5_settle_14 : decode cX5_settle 14 = .ok (.ifCond .ne 39, 3) := by decide +kernel
theorem dX5_settle_17 : decode cX5_settle 17 = .ok (.aload_n 0, 1) := by decide +kernel
theorem dX5_settle_18 : decode cX5_settle 18 = .ok (.getfield 47, 3) := by decide +kernel
theorem dX5_settle_21 : decode cX5_settle 21 = .ok (.iload_n 1, 1) := by decide +kernel
theorem dX5_settle_22 : decode cX5_settle 22 = .ok (.iaload, 1) := by decide +kernel
theorem dX5_settle_23 : decode cX5_settle 23 = .ok (.ifCond .lt 30, 3) := by decide +kernel
theorem dX5_settle_26 : decode cX5_settle 26 = .ok (.aload_n 0, 1) := by decide +kernel
theorem dX5_settle_27 : decode cX5_settle 27 = .ok (.getfield 47, 3) := by decide +kernel
theorem dX5_settle_30 : decode cX5_settle 30 = .ok (.iload_n 1, 1) := by decide +kernel
theorem dX5_settle_31 : decode cX5_settle 31 = .ok (.iaload, 1) := by decide +kernel
theorem dX5_settle_32 : decode cX5_settle 32 = .ok (.istore_n 2, 1) := by decide +kernel
theorem dX5_settle_33 : decode cX5_settle 33 = .ok (.aload_n 0, 1) := by decide +kernel
theorem dX5_settle_34 : decode cX5_settle 34 = .ok (.getfield 47, 3) := by decide +kernel
theorem dX5_settle_37 : decode cX5_settle 37 = .ok (.iload_n 1, 1) := by decide +kernel
theorem dX5_settle_38 : decode cX5_settle 38 = .ok (.iconst (-1), 1) := by decide +kernel
theorem dX5_settle_39 : decode cX5_settle 39 = .ok (.iastore, 1) := by decide +kernel
theorem dX5_settle_40 : decode cX5_settle 40 = .ok (.aload_n 0, 1) := by decide +kernel
theorem dX5_settle_41 : decode cX5_settle 41 = .ok (.getfield 22, 3) := by decide +kernel
theorem dX5_settle_44 : decode cX5_settle 44 = .ok (.iload_n 2, 1) := by decide +kernel
theorem dX5_settle_45 : decode cX5_settle 45 = .ok (.iconst (-1), 1) := by decide +kernel
theorem dX5_settle_46 : decode cX5_settle 46 = .ok (.iastore, 1) := by decide +kernel
theorem dX5_settle_47 : decode cX5_settle 47 = .ok (.aload_n 0, 1) := by decide +kernel
theorem dX5_settle_48 : decode cX5_settle 48 = .ok (.iload_n 2, 1) := by decide +kernel
theorem dX5_settle_49 : decode cX5_settle 49 = .ok (.iload_n 1, 1) := by decide +kernel
theorem dX5_settle_50 : decode cX5_settle 50 = .ok (.invokevirtual 104, 3) := by decide +kernel
theorem dX5_settle_53 : decode cX5_settle 53 = .ok (.iinc 1 1, 3) := by decide +kernel
theorem dX5_settle_56 : decode cX5_settle 56 = .ok (.goto (-54), 3) := by decide +kernel
theorem dX5_settle_59 : decode cX5_settle 59 = .ok (.return_, 1) := by decide +kernel
set_option maxRecDepth 20000 in
theorem ggX5_up_X5_isLine : GoodIn wsX5_up wsX5_isLine := goodIn_r _ [7, 8, 9, 6, 10] (by decide +kernel) (by decide +kernel)
set_option maxRecDepth 20000 in
theorem gX5_up_X5_isLine : GoodIn wsX5_up (va_wsS RX5 140 yX5_isLine wsX5_isLine) := goodIn_app (goodIn_of _ (by decide +kernel)) ggX5_up_X5_isLine
set_option maxRecDepth 20000 in
theorem ggX5_up_X5_throwing : GoodIn wsX5_up wsX5_throwing := goodIn_r _ [14, 15, 68, 69, 70, 71, 72, 73, 74, 75, 76, 77, 78, 79, 80, 81, 82, 83, 84, 85, 86, 87, 88, 89, 90, 91, 92] (by decide +kernel) (by decide +kernel)
set_option maxRecDepth 20000 in
theorem gX5_up_X5_throwing : GoodIn wsX5_up (wsV RX5 144 RX5 yX5_throwing wsX5_throwing) := goodIn_app (goodIn_of _ (by decide +kernel)) ggX5_up_X5_throwing
set_option maxRecDepth 20000 in
theorem ggX5_up_X5_become : GoodIn wsX5_up wsX5_become := goodIn_r _ [19, 1, 20, 21, 22, 23, 2, 3, 68, 69, 70, 71, 72, 73, 74, 75, 76, 77, 78, 79, 80, 81, 82, 83, 84, 85, 86, 87, 88, 89, 90, 91, 92] (by decide +kernel) (by decide +kernel)
set_option maxRecDepth 20000 in
theorem gX5_up_X5_become : GoodIn wsX5_up (wsV RX5 90 RX5 yX5_become wsX5_become) := goodIn_app (goodIn_of _ (by decide +kernel)) ggX5_up_X5_become
set_option maxRecDepth 20000 in
theorem ggX5_up_X5_hush : GoodIn wsX5_up wsX5_hush := goodIn_r _ [27, 1, 2, 3, 28, 29, 30, 6, 31, 32, 16, 17, 18, 19, 20, 21, 22, 23, 68, 69, 70, 71, 72, 73, 74, 75, 76, 77, 78, 79, 80, 81, 82, 83, 84, 85, 86, 87, 88, 89, 90, 91, 92] (by decide +kernel) (by decide +kernel)
set_option maxRecDepth 20000 in
theorem gX5_up_X5_hush : GoodIn wsX5_up (wsV RX5 134 RX5 yX5_hush wsX5_hush) := goodIn_app (goodIn_of _ (by decide +kernel)) ggX5_up_X5_hush
set_option maxRecDepth 20000 in
theorem ggX5_up_X5_connect : GoodIn wsX5_up wsX5_connect := goodIn_r _ [36, 2, 3, 37, 38, 21, 16, 17, 18, 6, 19, 1, 20, 22, 23, 68, 69, 70, 71, 72, 73, 74, 75, 76, 77, 78, 79, 80, 81, 82, 83, 84, 85, 86, 87, 88, 89, 90, 91, 92] (by decide +kernel) (by decide +kernel)
set_option maxRecDepth 20000 in
theorem gX5_up_X5_connect : GoodIn wsX5_up (wsV RX5 137 RX5 yX5_connect wsX5_connect) := goodIn_app (goodIn_of _ (by decide +kernel)) ggX5_up_X5_connect
set_option maxRecDepth 20000 in
theorem ggX5_up_X5_settle : GoodIn wsX5_up wsX5_settle := goodIn_r _ [42, 1, 43, 2, 44, 45, 46, 6, 47, 48, 22, 49, 50, 51, 52, 53, 3, 16, 17, 18, 19, 20, 21, 23, 54, 55, 56, 57, 58, 59, 60, 61, 32, 28, 29, 30, 31, 62, 63, 64, 65, 66, 67, 68, 69, 70, 71, 72, 73, 74, 75, 76, 77, 78, 79, 80, 81, 82, 83, 84, 85, 86, 87, 88, 89, 90, 91, 92] (by decide +kernel) (by decide +kernel)
set_option maxRecDepth 20000 in
theorem gX5_up_X5_settle : GoodIn wsX5_up (wsV RX5 148 RX5 yX5_settle wsX5_settle) := goodIn_app (goodIn_of _ (by decide +kernel)) ggX5_up_X5_settle
theorem dX5_up_0 : decode cX5_up 0 = .ok (.iload_n 1, 1) := by decide +kernel
theorem dX5_up_1 : decode cX5_up 1 = .ok (.invokestatic 140, 3) := by decide +kernel
theorem dX5_up_4 : decode cX5_up 4 = .ok (.ifCond .ne 7, 3) := by decide +kernel
theorem dX5_up_7 : decode cX5_up 7 = .ok (.iconst 1, 1) := by decide +kernel
theorem dX5_up_8 : decode cX5_up 8 = .ok (.goto 4, 3) := by decide +kernel
theorem dX5_up_11 : decode cX5_up 11 = .ok (.iconst 0, 1) := by decide +kernel
theorem dX5_up_12 : decode cX5_up 12 = .ok (.istore_n 2, 1) := by decide +kernel
theorem dX5_up_13 : decode cX5_up 13 = .ok (.aload_n 0, 1) := by decide +kernel
theorem dX5_up_14 : decode cX5_up 14 = .ok (.iload_n 2, 1) := by decide +kernel
theorem dX5_up_15 : decode cX5_up 15 = .ok (.iload_n 2, 1) := by decide +kernel
theorem dX5_up_16 : decode cX5_up 16 = .ok (.ifCond .ne 26, 3) := by decide +kernel
theorem dX5_up_19 : decode cX5_up 19 = .ok (.aload_n 0, 1) := by decide +kernel
theorem dX5_up_20 : decode cX5_up 20 = .ok (.getfield 7, 3) := by decide +kernel
theorem dX5_up_23 : decode cX5_up 23 = .ok (.iload_n 1, 1) := by decide +kernel
theorem dX5_up_24 : decode cX5_up 24 = .ok (.iaload, 1) := by decide +kernel
theorem dX5_up_25 : decode cX5_up 25 = .ok (.ifCond .eq 17, 3) := by decide +kernel
theorem dX5_up_28 : decode cX5_up 28 = .ok (.aload_n 0, 1) := by decide +kernel
theorem dX5_up_29 : decode cX5_up 29 = .ok (.getfield 7, 3) := by decide +kernel
theorem dX5_up_32 : decode cX5_up 32 = .ok (.iload_n 1, 1) := by decide +kernel
theorem dX5_up_33 : decode cX5_up 33 = .ok (.iaload, 1) := by decide +kernel
theorem dX5_up_34 : decode cX5_up 34 = .ok (.iconst 4, 1) := by decide +kernel
theorem dX5_up_35 : decode cX5_up 35 = .ok (.if_icmp .eq 7, 3) := by decide +kernel
theorem dX5_up_38 : decode cX5_up 38 = .ok (.iconst 1, 1) := by decide +kernel
theorem dX5_up_39 : decode cX5_up 39 = .ok (.goto 4, 3) := by decide +kernel
theorem dX5_up_42 : decode cX5_up 42 = .ok (.iconst 0, 1) := by decide +kernel
theorem dX5_up_43 : decode cX5_up 43 = .ok (.invokevirtual 144, 3) := by decide +kernel
theorem dX5_up_46 : decode cX5_up 46 = .ok (.ifCond .eq 5, 3) := by decide +kernel
theorem dX5_up_49 : decode cX5_up 49 = .ok (.iconst 0, 1) := by decide +kernel
theorem dX5_up_50 : decode cX5_up 50 = .ok (.ireturn, 1) := by decide +kernel
theorem dX5_up_51 : decode cX5_up 51 = .ok (.aload_n 0, 1) := by decide +kernel
theorem dX5_up_52 : decode cX5_up 52 = .ok (.getfield 7, 3) := by decide +kernel
theorem dX5_up_55 : decode cX5_up 55 = .ok (.iload_n 1, 1) := by decide +kernel
theorem dX5_up_56 : decode cX5_up 56 = .ok (.iaload, 1) := by decide +kernel
theorem dX5_up_57 : decode cX5_up 57 = .ok (.ifCond .ne 12, 3) := by decide +kernel
theorem dX5_up_60 : decode cX5_up 60 = .ok (.aload_n 0, 1) := by decide +kernel
theorem dX5_up_61 : decode cX5_up 61 = .ok (.iload_n 1, 1) := by decide +kernel
theorem dX5_up_62 : decode cX5_up 62 = .ok (.iconst 1, 1) := by decide +kernel
theorem dX5_up_63 : decode cX5_up 63 = .ok (.invokevirtual 90, 3) := by decide +kernel
theorem dX5_up_66 : decode cX5_up 66 = .ok (.goto 28, 3) := by decide +kernel
theorem dX5_up_69 : decode cX5_up 69 = .ok (.aload_n 0, 1) := by decide +kernel
theorem dX5_up_70 : decode cX5_up 70 = .ok (.getfield 22, 3) := by decide +kernel
theorem dX5_up_73 : decode cX5_up 73 = .ok (.iload_n 1, 1) := by decide +kernel
theorem dX5_up_74 : decode cX5_up 74 = .ok (.iaload, 1) := by decide +kernel
theorem dX5_up_75 : decode cX5_up 75 = .ok (.istore_n 3, 1) := by decide +kernel
theorem dX5_up_76 : decode cX5_up 76 = .ok (.aload_n 0, 1) := by decide +kernel
theorem dX5_up_77 : decode cX5_up 77 = .ok (.iload_n 3, 1) := by decide +kernel
theorem dX5_up_78 : decode cX5_up 78 = .ok (.iload_n 1, 1) := by decide +kernel
theorem dX5_up_79 : decode cX5_up 79 = .ok (.invokevirtual 134, 3) := by decide +kernel
theorem dX5_up_82 : decode cX5_up 82 = .ok (.aload_n 0, 1) := by decide +kernel
theorem dX5_up_83 : decode cX5_up 83 = .ok (.iload_n 3, 1) := by decide +kernel
theorem dX5_up_84 : decode cX5_up 84 = .ok (.iload_n 1, 1) := by decide +kernel
theorem dX5_up_85 : decode cX5_up 85 = .ok (.aload_n 0, 1) := by decide +kernel
theorem dX5_up_86 : decode cX5_up 86 = .ok (.getfield 25, 3) := by decide +kernel
theorem dX5_up_89 : decode cX5_up 89 = .ok (.iload_n 1, 1) := by decide +kernel
theorem dX5_up_90 : decode cX5_up 90 = .ok (.iaload, 1) := by decide +kernel
theorem dX5_up_91 : decode cX5_up 91 = .ok (.invokevirtual 137, 3) := by decide +kernel
theorem dX5_up_94 : decode cX5_up 94 = .ok (.aload_n 0, 1) := by decide +kernel
theorem dX5_up_95 : decode cX5_up 95 = .ok (.invokevirtual 148, 3) := by decide +kernel
theorem dX5_up_98 : decode cX5_up 98 = .ok (.aload_n 0, 1) := by decide +kernel
theorem dX5_up_99 : decode cX5_up 99 = .ok (.getfield 7, 3) := by decide +kernel
theorem dX5_up_102 : decode cX5_up 102 = .ok (.iload_n 1, 1) := by decide +kernel
theorem dX5_up_103 : decode cX5_up 103 = .ok (.iaload, 1) := by decide +kernel
theorem dX5_up_104 : decode cX5_up 104 = .ok (.ireturn, 1) := by decide +kernel
set_option maxRecDepth 20000 in
theorem ggX5_leave_X5_finish : GoodIn wsX5_leave wsX5_finish := goodIn_r _ [9, 2, 10, 11, 12, 13, 14, 15, 16, 17, 18, 8, 19, 20, 21, 22, 23, 24, 25, 41, 42, 43, 44, 45, 46, 47, 48, 49, 50, 51, 52, 53, 54, 55, 56, 57, 58, 59, 60, 61, 62, 63, 64, 65] (by decide +kernel) (by decide +kernel)
set_option maxRecDepth 20000 in
theorem gX5_leave_X5_finish : GoodIn wsX5_leave (wsV RX5 151 RX5 yX5_finish wsX5_finish) := goodIn_app (goodIn_of _ (by decide +kernel)) ggX5_leave_X5_finish
set_option maxRecDepth 20000 in
theorem ggX5_leave_X5_busy : GoodIn wsX5_leave wsX5_busy := goodIn_r _ [29, 2, 15, 30, 31, 32, 8, 33, 1, 34, 20, 35, 36, 41, 42, 43, 44, 45, 46, 47, 48, 49, 50, 51, 52, 53, 54, 55, 56, 57, 58, 59, 60, 61, 62, 63, 64, 65] (by decide +kernel) (by decide +kernel)
set_option maxRecDepth 20000 in
theorem gX5_leave_X5_busy : GoodIn wsX5_leave (wsV RX5 117 RX5 yX5_busy wsX5_busy) := goodIn_app (goodIn_of _ (by decide +kernel)) ggX5_leave_X5_busy
set_option maxRecDepth 20000 in
theorem ggX5_leave_X5_hush : GoodIn wsX5_leave wsX5_hush := goodIn_r _ [40, 1, 2, 15, 21, 22, 23, 8, 24, 25, 30, 31, 32, 33, 34, 20, 35, 36, 41, 42, 43, 44, 45, 46, 47, 48, 49, 50, 51, 52, 53, 54, 55, 56, 57, 58, 59, 60, 61, 62, 63, 64, 65] (by decide +kernel) (by decide +kernel)
set_option maxRecDepth 20000 in
theorem gX5_leave_X5_hush : GoodIn wsX5_leave (wsV RX5 134 RX5 yX5_hush wsX5_hush) := goodIn_app (goodIn_of _ (by decide +kernel)) ggX5_leave_X5_hush
theorem dX5_leave_0 : decode cX5_leave 0 = .ok (.aload_n 0, 1) := by decide +kernel
theorem dX5_leave_1 : decode cX5_leave 1 = .ok (.getfield 7, 3) := by decide +kernel
theorem dX5_leave_4 : decode cX5_leave 4 = .ok (.iload_n 1, 1) := by decide +kernel
theorem dX5_leave_5 : decode cX5_leave 5 = .ok (.iaload, 1) := by decide +kernel
theorem dX5_leave_6 : decode cX5_leave 6 = .ok (.bipush 6, 2) := by decide +kernel
theorem dX5_leave_8 : decode cX5_leave 8 = .ok (.if_icmp .ne 23, 3) := by decide +kernel
theorem dX5_leave_11 : decode cX5_leave 11 = .ok (.aload_n 0, 1) := by decide +kernel
theorem dX5_leave_12 : decode cX5_leave 12 = .ok (.getfield 22, 3) := by decide +kernel
theorem dX5_leave_15 : decode cX5_leave 15 = .ok (.iload_n 1, 1) := by decide +kernel
theorem dX5_leave_16 : decode cX5_leave 16 = .ok (.iaload, 1) := by decide +kernel
theorem dX5_leave_17 : decode cX5_leave 17 = .ok (.istore_n 2, 1) := by decide +kernel
theorem dX5_leave_18 : decode cX5_leave 18 = .ok (.aload_n 0, 1) := by decide +kernel
theorem dX5_leave_19 : decode cX5_leave 19 = .ok (.iload_n 1, 1) := by decide +kernel
theorem dX5_leave_20 : decode cX5_leave 20 = .ok (.invokevirtual 151, 3) := by decide +kernel
theorem dX5_leave_23 : decode cX5_leave 23 = .ok (.aload_n 0, 1) := by decide +kernel
theorem dX5_leave_24 : decode cX5_leave 24 = .ok (.iload_n 2, 1) := by decide +kernel
theorem dX5_leave_25 : decode cX5_leave 25 = .ok (.invokevirtual 117, 3) := by decide +kernel
theorem dX5_leave_28 : decode cX5_leave 28 = .ok (.goto 71, 3) := by decide +kernel
theorem dX5_leave_31 : decode cX5_leave 31 = .ok (.aload_n 0, 1) := by decide +kernel
theorem dX5_leave_32 : decode cX5_leave 32 = .ok (.getfield 7, 3) := by decide +kernel
theorem dX5_leave_35 : decode cX5_leave 35 = .ok (.iload_n 1, 1) := by decide +kernel
theorem dX5_leave_36 : decode cX5_leave 36 = .ok (.iaload, 1) := by decide +kernel
theorem dX5_leave_37 : decode cX5_leave 37 = .ok (.iconst 3, 1) := by decide +kernel
theorem dX5_leave_38 : decode cX5_leave 38 = .ok (.if_icmp .ne 12, 3) := by decide +kernel
theorem dX5_leave_41 : decode cX5_leave 41 = .ok (.aload_n 0, 1) := by decide +kernel
theorem dX5_leave_42 : decode cX5_leave 42 = .ok (.iload_n 1, 1) := by decide +kernel
theorem dX5_leave_43 : decode cX5_leave 43 = .ok (.iconst (-1), 1) := by decide +kernel
theorem dX5_leave_44 : decode cX5_leave 44 = .ok (.invokevirtual 134, 3) := by decide +kernel
theorem dX5_leave_47 : decode cX5_leave 47 = .ok (.goto 52, 3) := by decide +kernel
theorem dX5_leave_50 : decode cX5_leave 50 = .ok (.aload_n 0, 1) := by decide +kernel
theorem dX5_leave_51 : decode cX5_leave 51 = .ok (.getfield 7, 3) := by decide +kernel
theorem dX5_leave_54 : decode cX5_leave 54 = .ok (.iload_n 1, 1) := by decide +kernel
theorem dX5_leave_55 : decode cX5_leave 55 = .ok (.iaload, 1) := by decide +kernel
theorem dX5_leave_56 : decode cX5_leave 56 = .ok (.bipush 7, 2) := by decide +kernel
theorem dX5_leave_58 : decode cX5_leave 58 = .ok (.if_icmp .ne 18, 3) := by decide +kernel
theorem dX5_leave_61 : decode cX5_leave 61 = .ok (.aload_n 0, 1) := by decide +kernel
theorem dX5_leave_62 : decode cX5_leave 62 = .ok (.getfield 50, 3) := by decide +kernel
theorem dX5_leave_65 : decode cX5_leave 65 = .ok (.aload_n 0, 1) := by decide +kernel
theorem dX5_leave_66 : decode cX5_leave 66 = .ok (.getfield 22, 3) := by decide +kernel
theorem dX5_leave_69 : decode cX5_leave 69 = .ok (.iload_n 1, 1) := by decide +kernel
theorem dX5_leave_70 : decode cX5_leave 70 = .ok (.iaload, 1) := by decide +kernel
theorem dX5_leave_71 : decode cX5_leave 71 = .ok (.iconst (-1), 1) := by decide +kernel
theorem dX5_leave_72 : decode cX5_leave 72 = .ok (.iastore, 1) := by decide +kernel
theorem dX5_leave_73 : decode cX5_leave 73 = .ok (.goto 26, 3) := by decide +kernel
theorem dX5_leave_76 : decode cX5_leave 76 = .ok (.aload_n 0, 1) := by decide +kernel
theorem dX5_leave_77 : decode cX5_leave 77 = .ok (.getfield 7, 3) := by decide +kernel
theorem dX5_leave_80 : decode cX5_leave 80 = .ok (.iload_n 1, 1) := by decide +kernel
theorem dX5_leave_81 : decode cX5_leave 81 = .ok (.iaload, 1) := by decide +kernel
theorem dX5_leave_82 : decode cX5_leave 82 = .ok (.bipush 8, 2) := by decide +kernel
theorem dX5_leave_84 : decode cX5_leave 84 = .ok (.if_icmp .ne 15, 3) := by decide +kernel
theorem dX5_leave_87 : decode cX5_leave 87 = .ok (.aload_n 0, 1) := by decide +kernel
theorem dX5_leave_88 : decode cX5_leave 88 = .ok (.getfield 47, 3) := by decide +kernel
theorem dX5_leave_91 : decode cX5_leave 91 = .ok (.aload_n 0, 1) := by decide +kernel
theorem dX5_leave_92 : decode cX5_leave 92 = .ok (.getfield 22, 3) := by decide +kernel
theorem dX5_leave_95 : decode cX5_leave 95 = .ok (.iload_n 1, 1) := by decide +kernel
theorem dX5_leave_96 : decode cX5_leave 96 = .ok (.iaload, 1) := by decide +kernel
theorem dX5_leave_97 : decode cX5_leave 97 = .ok (.iconst (-1), 1) := by decide +kernel
theorem dX5_leave_98 : decode cX5_leave 98 = .ok (.iastore, 1) := by decide +kernel
theorem dX5_leave_99 : decode cX5_leave 99 = .ok (.return_, 1) := by decide +kernel
set_option maxRecDepth 20000 in
theorem ggX5_down_X5_isLine : GoodIn wsX5_down wsX5_isLine := goodIn_r _ [5, 6, 7, 4, 8] (by decide +kernel) (by decide +kernel)
set_option maxRecDepth 20000 in
theorem gX5_down_X5_isLine : GoodIn wsX5_down (va_wsS RX5 140 yX5_isLine wsX5_isLine) := goodIn_app (goodIn_of _ (by decide +kernel)) ggX5_down_X5_isLine
set_option maxRecDepth 20000 in
theorem ggX5_down_X5_throwing : GoodIn wsX5_down wsX5_throwing := goodIn_r _ [12, 13, 80, 81, 82, 83, 84, 85, 86, 87, 88, 89, 90, 91, 92, 93, 94, 95, 96, 97, 98, 99, 100, 101, 102, 103, 104] (by decide +kernel) (by decide +kernel)
set_option maxRecDepth 20000 in
theorem gX5_down_X5_throwing : GoodIn wsX5_down (wsV RX5 144 RX5 yX5_throwing wsX5_throwing) := goodIn_app (goodIn_of _ (by decide +kernel)) ggX5_down_X5_throwing
set_option maxRecDepth 20000 in
theorem ggX5_down_X5_leave : GoodIn wsX5_down wsX5_leave := goodIn_r _ [17, 1, 18, 19, 20, 21, 22, 23, 4, 24, 25, 26, 27, 28, 29, 30, 31, 32, 33, 34, 35, 36, 37, 38, 39, 40, 41, 42, 43, 44, 45, 46, 47, 48, 49, 50, 51, 52, 53, 54, 55, 80, 81, 82, 83, 84, 85, 86, 87, 88, 89, 90, 91, 92, 93, 94, 95, 96, 97, 98, 99, 100, 101, 102, 103, 104] (by decide +kernel) (by decide +kernel)
set_option maxRecDepth 20000 in
theorem gX5_down_X5_leave : GoodIn wsX5_down (wsV RX5 154 RX5 yX5_leave wsX5_leave) := goodIn_app (goodIn_of _ (by decide +kernel)) ggX5_down_X5_leave
set_option maxRecDepth 20000 in
theorem ggX5_down_X5_become : GoodIn wsX5_down wsX5_become := goodIn_r _ [48, 1, 49, 35, 50, 51, 18, 30, 80, 81, 82, 83, 84, 85, 86, 87, 88, 89, 90, 91, 92, 93, 94, 95, 96, 97, 98, 99, 100, 101, 102, 103, 104] (by decide +kernel) (by decide +kernel)
set_option maxRecDepth 20000 in
theorem gX5_down_X5_become : GoodIn wsX5_down (wsV RX5 90 RX5 yX5_become wsX5_become) := goodIn_app (goodIn_of _ (by decide +kernel)) ggX5_down_X5_become
set_option maxRecDepth 20000 in
theorem ggX5_down_X5_settle : GoodIn wsX5_down wsX5_settle := goodIn_r _ [59, 1, 20, 18, 60, 61, 62, 4, 63, 64, 50, 65, 41, 42, 43, 44, 30, 45, 46, 47, 48, 49, 35, 51, 66, 67, 68, 69, 70, 71, 72, 73, 40, 36, 37, 38, 39, 74, 75, 76, 77, 78, 79, 80, 81, 82, 83, 84, 85, 86, 87, 88, 89, 90, 91, 92, 93, 94, 95, 96, 97, 98, 99, 100, 101, 102, 103, 104] (by decide +kernel) (by decide +kernel)
set_option maxRecDepth 20000 in
theorem gX5_down_X5_settle : GoodIn wsX5_down (wsV RX5 148 RX5 yX5_settle wsX5_settle) := goodIn_app (goodIn_of _ (by decide +kernel)) ggX5_down_X5_settle
theorem dX5_down_0 : decode cX5_down 0 = .ok (.iload_n 1, 1) := by decide +kernel
theorem dX5_down_1 : decode cX5_down 1 = .ok (.invokestatic 140, 3) := by decide +kernel
theorem dX5_down_4 : decode cX5_down 4 = .ok (.ifCond .ne 7, 3) := by decide +kernel
theorem dX5_down_7 : decode cX5_down 7 = .ok (.iconst 1, 1) := by decide +kernel
theorem dX5_down_8 : decode cX5_down 8 = .ok (.goto 4, 3) := by decide +kernel
theorem dX5_down_11 : decode cX5_down 11 = .ok (.iconst 0, 1) := by decide +kernel
theorem dX5_down_12 : decode cX5_down 12 = .ok (.istore_n 2, 1) := by decide +kernel
theorem dX5_down_13 : decode cX5_down 13 = .ok (.aload_n 0, 1) := by decide +kernel
theorem dX5_down_14 : decode cX5_down 14 = .ok (.iload_n 2, 1) := by decide +kernel
theorem dX5_down_15 : decode cX5_down 15 = .ok (.iload_n 2, 1) := by decide +kernel
theorem dX5_down_16 : decode cX5_down 16 = .ok (.ifCond .ne 26, 3) := by decide +kernel
theorem dX5_down_19 : decode cX5_down 19 = .ok (.aload_n 0, 1) := by decide +kernel
theorem dX5_down_20 : decode cX5_down 20 = .ok (.getfield 7, 3) := by decide +kernel
theorem dX5_down_23 : decode cX5_down 23 = .ok (.iload_n 1, 1) := by decide +kernel
theorem dX5_down_24 : decode cX5_down 24 = .ok (.iaload, 1) := by decide +kernel
theorem dX5_down_25 : decode cX5_down 25 = .ok (.ifCond .eq 13, 3) := by decide +kernel
theorem dX5_down_28 : decode cX5_down 28 = .ok (.aload_n 0, 1) := by decide +kernel
theorem dX5_down_29 : decode cX5_down 29 = .ok (.getfield 7, 3) := by decide +kernel
theorem dX5_down_32 : decode cX5_down 32 = .ok (.iload_n 1, 1) := by decide +kernel
theorem dX5_down_33 : decode cX5_down 33 = .ok (.iaload, 1) := by decide +kernel
theorem dX5_down_34 : decode cX5_down 34 = .ok (.iconst 4, 1) := by decide +kernel
theorem dX5_down_35 : decode cX5_down 35 = .ok (.if_icmp .ne 7, 3) := by decide +kernel
theorem dX5_down_38 : decode cX5_down 38 = .ok (.iconst 1, 1) := by decide +kernel
theorem dX5_down_39 : decode cX5_down 39 = .ok (.goto 4, 3) := by decide +kernel
theorem dX5_down_42 : decode cX5_down 42 = .ok (.iconst 0, 1) := by decide +kernel
theorem dX5_down_43 : decode cX5_down 43 = .ok (.invokevirtual 144, 3) := by decide +kernel
theorem dX5_down_46 : decode cX5_down 46 = .ok (.ifCond .eq 4, 3) := by decide +kernel
theorem dX5_down_49 : decode cX5_down 49 = .ok (.return_, 1) := by decide +kernel
theorem dX5_down_50 : decode cX5_down 50 = .ok (.aload_n 0, 1) := by decide +kernel
theorem dX5_down_51 : decode cX5_down 51 = .ok (.iload_n 1, 1) := by decide +kernel
theorem dX5_down_52 : decode cX5_down 52 = .ok (.invokevirtual 154, 3) := by decide +kernel
theorem dX5_down_55 : decode cX5_down 55 = .ok (.aload_n 0, 1) := by decide +kernel
theorem dX5_down_56 : decode cX5_down 56 = .ok (.iload_n 1, 1) := by decide +kernel
theorem dX5_down_57 : decode cX5_down 57 = .ok (.iconst 0, 1) := by decide +kernel
theorem dX5_down_58 : decode cX5_down 58 = .ok (.invokevirtual 90, 3) := by decide +kernel
theorem dX5_down_61 : decode cX5_down 61 = .ok (.aload_n 0, 1) := by decide +kernel
theorem dX5_down_62 : decode cX5_down 62 = .ok (.invokevirtual 148, 3) := by decide +kernel
theorem dX5_down_65 : decode cX5_down 65 = .ok (.return_, 1) := by decide +kernel
set_option maxRecDepth 20000 in
theorem ggX5_digit_X5_isLine : GoodIn wsX5_digit wsX5_isLine := goodIn_r _ [6, 7, 8, 5, 9] (by decide +kernel) (by decide +kernel)
set_option maxRecDepth 20000 in
theorem gX5_digit_X5_isLine : GoodIn wsX5_digit (va_wsS RX5 140 yX5_isLine wsX5_isLine) := goodIn_app (goodIn_of _ (by decide +kernel)) ggX5_digit_X5_isLine
set_option maxRecDepth 20000 in
theorem ggX5_digit_X5_in : GoodIn wsX5_digit wsX5_in := goodIn_r _ [9] (by decide +kernel) (by decide +kernel)
set_option maxRecDepth 20000 in
theorem gX5_digit_X5_in : GoodIn wsX5_digit (va_wsS RX5 75 yX5_in wsX5_in) := goodIn_app (goodIn_of _ (by decide +kernel)) ggX5_digit_X5_in
set_option maxRecDepth 20000 in
theorem ggX5_digit_X5_throwing : GoodIn wsX5_digit wsX5_throwing := goodIn_r _ [13, 14, 94, 95, 96, 97, 98, 99, 100, 101, 102, 103, 104, 105, 106, 107, 108, 109, 110, 111, 112, 113, 114, 115, 116, 117, 118] (by decide +kernel) (by decide +kernel)
set_option maxRecDepth 20000 in
theorem gX5_digit_X5_throwing : GoodIn wsX5_digit (wsV RX5 144 RX5 yX5_throwing wsX5_throwing) := goodIn_app (goodIn_of _ (by decide +kernel)) ggX5_digit_X5_throwing
set_option maxRecDepth 20000 in
theorem ggX5_digit_X5_become : GoodIn wsX5_digit wsX5_become := goodIn_r _ [18, 1, 19, 20, 21, 22, 23, 24, 94, 95, 96, 97, 98, 99, 100, 101, 102, 103, 104, 105, 106, 107, 108, 109, 110, 111, 112, 113, 114, 115, 116, 117, 118] (by decide +kernel) (by decide +kernel)
set_option maxRecDepth 20000 in
theorem gX5_digit_X5_become : GoodIn wsX5_digit (wsV RX5 90 RX5 yX5_become wsX5_become) := goodIn_app (goodIn_of _ (by decide +kernel)) ggX5_digit_X5_become
set_option maxRecDepth 20000 in
theorem ggX5_digit_X5_call : GoodIn wsX5_digit wsX5_call := goodIn_r _ [28, 29, 7, 8, 5, 9, 30, 31, 32, 33, 1, 21, 34, 35, 36, 37, 38, 23, 24, 15, 16, 17, 18, 19, 20, 22, 39, 40, 41, 42, 43, 44, 45, 46, 47, 48, 49, 50, 51, 52, 53, 54, 55, 56, 57, 58, 59, 60, 61, 62, 63, 64, 65, 66, 67, 68, 69, 70, 71, 72, 73, 74, 75, 76, 77, 78, 79, 80, 81, 82, 83, 84, 85, 86, 87, 88, 94, 95, 96, 97, 98, 99, 100, 101, 102, 103, 104, 105, 106, 107, 108, 109, 110, 111, 112, 113, 114, 115, 116, 117, 118] (by decide +kernel) (by decide +kernel)
set_option maxRecDepth 20000 in
theorem gX5_digit_X5_call : GoodIn wsX5_digit (wsV RX5 157 RX5 yX5_call wsX5_call) := goodIn_app (goodIn_of _ (by decide +kernel)) ggX5_digit_X5_call
set_option maxRecDepth 20000 in
theorem ggX5_digit_X5_settle : GoodIn wsX5_digit wsX5_settle := goodIn_r _ [92, 1, 93, 23, 30, 31, 32, 5, 33, 29, 21, 34, 35, 36, 37, 38, 24, 15, 16, 17, 18, 19, 20, 22, 39, 40, 41, 42, 43, 44, 45, 46, 47, 48, 49, 50, 51, 52, 53, 54, 55, 56, 57, 94, 95, 96, 97, 98, 99, 100, 101, 102, 103, 104, 105, 106, 107, 108, 109, 110, 111, 112, 113, 114, 115, 116, 117, 118] (by decide +kernel) (by decide +kernel)
set_option maxRecDepth 20000 in
theorem gX5_digit_X5_settle : GoodIn wsX5_digit (wsV RX5 148 RX5 yX5_settle wsX5_settle) := goodIn_app (goodIn_of _ (by decide +kernel)) ggX5_digit_X5_settle
theorem dX5_digit_0 : decode cX5_digit 0 = .ok (.aload_n 0, 1) := by decide +kernel
theorem dX5_digit_1 : decode cX5_digit 1 = .ok (.iload_n 1, 1) := by decide +kernel
theorem dX5_digit_2 : decode cX5_digit 2 = .ok (.invokestatic 140, 3) := by decide +kernel
theorem dX5_digit_5 : decode cX5_digit 5 = .ok (.ifCond .eq 13, 3) := by decide +kernel
theorem dX5_digit_8 : decode cX5_digit 8 = .ok (.iload_n 2, 1) := by decide +kernel
theorem dX5_digit_9 : decode cX5_digit 9 = .ok (.iconst 0, 1) := by decide +kernel
theorem dX5_digit_10 : decode cX5_digit 10 = .ok (.bipush 9, 2) := by decide +kernel
theorem dX5_digit_12 : decode cX5_digit 12 = .ok (.invokestatic 75, 3) := by decide +kernel
theorem dX5_digit_15 : decode cX5_digit 15 = .ok (.ifCond .ne 7, 3) := by decide +kernel
theorem dX5_digit_18 : decode cX5_digit 18 = .ok (.iconst 1, 1) := by decide +kernel
theorem dX5_digit_19 : decode cX5_digit 19 = .ok (.goto 4, 3) := by decide +kernel
theorem dX5_digit_22 : decode cX5_digit 22 = .ok (.iconst 0, 1) := by decide +kernel
theorem dX5_digit_23 : decode cX5_digit 23 = .ok (.iconst 0, 1) := by decide +kernel
theorem dX5_digit_24 : decode cX5_digit 24 = .ok (.invokevirtual 144, 3) := by decide +kernel
theorem dX5_digit_27 : decode cX5_digit 27 = .ok (.ifCond .eq 5, 3) := by decide +kernel
theorem dX5_digit_30 : decode cX5_digit 30 = .ok (.iconst 0, 1) := by decide +kernel
theorem dX5_digit_31 : decode cX5_digit 31 = .ok (.ireturn, 1) := by decide +kernel
theorem dX5_digit_32 : decode cX5_digit 32 = .ok (.aload_n 0, 1) := by decide +kernel
theorem dX5_digit_33 : decode cX5_digit 33 = .ok (.getfield 7, 3) := by decide +kernel
theorem dX5_digit_36 : decode cX5_digit 36 = .ok (.iload_n 1, 1) := by decide +kernel
theorem dX5_digit_37 : decode cX5_digit 37 = .ok (.iaload, 1) := by decide +kernel
theorem dX5_digit_38 : decode cX5_digit 38 = .ok (.iconst 1, 1) := by decide +kernel
theorem dX5_digit_39 : decode cX5_digit 39 = .ok (.if_icmp .ne 19, 3) := by decide +kernel
theorem dX5_digit_42 : decode cX5_digit 42 = .ok (.aload_n 0, 1) := by decide +kernel
theorem dX5_digit_43 : decode cX5_digit 43 = .ok (.iload_n 1, 1) := by decide +kernel
theorem dX5_digit_44 : decode cX5_digit 44 = .ok (.iconst 2, 1) := by decide +kernel
theorem dX5_digit_45 : decode cX5_digit 45 = .ok (.invokevirtual 90, 3) := by decide +kernel
theorem dX5_digit_48 : decode cX5_digit 48 = .ok (.aload_n 0, 1) := by decide +kernel
theorem dX5_digit_49 : decode cX5_digit 49 = .ok (.getfield 19, 3) := by decide +kernel
theorem dX5_digit_52 : decode cX5_digit 52 = .ok (.iload_n 1, 1) := by decide +kernel
theorem dX5_digit_53 : decode cX5_digit 53 = .ok (.iload_n 2, 1) := by decide +kernel
theorem dX5_digit_54 : decode cX5_digit 54 = .ok (.iastore, 1) := by decide +kernel
theorem dX5_digit_55 : decode cX5_digit 55 = .ok (.goto 33, 3) := by decide +kernel
theorem dX5_digit_58 : decode cX5_digit 58 = .ok (.aload_n 0, 1) := by decide +kernel
theorem dX5_digit_59 : decode cX5_digit 59 = .ok (.getfield 7, 3) := by decide +kernel
theorem dX5_digit_62 : decode cX5_digit 62 = .ok (.iload_n 1, 1) := by decide +kernel
theorem dX5_digit_63 : decode cX5_digit 63 = .ok (.iaload, 1) := by decide +kernel
theorem dX5_digit_64 : decode cX5_digit 64 = .ok (.iconst 2, 1) := by decide +kernel
theorem dX5_digit_65 : decode cX5_digit 65 = .ok (.if_icmp .ne 23, 3) := by decide +kernel
theorem dX5_digit_68 : decode cX5_digit 68 = .ok (.aload_n 0, 1) := by decide +kernel
theorem dX5_digit_69 : decode cX5_digit 69 = .ok (.iload_n 1, 1) := by decide +kernel
theorem dX5_digit_70 : decode cX5_digit 70 = .ok (.bipush 10, 2) := by decide +kernel
theorem dX5_digit_72 : decode cX5_digit 72 = .ok (.aload_n 0, 1) := by decide +kernel
theorem dX5_digit_73 : decode cX5_digit 73 = .ok (.getfield 19, 3) := by decide +kernel
theorem dX5_digit_76 : decode cX5_digit 76 = .ok (.iload_n 1, 1) := by decide +kernel
theorem dX5_digit_77 : decode cX5_digit 77 = .ok (.iaload, 1) := by decide +kernel
theorem dX5_digit_78 : decode cX5_digit 78 = .ok (.imul, 1) := by decide +kernel
theorem dX5_digit_79 : decode cX5_digit 79 = .ok (.iload_n 2, 1) := by decide +kernel
theorem dX5_digit_80 : decode cX5_digit 80 = .ok (.iadd, 1) := by decide +kernel
theorem dX5_digit_81 : decode cX5_digit 81 = .ok (.invokevirtual 157, 3) := by decide +kernel
theorem dX5_digit_84 : decode cX5_digit 84 = .ok (.aload_n 0, 1) := by decide +kernel
theorem dX5_digit_85 : decode cX5_digit 85 = .ok (.invokevirtual 148, 3) := by decide +kernel
theorem dX5_digit_88 : decode cX5_digit 88 = .ok (.aload_n 0, 1) := by decide +kernel
theorem dX5_digit_89 : decode cX5_digit 89 = .ok (.getfield 7, 3) := by decide +kernel
theorem dX5_digit_92 : decode cX5_digit 92 = .ok (.iload_n 1, 1) := by decide +kernel
theorem dX5_digit_93 : decode cX5_digit 93 = .ok (.iaload, 1) := by decide +kernel
theorem dX5_digit_94 : decode cX5_digit 94 = .ok (.ireturn, 1) := by decide +kernel
set_option maxRecDepth 20000 in
theorem ggX5_camp_X5_isLine : GoodIn wsX5_camp wsX5_isLine := goodIn_r _ [8, 9, 10, 7, 11] (by decide +kernel) (by decide +kernel)
set_option maxRecDepth 20000 in
theorem gX5_camp_X5_isLine : GoodIn wsX5_camp (va_wsS RX5 140 yX5_isLine wsX5_isLine) := goodIn_app (goodIn_of _ (by decide +kernel)) ggX5_camp_X5_isLine
set_option maxRecDepth 20000 in
theorem ggX5_camp_X5_throwing : GoodIn wsX5_camp wsX5_throwing := goodIn_r _ [15, 16, 25, 26, 27, 28, 29, 30, 31, 32, 33, 34, 35, 36, 37, 38, 39, 40, 41, 42, 43, 44, 45, 46, 47, 48, 49] (by decide +kernel) (by decide +kernel)
set_option maxRecDepth 20000 in
theorem gX5_camp_X5_throwing : GoodIn wsX5_camp (wsV RX5 144 RX5 yX5_throwing wsX5_throwing) := goodIn_app (goodIn_of _ (by decide +kernel)) ggX5_camp_X5_throwing
set_option maxRecDepth 20000 in
theorem ggX5_camp_X5_become : GoodIn wsX5_camp wsX5_become := goodIn_r _ [20, 2, 21, 22, 1, 23, 4, 24, 25, 26, 27, 28, 29, 30, 31, 32, 33, 34, 35, 36, 37, 38, 39, 40, 41, 42, 43, 44, 45, 46, 47, 48, 49] (by decide +kernel) (by decide +kernel)
set_option maxRecDepth 20000 in
theorem gX5_camp_X5_become : GoodIn wsX5_camp (wsV RX5 90 RX5 yX5_become wsX5_become) := goodIn_app (goodIn_of _ (by decide +kernel)) ggX5_camp_X5_become
theorem dX5_camp_0 : decode cX5_camp 0 = .ok (.iload_n 1, 1) := by decide +kernel
theorem dX5_camp_1 : decode cX5_camp 1 = .ok (.invokestatic 140, 3) := by decide +kernel
theorem dX5_camp_4 : decode cX5_camp 4 = .ok (.ifCond .ne 7, 3) := by decide +kernel
theorem dX5_camp_7 : decode cX5_camp 7 = .ok (.iconst 1, 1) := by decide +kernel
theorem dX5_camp_8 : decode cX5_camp 8 = .ok (.goto 4, 3) := by decide +kernel
theorem dX5_camp_11 : decode cX5_camp 11 = .ok (.iconst 0, 1) := by decide +kernel
theorem dX5_camp_12 : decode cX5_camp 12 = .ok (.istore_n 2, 1) := by decide +kernel
theorem dX5_camp_13 : decode cX5_camp 13 = .ok (.iload_n 2, 1) := by decide +kernel
theorem dX5_camp_14 : decode cX5_camp 14 = .ok (.ifCond .eq 7, 3) := by decide +kernel
theorem dX5_camp_17 : decode cX5_camp 17 = .ok (.iconst (-1), 1) := by decide +kernel
theorem dX5_camp_18 : decode cX5_camp 18 = .ok (.goto 9, 3) := by decide +kernel
theorem dX5_camp_21 : decode cX5_camp 21 = .ok (.aload_n 0, 1) := by decide +kernel
theorem dX5_camp_22 : decode cX5_camp 22 = .ok (.getfield 31, 3) := by decide +kernel
theorem dX5_camp_25 : decode cX5_camp 25 = .ok (.iload_n 1, 1) := by decide +kernel
theorem dX5_camp_26 : decode cX5_camp 26 = .ok (.iaload, 1) := by decide +kernel
theorem dX5_camp_27 : decode cX5_camp 27 = .ok (.istore_n 3, 1) := by decide +kernel
theorem dX5_camp_28 : decode cX5_camp 28 = .ok (.aload_n 0, 1) := by decide +kernel
theorem dX5_camp_29 : decode cX5_camp 29 = .ok (.iload_n 2, 1) := by decide +kernel
theorem dX5_camp_30 : decode cX5_camp 30 = .ok (.iload_n 2, 1) := by decide +kernel
theorem dX5_camp_31 : decode cX5_camp 31 = .ok (.ifCond .ne 39, 3) := by decide +kernel
theorem dX5_camp_34 : decode cX5_camp 34 = .ok (.aload_n 0, 1) := by decide +kernel
theorem dX5_camp_35 : decode cX5_camp 35 = .ok (.getfield 7, 3) := by decide +kernel
theorem dX5_camp_38 : decode cX5_camp 38 = .ok (.iload_n 1, 1) := by decide +kernel
theorem dX5_camp_39 : decode cX5_camp 39 = .ok (.iaload, 1) := by decide +kernel
theorem dX5_camp_40 : decode cX5_camp 40 = .ok (.iconst 5, 1) := by decide +kernel
theorem dX5_camp_41 : decode cX5_camp 41 = .ok (.if_icmp .ne 25, 3) := by decide +kernel
theorem dX5_camp_44 : decode cX5_camp 44 = .ok (.iload_n 3, 1) := by decide +kernel
theorem dX5_camp_45 : decode cX5_camp 45 = .ok (.ifCond .lt 21, 3) := by decide +kernel
theorem dX5_camp_48 : decode cX5_camp 48 = .ok (.aload_n 0, 1) := by decide +kernel
theorem dX5_camp_49 : decode cX5_camp 49 = .ok (.getfield 7, 3) := by decide +kernel
theorem dX5_camp_52 : decode cX5_camp 52 = .ok (.iload_n 3, 1) := by decide +kernel
theorem dX5_camp_53 : decode cX5_camp 53 = .ok (.iaload, 1) := by decide +kernel
theorem dX5_camp_54 : decode cX5_camp 54 = .ok (.ifCond .eq 12, 3) := by decide +kernel
theorem dX5_camp_57 : decode cX5_camp 57 = .ok (.aload_n 0, 1) := by decide +kernel
theorem dX5_camp_58 : decode cX5_camp 58 = .ok (.getfield 47, 3) := by decide +kernel
theorem dX5_camp_61 : decode cX5_camp 61 = .ok (.iload_n 3, 1) := by decide +kernel
theorem dX5_camp_62 : decode cX5_camp 62 = .ok (.iaload, 1) := by decide +kernel
theorem dX5_camp_63 : decode cX5_camp 63 = .ok (.ifCond .lt 7, 3) := by decide +kernel
theorem dX5_camp_66 : decode cX5_camp 66 = .ok (.iconst 1, 1) := by decide +kernel
theorem dX5_camp_67 : decode cX5_camp 67 = .ok (.goto 4, 3) := by decide +kernel
theorem dX5_camp_70 : decode cX5_camp 70 = .ok (.iconst 0, 1) := by decide +kernel
theorem dX5_camp_71 : decode cX5_camp 71 = .ok (.invokevirtual 144, 3) := by decide +kernel
theorem dX5_camp_74 : decode cX5_camp 74 = .ok (.ifCond .eq 5, 3) := by decide +kernel
theorem dX5_camp_77 : decode cX5_camp 77 = .ok (.iconst 0, 1) := by decide +kernel
theorem dX5_camp_78 : decode cX5_camp 78 = .ok (.ireturn, 1) := by decide +kernel
theorem dX5_camp_79 : decode cX5_camp 79 = .ok (.aload_n 0, 1) := by decide +kernel
theorem dX5_camp_80 : decode cX5_camp 80 = .ok (.iload_n 1, 1) := by decide +kernel
theorem dX5_camp_81 : decode cX5_camp 81 = .ok (.bipush 8, 2) := by decide +kernel
theorem dX5_camp_83 : decode cX5_camp 83 = .ok (.invokevirtual 90, 3) := by decide +kernel
theorem dX5_camp_86 : decode cX5_camp 86 = .ok (.aload_n 0, 1) := by decide +kernel
theorem dX5_camp_87 : decode cX5_camp 87 = .ok (.getfield 22, 3) := by decide +kernel
theorem dX5_camp_90 : decode cX5_camp 90 = .ok (.iload_n 1, 1) := by decide +kernel
theorem dX5_camp_91 : decode cX5_camp 91 = .ok (.iload_n 3, 1) := by decide +kernel
theorem dX5_camp_92 : decode cX5_camp 92 = .ok (.iastore, 1) := by decide +kernel
theorem dX5_camp_93 : decode cX5_camp 93 = .ok (.aload_n 0, 1) := by decide +kernel
theorem dX5_camp_94 : decode cX5_camp 94 = .ok (.getfield 47, 3) := by decide +kernel
theorem dX5_camp_97 : decode cX5_camp 97 = .ok (.iload_n 3, 1) := by decide +kernel
theorem dX5_camp_98 : decode cX5_camp 98 = .ok (.iload_n 1, 1) := by decide +kernel
theorem dX5_camp_99 : decode cX5_camp 99 = .ok (.iastore, 1) := by decide +kernel
theorem dX5_camp_100 : decode cX5_camp 100 = .ok (.iload_n 3, 1) := by decide +kernel
theorem dX5_camp_101 : decode cX5_camp 101 = .ok (.ireturn, 1) := by decide +kernel
set_option maxRecDepth 20000 in
theorem ggX5_park_X5_isLine : GoodIn wsX5_park wsX5_isLine := goodIn_r _ [7, 8, 9, 6, 10] (by decide +kernel) (by decide +kernel)
set_option maxRecDepth 20000 in
theorem gX5_park_X5_isLine : GoodIn wsX5_park (va_wsS RX5 140 yX5_isLine wsX5_isLine) := goodIn_app (goodIn_of _ (by decide +kernel)) ggX5_park_X5_isLine
set_option maxRecDepth 20000 in
theorem ggX5_park_X5_in : GoodIn wsX5_park wsX5_in := goodIn_r _ [10] (by decide +kernel) (by decide +kernel)
set_option maxRecDepth 20000 in
theorem gX5_park_X5_in : GoodIn wsX5_park (va_wsS RX5 75 yX5_in wsX5_in) := goodIn_app (goodIn_of _ (by decide +kernel)) ggX5_park_X5_in
set_option maxRecDepth 20000 in
theorem ggX5_park_X5_throwing : GoodIn wsX5_park wsX5_throwing := goodIn_r _ [14, 15, 47, 48, 49, 50, 51, 52, 53, 54, 55, 56, 57, 58, 59, 60, 61, 62, 63, 64, 65, 66, 67, 68, 69, 70, 71] (by decide +kernel) (by decide +kernel)
set_option maxRecDepth 20000 in
theorem gX5_park_X5_throwing : GoodIn wsX5_park (wsV RX5 144 RX5 yX5_throwing wsX5_throwing) := goodIn_app (goodIn_of _ (by decide +kernel)) ggX5_park_X5_throwing
set_option maxRecDepth 20000 in
theorem ggX5_park_X5_finish : GoodIn wsX5_park wsX5_finish := goodIn_r _ [19, 3, 20, 21, 22, 23, 24, 25, 26, 27, 28, 6, 29, 30, 31, 32, 33, 34, 35, 47, 48, 49, 50, 51, 52, 53, 54, 55, 56, 57, 58, 59, 60, 61, 62, 63, 64, 65, 66, 67, 68, 69, 70, 71] (by decide +kernel) (by decide +kernel)
set_option maxRecDepth 20000 in
theorem gX5_park_X5_finish : GoodIn wsX5_park (wsV RX5 151 RX5 yX5_finish wsX5_finish) := goodIn_app (goodIn_of _ (by decide +kernel)) ggX5_park_X5_finish
set_option maxRecDepth 20000 in
theorem ggX5_park_X5_become : GoodIn wsX5_park wsX5_become := goodIn_r _ [39, 1, 40, 30, 41, 42, 3, 25, 47, 48, 49, 50, 51, 52, 53, 54, 55, 56, 57, 58, 59, 60, 61, 62, 63, 64, 65, 66, 67, 68, 69, 70, 71] (by decide +kernel) (by decide +kernel)
set_option maxRecDepth 20000 in
theorem gX5_park_X5_become : GoodIn wsX5_park (wsV RX5 90 RX5 yX5_become wsX5_become) := goodIn_app (goodIn_of _ (by decide +kernel)) ggX5_park_X5_become
set_option maxRecDepth 20000 in
theorem ggX5_park_X5_busy : GoodIn wsX5_park wsX5_busy := goodIn_r _ [46, 3, 25, 36, 37, 38, 6, 39, 1, 40, 30, 41, 42, 47, 48, 49, 50, 51, 52, 53, 54, 55, 56, 57, 58, 59, 60, 61, 62, 63, 64, 65, 66, 67, 68, 69, 70, 71] (by decide +kernel) (by decide +kernel)
set_option maxRecDepth 20000 in
theorem gX5_park_X5_busy : GoodIn wsX5_park (wsV RX5 117 RX5 yX5_busy wsX5_busy) := goodIn_app (goodIn_of _ (by decide +kernel)) ggX5_park_X5_busy
theorem dX5_park_0 : decode cX5_park 0 = .ok (.iload_n 1, 1) := by decide +kernel
theorem dX5_park_1 : decode cX5_park 1 = .ok (.invokestatic 140, 3) := by decide +kernel
theorem dX5_park_4 : decode cX5_park 4 = .ok (.ifCond .eq 12, 3) := by decide +kernel
theorem dX5_park_7 : decode cX5_park 7 = .ok (.iload_n 2, 1) := by decide +kernel
theorem dX5_park_8 : decode cX5_park 8 = .ok (.iconst 0, 1) := by decide +kernel
theorem dX5_park_9 : decode cX5_park 9 = .ok (.iconst 3, 1) := by decide +kernel
theorem dX5_park_10 : decode cX5_park 10 = .ok (.invokestatic 75, 3) := by decide +kernel
theorem dX5_park_13 : decode cX5_park 13 = .ok (.ifCond .ne 7, 3) := by decide +kernel
theorem dX5_park_16 : decode cX5_park 16 = .ok (.iconst 1, 1) := by decide +kernel
theorem dX5_park_17 : decode cX5_park 17 = .ok (.goto 4, 3) := by decide +kernel
theorem dX5_park_20 : decode cX5_park 20 = .ok (.iconst 0, 1) := by decide +kernel
theorem dX5_park_21 : decode cX5_park 21 = .ok (.istore_n 3, 1) := by decide +kernel
theorem dX5_park_22 : decode cX5_park 22 = .ok (.aload_n 0, 1) := by decide +kernel
theorem dX5_park_23 : decode cX5_park 23 = .ok (.iload_n 3, 1) := by decide +kernel
theorem dX5_park_24 : decode cX5_park 24 = .ok (.iload_n 3, 1) := by decide +kernel
theorem dX5_park_25 : decode cX5_park 25 = .ok (.ifCond .ne 27, 3) := by decide +kernel
theorem dX5_park_28 : decode cX5_park 28 = .ok (.aload_n 0, 1) := by decide +kernel
theorem dX5_park_29 : decode cX5_park 29 = .ok (.getfield 7, 3) := by decide +kernel
theorem dX5_park_32 : decode cX5_park 32 = .ok (.iload_n 1, 1) := by decide +kernel
theorem dX5_park_33 : decode cX5_park 33 = .ok (.iaload, 1) := by decide +kernel
theorem dX5_park_34 : decode cX5_park 34 = .ok (.bipush 6, 2) := by decide +kernel
theorem dX5_park_36 : decode cX5_park 36 = .ok (.if_icmp .ne 12, 3) := by decide +kernel
theorem dX5_park_39 : decode cX5_park 39 = .ok (.aload_n 0, 1) := by decide +kernel
theorem dX5_park_40 : decode cX5_park 40 = .ok (.getfield 50, 3) := by decide +kernel
theorem dX5_park_43 : decode cX5_park 43 = .ok (.iload_n 2, 1) := by decide +kernel
theorem dX5_park_44 : decode cX5_park 44 = .ok (.iaload, 1) := by decide +kernel
theorem dX5_park_45 : decode cX5_park 45 = .ok (.ifCond .lt 7, 3) := by decide +kernel
theorem dX5_park_48 : decode cX5_park 48 = .ok (.iconst 1, 1) := by decide +kernel
theorem dX5_park_49 : decode cX5_park 49 = .ok (.goto 4, 3) := by decide +kernel
theorem dX5_park_52 : decode cX5_park 52 = .ok (.iconst 0, 1) := by decide +kernel
theorem dX5_park_53 : decode cX5_park 53 = .ok (.invokevirtual 144, 3) := by decide +kernel
theorem dX5_park_56 : decode cX5_park 56 = .ok (.ifCond .eq 5, 3) := by decide +kernel
theorem dX5_park_59 : decode cX5_park 59 = .ok (.iconst 0, 1) := by decide +kernel
theorem dX5_park_60 : decode cX5_park 60 = .ok (.ireturn, 1) := by decide +kernel
theorem dX5_park_61 : decode cX5_park 61 = .ok (.aload_n 0, 1) := by decide +kernel
theorem dX5_park_62 : decode cX5_park 62 = .ok (.getfield 22, 3) := by decide +kernel
theorem dX5_park_65 : decode cX5_park 65 = .ok (.iload_n 1, 1) := by decide +kernel
theorem dX5_park_66 : decode cX5_park 66 = .ok (.iaload, 1) := by decide +kernel
theorem dX5_park_67 : decode cX5_park 67 = .ok (.istore 4, 2) := by decide +kernel
theorem dX5_park_69 : decode cX5_park 69 = .ok (.aload_n 0, 1) := by decide +kernel
theorem dX5_park_70 : decode cX5_park 70 = .ok (.iload_n 1, 1) := by decide +kernel
theorem dX5_park_71 : decode cX5_park 71 = .ok (.invokevirtual 151, 3) := by decide +kernel
theorem dX5_park_74 : decode cX5_park 74 = .ok (.aload_n 0, 1) := by decide +kernel
theorem dX5_park_75 : decode cX5_park 75 = .ok (.iload 4, 2) := by decide +kernel
theorem dX5_park_77 : decode cX5_park 77 = .ok (.bipush 7, 2) := by decide +kernel
theorem dX5_park_79 : decode cX5_park 79 = .ok (.invokevirtual 90, 3) := by decide +kernel
theorem dX5_park_82 : decode cX5_park 82 = .ok (.aload_n 0, 1) := by decide +kernel
theorem dX5_park_83 : decode cX5_park 83 = .ok (.getfield 22, 3) := by decide +kernel
theorem dX5_park_86 : decode cX5_park 86 = .ok (.iload 4, 2) := by decide +kernel
theorem dX5_park_88 : decode cX5_park 88 = .ok (.iload_n 2, 1) := by decide +kernel
theorem dX5_park_89 : decode cX5_park 89 = .ok (.iastore, 1) := by decide +kernel
theorem dX5_park_90 : decode cX5_park 90 = .ok (.aload_n 0, 1) := by decide +kernel
theorem dX5_park_91 : decode cX5_park 91 = .ok (.getfield 50, 3) := by decide +kernel
theorem dX5_park_94 : decode cX5_park 94 = .ok (.iload_n 2, 1) := by decide +kernel
theorem dX5_park_95 : decode cX5_park 95 = .ok (.iload 4, 2) := by decide +kernel
theorem dX5_park_97 : decode cX5_park 97 = .ok (.iastore, 1) := by decide +kernel
theorem dX5_park_98 : decode cX5_park 98 = .ok (.aload_n 0, 1) := by decide +kernel
theorem dX5_park_99 : decode cX5_park 99 = .ok (.iload_n 1, 1) := by decide +kernel
theorem dX5_park_100 : decode cX5_park 100 = .ok (.invokevirtual 117, 3) := by decide +kernel
theorem dX5_park_103 : decode cX5_park 103 = .ok (.iload 4, 2) := by decide +kernel
theorem dX5_park_105 : decode cX5_park 105 = .ok (.ireturn, 1) := by decide +kernel
set_option maxRecDepth 20000 in
theorem ggX5_transfer_X5_isLine : GoodIn wsX5_transfer wsX5_isLine := goodIn_r _ [6, 7, 8, 5, 9] (by decide +kernel) (by decide +kernel)
set_option maxRecDepth 20000 in
theorem gX5_transfer_X5_isLine : GoodIn wsX5_transfer (va_wsS RX5 140 yX5_isLine wsX5_isLine) := goodIn_app (goodIn_of _ (by decide +kernel)) ggX5_transfer_X5_isLine
set_option maxRecDepth 20000 in
theorem ggX5_transfer_X5_in : GoodIn wsX5_transfer wsX5_in := goodIn_r _ [9] (by decide +kernel) (by decide +kernel)
set_option maxRecDepth 20000 in
theorem gX5_transfer_X5_in : GoodIn wsX5_transfer (va_wsS RX5 75 yX5_in wsX5_in) := goodIn_app (goodIn_of _ (by decide +kernel)) ggX5_transfer_X5_in
set_option maxRecDepth 20000 in
theorem ggX5_transfer_X5_throwing : GoodIn wsX5_transfer wsX5_throwing := goodIn_r _ [13, 14, 104, 105, 106, 107, 108, 109, 110, 111, 112, 113, 114, 115, 116, 117, 118, 119, 120, 121, 122, 123, 124, 125, 126, 127, 128] (by decide +kernel) (by decide +kernel)
set_option maxRecDepth 20000 in
theorem gX5_transfer_X5_throwing : GoodIn wsX5_transfer (wsV RX5 144 RX5 yX5_throwing wsX5_throwing) := goodIn_app (goodIn_of _ (by decide +kernel)) ggX5_transfer_X5_throwing
set_option maxRecDepth 20000 in
theorem ggX5_transfer_X5_finish : GoodIn wsX5_transfer wsX5_finish := goodIn_r _ [18, 2, 19, 20, 21, 22, 23, 24, 25, 26, 27, 5, 28, 29, 30, 31, 32, 33, 34, 104, 105, 106, 107, 108, 109, 110, 111, 112, 113, 114, 115, 116, 117, 118, 119, 120, 121, 122, 123, 124, 125, 126, 127, 128] (by decide +kernel) (by decide +kernel)
set_option maxRecDepth 20000 in
theorem gX5_transfer_X5_finish : GoodIn wsX5_transfer (wsV RX5 151 RX5 yX5_finish wsX5_finish) := goodIn_app (goodIn_of _ (by decide +kernel)) ggX5_transfer_X5_finish
set_option maxRecDepth 20000 in
theorem ggX5_transfer_X5_busy : GoodIn wsX5_transfer wsX5_busy := goodIn_r _ [38, 2, 24, 39, 40, 41, 5, 42, 1, 43, 29, 44, 45, 104, 105, 106, 107, 108, 109, 110, 111, 112, 113, 114, 115, 116, 117, 118, 119, 120, 121, 122, 123, 124, 125, 126, 127, 128] (by decide +kernel) (by decide +kernel)
set_option maxRecDepth 20000 in
theorem gX5_transfer_X5_busy : GoodIn wsX5_transfer (wsV RX5 117 RX5 yX5_busy wsX5_busy) := goodIn_app (goodIn_of _ (by decide +kernel)) ggX5_transfer_X5_busy
set_option maxRecDepth 20000 in
theorem ggX5_transfer_X5_call : GoodIn wsX5_transfer wsX5_call := goodIn_r _ [49, 50, 7, 8, 5, 9, 51, 52, 53, 54, 1, 44, 55, 35, 36, 37, 38, 2, 24, 39, 40, 41, 42, 43, 29, 45, 56, 57, 58, 59, 60, 61, 62, 63, 34, 30, 31, 32, 33, 64, 65, 66, 67, 68, 69, 70, 71, 72, 73, 74, 75, 76, 77, 78, 79, 80, 81, 82, 83, 84, 85, 86, 87, 88, 89, 90, 91, 92, 93, 19, 22, 94, 95, 96, 97, 98, 104, 105, 106, 107, 108, 109, 110, 111, 112, 113, 114, 115, 116, 117, 118, 119, 120, 121, 122, 123, 124, 125, 126, 127, 128] (by decide +kernel) (by decide +kernel)
set_option maxRecDepth 20000 in
theorem gX5_transfer_X5_call : GoodIn wsX5_transfer (wsV RX5 157 RX5 yX5_call wsX5_call) := goodIn_app (goodIn_of _ (by decide +kernel)) ggX5_transfer_X5_call
set_option maxRecDepth 20000 in
theorem ggX5_transfer_X5_settle : GoodIn wsX5_transfer wsX5_settle := goodIn_r _ [102, 1, 103, 2, 51, 52, 53, 5, 54, 50, 44, 55, 35, 36, 37, 38, 24, 39, 40, 41, 42, 43, 29, 45, 56, 57, 58, 59, 60, 61, 62, 63, 34, 30, 31, 32, 33, 64, 65, 66, 67, 68, 69, 104, 105, 106, 107, 108, 109, 110, 111, 112, 113, 114, 115, 116, 117, 118, 119, 120, 121, 122, 123, 124, 125, 126, 127, 128] (by decide +kernel) (by decide +kernel)
set_option maxRecDepth 20000 in
theorem gX5_transfer_X5_settle : GoodIn wsX5_transfer (wsV RX5 148 RX5 yX5_settle wsX5_settle) := goodIn_app (goodIn_of _ (by decide +kernel)) ggX5_transfer_X5_settle
theorem dX5_transfer_0 : decode cX5_transfer 0 = .ok (.iload_n 1, 1) := by decide +kernel
theorem dX5_transfer_1 : decode cX5_transfer 1 = .ok (.invokestatic 140, 3) := by decide +kernel
theorem dX5_transfer_4 : decode cX5_transfer 4 = .ok (.ifCond .eq 14, 3) := by decide +kernel
theorem dX5_transfer_7 : decode cX5_transfer 7 = .ok (.iload_n 2, 1) := by decide +kernel
theorem dX5_transfer_8 : decode cX5_transfer 8 = .ok (.bipush 10, 2) := by decide +kernel
theorem dX5_transfer_10 : decode cX5_transfer 10 = .ok (.bipush 99, 2) := by decide +kernel
theorem dX5_transfer_12 : decode cX5_transfer 12 = .ok (.invokestatic 75, 3) := by decide +kernel
theorem dX5_transfer_15 : decode cX5_transfer 15 = .ok (.ifCond .ne 7, 3) := by decide +kernel
theorem dX5_transfer_18 : decode cX5_transfer 18 = .ok (.iconst 1, 1) := by decide +kernel
theorem dX5_transfer_19 : decode cX5_transfer 19 = .ok (.goto 4, 3) := by decide +kernel
theorem dX5_transfer_22 : decode cX5_transfer 22 = .ok (.iconst 0, 1) := by decide +kernel
theorem dX5_transfer_23 : decode cX5_transfer 23 = .ok (.istore_n 3, 1) := by decide +kernel
theorem dX5_transfer_24 : decode cX5_transfer 24 = .ok (.aload_n 0, 1) := by decide +kernel
theorem dX5_transfer_25 : decode cX5_transfer 25 = .ok (.iload_n 3, 1) := by decide +kernel
theorem dX5_transfer_26 : decode cX5_transfer 26 = .ok (.iload_n 3, 1) := by decide +kernel
theorem dX5_transfer_27 : decode cX5_transfer 27 = .ok (.ifCond .ne 18, 3) := by decide +kernel
theorem dX5_transfer_30 : decode cX5_transfer 30 = .ok (.aload_n 0, 1) := by decide +kernel
theorem dX5_transfer_31 : decode cX5_transfer 31 = .ok (.getfield 7, 3) := by decide +kernel
theorem dX5_transfer_34 : decode cX5_transfer 34 = .ok (.iload_n 1, 1) := by decide +kernel
theorem dX5_transfer_35 : decode cX5_transfer 35 = .ok (.iaload, 1) := by decide +kernel
theorem dX5_transfer_36 : decode cX5_transfer 36 = .ok (.bipush 6, 2) := by decide +kernel
theorem dX5_transfer_38 : decode cX5_transfer 38 = .ok (.if_icmp .eq 7, 3) := by decide +kernel
theorem dX5_transfer_41 : decode cX5_transfer 41 = .ok (.iconst 1, 1) := by decide +kernel
theorem dX5_transfer_42 : decode cX5_transfer 42 = .ok (.goto 4, 3) := by decide +kernel
theorem dX5_transfer_45 : decode cX5_transfer 45 = .ok (.iconst 0, 1) := by decide +kernel
theorem dX5_transfer_46 : decode cX5_transfer 46 = .ok (.invokevirtual 144, 3) := by decide +kernel
theorem dX5_transfer_49 : decode cX5_transfer 49 = .ok (.ifCond .eq 5, 3) := by decide +kernel
theorem dX5_transfer_52 : decode cX5_transfer 52 = .ok (.iconst 0, 1) := by decide +kernel
theorem dX5_transfer_53 : decode cX5_transfer 53 = .ok (.ireturn, 1) := by decide +kernel
theorem dX5_transfer_54 : decode cX5_transfer 54 = .ok (.aload_n 0, 1) := by decide +kernel
theorem dX5_transfer_55 : decode cX5_transfer 55 = .ok (.getfield 22, 3) := by decide +kernel
theorem dX5_transfer_58 : decode cX5_transfer 58 = .ok (.iload_n 1, 1) := by decide +kernel
theorem dX5_transfer_59 : decode cX5_transfer 59 = .ok (.iaload, 1) := by decide +kernel
theorem dX5_transfer_60 : decode cX5_transfer 60 = .ok (.istore 4, 2) := by decide +kernel
theorem dX5_transfer_62 : decode cX5_transfer 62 = .ok (.aload_n 0, 1) := by decide +kernel
theorem dX5_transfer_63 : decode cX5_transfer 63 = .ok (.iload_n 1, 1) := by decide +kernel
theorem dX5_transfer_64 : decode cX5_transfer 64 = .ok (.invokevirtual 151, 3) := by decide +kernel
theorem dX5_transfer_67 : decode cX5_transfer 67 = .ok (.aload_n 0, 1) := by decide +kernel
theorem dX5_transfer_68 : decode cX5_transfer 68 = .ok (.iload_n 1, 1) := by decide +kernel
theorem dX5_transfer_69 : decode cX5_transfer 69 = .ok (.invokevirtual 117, 3) := by decide +kernel
theorem dX5_transfer_72 : decode cX5_transfer 72 = .ok (.aload_n 0, 1) := by decide +kernel
theorem dX5_transfer_73 : decode cX5_transfer 73 = .ok (.iload 4, 2) := by decide +kernel
theorem dX5_transfer_75 : decode cX5_transfer 75 = .ok (.iload_n 2, 1) := by decide +kernel
theorem dX5_transfer_76 : decode cX5_transfer 76 = .ok (.invokevirtual 157, 3) := by decide +kernel
theorem dX5_transfer_79 : decode cX5_transfer 79 = .ok (.aload_n 0, 1) := by decide +kernel
theorem dX5_transfer_80 : decode cX5_transfer 80 = .ok (.invokevirtual 148, 3) := by decide +kernel
theorem dX5_transfer_83 : decode cX5_transfer 83 = .ok (.aload_n 0, 1) := by decide +kernel
theorem dX5_transfer_84 : decode cX5_transfer 84 = .ok (.getfield 7, 3) := by decide +kernel
theorem dX5_transfer_87 : decode cX5_transfer 87 = .ok (.iload 4, 2) := by decide +kernel
theorem dX5_transfer_89 : decode cX5_transfer 89 = .ok (.iaload, 1) := by decide +kernel
theorem dX5_transfer_90 : decode cX5_transfer 90 = .ok (.ireturn, 1) := by decide +kernel
set_option maxRecDepth 20000 in
theorem ggX5_tick_X5_in : GoodIn wsX5_tick wsX5_in := goodIn_r _ [5] (by decide +kernel) (by decide +kernel)
set_option maxRecDepth 20000 in
theorem gX5_tick_X5_in : GoodIn wsX5_tick (va_wsS RX5 75 yX5_in wsX5_in) := goodIn_app (goodIn_of _ (by decide +kernel)) ggX5_tick_X5_in
set_option maxRecDepth 20000 in
theorem ggX5_tick_X5_throwing : GoodIn wsX5_tick wsX5_throwing := goodIn_r _ [9, 10, 81, 82, 83, 84, 85, 86, 87, 88, 89, 90, 91, 92, 93, 94, 95, 96, 97, 98, 99, 100, 101, 102, 103, 104, 105] (by decide +kernel) (by decide +kernel)
set_option maxRecDepth 20000 in
theorem gX5_tick_X5_throwing : GoodIn wsX5_tick (wsV RX5 144 RX5 yX5_throwing wsX5_throwing) := goodIn_app (goodIn_of _ (by decide +kernel)) ggX5_tick_X5_throwing
set_option maxRecDepth 20000 in
theorem ggX5_tick_X5_watch : GoodIn wsX5_tick wsX5_watch := goodIn_r _ [14, 15, 1, 16, 17, 18, 19, 4, 20, 21, 22, 23, 24, 25, 26, 27, 28, 29, 30, 31, 32, 33, 34, 35, 36, 37, 38, 39, 40, 41, 42, 43, 44, 45, 46, 47, 48, 49, 50, 51, 52, 53, 54, 55, 56, 57, 58, 59, 60, 61, 62, 63, 64, 65, 66, 67, 68, 69, 70, 71, 72, 73, 74, 75, 76, 77, 78, 79, 80, 81, 82, 83, 84, 85, 86, 87, 88, 89, 90, 91, 92, 93, 94, 95, 96, 97, 98, 99, 100, 101, 102, 103, 104, 105] (by decide +kernel) (by decide +kernel)
set_option maxRecDepth 20000 in
theorem gX5_tick_X5_watch : GoodIn wsX5_tick (wsV RX5 160 RX5 yX5_watch wsX5_watch) := goodIn_app (goodIn_of _ (by decide +kernel)) ggX5_tick_X5_watch
theorem dX5_tick_0 : decode cX5_tick 0 = .ok (.aload_n 0, 1) := by decide +kernel
theorem dX5_tick_1 : decode cX5_tick 1 = .ok (.iload_n 1, 1) := by decide +kernel
theorem dX5_tick_2 : decode cX5_tick 2 = .ok (.iconst 1, 1) := by decide +kernel
theorem dX5_tick_3 : decode cX5_tick 3 = .ok (.sipush 1000, 3) := by decide +kernel
theorem dX5_tick_6 : decode cX5_tick 6 = .ok (.invokestatic 75, 3) := by decide +kernel
theorem dX5_tick_9 : decode cX5_tick 9 = .ok (.ifCond .ne 7, 3) := by decide +kernel
theorem dX5_tick_12 : decode cX5_tick 12 = .ok (.iconst 1, 1) := by decide +kernel
theorem dX5_tick_13 : decode cX5_tick 13 = .ok (.goto 4, 3) := by decide +kernel
theorem dX5_tick_16 : decode cX5_tick 16 = .ok (.iconst 0, 1) := by decide +kernel
theorem dX5_tick_17 : decode cX5_tick 17 = .ok (.iconst 0, 1) := by decide +kernel
theorem dX5_tick_18 : decode cX5_tick 18 = .ok (.invokevirtual 144, 3) := by decide +kernel
theorem dX5_tick_21 : decode cX5_tick 21 = .ok (.ifCond .eq 5, 3) := by decide +kernel
theorem dX5_tick_24 : decode cX5_tick 24 = .ok (.iconst 0, 1) := by decide +kernel
theorem dX5_tick_25 : decode cX5_tick 25 = .ok (.ireturn, 1) := by decide +kernel
theorem dX5_tick_26 : decode cX5_tick 26 = .ok (.iconst 0, 1) := by decide +kernel
theorem dX5_tick_27 : decode cX5_tick 27 = .ok (.istore_n 2, 1) := by decide +kernel
theorem dX5_tick_28 : decode cX5_tick 28 = .ok (.iload_n 2, 1) := by decide +kernel
theorem dX5_tick_29 : decode cX5_tick 29 = .ok (.iload_n 1, 1) := by decide +kernel
theorem dX5_tick_30 : decode cX5_tick 30 = .ok (.if_icmp .ge 38, 3) := by decide +kernel
theorem dX5_tick_33 : decode cX5_tick 33 = .ok (.aload_n 0, 1) := by decide +kernel
theorem dX5_tick_34 : decode cX5_tick 34 = .ok (.dup, 1) := by decide +kernel
theorem dX5_tick_35 : decode cX5_tick 35 = .ok (.getfield 87, 3) := by decide +kernel
theorem dX5_tick_38 : decode cX5_tick 38 = .ok (.iconst 1, 1) := by decide +kernel
theorem dX5_tick_39 : decode cX5_tick 39 = .ok (.iadd, 1) := by decide +kernel
theorem dX5_tick_40 : decode cX5_tick 40 = .ok (.putfield 87, 3) := by decide +kernel
theorem dX5_tick_43 : decode cX5_tick 43 = .ok (.iconst 0, 1) := by decide +kernel
theorem dX5_tick_44 : decode cX5_tick 44 = .ok (.istore_n 3, 1) := by decide +kernel
theorem dX5_tick_45 : decode cX5_tick 45 = .ok (.iload_n 3, 1) := by decide +kernel
theorem dX5_tick_46 : decode cX5_tick 46 = .ok (.bipush 24, 2) := by decide +kernel
theorem dX5_tick_48 : decode cX5_tick 48 = .ok (.if_icmp .ge 14, 3) := by decide +kernel
theorem dX5_tick_51 : decode cX5_tick 51 = .ok (.aload_n 0, 1) := by decide +kernel
theorem dX5_tick_52 : decode cX5_tick 52 = .ok (.iload_n 3, 1) := by decide +kernel
theorem dX5_tick_53 : decode cX5_tick 53 = .ok (.invokevirtual 160, 3) := by decide +kernel
theorem dX5_tick_56 : decode cX5_tick 56 = .ok (.iinc 3 1, 3) := by decide +kernel
theorem dX5_tick_59 : decode cX5_tick 59 = .ok (.goto (-14), 3) := by decide +kernel
theorem dX5_tick_62 : decode cX5_tick 62 = .ok (.iinc 2 1, 3) := by decide +kernel
theorem dX5_tick_65 : decode cX5_tick 65 = .ok (.goto (-37), 3) := by decide +kernel
theorem dX5_tick_68 : decode cX5_tick 68 = .ok (.aload_n 0, 1) := by decide +kernel
theorem dX5_tick_69 : decode cX5_tick 69 = .ok (.getfield 87, 3) := by decide +kernel
theorem dX5_tick_72 : decode cX5_tick 72 = .ok (.ireturn, 1) := by decide +kernel
set_option maxRecDepth 20000 in
theorem ggX5_watch_X5_become : GoodIn wsX5_watch wsX5_become := goodIn_r _ [8, 1, 3, 2, 9, 10, 11, 12, 69, 70, 71, 72, 73, 74, 75, 76, 77, 78, 79, 80, 81, 82, 83, 84, 85, 86, 87, 88, 89, 90, 91, 92, 93] (by decide +kernel) (by decide +kernel)
set_option maxRecDepth 20000 in
theorem gX5_watch_X5_become : GoodIn wsX5_watch (wsV RX5 90 RX5 yX5_become wsX5_become) := goodIn_app (goodIn_of _ (by decide +kernel)) ggX5_watch_X5_become
set_option maxRecDepth 20000 in
theorem ggX5_watch_X5_leave : GoodIn wsX5_watch wsX5_leave := goodIn_r _ [16, 1, 11, 17, 18, 19, 20, 21, 7, 22, 23, 24, 25, 26, 27, 12, 28, 29, 30, 31, 2, 32, 33, 34, 35, 36, 37, 38, 39, 40, 4, 5, 6, 8, 3, 9, 10, 41, 42, 43, 44, 69, 70, 71, 72, 73, 74, 75, 76, 77, 78, 79, 80, 81, 82, 83, 84, 85, 86, 87, 88, 89, 90, 91, 92, 93] (by decide +kernel) (by decide +kernel)
set_option maxRecDepth 20000 in
theorem gX5_watch_X5_leave : GoodIn wsX5_watch (wsV RX5 154 RX5 yX5_leave wsX5_leave) := goodIn_app (goodIn_of _ (by decide +kernel)) ggX5_watch_X5_leave
set_option maxRecDepth 20000 in
theorem ggX5_watch_X5_busy : GoodIn wsX5_watch wsX5_busy := goodIn_r _ [40, 11, 12, 4, 5, 6, 7, 8, 1, 3, 2, 9, 10, 69, 70, 71, 72, 73, 74, 75, 76, 77, 78, 79, 80, 81, 82, 83, 84, 85, 86, 87, 88, 89, 90, 91, 92, 93] (by decide +kernel) (by decide +kernel)
set_option maxRecDepth 20000 in
theorem gX5_watch_X5_busy : GoodIn wsX5_watch (wsV RX5 117 RX5 yX5_busy wsX5_busy) := goodIn_app (goodIn_of _ (by decide +kernel)) ggX5_watch_X5_busy
set_option maxRecDepth 20000 in
theorem ggX5_watch_X5_settle : GoodIn wsX5_watch wsX5_settle := goodIn_r _ [48, 1, 18, 11, 49, 50, 51, 7, 52, 53, 9, 54, 37, 38, 39, 40, 12, 4, 5, 6, 8, 3, 2, 10, 55, 56, 57, 58, 59, 60, 61, 62, 36, 32, 33, 34, 35, 63, 64, 65, 66, 67, 68, 69, 70, 71, 72, 73, 74, 75, 76, 77, 78, 79, 80, 81, 82, 83, 84, 85, 86, 87, 88, 89, 90, 91, 92, 93] (by decide +kernel) (by decide +kernel)
set_option maxRecDepth 20000 in
theorem gX5_watch_X5_settle : GoodIn wsX5_watch (wsV RX5 148 RX5 yX5_settle wsX5_settle) := goodIn_app (goodIn_of _ (by decide +kernel)) ggX5_watch_X5_settle
theorem dX5_watch_0 : decode cX5_watch 0 = .ok (.aload_n 0, 1) := by decide +kernel
theorem dX5_watch_1 : decode cX5_watch 1 = .ok (.getfield 7, 3) := by decide +kernel
theorem dX5_watch_4 : decode cX5_watch 4 = .ok (.iload_n 1, 1) := by decide +kernel
theorem dX5_watch_5 : decode cX5_watch 5 = .ok (.iaload, 1) := by decide +kernel
theorem dX5_watch_6 : decode cX5_watch 6 = .ok (.istore_n 2, 1) := by decide +kernel
theorem dX5_watch_7 : decode cX5_watch 7 = .ok (.aload_n 0, 1) := by decide +kernel
theorem dX5_watch_8 : decode cX5_watch 8 = .ok (.getfield 87, 3) := by decide +kernel
theorem dX5_watch_11 : decode cX5_watch 11 = .ok (.aload_n 0, 1) := by decide +kernel
theorem dX5_watch_12 : decode cX5_watch 12 = .ok (.getfield 13, 3) := by decide +kernel
theorem dX5_watch_15 : decode cX5_watch 15 = .ok (.iload_n 1, 1) := by decide +kernel
theorem dX5_watch_16 : decode cX5_watch 16 = .ok (.iaload, 1) := by decide +kernel
theorem dX5_watch_17 : decode cX5_watch 17 = .ok (.isub, 1) := by decide +kernel
theorem dX5_watch_18 : decode cX5_watch 18 = .ok (.istore_n 3, 1) := by decide +kernel
theorem dX5_watch_19 : decode cX5_watch 19 = .ok (.iload_n 2, 1) := by decide +kernel
theorem dX5_watch_20 : decode cX5_watch 20 = .ok (.iconst 1, 1) := by decide +kernel
theorem dX5_watch_21 : decode cX5_watch 21 = .ok (.if_icmp .eq 8, 3) := by decide +kernel
theorem dX5_watch_24 : decode cX5_watch 24 = .ok (.iload_n 2, 1) := by decide +kernel
theorem dX5_watch_25 : decode cX5_watch 25 = .ok (.iconst 2, 1) := by decide +kernel
theorem dX5_watch_26 : decode cX5_watch 26 = .ok (.if_icmp .ne 16, 3) := by decide +kernel
theorem dX5_watch_29 : decode cX5_watch 29 = .ok (.iload_n 3, 1) := by decide +kernel
theorem dX5_watch_30 : decode cX5_watch 30 = .ok (.bipush 100, 2) := by decide +kernel
theorem dX5_watch_32 : decode cX5_watch 32 = .ok (.if_icmp .lt 10, 3) := by decide +kernel
theorem dX5_watch_35 : decode cX5_watch 35 = .ok (.aload_n 0, 1) := by decide +kernel
theorem dX5_watch_36 : decode cX5_watch 36 = .ok (.iload_n 1, 1) := by decide +kernel
theorem dX5_watch_37 : decode cX5_watch 37 = .ok (.bipush 9, 2) := by decide +kernel
theorem dX5_watch_39 : decode cX5_watch 39 = .ok (.invokevirtual 90, 3) := by decide +kernel
theorem dX5_watch_42 : decode cX5_watch 42 = .ok (.iload_n 2, 1) := by decide +kernel
theorem dX5_watch_43 : decode cX5_watch 43 = .ok (.iconst 3, 1) := by decide +kernel
theorem dX5_watch_44 : decode cX5_watch 44 = .ok (.if_icmp .ne 10, 3) := by decide +kernel
theorem dX5_watch_47 : decode cX5_watch 47 = .ok (.iload_n 3, 1) := by decide +kernel
theorem dX5_watch_48 : decode cX5_watch 48 = .ok (.sipush 300, 3) := by decide +kernel
theorem dX5_watch_51 : decode cX5_watch 51 = .ok (.if_icmp .ge 16, 3) := by decide +kernel
theorem dX5_watch_54 : decode cX5_watch 54 = .ok (.iload_n 2, 1) := by decide +kernel
theorem dX5_watch_55 : decode cX5_watch 55 = .ok (.bipush 7, 2) := by decide +kernel
theorem dX5_watch_57 : decode cX5_watch 57 = .ok (.if_icmp .ne 24, 3) := by decide +kernel
theorem dX5_watch_60 : decode cX5_watch 60 = .ok (.iload_n 3, 1) := by decide +kernel
theorem dX5_watch_61 : decode cX5_watch 61 = .ok (.sipush 600, 3) := by decide +kernel
theorem dX5_watch_64 : decode cX5_watch 64 = .ok (.if_icmp .lt 17, 3) := by decide +kernel
theorem dX5_watch_67 : decode cX5_watch 67 = .ok (.aload_n 0, 1) := by decide +kernel
theorem dX5_watch_68 : decode cX5_watch 68 = .ok (.iload_n 1, 1) := by decide +kernel
theorem dX5_watch_69 : decode cX5_watch 69 = .ok (.invokevirtual 154, 3) := by decide +kernel
theorem dX5_watch_72 : decode cX5_watch 72 = .ok (.aload_n 0, 1) := by decide +kernel
theorem dX5_watch_73 : decode cX5_watch 73 = .ok (.iload_n 1, 1) := by decide +kernel
theorem dX5_watch_74 : decode cX5_watch 74 = .ok (.invokevirtual 117, 3) := by decide +kernel
theorem dX5_watch_77 : decode cX5_watch 77 = .ok (.aload_n 0, 1) := by decide +kernel
theorem dX5_watch_78 : decode cX5_watch 78 = .ok (.invokevirtual 148, 3) := by decide +kernel
theorem dX5_watch_81 : decode cX5_watch 81 = .ok (.return_, 1) := by decide +kernel
set_option maxRecDepth 20000 in
theorem ggX5_group_X5_in : GoodIn wsX5_group wsX5_in := goodIn_r _ [8] (by decide +kernel) (by decide +kernel)
set_option maxRecDepth 20000 in
theorem gX5_group_X5_in : GoodIn wsX5_group (va_wsS RX5 75 yX5_in wsX5_in) := goodIn_app (goodIn_of _ (by decide +kernel)) ggX5_group_X5_in
set_option maxRecDepth 20000 in
theorem ggX5_group_X5_throwing : GoodIn wsX5_group wsX5_throwing := goodIn_r _ [12, 13, 14, 15, 16, 17, 18, 19, 20, 21, 22, 23, 24, 25, 26, 27, 28, 29, 30, 31, 32, 33, 34, 35, 36, 37, 38] (by decide +kernel) (by decide +kernel)
set_option maxRecDepth 20000 in
theorem gX5_group_X5_throwing : GoodIn wsX5_group (wsV RX5 144 RX5 yX5_throwing wsX5_throwing) := goodIn_app (goodIn_of _ (by decide +kernel)) ggX5_group_X5_throwing
theorem dX5_group_0 : decode cX5_group 0 = .ok (.iload_n 1, 1) := by decide +kernel
theorem dX5_group_1 : decode cX5_group 1 = .ok (.iconst 0, 1) := by decide +kernel
theorem dX5_group_2 : decode cX5_group 2 = .ok (.iconst 3, 1) := by decide +kernel
theorem dX5_group_3 : decode cX5_group 3 = .ok (.invokestatic 75, 3) := by decide +kernel
theorem dX5_group_6 : decode cX5_group 6 = .ok (.ifCond .eq 26, 3) := by decide +kernel
theorem dX5_group_9 : decode cX5_group 9 = .ok (.iload_n 2, 1) := by decide +kernel
theorem dX5_group_10 : decode cX5_group 10 = .ok (.iconst (-1), 1) := by decide +kernel
theorem dX5_group_11 : decode cX5_group 11 = .ok (.bipush 23, 2) := by decide +kernel
theorem dX5_group_13 : decode cX5_group 13 = .ok (.invokestatic 75, 3) := by decide +kernel
theorem dX5_group_16 : decode cX5_group 16 = .ok (.ifCond .eq 16, 3) := by decide +kernel
theorem dX5_group_19 : decode cX5_group 19 = .ok (.iload_n 2, 1) := by decide +kernel
theorem dX5_group_20 : decode cX5_group 20 = .ok (.ifCond .ge 16, 3) := by decide +kernel
theorem dX5_group_23 : decode cX5_group 23 = .ok (.iload_n 3, 1) := by decide +kernel
theorem dX5_group_24 : decode cX5_group 24 = .ok (.iconst 0, 1) := by decide +kernel
theorem dX5_group_25 : decode cX5_group 25 = .ok (.iconst 3, 1) := by decide +kernel
theorem dX5_group_26 : decode cX5_group 26 = .ok (.invokestatic 75, 3) := by decide +kernel
theorem dX5_group_29 : decode cX5_group 29 = .ok (.ifCond .ne 7, 3) := by decide +kernel
theorem dX5_group_32 : decode cX5_group 32 = .ok (.iconst 1, 1) := by decide +kernel
theorem dX5_group_33 : decode cX5_group 33 = .ok (.goto 4, 3) := by decide +kernel
theorem dX5_group_36 : decode cX5_group 36 = .ok (.iconst 0, 1) := by decide +kernel
theorem dX5_group_37 : decode cX5_group 37 = .ok (.istore 4, 2) := by decide +kernel
theorem dX5_group_39 : decode cX5_group 39 = .ok (.iconst 0, 1) := by decide +kernel
theorem dX5_group_40 : decode cX5_group 40 = .ok (.istore 5, 2) := by decide +kernel
theorem dX5_group_42 : decode cX5_group 42 = .ok (.iload 5, 2) := by decide +kernel
theorem dX5_group_44 : decode cX5_group 44 = .ok (.bipush 6, 2) := by decide +kernel
theorem dX5_group_46 : decode cX5_group 46 = .ok (.if_icmp .ge 52, 3) := by decide +kernel
theorem dX5_group_49 : decode cX5_group 49 = .ok (.iload 4, 2) := by decide +kernel
theorem dX5_group_51 : decode cX5_group 51 = .ok (.ifCond .ne 47, 3) := by decide +kernel
theorem dX5_group_54 : decode cX5_group 54 = .ok (.iload_n 2, 1) := by decide +kernel
theorem dX5_group_55 : decode cX5_group 55 = .ok (.ifCond .lt 43, 3) := by decide +kernel
theorem dX5_group_58 : decode cX5_group 58 = .ok (.iload 5, 2) := by decide +kernel
theorem dX5_group_60 : decode cX5_group 60 = .ok (.aload_n 0, 1) := by decide +kernel
theorem dX5_group_61 : decode cX5_group 61 = .ok (.getfield 59, 3) := by decide +kernel
theorem dX5_group_64 : decode cX5_group 64 = .ok (.iload_n 1, 1) := by decide +kernel
theorem dX5_group_65 : decode cX5_group 65 = .ok (.iaload, 1) := by decide +kernel
theorem dX5_group_66 : decode cX5_group 66 = .ok (.if_icmp .ge 23, 3) := by decide +kernel
theorem dX5_group_69 : decode cX5_group 69 = .ok (.aload_n 0, 1) := by decide +kernel
theorem dX5_group_70 : decode cX5_group 70 = .ok (.getfield 56, 3) := by decide +kernel
theorem dX5_group_73 : decode cX5_group 73 = .ok (.bipush 6, 2) := by decide +kernel
theorem dX5_group_75 : decode cX5_group 75 = .ok (.iload_n 1, 1) := by decide +kernel
theorem dX5_group_76 : decode cX5_group 76 = .ok (.imul, 1) := by decide +kernel
theorem dX5_group_77 : decode cX5_group 77 = .ok (.iload 5, 2) := by decide +kernel
theorem dX5_group_79 : decode cX5_group 79 = .ok (.iadd, 1) := by decide +kernel
theorem dX5_group_80 : decode cX5_group 80 = .ok (.iaload, 1) := by decide +kernel
theorem dX5_group_81 : decode cX5_group 81 = .ok (.iload_n 2, 1) := by decide +kernel
theorem dX5_group_82 : decode cX5_group 82 = .ok (.if_icmp .ne 7, 3) := by decide +kernel
theorem dX5_group_85 : decode cX5_group 85 = .ok (.iconst 1, 1) := by decide +kernel
theorem dX5_group_86 : decode cX5_group 86 = .ok (.goto 4, 3) := by decide +kernel
theorem dX5_group_89 : decode cX5_group 89 = .ok (.iconst 0, 1) := by decide +kernel
theorem dX5_group_90 : decode cX5_group 90 = .ok (.istore 4, 2) := by decide +kernel
theorem dX5_group_92 : decode cX5_group 92 = .ok (.iinc 5 1, 3) := by decide +kernel
theorem dX5_group_95 : decode cX5_group 95 = .ok (.goto (-53), 3) := by decide +kernel
theorem dX5_group_98 : decode cX5_group 98 = .ok (.aload_n 0, 1) := by decide +kernel
theorem dX5_group_99 : decode cX5_group 99 = .ok (.iload 4, 2) := by decide +kernel
theorem dX5_group_101 : decode cX5_group 101 = .ok (.iload 4, 2) := by decide +kernel
theorem dX5_group_103 : decode cX5_group 103 = .ok (.ifCond .ne 22, 3) := by decide +kernel
theorem dX5_group_106 : decode cX5_group 106 = .ok (.iload_n 2, 1) := by decide +kernel
theorem dX5_group_107 : decode cX5_group 107 = .ok (.ifCond .lt 18, 3) := by decide +kernel
theorem dX5_group_110 : decode cX5_group 110 = .ok (.aload_n 0, 1) := by decide +kernel
theorem dX5_group_111 : decode cX5_group 111 = .ok (.getfield 59, 3) := by decide +kernel
theorem dX5_group_114 : decode cX5_group 114 = .ok (.iload_n 1, 1) := by decide +kernel
theorem dX5_group_115 : decode cX5_group 115 = .ok (.iaload, 1) := by decide +kernel
theorem dX5_group_116 : decode cX5_group 116 = .ok (.bipush 6, 2) := by decide +kernel
theorem dX5_group_118 : decode cX5_group 118 = .ok (.if_icmp .ne 7, 3) := by decide +kernel
theorem dX5_group_121 : decode cX5_group 121 = .ok (.iconst 1, 1) := by decide +kernel
theorem dX5_group_122 : decode cX5_group 122 = .ok (.goto 4, 3) := by decide +kernel
end
section
theorem dX5_group_125 : decode cX5_group 125 = .ok (.iconst 0, 1) := by decide +kernel
theorem dX5_group_126 : decode cX5_group 126 = .ok (.invokevirtual 144, 3) := by decide +kernel
theorem dX5_group_129 : decode cX5_group 129 = .ok (.ifCond .eq 5, 3) := by decide +kernel
theorem dX5_group_132 : decode cX5_group 132 = .ok (.iconst 0, 1) := by decide +kernel
theorem dX5_group_133 : decode cX5_group 133 = .ok (.ireturn, 1) := by decide +kernel
theorem dX5_group_134 : decode cX5_group 134 = .ok (.iload_n 2, 1) := by decide +kernel
theorem dX5_group_135 : decode cX5_group 135 = .ok (.ifCond .ge 27, 3) := by decide +kernel
theorem dX5_group_138 : decode cX5_group 138 = .ok (.aload_n 0, 1) := by decide +kernel
theorem dX5_group_139 : decode cX5_group 139 = .ok (.getfield 59, 3) := by decide +kernel
theorem dX5_group_142 : decode cX5_group 142 = .ok (.iload_n 1, 1) := by decide +kernel
theorem dX5_group_143 : decode cX5_group 143 = .ok (.iconst 0, 1) := by decide +kernel
theorem dX5_group_144 : decode cX5_group 144 = .ok (.iastore, 1) := by decide +kernel
theorem dX5_group_145 : decode cX5_group 145 = .ok (.aload_n 0, 1) := by decide +kernel
theorem dX5_group_146 : decode cX5_group 146 = .ok (.getfield 62, 3) := by decide +kernel
theorem dX5_group_149 : decode cX5_group 149 = .ok (.iload_n 1, 1) := by decide +kernel
theorem dX5_group_150 : decode cX5_group 150 = .ok (.iload_n 3, 1) := by decide +kernel
theorem dX5_group_151 : decode cX5_group 151 = .ok (.iastore, 1) := by decide +kernel
theorem dX5_group_152 : decode cX5_group 152 = .ok (.aload_n 0, 1) := by decide +kernel
theorem dX5_group_153 : decode cX5_group 153 = .ok (.getfield 65, 3) := by decide +kernel
theorem dX5_group_156 : decode cX5_group 156 = .ok (.iload_n 1, 1) := by decide +kernel
theorem dX5_group_157 : decode cX5_group 157 = .ok (.iconst (-1), 1) := by decide +kernel
theorem dX5_group_158 : decode cX5_group 158 = .ok (.iastore, 1) := by decide +kernel
theorem dX5_group_159 : decode cX5_group 159 = .ok (.goto 30, 3) := by decide +kernel
theorem dX5_group_162 : decode cX5_group 162 = .ok (.aload_n 0, 1) := by decide +kernel
theorem dX5_group_163 : decode cX5_group 163 = .ok (.getfield 56, 3) := by decide +kernel
theorem dX5_group_166 : decode cX5_group 166 = .ok (.bipush 6, 2) := by decide +kernel
theorem dX5_group_168 : decode cX5_group 168 = .ok (.iload_n 1, 1) := by decide +kernel
theorem dX5_group_169 : decode cX5_group 169 = .ok (.imul, 1) := by decide +kernel
theorem dX5_group_170 : decode cX5_group 170 = .ok (.aload_n 0, 1) := by decide +kernel
theorem dX5_group_171 : decode cX5_group 171 = .ok (.getfield 59, 3) := by decide +kernel
theorem dX5_group_174 : decode cX5_group 174 = .ok (.iload_n 1, 1) := by decide +kernel
theorem dX5_group_175 : decode cX5_group 175 = .ok (.iaload, 1) := by decide +kernel
theorem dX5_group_176 : decode cX5_group 176 = .ok (.iadd, 1) := by decide +kernel
theorem dX5_group_177 : decode cX5_group 177 = .ok (.iload_n 2, 1) := by decide +kernel
theorem dX5_group_178 : decode cX5_group 178 = .ok (.iastore, 1) := by decide +kernel
theorem dX5_group_179 : decode cX5_group 179 = .ok (.aload_n 0, 1) := by decide +kernel
theorem dX5_group_180 : decode cX5_group 180 = .ok (.getfield 59, 3) := by decide +kernel
theorem dX5_group_183 : decode cX5_group 183 = .ok (.iload_n 1, 1) := by decide +kernel
theorem dX5_group_184 : decode cX5_group 184 = .ok (.dup2, 1) := by decide +kernel
theorem dX5_group_185 : decode cX5_group 185 = .ok (.iaload, 1) := by decide +kernel
theorem dX5_group_186 : decode cX5_group 186 = .ok (.iconst 1, 1) := by decide +kernel
theorem dX5_group_187 : decode cX5_group 187 = .ok (.iadd, 1) := by decide +kernel
theorem dX5_group_188 : decode cX5_group 188 = .ok (.iastore, 1) := by decide +kernel
theorem dX5_group_189 : decode cX5_group 189 = .ok (.aload_n 0, 1) := by decide +kernel
theorem dX5_group_190 : decode cX5_group 190 = .ok (.getfield 59, 3) := by decide +kernel
theorem dX5_group_193 : decode cX5_group 193 = .ok (.iload_n 1, 1) := by decide +kernel
theorem dX5_group_194 : decode cX5_group 194 = .ok (.iaload, 1) := by decide +kernel
theorem dX5_group_195 : decode cX5_group 195 = .ok (.ireturn, 1) := by decide +kernel
set_option maxRecDepth 20000 in
theorem ggX5_slot_X5_in : GoodIn wsX5_slot wsX5_in := goodIn_r _ [5] (by decide +kernel) (by decide +kernel)
set_option maxRecDepth 20000 in
theorem gX5_slot_X5_in : GoodIn wsX5_slot (va_wsS RX5 75 yX5_in wsX5_in) := goodIn_app (goodIn_of _ (by decide +kernel)) ggX5_slot_X5_in
set_option maxRecDepth 20000 in
theorem ggX5_slot_X5_throwing : GoodIn wsX5_slot wsX5_throwing := goodIn_r _ [9, 10, 11, 12, 13, 14, 15, 16, 17, 18, 19, 20, 21, 22, 23, 24, 25, 26, 27, 28, 29, 30, 31, 32, 33, 34, 35] (by decide +kernel) (by decide +kernel)
set_option maxRecDepth 20000 in
theorem gX5_slot_X5_throwing : GoodIn wsX5_slot (wsV RX5 144 RX5 yX5_throwing wsX5_throwing) := goodIn_app (goodIn_of _ (by decide +kernel)) ggX5_slot_X5_throwing
theorem dX5_slot_0 : decode cX5_slot 0 = .ok (.iload_n 1, 1) := by decide +kernel
theorem dX5_slot_1 : decode cX5_slot 1 = .ok (.iconst 0, 1) := by decide +kernel
theorem dX5_slot_2 : decode cX5_slot 2 = .ok (.iconst 3, 1) := by decide +kernel
theorem dX5_slot_3 : decode cX5_slot 3 = .ok (.invokestatic 75, 3) := by decide +kernel
theorem dX5_slot_6 : decode cX5_slot 6 = .ok (.ifCond .eq 13, 3) := by decide +kernel
theorem dX5_slot_9 : decode cX5_slot 9 = .ok (.iload_n 2, 1) := by decide +kernel
theorem dX5_slot_10 : decode cX5_slot 10 = .ok (.iconst 0, 1) := by decide +kernel
theorem dX5_slot_11 : decode cX5_slot 11 = .ok (.bipush 7, 2) := by decide +kernel
theorem dX5_slot_13 : decode cX5_slot 13 = .ok (.invokestatic 75, 3) := by decide +kernel
theorem dX5_slot_16 : decode cX5_slot 16 = .ok (.ifCond .ne 7, 3) := by decide +kernel
theorem dX5_slot_19 : decode cX5_slot 19 = .ok (.iconst 1, 1) := by decide +kernel
theorem dX5_slot_20 : decode cX5_slot 20 = .ok (.goto 4, 3) := by decide +kernel
theorem dX5_slot_23 : decode cX5_slot 23 = .ok (.iconst 0, 1) := by decide +kernel
theorem dX5_slot_24 : decode cX5_slot 24 = .ok (.istore 4, 2) := by decide +kernel
theorem dX5_slot_26 : decode cX5_slot 26 = .ok (.aload_n 0, 1) := by decide +kernel
theorem dX5_slot_27 : decode cX5_slot 27 = .ok (.iload 4, 2) := by decide +kernel
theorem dX5_slot_29 : decode cX5_slot 29 = .ok (.iload 4, 2) := by decide +kernel
theorem dX5_slot_31 : decode cX5_slot 31 = .ok (.ifCond .ne 21, 3) := by decide +kernel
theorem dX5_slot_34 : decode cX5_slot 34 = .ok (.aload_n 0, 1) := by decide +kernel
theorem dX5_slot_35 : decode cX5_slot 35 = .ok (.getfield 53, 3) := by decide +kernel
theorem dX5_slot_38 : decode cX5_slot 38 = .ok (.bipush 8, 2) := by decide +kernel
theorem dX5_slot_40 : decode cX5_slot 40 = .ok (.iload_n 1, 1) := by decide +kernel
theorem dX5_slot_41 : decode cX5_slot 41 = .ok (.imul, 1) := by decide +kernel
theorem dX5_slot_42 : decode cX5_slot 42 = .ok (.iload_n 2, 1) := by decide +kernel
theorem dX5_slot_43 : decode cX5_slot 43 = .ok (.iadd, 1) := by decide +kernel
theorem dX5_slot_44 : decode cX5_slot 44 = .ok (.iaload, 1) := by decide +kernel
theorem dX5_slot_45 : decode cX5_slot 45 = .ok (.ifCond .lt 7, 3) := by decide +kernel
theorem dX5_slot_48 : decode cX5_slot 48 = .ok (.iconst 1, 1) := by decide +kernel
theorem dX5_slot_49 : decode cX5_slot 49 = .ok (.goto 4, 3) := by decide +kernel
theorem dX5_slot_52 : decode cX5_slot 52 = .ok (.iconst 0, 1) := by decide +kernel
theorem dX5_slot_53 : decode cX5_slot 53 = .ok (.invokevirtual 144, 3) := by decide +kernel
theorem dX5_slot_56 : decode cX5_slot 56 = .ok (.ifCond .eq 4, 3) := by decide +kernel
theorem dX5_slot_59 : decode cX5_slot 59 = .ok (.return_, 1) := by decide +kernel
theorem dX5_slot_60 : decode cX5_slot 60 = .ok (.aload_n 0, 1) := by decide +kernel
theorem dX5_slot_61 : decode cX5_slot 61 = .ok (.getfield 53, 3) := by decide +kernel
theorem dX5_slot_64 : decode cX5_slot 64 = .ok (.bipush 8, 2) := by decide +kernel
theorem dX5_slot_66 : decode cX5_slot 66 = .ok (.iload_n 1, 1) := by decide +kernel
theorem dX5_slot_67 : decode cX5_slot 67 = .ok (.imul, 1) := by decide +kernel
theorem dX5_slot_68 : decode cX5_slot 68 = .ok (.iload_n 2, 1) := by decide +kernel
theorem dX5_slot_69 : decode cX5_slot 69 = .ok (.iadd, 1) := by decide +kernel
theorem dX5_slot_70 : decode cX5_slot 70 = .ok (.iload_n 3, 1) := by decide +kernel
theorem dX5_slot_71 : decode cX5_slot 71 = .ok (.ifCond .eq 7, 3) := by decide +kernel
theorem dX5_slot_74 : decode cX5_slot 74 = .ok (.iconst (-1), 1) := by decide +kernel
theorem dX5_slot_75 : decode cX5_slot 75 = .ok (.goto 5, 3) := by decide +kernel
theorem dX5_slot_78 : decode cX5_slot 78 = .ok (.bipush (-2), 2) := by decide +kernel
theorem dX5_slot_80 : decode cX5_slot 80 = .ok (.iastore, 1) := by decide +kernel
theorem dX5_slot_81 : decode cX5_slot 81 = .ok (.return_, 1) := by decide +kernel
set_option maxRecDepth 20000 in
theorem ggX5_carries_X5_in : GoodIn wsX5_carries wsX5_in := goodIn_r _ [5] (by decide +kernel) (by decide +kernel)
set_option maxRecDepth 20000 in
theorem gX5_carries_X5_in : GoodIn wsX5_carries (va_wsS RX5 75 yX5_in wsX5_in) := goodIn_app (goodIn_of _ (by decide +kernel)) ggX5_carries_X5_in
set_option maxRecDepth 20000 in
theorem ggX5_carries_X5_throwing : GoodIn wsX5_carries wsX5_throwing := goodIn_r _ [9, 10, 11, 12, 13, 14, 15, 16, 17, 18, 19, 20, 21, 22, 23, 24, 25, 26, 27, 28, 29, 30, 31, 32, 33, 34, 35] (by decide +kernel) (by decide +kernel)
set_option maxRecDepth 20000 in
theorem gX5_carries_X5_throwing : GoodIn wsX5_carries (wsV RX5 144 RX5 yX5_throwing wsX5_throwing) := goodIn_app (goodIn_of _ (by decide +kernel)) ggX5_carries_X5_throwing
theorem dX5_carries_0 : decode cX5_carries 0 = .ok (.aload_n 0, 1) := by decide +kernel
theorem dX5_carries_1 : decode cX5_carries 1 = .ok (.iload_n 1, 1) := by decide +kernel
theorem dX5_carries_2 : decode cX5_carries 2 = .ok (.iconst 0, 1) := by decide +kernel
theorem dX5_carries_3 : decode cX5_carries 3 = .ok (.iconst 3, 1) := by decide +kernel
theorem dX5_carries_4 : decode cX5_carries 4 = .ok (.invokestatic 75, 3) := by decide +kernel
theorem dX5_carries_7 : decode cX5_carries 7 = .ok (.ifCond .eq 13, 3) := by decide +kernel
theorem dX5_carries_10 : decode cX5_carries 10 = .ok (.iload_n 2, 1) := by decide +kernel
theorem dX5_carries_11 : decode cX5_carries 11 = .ok (.iconst 0, 1) := by decide +kernel
theorem dX5_carries_12 : decode cX5_carries 12 = .ok (.bipush 7, 2) := by decide +kernel
theorem dX5_carries_14 : decode cX5_carries 14 = .ok (.invokestatic 75, 3) := by decide +kernel
theorem dX5_carries_17 : decode cX5_carries 17 = .ok (.ifCond .ne 7, 3) := by decide +kernel
theorem dX5_carries_20 : decode cX5_carries 20 = .ok (.iconst 1, 1) := by decide +kernel
theorem dX5_carries_21 : decode cX5_carries 21 = .ok (.goto 4, 3) := by decide +kernel
theorem dX5_carries_24 : decode cX5_carries 24 = .ok (.iconst 0, 1) := by decide +kernel
theorem dX5_carries_25 : decode cX5_carries 25 = .ok (.iconst 0, 1) := by decide +kernel
theorem dX5_carries_26 : decode cX5_carries 26 = .ok (.invokevirtual 144, 3) := by decide +kernel
theorem dX5_carries_29 : decode cX5_carries 29 = .ok (.ifCond .eq 5, 3) := by decide +kernel
theorem dX5_carries_32 : decode cX5_carries 32 = .ok (.iconst 0, 1) := by decide +kernel
theorem dX5_carries_33 : decode cX5_carries 33 = .ok (.ireturn, 1) := by decide +kernel
theorem dX5_carries_34 : decode cX5_carries 34 = .ok (.aload_n 0, 1) := by decide +kernel
theorem dX5_carries_35 : decode cX5_carries 35 = .ok (.getfield 53, 3) := by decide +kernel
theorem dX5_carries_38 : decode cX5_carries 38 = .ok (.bipush 8, 2) := by decide +kernel
theorem dX5_carries_40 : decode cX5_carries 40 = .ok (.iload_n 1, 1) := by decide +kernel
theorem dX5_carries_41 : decode cX5_carries 41 = .ok (.imul, 1) := by decide +kernel
theorem dX5_carries_42 : decode cX5_carries 42 = .ok (.iload_n 2, 1) := by decide +kernel
theorem dX5_carries_43 : decode cX5_carries 43 = .ok (.iadd, 1) := by decide +kernel
theorem dX5_carries_44 : decode cX5_carries 44 = .ok (.iaload, 1) := by decide +kernel
theorem dX5_carries_45 : decode cX5_carries 45 = .ok (.ireturn, 1) := by decide +kernel
theorem dX5_ringer_0 : decode cX5_ringer 0 = .ok (.iconst 0, 1) := by decide +kernel
theorem dX5_ringer_1 : decode cX5_ringer 1 = .ok (.istore_n 2, 1) := by decide +kernel
theorem dX5_ringer_2 : decode cX5_ringer 2 = .ok (.iload_n 2, 1) := by decide +kernel
theorem dX5_ringer_3 : decode cX5_ringer 3 = .ok (.bipush 24, 2) := by decide +kernel
theorem dX5_ringer_5 : decode cX5_ringer 5 = .ok (.if_icmp .ge 31, 3) := by decide +kernel
theorem dX5_ringer_8 : decode cX5_ringer 8 = .ok (.aload_n 0, 1) := by decide +kernel
theorem dX5_ringer_9 : decode cX5_ringer 9 = .ok (.getfield 7, 3) := by decide +kernel
theorem dX5_ringer_12 : decode cX5_ringer 12 = .ok (.iload_n 2, 1) := by decide +kernel
theorem dX5_ringer_13 : decode cX5_ringer 13 = .ok (.iaload, 1) := by decide +kernel
theorem dX5_ringer_14 : decode cX5_ringer 14 = .ok (.iconst 4, 1) := by decide +kernel
theorem dX5_ringer_15 : decode cX5_ringer 15 = .ok (.if_icmp .ne 15, 3) := by decide +kernel
theorem dX5_ringer_18 : decode cX5_ringer 18 = .ok (.aload_n 0, 1) := by decide +kernel
theorem dX5_ringer_19 : decode cX5_ringer 19 = .ok (.getfield 22, 3) := by decide +kernel
theorem dX5_ringer_22 : decode cX5_ringer 22 = .ok (.iload_n 2, 1) := by decide +kernel
theorem dX5_ringer_23 : decode cX5_ringer 23 = .ok (.iaload, 1) := by decide +kernel
theorem dX5_ringer_24 : decode cX5_ringer 24 = .ok (.iload_n 1, 1) := by decide +kernel
theorem dX5_ringer_25 : decode cX5_ringer 25 = .ok (.if_icmp .ne 5, 3) := by decide +kernel
theorem dX5_ringer_28 : decode cX5_ringer 28 = .ok (.iload_n 2, 1) := by decide +kernel
theorem dX5_ringer_29 : decode cX5_ringer 29 = .ok (.ireturn, 1) := by decide +kernel
theorem dX5_ringer_30 : decode cX5_ringer 30 = .ok (.iinc 2 1, 3) := by decide +kernel
theorem dX5_ringer_33 : decode cX5_ringer 33 = .ok (.goto (-31), 3) := by decide +kernel
theorem dX5_ringer_36 : decode cX5_ringer 36 = .ok (.iconst (-1), 1) := by decide +kernel
theorem dX5_ringer_37 : decode cX5_ringer 37 = .ok (.ireturn, 1) := by decide +kernel
set_option maxRecDepth 20000 in
theorem ggX5_line_X5_isLine : GoodIn wsX5_line wsX5_isLine := goodIn_r _ [11, 12, 13, 10, 14] (by decide +kernel) (by decide +kernel)
set_option maxRecDepth 20000 in
theorem gX5_line_X5_isLine : GoodIn wsX5_line (va_wsS RX5 140 yX5_isLine wsX5_isLine) := goodIn_app (goodIn_of _ (by decide +kernel)) ggX5_line_X5_isLine
set_option maxRecDepth 20000 in
theorem ggX5_line_X5_in : GoodIn wsX5_line wsX5_in := goodIn_r _ [14] (by decide +kernel) (by decide +kernel)
set_option maxRecDepth 20000 in
theorem gX5_line_X5_in : GoodIn wsX5_line (va_wsS RX5 75 yX5_in wsX5_in) := goodIn_app (goodIn_of _ (by decide +kernel)) ggX5_line_X5_in
set_option maxRecDepth 20000 in
theorem ggX5_line_X5_throwing : GoodIn wsX5_line wsX5_throwing := goodIn_r _ [18, 19, 30, 31, 32, 33, 34, 35, 36, 37, 38, 39, 40, 41, 42, 43, 44, 45, 46, 47, 48, 49, 50, 51, 52, 53, 54] (by decide +kernel) (by decide +kernel)
set_option maxRecDepth 20000 in
theorem gX5_line_X5_throwing : GoodIn wsX5_line (wsV RX5 144 RX5 yX5_throwing wsX5_throwing) := goodIn_app (goodIn_of _ (by decide +kernel)) ggX5_line_X5_throwing
set_option maxRecDepth 20000 in
theorem ggX5_line_X5_ringer : GoodIn wsX5_line wsX5_ringer := goodIn_r _ [23, 1, 2, 30, 31, 32, 33, 34, 35, 36, 37, 38, 39, 40, 41, 42, 43, 44, 45, 46, 47, 48, 49, 50, 51, 52, 53, 54] (by decide +kernel) (by decide +kernel)
set_option maxRecDepth 20000 in
theorem gX5_line_X5_ringer : GoodIn wsX5_line (wsV RX5 163 RX5 yX5_ringer wsX5_ringer) := goodIn_app (goodIn_of _ (by decide +kernel)) ggX5_line_X5_ringer
set_option maxRecDepth 20000 in
theorem ggX5_line_X5_unitsOf : GoodIn wsX5_line wsX5_unitsOf := goodIn_r _ [27, 28, 29, 30, 31, 32, 33, 34, 35, 36, 37, 38, 39, 40, 41, 42, 43, 44, 45, 46, 47, 48, 49, 50, 51, 52, 53, 54] (by decide +kernel) (by decide +kernel)
set_option maxRecDepth 20000 in
theorem gX5_line_X5_unitsOf : GoodIn wsX5_line (wsV RX5 100 RX5 yX5_unitsOf wsX5_unitsOf) := goodIn_app (goodIn_of _ (by decide +kernel)) ggX5_line_X5_unitsOf
theorem dX5_line_0 : decode cX5_line 0 = .ok (.aload_n 0, 1) := by decide +kernel
theorem dX5_line_1 : decode cX5_line 1 = .ok (.iload_n 1, 1) := by decide +kernel
theorem dX5_line_2 : decode cX5_line 2 = .ok (.invokestatic 140, 3) := by decide +kernel
theorem dX5_line_5 : decode cX5_line 5 = .ok (.ifCond .eq 12, 3) := by decide +kernel
theorem dX5_line_8 : decode cX5_line 8 = .ok (.iload_n 2, 1) := by decide +kernel
theorem dX5_line_9 : decode cX5_line 9 = .ok (.iconst 0, 1) := by decide +kernel
theorem dX5_line_10 : decode cX5_line 10 = .ok (.iconst 5, 1) := by decide +kernel
theorem dX5_line_11 : decode cX5_line 11 = .ok (.invokestatic 75, 3) := by decide +kernel
theorem dX5_line_14 : decode cX5_line 14 = .ok (.ifCond .ne 7, 3) := by decide +kernel
theorem dX5_line_17 : decode cX5_line 17 = .ok (.iconst 1, 1) := by decide +kernel
theorem dX5_line_18 : decode cX5_line 18 = .ok (.goto 4, 3) := by decide +kernel
theorem dX5_line_21 : decode cX5_line 21 = .ok (.iconst 0, 1) := by decide +kernel
theorem dX5_line_22 : decode cX5_line 22 = .ok (.iconst 0, 1) := by decide +kernel
theorem dX5_line_23 : decode cX5_line 23 = .ok (.invokevirtual 144, 3) := by decide +kernel
theorem dX5_line_26 : decode cX5_line 26 = .ok (.ifCond .eq 5, 3) := by decide +kernel
theorem dX5_line_29 : decode cX5_line 29 = .ok (.iconst 0, 1) := by decide +kernel
theorem dX5_line_30 : decode cX5_line 30 = .ok (.ireturn, 1) := by decide +kernel
theorem dX5_line_31 : decode cX5_line 31 = .ok (.aload_n 0, 1) := by decide +kernel
theorem dX5_line_32 : decode cX5_line 32 = .ok (.getfield 7, 3) := by decide +kernel
theorem dX5_line_35 : decode cX5_line 35 = .ok (.iload_n 1, 1) := by decide +kernel
theorem dX5_line_36 : decode cX5_line 36 = .ok (.iaload, 1) := by decide +kernel
theorem dX5_line_37 : decode cX5_line 37 = .ok (.iconst 3, 1) := by decide +kernel
theorem dX5_line_38 : decode cX5_line 38 = .ok (.if_icmp .ne 11, 3) := by decide +kernel
theorem dX5_line_41 : decode cX5_line 41 = .ok (.aload_n 0, 1) := by decide +kernel
theorem dX5_line_42 : decode cX5_line 42 = .ok (.iload_n 1, 1) := by decide +kernel
theorem dX5_line_43 : decode cX5_line 43 = .ok (.invokevirtual 163, 3) := by decide +kernel
theorem dX5_line_46 : decode cX5_line 46 = .ok (.goto 4, 3) := by decide +kernel
theorem dX5_line_49 : decode cX5_line 49 = .ok (.iconst (-1), 1) := by decide +kernel
theorem dX5_line_50 : decode cX5_line 50 = .ok (.istore_n 3, 1) := by decide +kernel
theorem dX5_line_51 : decode cX5_line 51 = .ok (.iload_n 2, 1) := by decide +kernel
theorem dX5_line_52 : decode cX5_line 52 = .ok (.tableswitch 136 0 4 #[36, 43, 64, 84, 121], 36) := by decide +kernel
theorem dX5_line_88 : decode cX5_line 88 = .ok (.aload_n 0, 1) := by decide +kernel
theorem dX5_line_89 : decode cX5_line 89 = .ok (.getfield 7, 3) := by decide +kernel
theorem dX5_line_92 : decode cX5_line 92 = .ok (.iload_n 1, 1) := by decide +kernel
theorem dX5_line_93 : decode cX5_line 93 = .ok (.iaload, 1) := by decide +kernel
theorem dX5_line_94 : decode cX5_line 94 = .ok (.ireturn, 1) := by decide +kernel
theorem dX5_line_95 : decode cX5_line 95 = .ok (.aload_n 0, 1) := by decide +kernel
theorem dX5_line_96 : decode cX5_line 96 = .ok (.getfield 7, 3) := by decide +kernel
theorem dX5_line_99 : decode cX5_line 99 = .ok (.iload_n 1, 1) := by decide +kernel
theorem dX5_line_100 : decode cX5_line 100 = .ok (.iaload, 1) := by decide +kernel
theorem dX5_line_101 : decode cX5_line 101 = .ok (.iconst 3, 1) := by decide +kernel
theorem dX5_line_102 : decode cX5_line 102 = .ok (.if_icmp .ne 7, 3) := by decide +kernel
theorem dX5_line_105 : decode cX5_line 105 = .ok (.iload_n 3, 1) := by decide +kernel
theorem dX5_line_106 : decode cX5_line 106 = .ok (.goto 9, 3) := by decide +kernel
theorem dX5_line_109 : decode cX5_line 109 = .ok (.aload_n 0, 1) := by decide +kernel
theorem dX5_line_110 : decode cX5_line 110 = .ok (.getfield 22, 3) := by decide +kernel
theorem dX5_line_113 : decode cX5_line 113 = .ok (.iload_n 1, 1) := by decide +kernel
theorem dX5_line_114 : decode cX5_line 114 = .ok (.iaload, 1) := by decide +kernel
theorem dX5_line_115 : decode cX5_line 115 = .ok (.ireturn, 1) := by decide +kernel
theorem dX5_line_116 : decode cX5_line 116 = .ok (.iload_n 3, 1) := by decide +kernel
theorem dX5_line_117 : decode cX5_line 117 = .ok (.ifCond .lt 12, 3) := by decide +kernel
theorem dX5_line_120 : decode cX5_line 120 = .ok (.aload_n 0, 1) := by decide +kernel
theorem dX5_line_121 : decode cX5_line 121 = .ok (.getfield 25, 3) := by decide +kernel
theorem dX5_line_124 : decode cX5_line 124 = .ok (.iload_n 3, 1) := by decide +kernel
theorem dX5_line_125 : decode cX5_line 125 = .ok (.iaload, 1) := by decide +kernel
theorem dX5_line_126 : decode cX5_line 126 = .ok (.goto 9, 3) := by decide +kernel
theorem dX5_line_129 : decode cX5_line 129 = .ok (.aload_n 0, 1) := by decide +kernel
theorem dX5_line_130 : decode cX5_line 130 = .ok (.getfield 25, 3) := by decide +kernel
theorem dX5_line_133 : decode cX5_line 133 = .ok (.iload_n 1, 1) := by decide +kernel
theorem dX5_line_134 : decode cX5_line 134 = .ok (.iaload, 1) := by decide +kernel
theorem dX5_line_135 : decode cX5_line 135 = .ok (.ireturn, 1) := by decide +kernel
theorem dX5_line_136 : decode cX5_line 136 = .ok (.aload_n 0, 1) := by decide +kernel
theorem dX5_line_137 : decode cX5_line 137 = .ok (.getfield 38, 3) := by decide +kernel
theorem dX5_line_140 : decode cX5_line 140 = .ok (.iload_n 1, 1) := by decide +kernel
theorem dX5_line_141 : decode cX5_line 141 = .ok (.iaload, 1) := by decide +kernel
theorem dX5_line_142 : decode cX5_line 142 = .ok (.aload_n 0, 1) := by decide +kernel
theorem dX5_line_143 : decode cX5_line 143 = .ok (.getfield 7, 3) := by decide +kernel
theorem dX5_line_146 : decode cX5_line 146 = .ok (.iload_n 1, 1) := by decide +kernel
theorem dX5_line_147 : decode cX5_line 147 = .ok (.iaload, 1) := by decide +kernel
theorem dX5_line_148 : decode cX5_line 148 = .ok (.bipush 6, 2) := by decide +kernel
theorem dX5_line_150 : decode cX5_line 150 = .ok (.if_icmp .ne 20, 3) := by decide +kernel
theorem dX5_line_153 : decode cX5_line 153 = .ok (.aload_n 0, 1) := by decide +kernel
theorem dX5_line_154 : decode cX5_line 154 = .ok (.getfield 41, 3) := by decide +kernel
theorem dX5_line_157 : decode cX5_line 157 = .ok (.iload_n 1, 1) := by decide +kernel
theorem dX5_line_158 : decode cX5_line 158 = .ok (.baload, 1) := by decide +kernel
theorem dX5_line_159 : decode cX5_line 159 = .ok (.ifCond .eq 11, 3) := by decide +kernel
theorem dX5_line_162 : decode cX5_line 162 = .ok (.aload_n 0, 1) := by decide +kernel
theorem dX5_line_163 : decode cX5_line 163 = .ok (.iload_n 1, 1) := by decide +kernel
theorem dX5_line_164 : decode cX5_line 164 = .ok (.invokevirtual 100, 3) := by decide +kernel
theorem dX5_line_167 : decode cX5_line 167 = .ok (.goto 4, 3) := by decide +kernel
theorem dX5_line_170 : decode cX5_line 170 = .ok (.iconst 0, 1) := by decide +kernel
theorem dX5_line_171 : decode cX5_line 171 = .ok (.iadd, 1) := by decide +kernel
theorem dX5_line_172 : decode cX5_line 172 = .ok (.ireturn, 1) := by decide +kernel
theorem dX5_line_173 : decode cX5_line 173 = .ok (.aload_n 0, 1) := by decide +kernel
theorem dX5_line_174 : decode cX5_line 174 = .ok (.getfield 34, 3) := by decide +kernel
theorem dX5_line_177 : decode cX5_line 177 = .ok (.iload_n 1, 1) := by decide +kernel
theorem dX5_line_178 : decode cX5_line 178 = .ok (.baload, 1) := by decide +kernel
theorem dX5_line_179 : decode cX5_line 179 = .ok (.ifCond .eq 7, 3) := by decide +kernel
theorem dX5_line_182 : decode cX5_line 182 = .ok (.iconst 1, 1) := by decide +kernel
theorem dX5_line_183 : decode cX5_line 183 = .ok (.goto 4, 3) := by decide +kernel
theorem dX5_line_186 : decode cX5_line 186 = .ok (.iconst 0, 1) := by decide +kernel
theorem dX5_line_187 : decode cX5_line 187 = .ok (.ireturn, 1) := by decide +kernel
theorem dX5_line_188 : decode cX5_line 188 = .ok (.aload_n 0, 1) := by decide +kernel
theorem dX5_line_189 : decode cX5_line 189 = .ok (.getfield 47, 3) := by decide +kernel
theorem dX5_line_192 : decode cX5_line 192 = .ok (.iload_n 1, 1) := by decide +kernel
theorem dX5_line_193 : decode cX5_line 193 = .ok (.iaload, 1) := by decide +kernel
theorem dX5_line_194 : decode cX5_line 194 = .ok (.ireturn, 1) := by decide +kernel
set_option maxRecDepth 20000 in
theorem ggX5_count_X5_in : GoodIn wsX5_count wsX5_in := goodIn_r _ [7] (by decide +kernel) (by decide +kernel)
set_option maxRecDepth 20000 in
theorem gX5_count_X5_in : GoodIn wsX5_count (va_wsS RX5 75 yX5_in wsX5_in) := goodIn_app (goodIn_of _ (by decide +kernel)) ggX5_count_X5_in
set_option maxRecDepth 20000 in
theorem ggX5_count_X5_throwing : GoodIn wsX5_count wsX5_throwing := goodIn_r _ [11, 12, 13, 14, 15, 16, 17, 18, 19, 20, 21, 22, 23, 24, 25, 26, 27, 28, 29, 30, 31, 32, 33, 34, 35, 36, 37] (by decide +kernel) (by decide +kernel)
set_option maxRecDepth 20000 in
theorem gX5_count_X5_throwing : GoodIn wsX5_count (wsV RX5 144 RX5 yX5_throwing wsX5_throwing) := goodIn_app (goodIn_of _ (by decide +kernel)) ggX5_count_X5_throwing
theorem dX5_count_0 : decode cX5_count 0 = .ok (.aload_n 0, 1) := by decide +kernel
theorem dX5_count_1 : decode cX5_count 1 = .ok (.iload_n 1, 1) := by decide +kernel
theorem dX5_count_2 : decode cX5_count 2 = .ok (.iconst 0, 1) := by decide +kernel
theorem dX5_count_3 : decode cX5_count 3 = .ok (.iconst 2, 1) := by decide +kernel
theorem dX5_count_4 : decode cX5_count 4 = .ok (.invokestatic 75, 3) := by decide +kernel
theorem dX5_count_7 : decode cX5_count 7 = .ok (.ifCond .ne 7, 3) := by decide +kernel
theorem dX5_count_10 : decode cX5_count 10 = .ok (.iconst 1, 1) := by decide +kernel
theorem dX5_count_11 : decode cX5_count 11 = .ok (.goto 4, 3) := by decide +kernel
theorem dX5_count_14 : decode cX5_count 14 = .ok (.iconst 0, 1) := by decide +kernel
theorem dX5_count_15 : decode cX5_count 15 = .ok (.iconst 0, 1) := by decide +kernel
theorem dX5_count_16 : decode cX5_count 16 = .ok (.invokevirtual 144, 3) := by decide +kernel
theorem dX5_count_19 : decode cX5_count 19 = .ok (.ifCond .eq 5, 3) := by decide +kernel
theorem dX5_count_22 : decode cX5_count 22 = .ok (.iconst 0, 1) := by decide +kernel
theorem dX5_count_23 : decode cX5_count 23 = .ok (.ireturn, 1) := by decide +kernel
theorem dX5_count_24 : decode cX5_count 24 = .ok (.iconst 0, 1) := by decide +kernel
theorem dX5_count_25 : decode cX5_count 25 = .ok (.istore_n 2, 1) := by decide +kernel
theorem dX5_count_26 : decode cX5_count 26 = .ok (.iconst 0, 1) := by decide +kernel
theorem dX5_count_27 : decode cX5_count 27 = .ok (.istore_n 3, 1) := by decide +kernel
theorem dX5_count_28 : decode cX5_count 28 = .ok (.iload_n 3, 1) := by decide +kernel
theorem dX5_count_29 : decode cX5_count 29 = .ok (.bipush 32, 2) := by decide +kernel
theorem dX5_count_31 : decode cX5_count 31 = .ok (.if_icmp .ge 26, 3) := by decide +kernel
theorem dX5_count_34 : decode cX5_count 34 = .ok (.iload_n 2, 1) := by decide +kernel
theorem dX5_count_35 : decode cX5_count 35 = .ok (.aload_n 0, 1) := by decide +kernel
theorem dX5_count_36 : decode cX5_count 36 = .ok (.getfield 53, 3) := by decide +kernel
theorem dX5_count_39 : decode cX5_count 39 = .ok (.iload_n 3, 1) := by decide +kernel
theorem dX5_count_40 : decode cX5_count 40 = .ok (.iaload, 1) := by decide +kernel
theorem dX5_count_41 : decode cX5_count 41 = .ok (.ifCond .lt 7, 3) := by decide +kernel
theorem dX5_count_44 : decode cX5_count 44 = .ok (.iconst 1, 1) := by decide +kernel
theorem dX5_count_45 : decode cX5_count 45 = .ok (.goto 4, 3) := by decide +kernel
theorem dX5_count_48 : decode cX5_count 48 = .ok (.iconst 0, 1) := by decide +kernel
theorem dX5_count_49 : decode cX5_count 49 = .ok (.iadd, 1) := by decide +kernel
theorem dX5_count_50 : decode cX5_count 50 = .ok (.istore_n 2, 1) := by decide +kernel
theorem dX5_count_51 : decode cX5_count 51 = .ok (.iinc 3 1, 3) := by decide +kernel
theorem dX5_count_54 : decode cX5_count 54 = .ok (.goto (-26), 3) := by decide +kernel
theorem dX5_count_57 : decode cX5_count 57 = .ok (.iload_n 1, 1) := by decide +kernel
theorem dX5_count_58 : decode cX5_count 58 = .ok (.ifCond .ne 10, 3) := by decide +kernel
theorem dX5_count_61 : decode cX5_count 61 = .ok (.aload_n 0, 1) := by decide +kernel
theorem dX5_count_62 : decode cX5_count 62 = .ok (.getfield 123, 3) := by decide +kernel
theorem dX5_count_65 : decode cX5_count 65 = .ok (.goto 16, 3) := by decide +kernel
theorem dX5_count_68 : decode cX5_count 68 = .ok (.iload_n 1, 1) := by decide +kernel
theorem dX5_count_69 : decode cX5_count 69 = .ok (.iconst 1, 1) := by decide +kernel
theorem dX5_count_70 : decode cX5_count 70 = .ok (.if_icmp .ne 10, 3) := by decide +kernel
theorem dX5_count_73 : decode cX5_count 73 = .ok (.aload_n 0, 1) := by decide +kernel
theorem dX5_count_74 : decode cX5_count 74 = .ok (.getfield 97, 3) := by decide +kernel
theorem dX5_count_77 : decode cX5_count 77 = .ok (.goto 4, 3) := by decide +kernel
theorem dX5_count_80 : decode cX5_count 80 = .ok (.iload_n 2, 1) := by decide +kernel
theorem dX5_count_81 : decode cX5_count 81 = .ok (.ireturn, 1) := by decide +kernel
set_option maxRecDepth 20000 in
theorem ggX5_book_X5_in : GoodIn wsX5_book wsX5_in := goodIn_r _ [6] (by decide +kernel) (by decide +kernel)
set_option maxRecDepth 20000 in
theorem gX5_book_X5_in : GoodIn wsX5_book (va_wsS RX5 75 yX5_in wsX5_in) := goodIn_app (goodIn_of _ (by decide +kernel)) ggX5_book_X5_in
set_option maxRecDepth 20000 in
theorem ggX5_book_X5_throwing : GoodIn wsX5_book wsX5_throwing := goodIn_r _ [10, 11, 12, 13, 14, 15, 16, 17, 18, 19, 20, 21, 22, 23, 24, 25, 26, 27, 28, 29, 30, 31, 32, 33, 34, 35, 36] (by decide +kernel) (by decide +kernel)
set_option maxRecDepth 20000 in
theorem gX5_book_X5_throwing : GoodIn wsX5_book (wsV RX5 144 RX5 yX5_throwing wsX5_throwing) := goodIn_app (goodIn_of _ (by decide +kernel)) ggX5_book_X5_throwing
theorem dX5_book_0 : decode cX5_book 0 = .ok (.iload_n 2, 1) := by decide +kernel
theorem dX5_book_1 : decode cX5_book 1 = .ok (.iconst 0, 1) := by decide +kernel
theorem dX5_book_2 : decode cX5_book 2 = .ok (.iconst 3, 1) := by decide +kernel
theorem dX5_book_3 : decode cX5_book 3 = .ok (.invokestatic 75, 3) := by decide +kernel
theorem dX5_book_6 : decode cX5_book 6 = .ok (.ifCond .ne 7, 3) := by decide +kernel
theorem dX5_book_9 : decode cX5_book 9 = .ok (.iconst 1, 1) := by decide +kernel
theorem dX5_book_10 : decode cX5_book 10 = .ok (.goto 4, 3) := by decide +kernel
theorem dX5_book_13 : decode cX5_book 13 = .ok (.iconst 0, 1) := by decide +kernel
theorem dX5_book_14 : decode cX5_book 14 = .ok (.istore_n 3, 1) := by decide +kernel
theorem dX5_book_15 : decode cX5_book 15 = .ok (.aload_n 0, 1) := by decide +kernel
theorem dX5_book_16 : decode cX5_book 16 = .ok (.iload_n 3, 1) := by decide +kernel
theorem dX5_book_17 : decode cX5_book 17 = .ok (.iload_n 3, 1) := by decide +kernel
theorem dX5_book_18 : decode cX5_book 18 = .ok (.ifCond .ne 32, 3) := by decide +kernel
theorem dX5_book_21 : decode cX5_book 21 = .ok (.iload_n 1, 1) := by decide +kernel
theorem dX5_book_22 : decode cX5_book 22 = .ok (.iconst 0, 1) := by decide +kernel
theorem dX5_book_23 : decode cX5_book 23 = .ok (.aload_n 0, 1) := by decide +kernel
theorem dX5_book_24 : decode cX5_book 24 = .ok (.getfield 97, 3) := by decide +kernel
theorem dX5_book_27 : decode cX5_book 27 = .ok (.iconst 1, 1) := by decide +kernel
theorem dX5_book_28 : decode cX5_book 28 = .ok (.isub, 1) := by decide +kernel
theorem dX5_book_29 : decode cX5_book 29 = .ok (.invokestatic 75, 3) := by decide +kernel
theorem dX5_book_32 : decode cX5_book 32 = .ok (.ifCond .eq 14, 3) := by decide +kernel
theorem dX5_book_35 : decode cX5_book 35 = .ok (.iload_n 1, 1) := by decide +kernel
theorem dX5_book_36 : decode cX5_book 36 = .ok (.bipush 60, 2) := by decide +kernel
theorem dX5_book_38 : decode cX5_book 38 = .ok (.iadd, 1) := by decide +kernel
theorem dX5_book_39 : decode cX5_book 39 = .ok (.aload_n 0, 1) := by decide +kernel
theorem dX5_book_40 : decode cX5_book 40 = .ok (.getfield 97, 3) := by decide +kernel
theorem dX5_book_43 : decode cX5_book 43 = .ok (.if_icmp .ge 7, 3) := by decide +kernel
theorem dX5_book_46 : decode cX5_book 46 = .ok (.iconst 1, 1) := by decide +kernel
theorem dX5_book_47 : decode cX5_book 47 = .ok (.goto 4, 3) := by decide +kernel
theorem dX5_book_50 : decode cX5_book 50 = .ok (.iconst 0, 1) := by decide +kernel
theorem dX5_book_51 : decode cX5_book 51 = .ok (.invokevirtual 144, 3) := by decide +kernel
theorem dX5_book_54 : decode cX5_book 54 = .ok (.ifCond .eq 5, 3) := by decide +kernel
theorem dX5_book_57 : decode cX5_book 57 = .ok (.iconst 0, 1) := by decide +kernel
theorem dX5_book_58 : decode cX5_book 58 = .ok (.ireturn, 1) := by decide +kernel
theorem dX5_book_59 : decode cX5_book 59 = .ok (.aload_n 0, 1) := by decide +kernel
theorem dX5_book_60 : decode cX5_book 60 = .ok (.getfield 68, 3) := by decide +kernel
theorem dX5_book_63 : decode cX5_book 63 = .ok (.iconst 4, 1) := by decide +kernel
theorem dX5_book_64 : decode cX5_book 64 = .ok (.iload_n 1, 1) := by decide +kernel
theorem dX5_book_65 : decode cX5_book 65 = .ok (.bipush 60, 2) := by decide +kernel
theorem dX5_book_67 : decode cX5_book 67 = .ok (.irem, 1) := by decide +kernel
theorem dX5_book_68 : decode cX5_book 68 = .ok (.imul, 1) := by decide +kernel
theorem dX5_book_69 : decode cX5_book 69 = .ok (.iload_n 2, 1) := by decide +kernel
theorem dX5_book_70 : decode cX5_book 70 = .ok (.iadd, 1) := by decide +kernel
theorem dX5_book_71 : decode cX5_book 71 = .ok (.iaload, 1) := by decide +kernel
theorem dX5_book_72 : decode cX5_book 72 = .ok (.ireturn, 1) := by decide +kernel
theorem dJ9_max_7cf53_0 : decode cJ9_max_7cf53 0 = .ok (.iload_n 0, 1) := by decide +kernel
theorem dJ9_max_7cf53_1 : decode cJ9_max_7cf53 1 = .ok (.iload_n 1, 1) := by decide +kernel
theorem dJ9_max_7cf53_2 : decode cJ9_max_7cf53 2 = .ok (.if_icmp .lt 7, 3) := by decide +kernel
theorem dJ9_max_7cf53_5 : decode cJ9_max_7cf53 5 = .ok (.iload_n 0, 1) := by decide +kernel
theorem dJ9_max_7cf53_6 : decode cJ9_max_7cf53 6 = .ok (.goto 4, 3) := by decide +kernel
theorem dJ9_max_7cf53_9 : decode cJ9_max_7cf53 9 = .ok (.iload_n 1, 1) := by decide +kernel
theorem dJ9_max_7cf53_10 : decode cJ9_max_7cf53 10 = .ok (.ireturn, 1) := by decide +kernel
theorem dJ9_min_7cf53_0 : decode cJ9_min_7cf53 0 = .ok (.iload_n 0, 1) := by decide +kernel
theorem dJ9_min_7cf53_1 : decode cJ9_min_7cf53 1 = .ok (.iload_n 1, 1) := by decide +kernel
theorem dJ9_min_7cf53_2 : decode cJ9_min_7cf53 2 = .ok (.if_icmp .gt 7, 3) := by decide +kernel
theorem dJ9_min_7cf53_5 : decode cJ9_min_7cf53 5 = .ok (.iload_n 0, 1) := by decide +kernel
theorem dJ9_min_7cf53_6 : decode cJ9_min_7cf53 6 = .ok (.goto 4, 3) := by decide +kernel
theorem dJ9_min_7cf53_9 : decode cJ9_min_7cf53 9 = .ok (.iload_n 1, 1) := by decide +kernel
theorem dJ9_min_7cf53_10 : decode cJ9_min_7cf53 10 = .ok (.ireturn, 1) := by decide +kernel
theorem dJ7_fill_53178_0 : decode cJ7_fill_53178 0 = .ok (.iconst 0, 1) := by decide +kernel
theorem dJ7_fill_53178_1 : decode cJ7_fill_53178 1 = .ok (.istore_n 2, 1) := by decide +kernel
theorem dJ7_fill_53178_2 : decode cJ7_fill_53178 2 = .ok (.aload_n 0, 1) := by decide +kernel
theorem dJ7_fill_53178_3 : decode cJ7_fill_53178 3 = .ok (.arraylength, 1) := by decide +kernel
theorem dJ7_fill_53178_4 : decode cJ7_fill_53178 4 = .ok (.istore_n 3, 1) := by decide +kernel
theorem dJ7_fill_53178_5 : decode cJ7_fill_53178 5 = .ok (.iload_n 2, 1) := by decide +kernel
theorem dJ7_fill_53178_6 : decode cJ7_fill_53178 6 = .ok (.iload_n 3, 1) := by decide +kernel
theorem dJ7_fill_53178_7 : decode cJ7_fill_53178 7 = .ok (.if_icmp .ge 13, 3) := by decide +kernel
theorem dJ7_fill_53178_10 : decode cJ7_fill_53178 10 = .ok (.aload_n 0, 1) := by decide +kernel
theorem dJ7_fill_53178_11 : decode cJ7_fill_53178 11 = .ok (.iload_n 2, 1) := by decide +kernel
theorem dJ7_fill_53178_12 : decode cJ7_fill_53178 12 = .ok (.iload_n 1, 1) := by decide +kernel
theorem dJ7_fill_53178_13 : decode cJ7_fill_53178 13 = .ok (.iastore, 1) := by decide +kernel
theorem dJ7_fill_53178_14 : decode cJ7_fill_53178 14 = .ok (.iinc 2 1, 3) := by decide +kernel
theorem dJ7_fill_53178_17 : decode cJ7_fill_53178 17 = .ok (.goto (-12), 3) := by decide +kernel
theorem dJ7_fill_53178_20 : decode cJ7_fill_53178 20 = .ok (.return_, 1) := by decide +kernel
set_option maxRecDepth 20000 in
theorem ggL_up_X4_up : GoodIn wsL_up wsX4_up := goodIn_ca (goodIn_ca (goodIn_r _ [7, 8, 9, 10, 11, 12, 13, 14, 6, 15, 16, 17, 18, 19, 20, 21, 22, 23, 24, 25, 26, 27, 28, 29, 30, 31, 32, 33, 34, 35, 36, 37, 38, 39, 40, 41, 42, 43, 44, 45, 46, 47, 48, 49, 50, 51, 52, 53, 54, 55, 56, 57, 58, 59, 60, 61, 62, 63, 64, 65, 66, 67, 68, 69, 70, 71, 72, 73, 74, 75, 76, 77, 78, 79, 80, 81, 82, 83, 84, 85, 86, 87, 88, 89, 90, 91, 92, 93, 94, 95, 96, 97, 98, 99, 100, 101, 102, 103, 104, 105, 106, 107, 108, 109, 110, 111, 112, 113, 114, 115, 116, 117, 118, 119, 120, 121, 122, 123, 124, 125, 126, 127] (by decide +kernel) (by decide +kernel)) (goodIn_sub (fun _ h => List.mem_cons_of_mem _ (List.mem_append_left _ (List.mem_append_right _ h))) (by decide +kernel))) (goodIn_sub (fun _ h => List.mem_cons_of_mem _ (List.mem_append_right _ h)) (by decide +kernel))
set_option maxRecDepth 20000 in
theorem gL_up_X4_up : GoodIn wsL_up (wsV RL 7 RX4 yX4_up wsX4_up) := goodIn_app (goodIn_of _ (by decide +kernel)) ggL_up_X4_up
theorem dL_up_0 : decode cL_up 0 = .ok (.aload_n 2, 1) := by decide +kernel
theorem dL_up_1 : decode cL_up 1 = .ok (.iconst 0, 1) := by decide +kernel
theorem dL_up_2 : decode cL_up 2 = .ok (.aload_n 0, 1) := by decide +kernel
theorem dL_up_3 : decode cL_up 3 = .ok (.iload_n 1, 1) := by decide +kernel
theorem dL_up_4 : decode cL_up 4 = .ok (.invokevirtual 7, 3) := by decide +kernel
theorem dL_up_7 : decode cL_up 7 = .ok (.i2l, 1) := by decide +kernel
theorem dL_up_8 : decode cL_up 8 = .ok (.lastore, 1) := by decide +kernel
theorem dL_up_9 : decode cL_up 9 = .ok (.goto 9, 3) := by decide +kernel
theorem dL_up_12 : decode cL_up 12 = .ok (.astore_n 3, 1) := by decide +kernel
theorem dL_up_13 : decode cL_up 13 = .ok (.iconst 1, 1) := by decide +kernel
theorem dL_up_14 : decode cL_up 14 = .ok (.ireturn, 1) := by decide +kernel
theorem dL_up_15 : decode cL_up 15 = .ok (.astore_n 3, 1) := by decide +kernel
theorem dL_up_16 : decode cL_up 16 = .ok (.iconst 2, 1) := by decide +kernel
theorem dL_up_17 : decode cL_up 17 = .ok (.ireturn, 1) := by decide +kernel
theorem dL_up_18 : decode cL_up 18 = .ok (.iconst 0, 1) := by decide +kernel
theorem dL_up_19 : decode cL_up 19 = .ok (.ireturn, 1) := by decide +kernel
set_option maxRecDepth 20000 in
theorem ggL_down_X4_down : GoodIn wsL_down wsX4_down := goodIn_ca (goodIn_ca (goodIn_r _ [7, 8, 9, 10, 11, 12, 13, 6, 14, 15, 16, 17, 18, 19, 20, 21, 22, 23, 24, 25, 26, 27, 28, 29, 30, 31, 32, 33, 34, 35, 36, 37, 38, 39, 40, 41, 42, 43, 44, 45, 46, 47, 48, 49, 50, 51, 52, 53, 54, 55, 56, 57, 58, 59, 60, 61, 62, 63, 64, 65, 66, 67, 68, 69, 70, 71, 72, 73, 74, 75, 76, 77, 78, 79, 80, 81, 82, 83, 84, 85, 86, 87, 88, 89, 90, 91, 92, 93, 94, 95, 96, 97, 98, 99, 100, 101, 102, 103, 104, 105, 106, 107, 108, 109, 110, 111, 112, 113, 114, 115, 116, 117, 118, 119, 120, 121, 122, 123, 124, 125, 126, 127, 128, 129, 130, 131, 132, 133, 134, 135, 136, 137, 138, 139] (by decide +kernel) (by decide +kernel)) (goodIn_sub (fun _ h => List.mem_cons_of_mem _ (List.mem_append_left _ (List.mem_append_right _ h))) (by decide +kernel))) (goodIn_sub (fun _ h => List.mem_cons_of_mem _ (List.mem_append_right _ h)) (by decide +kernel))
set_option maxRecDepth 20000 in
theorem gL_down_X4_down : GoodIn wsL_down (wsV RL 17 RX4 yX4_down wsX4_down) := goodIn_app (goodIn_of _ (by decide +kernel)) ggL_down_X4_down
theorem dL_down_0 : decode cL_down 0 = .ok (.aload_n 0, 1) := by decide +kernel
theorem dL_down_1 : decode cL_down 1 = .ok (.iload_n 1, 1) := by decide +kernel
theorem dL_down_2 : decode cL_down 2 = .ok (.invokevirtual 17, 3) := by decide +kernel
theorem dL_down_5 : decode cL_down 5 = .ok (.goto 9, 3) := by decide +kernel
theorem dL_down_8 : decode cL_down 8 = .ok (.astore_n 2, 1) := by decide +kernel
theorem dL_down_9 : decode cL_down 9 = .ok (.iconst 1, 1) := by decide +kernel
theorem dL_down_10 : decode cL_down 10 = .ok (.ireturn, 1) := by decide +kernel
theorem dL_down_11 : decode cL_down 11 = .ok (.astore_n 2, 1) := by decide +kernel
theorem dL_down_12 : decode cL_down 12 = .ok (.iconst 2, 1) := by decide +kernel
theorem dL_down_13 : decode cL_down 13 = .ok (.ireturn, 1) := by decide +kernel
theorem dL_down_14 : decode cL_down 14 = .ok (.iconst 0, 1) := by decide +kernel
theorem dL_down_15 : decode cL_down 15 = .ok (.ireturn, 1) := by decide +kernel
set_option maxRecDepth 20000 in
theorem ggL_digit_X4_digit : GoodIn wsL_digit wsX4_digit := goodIn_ca (goodIn_r _ [6, 7, 8, 9, 10, 11, 12, 5, 13, 14, 15, 16, 17, 18, 19, 20, 21, 22, 23, 24, 25, 26, 27, 28, 29, 30, 31, 32, 33, 34, 35, 36, 37, 38, 39, 40, 41, 42, 43, 44, 45, 46, 47, 48, 49, 50, 51, 52, 53, 54, 55, 56, 57, 58, 59, 60, 61, 62, 63, 64, 65, 66, 67, 68, 69, 70, 71, 72, 73, 74, 75, 76, 77, 78, 79, 80, 81, 82, 83, 84, 85, 86, 87, 88, 89, 90, 91, 92, 93, 94, 95, 96, 97, 98, 99, 100, 101, 102, 103, 104, 105, 106, 107, 108, 109, 110, 111, 112, 113, 114, 115, 116, 117, 118, 119, 120, 121, 122, 123, 124, 125, 126, 127, 128, 129, 130, 131, 132, 133, 134, 135, 136, 137, 138, 139, 140, 141, 142, 143, 144, 145, 146, 147, 148, 149, 150, 151, 152, 153, 154, 155, 156, 157, 158, 159, 160, 161, 162, 163, 164, 165, 166, 167, 168, 169, 170, 171, 172, 173, 174, 175, 176, 177, 178, 179, 180, 181] (by decide +kernel) (by decide +kernel)) (goodIn_sub (fun _ h => List.mem_cons_of_mem _ (List.mem_append_right _ h)) (by decide +kernel))
set_option maxRecDepth 20000 in
theorem gL_digit_X4_digit : GoodIn wsL_digit (wsV RL 21 RX4 yX4_digit wsX4_digit) := goodIn_app (goodIn_of _ (by decide +kernel)) ggL_digit_X4_digit
theorem dL_digit_0 : decode cL_digit 0 = .ok (.aload_n 3, 1) := by decide +kernel
theorem dL_digit_1 : decode cL_digit 1 = .ok (.iconst 0, 1) := by decide +kernel
theorem dL_digit_2 : decode cL_digit 2 = .ok (.aload_n 0, 1) := by decide +kernel
theorem dL_digit_3 : decode cL_digit 3 = .ok (.iload_n 1, 1) := by decide +kernel
theorem dL_digit_4 : decode cL_digit 4 = .ok (.iload_n 2, 1) := by decide +kernel
theorem dL_digit_5 : decode cL_digit 5 = .ok (.invokevirtual 21, 3) := by decide +kernel
theorem dL_digit_8 : decode cL_digit 8 = .ok (.i2l, 1) := by decide +kernel
theorem dL_digit_9 : decode cL_digit 9 = .ok (.lastore, 1) := by decide +kernel
theorem dL_digit_10 : decode cL_digit 10 = .ok (.goto 7, 3) := by decide +kernel
theorem dL_digit_13 : decode cL_digit 13 = .ok (.astore 4, 2) := by decide +kernel
theorem dL_digit_15 : decode cL_digit 15 = .ok (.iconst 1, 1) := by decide +kernel
theorem dL_digit_16 : decode cL_digit 16 = .ok (.ireturn, 1) := by decide +kernel
theorem dL_digit_17 : decode cL_digit 17 = .ok (.iconst 0, 1) := by decide +kernel
theorem dL_digit_18 : decode cL_digit 18 = .ok (.ireturn, 1) := by decide +kernel
set_option maxRecDepth 20000 in
theorem ggL_camp_X4_camp : GoodIn wsL_camp wsX4_camp := goodIn_ca (goodIn_ca (goodIn_r _ [7, 8, 9, 10, 11, 12, 13, 14, 15, 16, 17, 18, 6, 19, 20, 21, 22, 23, 24, 25, 26, 27, 28, 29, 30, 31, 32, 33, 34, 35, 36, 37, 38, 39, 40, 41, 42, 43, 44, 45, 46, 47, 48, 49, 50, 51, 52, 53, 54, 55, 56] (by decide +kernel) (by decide +kernel)) (goodIn_sub (fun _ h => List.mem_cons_of_mem _ (List.mem_append_left _ (List.mem_append_right _ h))) (by decide +kernel))) (goodIn_sub (fun _ h => List.mem_cons_of_mem _ (List.mem_append_right _ h)) (by decide +kernel))
set_option maxRecDepth 20000 in
theorem gL_camp_X4_camp : GoodIn wsL_camp (wsV RL 25 RX4 yX4_camp wsX4_camp) := goodIn_app (goodIn_of _ (by decide +kernel)) ggL_camp_X4_camp
theorem dL_camp_0 : decode cL_camp 0 = .ok (.aload_n 2, 1) := by decide +kernel
theorem dL_camp_1 : decode cL_camp 1 = .ok (.iconst 0, 1) := by decide +kernel
theorem dL_camp_2 : decode cL_camp 2 = .ok (.aload_n 0, 1) := by decide +kernel
theorem dL_camp_3 : decode cL_camp 3 = .ok (.iload_n 1, 1) := by decide +kernel
theorem dL_camp_4 : decode cL_camp 4 = .ok (.invokevirtual 25, 3) := by decide +kernel
theorem dL_camp_7 : decode cL_camp 7 = .ok (.i2l, 1) := by decide +kernel
theorem dL_camp_8 : decode cL_camp 8 = .ok (.lastore, 1) := by decide +kernel
theorem dL_camp_9 : decode cL_camp 9 = .ok (.goto 9, 3) := by decide +kernel
theorem dL_camp_12 : decode cL_camp 12 = .ok (.astore_n 3, 1) := by decide +kernel
theorem dL_camp_13 : decode cL_camp 13 = .ok (.iconst 1, 1) := by decide +kernel
theorem dL_camp_14 : decode cL_camp 14 = .ok (.ireturn, 1) := by decide +kernel
theorem dL_camp_15 : decode cL_camp 15 = .ok (.astore_n 3, 1) := by decide +kernel
theorem dL_camp_16 : decode cL_camp 16 = .ok (.iconst 2, 1) := by decide +kernel
theorem dL_camp_17 : decode cL_camp 17 = .ok (.ireturn, 1) := by decide +kernel
theorem dL_camp_18 : decode cL_camp 18 = .ok (.iconst 0, 1) := by decide +kernel
theorem dL_camp_19 : decode cL_camp 19 = .ok (.ireturn, 1) := by decide +kernel
set_option maxRecDepth 20000 in
theorem ggL_park_X4_park : GoodIn wsL_park wsX4_park := goodIn_ca (goodIn_ca (goodIn_r _ [7, 8, 9, 10, 11, 12, 13, 14, 15, 16, 17, 6, 18, 19, 20, 21, 22, 23, 24, 25, 26, 27, 28, 29, 30, 31, 32, 33, 34, 35, 36, 37, 38, 39, 40, 41, 42, 43, 44, 45, 46, 47, 48, 49, 50, 51, 52, 53, 54, 55, 56, 57, 58, 59, 60, 61, 62, 63, 64, 65, 66, 67, 68, 69, 70, 71, 72, 73, 74, 75, 76, 77, 78, 79, 80, 81, 82, 83, 84, 85, 86, 87, 88, 89, 90, 91] (by decide +kernel) (by decide +kernel)) (goodIn_sub (fun _ h => List.mem_cons_of_mem _ (List.mem_append_left _ (List.mem_append_right _ h))) (by decide +kernel))) (goodIn_sub (fun _ h => List.mem_cons_of_mem _ (List.mem_append_right _ h)) (by decide +kernel))
set_option maxRecDepth 20000 in
theorem gL_park_X4_park : GoodIn wsL_park (wsV RL 28 RX4 yX4_park wsX4_park) := goodIn_app (goodIn_of _ (by decide +kernel)) ggL_park_X4_park
theorem dL_park_0 : decode cL_park 0 = .ok (.aload_n 3, 1) := by decide +kernel
theorem dL_park_1 : decode cL_park 1 = .ok (.iconst 0, 1) := by decide +kernel
theorem dL_park_2 : decode cL_park 2 = .ok (.aload_n 0, 1) := by decide +kernel
theorem dL_park_3 : decode cL_park 3 = .ok (.iload_n 1, 1) := by decide +kernel
theorem dL_park_4 : decode cL_park 4 = .ok (.iload_n 2, 1) := by decide +kernel
theorem dL_park_5 : decode cL_park 5 = .ok (.invokevirtual 28, 3) := by decide +kernel
theorem dL_park_8 : decode cL_park 8 = .ok (.i2l, 1) := by decide +kernel
theorem dL_park_9 : decode cL_park 9 = .ok (.lastore, 1) := by decide +kernel
theorem dL_park_10 : decode cL_park 10 = .ok (.goto 11, 3) := by decide +kernel
theorem dL_park_13 : decode cL_park 13 = .ok (.astore 4, 2) := by decide +kernel
theorem dL_park_15 : decode cL_park 15 = .ok (.iconst 1, 1) := by decide +kernel
theorem dL_park_16 : decode cL_park 16 = .ok (.ireturn, 1) := by decide +kernel
theorem dL_park_17 : decode cL_park 17 = .ok (.astore 4, 2) := by decide +kernel
theorem dL_park_19 : decode cL_park 19 = .ok (.iconst 2, 1) := by decide +kernel
theorem dL_park_20 : decode cL_park 20 = .ok (.ireturn, 1) := by decide +kernel
theorem dL_park_21 : decode cL_park 21 = .ok (.iconst 0, 1) := by decide +kernel
theorem dL_park_22 : decode cL_park 22 = .ok (.ireturn, 1) := by decide +kernel
set_option maxRecDepth 20000 in
theorem ggL_transfer_X4_transfer : GoodIn wsL_transfer wsX4_transfer := goodIn_ca (goodIn_ca (goodIn_r _ [7, 8, 9, 10, 11, 12, 13, 6, 14, 15, 16, 17, 18, 19, 20, 21, 22, 23, 24, 25, 26, 27, 28, 29, 30, 31, 32, 33, 34, 35, 36, 37, 38, 39, 40, 41, 42, 43, 44, 45, 46, 47, 48, 49, 50, 51, 52, 53, 54, 55, 56, 57, 58, 59, 60, 61, 62, 63, 64, 65, 66, 67, 68, 69, 70, 71, 72, 73, 74, 75, 76, 77, 78, 79, 80, 81, 82, 83, 84, 85, 86, 87, 88, 89, 90, 91, 92, 93, 94, 95, 96, 97, 98, 99, 100, 101, 102, 103, 104, 105, 106, 107, 108, 109, 110, 111, 112, 113, 114, 115, 116, 117, 118, 119, 120, 121, 122, 123, 124, 125, 126, 127, 128, 129, 130, 131, 132, 133, 134, 135, 136, 137, 138, 139, 140, 141, 142, 143, 144, 145, 146, 147, 148, 149, 150, 151, 152, 153, 154, 155, 156, 157, 158, 159, 160, 161, 162, 163, 164, 165, 166, 167, 168, 169, 170, 171, 172, 173, 174, 175, 176, 177, 178, 179, 180, 181, 182, 183, 184, 185, 186, 187, 188, 189, 190, 191, 192, 193, 194, 195, 196, 197, 198, 199, 200, 201, 202] (by decide +kernel) (by decide +kernel)) (goodIn_sub (fun _ h => List.mem_cons_of_mem _ (List.mem_append_left _ (List.mem_append_right _ h))) (by decide +kernel))) (goodIn_sub (fun _ h => List.mem_cons_of_mem _ (List.mem_append_right _ h)) (by decide +kernel))
set_option maxRecDepth 20000 in
theorem gL_transfer_X4_transfer : GoodIn wsL_transfer (wsV RL 31 RX4 yX4_transfer wsX4_transfer) := goodIn_app (goodIn_of _ (by decide +kernel)) ggL_transfer_X4_transfer
theorem dL_transfer_0 : decode cL_transfer 0 = .ok (.aload_n 3, 1) := by decide +kernel
theorem dL_transfer_1 : decode cL_transfer 1 = .ok (.iconst 0, 1) := by decide +kernel
theorem dL_transfer_2 : decode cL_transfer 2 = .ok (.aload_n 0, 1) := by decide +kernel
theorem dL_transfer_3 : decode cL_transfer 3 = .ok (.iload_n 1, 1) := by decide +kernel
theorem dL_transfer_4 : decode cL_transfer 4 = .ok (.iload_n 2, 1) := by decide +kernel
theorem dL_transfer_5 : decode cL_transfer 5 = .ok (.invokevirtual 31, 3) := by decide +kernel
theorem dL_transfer_8 : decode cL_transfer 8 = .ok (.i2l, 1) := by decide +kernel
theorem dL_transfer_9 : decode cL_transfer 9 = .ok (.lastore, 1) := by decide +kernel
theorem dL_transfer_10 : decode cL_transfer 10 = .ok (.goto 11, 3) := by decide +kernel
theorem dL_transfer_13 : decode cL_transfer 13 = .ok (.astore 4, 2) := by decide +kernel
theorem dL_transfer_15 : decode cL_transfer 15 = .ok (.iconst 1, 1) := by decide +kernel
theorem dL_transfer_16 : decode cL_transfer 16 = .ok (.ireturn, 1) := by decide +kernel
theorem dL_transfer_17 : decode cL_transfer 17 = .ok (.astore 4, 2) := by decide +kernel
theorem dL_transfer_19 : decode cL_transfer 19 = .ok (.iconst 2, 1) := by decide +kernel
theorem dL_transfer_20 : decode cL_transfer 20 = .ok (.ireturn, 1) := by decide +kernel
theorem dL_transfer_21 : decode cL_transfer 21 = .ok (.iconst 0, 1) := by decide +kernel
theorem dL_transfer_22 : decode cL_transfer 22 = .ok (.ireturn, 1) := by decide +kernel
set_option maxRecDepth 20000 in
theorem ggL_tick_X4_tick : GoodIn wsL_tick wsX4_tick := goodIn_ca (goodIn_r _ [6, 7, 8, 9, 10, 11, 12, 13, 14, 15, 16, 5, 17, 18, 19, 20, 21, 22, 23, 24, 25, 26, 27, 28, 29, 30, 31, 32, 33, 34, 35, 36, 37, 38, 39, 40, 41, 42, 43, 44, 45, 46, 47, 48, 49, 50, 51, 52, 53, 54, 55, 56, 57, 58, 59, 60, 61, 62, 63, 64, 65, 66, 67, 68, 69, 70, 71, 72, 73, 74, 75, 76, 77, 78, 79, 80, 81, 82, 83, 84, 85, 86, 87, 88, 89, 90, 91, 92, 93, 94, 95, 96, 97, 98, 99, 100, 101, 102, 103, 104, 105, 106, 107, 108, 109, 110, 111, 112, 113, 114, 115, 116, 117, 118, 119, 120, 121, 122, 123, 124, 125, 126, 127, 128, 129, 130, 131, 132, 133, 134, 135, 136, 137, 138, 139, 140, 141, 142, 143, 144, 145, 146, 147] (by decide +kernel) (by decide +kernel)) (goodIn_sub (fun _ h => List.mem_cons_of_mem _ (List.mem_append_right _ h)) (by decide +kernel))
set_option maxRecDepth 20000 in
theorem gL_tick_X4_tick : GoodIn wsL_tick (wsV RL 34 RX4 yX4_tick wsX4_tick) := goodIn_app (goodIn_of _ (by decide +kernel)) ggL_tick_X4_tick
theorem dL_tick_0 : decode cL_tick 0 = .ok (.aload_n 2, 1) := by decide +kernel
theorem dL_tick_1 : decode cL_tick 1 = .ok (.iconst 0, 1) := by decide +kernel
theorem dL_tick_2 : decode cL_tick 2 = .ok (.aload_n 0, 1) := by decide +kernel
theorem dL_tick_3 : decode cL_tick 3 = .ok (.iload_n 1, 1) := by decide +kernel
theorem dL_tick_4 : decode cL_tick 4 = .ok (.invokevirtual 34, 3) := by decide +kernel
theorem dL_tick_7 : decode cL_tick 7 = .ok (.i2l, 1) := by decide +kernel
theorem dL_tick_8 : decode cL_tick 8 = .ok (.lastore, 1) := by decide +kernel
theorem dL_tick_9 : decode cL_tick 9 = .ok (.goto 6, 3) := by decide +kernel
theorem dL_tick_12 : decode cL_tick 12 = .ok (.astore_n 3, 1) := by decide +kernel
theorem dL_tick_13 : decode cL_tick 13 = .ok (.iconst 1, 1) := by decide +kernel
theorem dL_tick_14 : decode cL_tick 14 = .ok (.ireturn, 1) := by decide +kernel
theorem dL_tick_15 : decode cL_tick 15 = .ok (.iconst 0, 1) := by decide +kernel
theorem dL_tick_16 : decode cL_tick 16 = .ok (.ireturn, 1) := by decide +kernel
set_option maxRecDepth 20000 in
theorem ggL_group_X4_group : GoodIn wsL_group wsX4_group := goodIn_ca (goodIn_ca (goodIn_r _ [7, 8, 9, 10, 11, 12, 13, 6, 14, 15, 16, 17, 18, 19, 20, 21, 22, 23, 24, 25, 26, 27, 28, 29, 30, 31, 32, 33, 34, 35, 36, 37, 38, 39, 40, 41, 42, 43, 44, 45, 46, 47] (by decide +kernel) (by decide +kernel)) (goodIn_sub (fun _ h => List.mem_cons_of_mem _ (List.mem_append_left _ (List.mem_append_right _ h))) (by decide +kernel))) (goodIn_sub (fun _ h => List.mem_cons_of_mem _ (List.mem_append_right _ h)) (by decide +kernel))
set_option maxRecDepth 20000 in
theorem gL_group_X4_group : GoodIn wsL_group (wsV RL 37 RX4 yX4_group wsX4_group) := goodIn_app (goodIn_of _ (by decide +kernel)) ggL_group_X4_group
theorem dL_group_0 : decode cL_group 0 = .ok (.aload 4, 2) := by decide +kernel
theorem dL_group_2 : decode cL_group 2 = .ok (.iconst 0, 1) := by decide +kernel
theorem dL_group_3 : decode cL_group 3 = .ok (.aload_n 0, 1) := by decide +kernel
theorem dL_group_4 : decode cL_group 4 = .ok (.iload_n 1, 1) := by decide +kernel
theorem dL_group_5 : decode cL_group 5 = .ok (.iload_n 2, 1) := by decide +kernel
theorem dL_group_6 : decode cL_group 6 = .ok (.iload_n 3, 1) := by decide +kernel
theorem dL_group_7 : decode cL_group 7 = .ok (.invokevirtual 37, 3) := by decide +kernel
theorem dL_group_10 : decode cL_group 10 = .ok (.i2l, 1) := by decide +kernel
theorem dL_group_11 : decode cL_group 11 = .ok (.lastore, 1) := by decide +kernel
theorem dL_group_12 : decode cL_group 12 = .ok (.goto 11, 3) := by decide +kernel
theorem dL_group_15 : decode cL_group 15 = .ok (.astore 5, 2) := by decide +kernel
theorem dL_group_17 : decode cL_group 17 = .ok (.iconst 1, 1) := by decide +kernel
theorem dL_group_18 : decode cL_group 18 = .ok (.ireturn, 1) := by decide +kernel
theorem dL_group_19 : decode cL_group 19 = .ok (.astore 5, 2) := by decide +kernel
theorem dL_group_21 : decode cL_group 21 = .ok (.iconst 2, 1) := by decide +kernel
theorem dL_group_22 : decode cL_group 22 = .ok (.ireturn, 1) := by decide +kernel
theorem dL_group_23 : decode cL_group 23 = .ok (.iconst 0, 1) := by decide +kernel
theorem dL_group_24 : decode cL_group 24 = .ok (.ireturn, 1) := by decide +kernel
set_option maxRecDepth 20000 in
theorem ggL_slot_X4_slot : GoodIn wsL_slot wsX4_slot := goodIn_ca (goodIn_ca (goodIn_r _ [7, 8, 9, 10, 11, 12, 13, 6, 14, 15, 16, 17, 18, 19, 20, 21, 22, 23, 24, 25, 26, 27] (by decide +kernel) (by decide +kernel)) (goodIn_sub (fun _ h => List.mem_cons_of_mem _ (List.mem_append_left _ (List.mem_append_right _ h))) (by decide +kernel))) (goodIn_sub (fun _ h => List.mem_cons_of_mem _ (List.mem_append_right _ h)) (by decide +kernel))
set_option maxRecDepth 20000 in
theorem gL_slot_X4_slot : GoodIn wsL_slot (wsV RL 41 RX4 yX4_slot wsX4_slot) := goodIn_app (goodIn_of _ (by decide +kernel)) ggL_slot_X4_slot
theorem dL_slot_0 : decode cL_slot 0 = .ok (.aload_n 0, 1) := by decide +kernel
theorem dL_slot_1 : decode cL_slot 1 = .ok (.iload_n 1, 1) := by decide +kernel
theorem dL_slot_2 : decode cL_slot 2 = .ok (.iload_n 2, 1) := by decide +kernel
theorem dL_slot_3 : decode cL_slot 3 = .ok (.iload_n 3, 1) := by decide +kernel
theorem dL_slot_4 : decode cL_slot 4 = .ok (.invokevirtual 41, 3) := by decide +kernel
theorem dL_slot_7 : decode cL_slot 7 = .ok (.goto 11, 3) := by decide +kernel
theorem dL_slot_10 : decode cL_slot 10 = .ok (.astore 4, 2) := by decide +kernel
theorem dL_slot_12 : decode cL_slot 12 = .ok (.iconst 1, 1) := by decide +kernel
theorem dL_slot_13 : decode cL_slot 13 = .ok (.ireturn, 1) := by decide +kernel
theorem dL_slot_14 : decode cL_slot 14 = .ok (.astore 4, 2) := by decide +kernel
theorem dL_slot_16 : decode cL_slot 16 = .ok (.iconst 2, 1) := by decide +kernel
theorem dL_slot_17 : decode cL_slot 17 = .ok (.ireturn, 1) := by decide +kernel
theorem dL_slot_18 : decode cL_slot 18 = .ok (.iconst 0, 1) := by decide +kernel
theorem dL_slot_19 : decode cL_slot 19 = .ok (.ireturn, 1) := by decide +kernel
set_option maxRecDepth 20000 in
theorem ggL_carries_X4_carries : GoodIn wsL_carries wsX4_carries := goodIn_ca (goodIn_r _ [6, 7, 8, 9, 10, 5, 11, 12, 13, 14, 15, 16, 17, 18, 19, 20, 21, 22, 23, 24] (by decide +kernel) (by decide +kernel)) (goodIn_sub (fun _ h => List.mem_cons_of_mem _ (List.mem_append_right _ h)) (by decide +kernel))
set_option maxRecDepth 20000 in
theorem gL_carries_X4_carries : GoodIn wsL_carries (wsV RL 45 RX4 yX4_carries wsX4_carries) := goodIn_app (goodIn_of _ (by decide +kernel)) ggL_carries_X4_carries
theorem dL_carries_0 : decode cL_carries 0 = .ok (.aload_n 3, 1) := by decide +kernel
theorem dL_carries_1 : decode cL_carries 1 = .ok (.iconst 0, 1) := by decide +kernel
theorem dL_carries_2 : decode cL_carries 2 = .ok (.aload_n 0, 1) := by decide +kernel
theorem dL_carries_3 : decode cL_carries 3 = .ok (.iload_n 1, 1) := by decide +kernel
theorem dL_carries_4 : decode cL_carries 4 = .ok (.iload_n 2, 1) := by decide +kernel
theorem dL_carries_5 : decode cL_carries 5 = .ok (.invokevirtual 45, 3) := by decide +kernel
theorem dL_carries_8 : decode cL_carries 8 = .ok (.i2l, 1) := by decide +kernel
theorem dL_carries_9 : decode cL_carries 9 = .ok (.lastore, 1) := by decide +kernel
theorem dL_carries_10 : decode cL_carries 10 = .ok (.goto 7, 3) := by decide +kernel
theorem dL_carries_13 : decode cL_carries 13 = .ok (.astore 4, 2) := by decide +kernel
theorem dL_carries_15 : decode cL_carries 15 = .ok (.iconst 1, 1) := by decide +kernel
theorem dL_carries_16 : decode cL_carries 16 = .ok (.ireturn, 1) := by decide +kernel
theorem dL_carries_17 : decode cL_carries 17 = .ok (.iconst 0, 1) := by decide +kernel
theorem dL_carries_18 : decode cL_carries 18 = .ok (.ireturn, 1) := by decide +kernel
set_option maxRecDepth 20000 in
theorem ggL_line_X4_line : GoodIn wsL_line wsX4_line := goodIn_ca (goodIn_r _ [6, 7, 8, 9, 10, 11, 12, 13, 14, 15, 5, 16, 17, 18, 19, 20, 21, 22, 23, 24, 25, 26, 27, 28, 29, 30, 31, 32, 33, 34, 35, 36, 37, 38, 39, 40, 41, 42, 43, 44, 45, 46, 47, 48, 49, 50, 51, 52, 53, 54, 55, 56, 57, 58, 59, 60, 61, 62, 63, 64, 65, 66] (by decide +kernel) (by decide +kernel)) (goodIn_sub (fun _ h => List.mem_cons_of_mem _ (List.mem_append_right _ h)) (by decide +kernel))
set_option maxRecDepth 20000 in
theorem gL_line_X4_line : GoodIn wsL_line (wsV RL 48 RX4 yX4_line wsX4_line) := goodIn_app (goodIn_of _ (by decide +kernel)) ggL_line_X4_line
theorem dL_line_0 : decode cL_line 0 = .ok (.aload_n 3, 1) := by decide +kernel
theorem dL_line_1 : decode cL_line 1 = .ok (.iconst 0, 1) := by decide +kernel
theorem dL_line_2 : decode cL_line 2 = .ok (.aload_n 0, 1) := by decide +kernel
theorem dL_line_3 : decode cL_line 3 = .ok (.iload_n 1, 1) := by decide +kernel
theorem dL_line_4 : decode cL_line 4 = .ok (.iload_n 2, 1) := by decide +kernel
theorem dL_line_5 : decode cL_line 5 = .ok (.invokevirtual 48, 3) := by decide +kernel
theorem dL_line_8 : decode cL_line 8 = .ok (.i2l, 1) := by decide +kernel
theorem dL_line_9 : decode cL_line 9 = .ok (.lastore, 1) := by decide +kernel
theorem dL_line_10 : decode cL_line 10 = .ok (.goto 7, 3) := by decide +kernel
theorem dL_line_13 : decode cL_line 13 = .ok (.astore 4, 2) := by decide +kernel
theorem dL_line_15 : decode cL_line 15 = .ok (.iconst 1, 1) := by decide +kernel
theorem dL_line_16 : decode cL_line 16 = .ok (.ireturn, 1) := by decide +kernel
theorem dL_line_17 : decode cL_line 17 = .ok (.iconst 0, 1) := by decide +kernel
theorem dL_line_18 : decode cL_line 18 = .ok (.ireturn, 1) := by decide +kernel
set_option maxRecDepth 20000 in
theorem ggL_count_X4_count : GoodIn wsL_count wsX4_count := goodIn_ca (goodIn_r _ [6, 7, 8, 9, 10, 11, 12, 5, 13, 14, 15, 16, 17, 18, 19, 20, 21, 22, 23, 24, 25, 26, 27, 28, 29, 30, 31] (by decide +kernel) (by decide +kernel)) (goodIn_sub (fun _ h => List.mem_cons_of_mem _ (List.mem_append_right _ h)) (by decide +kernel))
set_option maxRecDepth 20000 in
theorem gL_count_X4_count : GoodIn wsL_count (wsV RL 51 RX4 yX4_count wsX4_count) := goodIn_app (goodIn_of _ (by decide +kernel)) ggL_count_X4_count
theorem dL_count_0 : decode cL_count 0 = .ok (.aload_n 2, 1) := by decide +kernel
theorem dL_count_1 : decode cL_count 1 = .ok (.iconst 0, 1) := by decide +kernel
theorem dL_count_2 : decode cL_count 2 = .ok (.aload_n 0, 1) := by decide +kernel
theorem dL_count_3 : decode cL_count 3 = .ok (.iload_n 1, 1) := by decide +kernel
theorem dL_count_4 : decode cL_count 4 = .ok (.invokevirtual 51, 3) := by decide +kernel
theorem dL_count_7 : decode cL_count 7 = .ok (.i2l, 1) := by decide +kernel
theorem dL_count_8 : decode cL_count 8 = .ok (.lastore, 1) := by decide +kernel
theorem dL_count_9 : decode cL_count 9 = .ok (.goto 6, 3) := by decide +kernel
theorem dL_count_12 : decode cL_count 12 = .ok (.astore_n 3, 1) := by decide +kernel
theorem dL_count_13 : decode cL_count 13 = .ok (.iconst 1, 1) := by decide +kernel
theorem dL_count_14 : decode cL_count 14 = .ok (.ireturn, 1) := by decide +kernel
theorem dL_count_15 : decode cL_count 15 = .ok (.iconst 0, 1) := by decide +kernel
theorem dL_count_16 : decode cL_count 16 = .ok (.ireturn, 1) := by decide +kernel
set_option maxRecDepth 20000 in
theorem ggL_book_X4_book : GoodIn wsL_book wsX4_book := goodIn_ca (goodIn_ca (goodIn_r _ [7, 8, 9, 10, 11, 12, 6, 13, 14, 15, 16, 17, 18, 19, 20, 21, 22, 23, 24, 25, 26, 27, 28, 29, 30, 31, 32, 33, 34, 35] (by decide +kernel) (by decide +kernel)) (goodIn_sub (fun _ h => List.mem_cons_of_mem _ (List.mem_append_left _ (List.mem_append_right _ h))) (by decide +kernel))) (goodIn_sub (fun _ h => List.mem_cons_of_mem _ (List.mem_append_right _ h)) (by decide +kernel))
set_option maxRecDepth 20000 in
theorem gL_book_X4_book : GoodIn wsL_book (wsV RL 54 RX4 yX4_book wsX4_book) := goodIn_app (goodIn_of _ (by decide +kernel)) ggL_book_X4_book
theorem dL_book_0 : decode cL_book 0 = .ok (.aload_n 3, 1) := by decide +kernel
theorem dL_book_1 : decode cL_book 1 = .ok (.iconst 0, 1) := by decide +kernel
theorem dL_book_2 : decode cL_book 2 = .ok (.aload_n 0, 1) := by decide +kernel
theorem dL_book_3 : decode cL_book 3 = .ok (.iload_n 1, 1) := by decide +kernel
theorem dL_book_4 : decode cL_book 4 = .ok (.iload_n 2, 1) := by decide +kernel
theorem dL_book_5 : decode cL_book 5 = .ok (.invokevirtual 54, 3) := by decide +kernel
theorem dL_book_8 : decode cL_book 8 = .ok (.i2l, 1) := by decide +kernel
theorem dL_book_9 : decode cL_book 9 = .ok (.lastore, 1) := by decide +kernel
theorem dL_book_10 : decode cL_book 10 = .ok (.goto 11, 3) := by decide +kernel
theorem dL_book_13 : decode cL_book 13 = .ok (.astore 4, 2) := by decide +kernel
theorem dL_book_15 : decode cL_book 15 = .ok (.iconst 1, 1) := by decide +kernel
theorem dL_book_16 : decode cL_book 16 = .ok (.ireturn, 1) := by decide +kernel
theorem dL_book_17 : decode cL_book 17 = .ok (.astore 4, 2) := by decide +kernel
theorem dL_book_19 : decode cL_book 19 = .ok (.iconst 2, 1) := by decide +kernel
theorem dL_book_20 : decode cL_book 20 = .ok (.ireturn, 1) := by decide +kernel
theorem dL_book_21 : decode cL_book 21 = .ok (.iconst 0, 1) := by decide +kernel
theorem dL_book_22 : decode cL_book 22 = .ok (.ireturn, 1) := by decide +kernel
theorem dL_law_0 : decode cL_law 0 = .ok (.new 8, 3) := by decide +kernel
theorem dL_law_3 : decode cL_law 3 = .ok (.dup, 1) := by decide +kernel
theorem dL_law_4 : decode cL_law 4 = .ok (.invokespecial 59, 3) := by decide +kernel
theorem dL_law_7 : decode cL_law 7 = .ok (.astore_n 1, 1) := by decide +kernel
theorem dL_law_8 : decode cL_law 8 = .ok (.new 60, 3) := by decide +kernel
theorem dL_law_11 : decode cL_law 11 = .ok (.dup, 1) := by decide +kernel
theorem dL_law_12 : decode cL_law 12 = .ok (.invokespecial 62, 3) := by decide +kernel
theorem dL_law_15 : decode cL_law 15 = .ok (.astore_n 2, 1) := by decide +kernel
theorem dL_law_16 : decode cL_law 16 = .ok (.iconst 1, 1) := by decide +kernel
theorem dL_law_17 : decode cL_law 17 = .ok (.newarray .long, 2) := by decide +kernel
theorem dL_law_19 : decode cL_law 19 = .ok (.astore_n 3, 1) := by decide +kernel
theorem dL_law_20 : decode cL_law 20 = .ok (.iconst 0, 1) := by decide +kernel
theorem dL_law_21 : decode cL_law 21 = .ok (.istore 4, 2) := by decide +kernel
theorem dL_law_23 : decode cL_law 23 = .ok (.iload 4, 2) := by decide +kernel
theorem dL_law_25 : decode cL_law 25 = .ok (.aload_n 0, 1) := by decide +kernel
theorem dL_law_26 : decode cL_law 26 = .ok (.arraylength, 1) := by decide +kernel
theorem dL_law_27 : decode cL_law 27 = .ok (.iconst 4, 1) := by decide +kernel
theorem dL_law_28 : decode cL_law 28 = .ok (.isub, 1) := by decide +kernel
theorem dL_law_29 : decode cL_law 29 = .ok (.if_icmp .gt 905, 3) := by decide +kernel
theorem dL_law_32 : decode cL_law 32 = .ok (.aload_n 0, 1) := by decide +kernel
theorem dL_law_33 : decode cL_law 33 = .ok (.iload 4, 2) := by decide +kernel
theorem dL_law_35 : decode cL_law 35 = .ok (.iaload, 1) := by decide +kernel
theorem dL_law_36 : decode cL_law 36 = .ok (.bipush 15, 2) := by decide +kernel
theorem dL_law_38 : decode cL_law 38 = .ok (.iand, 1) := by decide +kernel
theorem dL_law_39 : decode cL_law 39 = .ok (.tableswitch 889 0 12 #[65, 121, 157, 225, 281, 349, 417, 473, 553, 629, 697, 765, 821], 65) := by decide +kernel
theorem dL_law_104 : decode cL_law 104 = .ok (.aload_n 1, 1) := by decide +kernel
theorem dL_law_105 : decode cL_law 105 = .ok (.aload_n 0, 1) := by decide +kernel
theorem dL_law_106 : decode cL_law 106 = .ok (.iload 4, 2) := by decide +kernel
theorem dL_law_108 : decode cL_law 108 = .ok (.iconst 1, 1) := by decide +kernel
theorem dL_law_109 : decode cL_law 109 = .ok (.iadd, 1) := by decide +kernel
theorem dL_law_110 : decode cL_law 110 = .ok (.iaload, 1) := by decide +kernel
theorem dL_law_111 : decode cL_law 111 = .ok (.aload_n 3, 1) := by decide +kernel
theorem dL_law_112 : decode cL_law 112 = .ok (.invokestatic 63, 3) := by decide +kernel
theorem dL_law_115 : decode cL_law 115 = .ok (.istore 5, 2) := by decide +kernel
theorem dL_law_117 : decode cL_law 117 = .ok (.aload_n 2, 1) := by decide +kernel
theorem dL_law_118 : decode cL_law 118 = .ok (.aload_n 0, 1) := by decide +kernel
theorem dL_law_119 : decode cL_law 119 = .ok (.iload 4, 2) := by decide +kernel
theorem dL_law_121 : decode cL_law 121 = .ok (.iconst 1, 1) := by decide +kernel
theorem dL_law_122 : decode cL_law 122 = .ok (.iadd, 1) := by decide +kernel
theorem dL_law_123 : decode cL_law 123 = .ok (.iaload, 1) := by decide +kernel
theorem dL_law_124 : decode cL_law 124 = .ok (.invokevirtual 68, 3) := by decide +kernel
theorem dL_law_127 : decode cL_law 127 = .ok (.istore 6, 2) := by decide +kernel
theorem dL_law_129 : decode cL_law 129 = .ok (.aload_n 2, 1) := by decide +kernel
theorem dL_law_130 : decode cL_law 130 = .ok (.invokevirtual 69, 3) := by decide +kernel
theorem dL_law_133 : decode cL_law 133 = .ok (.iload 5, 2) := by decide +kernel
theorem dL_law_135 : decode cL_law 135 = .ok (.if_icmp .eq 5, 3) := by decide +kernel
theorem dL_law_138 : decode cL_law 138 = .ok (.iconst 0, 1) := by decide +kernel
theorem dL_law_139 : decode cL_law 139 = .ok (.ireturn, 1) := by decide +kernel
theorem dL_law_140 : decode cL_law 140 = .ok (.iload 5, 2) := by decide +kernel
theorem dL_law_142 : decode cL_law 142 = .ok (.ifCond .ne 15, 3) := by decide +kernel
theorem dL_law_145 : decode cL_law 145 = .ok (.aload_n 3, 1) := by decide +kernel
theorem dL_law_146 : decode cL_law 146 = .ok (.iconst 0, 1) := by decide +kernel
theorem dL_law_147 : decode cL_law 147 = .ok (.laload, 1) := by decide +kernel
theorem dL_law_148 : decode cL_law 148 = .ok (.iload 6, 2) := by decide +kernel
theorem dL_law_150 : decode cL_law 150 = .ok (.i2l, 1) := by decide +kernel
theorem dL_law_151 : decode cL_law 151 = .ok (.lcmp, 1) := by decide +kernel
theorem dL_law_152 : decode cL_law 152 = .ok (.ifCond .eq 5, 3) := by decide +kernel
theorem dL_law_155 : decode cL_law 155 = .ok (.iconst 0, 1) := by decide +kernel
theorem dL_law_156 : decode cL_law 156 = .ok (.ireturn, 1) := by decide +kernel
theorem dL_law_157 : decode cL_law 157 = .ok (.goto 771, 3) := by decide +kernel
theorem dL_law_160 : decode cL_law 160 = .ok (.aload_n 1, 1) := by decide +kernel
theorem dL_law_161 : decode cL_law 161 = .ok (.aload_n 0, 1) := by decide +kernel
theorem dL_law_162 : decode cL_law 162 = .ok (.iload 4, 2) := by decide +kernel
theorem dL_law_164 : decode cL_law 164 = .ok (.iconst 1, 1) := by decide +kernel
theorem dL_law_165 : decode cL_law 165 = .ok (.iadd, 1) := by decide +kernel
theorem dL_law_166 : decode cL_law 166 = .ok (.iaload, 1) := by decide +kernel
theorem dL_law_167 : decode cL_law 167 = .ok (.invokestatic 73, 3) := by decide +kernel
theorem dL_law_170 : decode cL_law 170 = .ok (.istore 5, 2) := by decide +kernel
theorem dL_law_172 : decode cL_law 172 = .ok (.aload_n 2, 1) := by decide +kernel
theorem dL_law_173 : decode cL_law 173 = .ok (.aload_n 0, 1) := by decide +kernel
theorem dL_law_174 : decode cL_law 174 = .ok (.iload 4, 2) := by decide +kernel
theorem dL_law_176 : decode cL_law 176 = .ok (.iconst 1, 1) := by decide +kernel
theorem dL_law_177 : decode cL_law 177 = .ok (.iadd, 1) := by decide +kernel
theorem dL_law_178 : decode cL_law 178 = .ok (.iaload, 1) := by decide +kernel
theorem dL_law_179 : decode cL_law 179 = .ok (.invokevirtual 76, 3) := by decide +kernel
theorem dL_law_182 : decode cL_law 182 = .ok (.aload_n 2, 1) := by decide +kernel
theorem dL_law_183 : decode cL_law 183 = .ok (.invokevirtual 69, 3) := by decide +kernel
theorem dL_law_186 : decode cL_law 186 = .ok (.iload 5, 2) := by decide +kernel
theorem dL_law_188 : decode cL_law 188 = .ok (.if_icmp .eq 5, 3) := by decide +kernel
theorem dL_law_191 : decode cL_law 191 = .ok (.iconst 0, 1) := by decide +kernel
theorem dL_law_192 : decode cL_law 192 = .ok (.ireturn, 1) := by decide +kernel
theorem dL_law_193 : decode cL_law 193 = .ok (.goto 735, 3) := by decide +kernel
theorem dL_law_196 : decode cL_law 196 = .ok (.aload_n 1, 1) := by decide +kernel
theorem dL_law_197 : decode cL_law 197 = .ok (.aload_n 0, 1) := by decide +kernel
theorem dL_law_198 : decode cL_law 198 = .ok (.iload 4, 2) := by decide +kernel
theorem dL_law_200 : decode cL_law 200 = .ok (.iconst 1, 1) := by decide +kernel
theorem dL_law_201 : decode cL_law 201 = .ok (.iadd, 1) := by decide +kernel
theorem dL_law_202 : decode cL_law 202 = .ok (.iaload, 1) := by decide +kernel
theorem dL_law_203 : decode cL_law 203 = .ok (.aload_n 0, 1) := by decide +kernel
theorem dL_law_204 : decode cL_law 204 = .ok (.iload 4, 2) := by decide +kernel
theorem dL_law_206 : decode cL_law 206 = .ok (.iconst 2, 1) := by decide +kernel
theorem dL_law_207 : decode cL_law 207 = .ok (.iadd, 1) := by decide +kernel
theorem dL_law_208 : decode cL_law 208 = .ok (.iaload, 1) := by decide +kernel
theorem dL_law_209 : decode cL_law 209 = .ok (.aload_n 3, 1) := by decide +kernel
theorem dL_law_210 : decode cL_law 210 = .ok (.invokestatic 77, 3) := by decide +kernel
theorem dL_law_213 : decode cL_law 213 = .ok (.istore 5, 2) := by decide +kernel
theorem dL_law_215 : decode cL_law 215 = .ok (.aload_n 2, 1) := by decide +kernel
theorem dL_law_216 : decode cL_law 216 = .ok (.aload_n 0, 1) := by decide +kernel
theorem dL_law_217 : decode cL_law 217 = .ok (.iload 4, 2) := by decide +kernel
theorem dL_law_219 : decode cL_law 219 = .ok (.iconst 1, 1) := by decide +kernel
theorem dL_law_220 : decode cL_law 220 = .ok (.iadd, 1) := by decide +kernel
theorem dL_law_221 : decode cL_law 221 = .ok (.iaload, 1) := by decide +kernel
theorem dL_law_222 : decode cL_law 222 = .ok (.aload_n 0, 1) := by decide +kernel
theorem dL_law_223 : decode cL_law 223 = .ok (.iload 4, 2) := by decide +kernel
theorem dL_law_225 : decode cL_law 225 = .ok (.iconst 2, 1) := by decide +kernel
theorem dL_law_226 : decode cL_law 226 = .ok (.iadd, 1) := by decide +kernel
theorem dL_law_227 : decode cL_law 227 = .ok (.iaload, 1) := by decide +kernel
theorem dL_law_228 : decode cL_law 228 = .ok (.invokevirtual 80, 3) := by decide +kernel
theorem dL_law_231 : decode cL_law 231 = .ok (.istore 6, 2) := by decide +kernel
theorem dL_law_233 : decode cL_law 233 = .ok (.aload_n 2, 1) := by decide +kernel
theorem dL_law_234 : decode cL_law 234 = .ok (.invokevirtual 69, 3) := by decide +kernel
theorem dL_law_237 : decode cL_law 237 = .ok (.iload 5, 2) := by decide +kernel
theorem dL_law_239 : decode cL_law 239 = .ok (.if_icmp .eq 5, 3) := by decide +kernel
theorem dL_law_242 : decode cL_law 242 = .ok (.iconst 0, 1) := by decide +kernel
theorem dL_law_243 : decode cL_law 243 = .ok (.ireturn, 1) := by decide +kernel
theorem dL_law_244 : decode cL_law 244 = .ok (.iload 5, 2) := by decide +kernel
theorem dL_law_246 : decode cL_law 246 = .ok (.ifCond .ne 15, 3) := by decide +kernel
theorem dL_law_249 : decode cL_law 249 = .ok (.aload_n 3, 1) := by decide +kernel
theorem dL_law_250 : decode cL_law 250 = .ok (.iconst 0, 1) := by decide +kernel
theorem dL_law_251 : decode cL_law 251 = .ok (.laload, 1) := by decide +kernel
theorem dL_law_252 : decode cL_law 252 = .ok (.iload 6, 2) := by decide +kernel
theorem dL_law_254 : decode cL_law 254 = .ok (.i2l, 1) := by decide +kernel
theorem dL_law_255 : decode cL_law 255 = .ok (.lcmp, 1) := by decide +kernel
theorem dL_law_256 : decode cL_law 256 = .ok (.ifCond .eq 5, 3) := by decide +kernel
theorem dL_law_259 : decode cL_law 259 = .ok (.iconst 0, 1) := by decide +kernel
theorem dL_law_260 : decode cL_law 260 = .ok (.ireturn, 1) := by decide +kernel
theorem dL_law_261 : decode cL_law 261 = .ok (.goto 667, 3) := by decide +kernel
theorem dL_law_264 : decode cL_law 264 = .ok (.aload_n 1, 1) := by decide +kernel
theorem dL_law_265 : decode cL_law 265 = .ok (.aload_n 0, 1) := by decide +kernel
theorem dL_law_266 : decode cL_law 266 = .ok (.iload 4, 2) := by decide +kernel
theorem dL_law_268 : decode cL_law 268 = .ok (.iconst 1, 1) := by decide +kernel
theorem dL_law_269 : decode cL_law 269 = .ok (.iadd, 1) := by decide +kernel
theorem dL_law_270 : decode cL_law 270 = .ok (.iaload, 1) := by decide +kernel
theorem dL_law_271 : decode cL_law 271 = .ok (.aload_n 3, 1) := by decide +kernel
theorem dL_law_272 : decode cL_law 272 = .ok (.invokestatic 81, 3) := by decide +kernel
theorem dL_law_275 : decode cL_law 275 = .ok (.istore 5, 2) := by decide +kernel
theorem dL_law_277 : decode cL_law 277 = .ok (.aload_n 2, 1) := by decide +kernel
theorem dL_law_278 : decode cL_law 278 = .ok (.aload_n 0, 1) := by decide +kernel
theorem dL_law_279 : decode cL_law 279 = .ok (.iload 4, 2) := by decide +kernel
theorem dL_law_281 : decode cL_law 281 = .ok (.iconst 1, 1) := by decide +kernel
theorem dL_law_282 : decode cL_law 282 = .ok (.iadd, 1) := by decide +kernel
theorem dL_law_283 : decode cL_law 283 = .ok (.iaload, 1) := by decide +kernel
theorem dL_law_284 : decode cL_law 284 = .ok (.invokevirtual 83, 3) := by decide +kernel
theorem dL_law_287 : decode cL_law 287 = .ok (.istore 6, 2) := by decide +kernel
theorem dL_law_289 : decode cL_law 289 = .ok (.aload_n 2, 1) := by decide +kernel
theorem dL_law_290 : decode cL_law 290 = .ok (.invokevirtual 69, 3) := by decide +kernel
theorem dL_law_293 : decode cL_law 293 = .ok (.iload 5, 2) := by decide +kernel
theorem dL_law_295 : decode cL_law 295 = .ok (.if_icmp .eq 5, 3) := by decide +kernel
theorem dL_law_298 : decode cL_law 298 = .ok (.iconst 0, 1) := by decide +kernel
theorem dL_law_299 : decode cL_law 299 = .ok (.ireturn, 1) := by decide +kernel
theorem dL_law_300 : decode cL_law 300 = .ok (.iload 5, 2) := by decide +kernel
theorem dL_law_302 : decode cL_law 302 = .ok (.ifCond .ne 15, 3) := by decide +kernel
theorem dL_law_305 : decode cL_law 305 = .ok (.aload_n 3, 1) := by decide +kernel
theorem dL_law_306 : decode cL_law 306 = .ok (.iconst 0, 1) := by decide +kernel
theorem dL_law_307 : decode cL_law 307 = .ok (.laload, 1) := by decide +kernel
theorem dL_law_308 : decode cL_law 308 = .ok (.iload 6, 2) := by decide +kernel
theorem dL_law_310 : decode cL_law 310 = .ok (.i2l, 1) := by decide +kernel
theorem dL_law_311 : decode cL_law 311 = .ok (.lcmp, 1) := by decide +kernel
theorem dL_law_312 : decode cL_law 312 = .ok (.ifCond .eq 5, 3) := by decide +kernel
theorem dL_law_315 : decode cL_law 315 = .ok (.iconst 0, 1) := by decide +kernel
theorem dL_law_316 : decode cL_law 316 = .ok (.ireturn, 1) := by decide +kernel
theorem dL_law_317 : decode cL_law 317 = .ok (.goto 611, 3) := by decide +kernel
theorem dL_law_320 : decode cL_law 320 = .ok (.aload_n 1, 1) := by decide +kernel
theorem dL_law_321 : decode cL_law 321 = .ok (.aload_n 0, 1) := by decide +kernel
theorem dL_law_322 : decode cL_law 322 = .ok (.iload 4, 2) := by decide +kernel
theorem dL_law_324 : decode cL_law 324 = .ok (.iconst 1, 1) := by decide +kernel
theorem dL_law_325 : decode cL_law 325 = .ok (.iadd, 1) := by decide +kernel
theorem dL_law_326 : decode cL_law 326 = .ok (.iaload, 1) := by decide +kernel
theorem dL_law_327 : decode cL_law 327 = .ok (.aload_n 0, 1) := by decide +kernel
theorem dL_law_328 : decode cL_law 328 = .ok (.iload 4, 2) := by decide +kernel
theorem dL_law_330 : decode cL_law 330 = .ok (.iconst 2, 1) := by decide +kernel
theorem dL_law_331 : decode cL_law 331 = .ok (.iadd, 1) := by decide +kernel
theorem dL_law_332 : decode cL_law 332 = .ok (.iaload, 1) := by decide +kernel
theorem dL_law_333 : decode cL_law 333 = .ok (.aload_n 3, 1) := by decide +kernel
theorem dL_law_334 : decode cL_law 334 = .ok (.invokestatic 84, 3) := by decide +kernel
theorem dL_law_337 : decode cL_law 337 = .ok (.istore 5, 2) := by decide +kernel
theorem dL_law_339 : decode cL_law 339 = .ok (.aload_n 2, 1) := by decide +kernel
theorem dL_law_340 : decode cL_law 340 = .ok (.aload_n 0, 1) := by decide +kernel
theorem dL_law_341 : decode cL_law 341 = .ok (.iload 4, 2) := by decide +kernel
theorem dL_law_343 : decode cL_law 343 = .ok (.iconst 1, 1) := by decide +kernel
theorem dL_law_344 : decode cL_law 344 = .ok (.iadd, 1) := by decide +kernel
theorem dL_law_345 : decode cL_law 345 = .ok (.iaload, 1) := by decide +kernel
theorem dL_law_346 : decode cL_law 346 = .ok (.aload_n 0, 1) := by decide +kernel
theorem dL_law_347 : decode cL_law 347 = .ok (.iload 4, 2) := by decide +kernel
theorem dL_law_349 : decode cL_law 349 = .ok (.iconst 2, 1) := by decide +kernel
theorem dL_law_350 : decode cL_law 350 = .ok (.iadd, 1) := by decide +kernel
theorem dL_law_351 : decode cL_law 351 = .ok (.iaload, 1) := by decide +kernel
theorem dL_law_352 : decode cL_law 352 = .ok (.invokevirtual 86, 3) := by decide +kernel
theorem dL_law_355 : decode cL_law 355 = .ok (.istore 6, 2) := by decide +kernel
theorem dL_law_357 : decode cL_law 357 = .ok (.aload_n 2, 1) := by decide +kernel
theorem dL_law_358 : decode cL_law 358 = .ok (.invokevirtual 69, 3) := by decide +kernel
theorem dL_law_361 : decode cL_law 361 = .ok (.iload 5, 2) := by decide +kernel
theorem dL_law_363 : decode cL_law 363 = .ok (.if_icmp .eq 5, 3) := by decide +kernel
theorem dL_law_366 : decode cL_law 366 = .ok (.iconst 0, 1) := by decide +kernel
theorem dL_law_367 : decode cL_law 367 = .ok (.ireturn, 1) := by decide +kernel
theorem dL_law_368 : decode cL_law 368 = .ok (.iload 5, 2) := by decide +kernel
theorem dL_law_370 : decode cL_law 370 = .ok (.ifCond .ne 15, 3) := by decide +kernel
theorem dL_law_373 : decode cL_law 373 = .ok (.aload_n 3, 1) := by decide +kernel
theorem dL_law_374 : decode cL_law 374 = .ok (.iconst 0, 1) := by decide +kernel
theorem dL_law_375 : decode cL_law 375 = .ok (.laload, 1) := by decide +kernel
theorem dL_law_376 : decode cL_law 376 = .ok (.iload 6, 2) := by decide +kernel
theorem dL_law_378 : decode cL_law 378 = .ok (.i2l, 1) := by decide +kernel
theorem dL_law_379 : decode cL_law 379 = .ok (.lcmp, 1) := by decide +kernel
theorem dL_law_380 : decode cL_law 380 = .ok (.ifCond .eq 5, 3) := by decide +kernel
theorem dL_law_383 : decode cL_law 383 = .ok (.iconst 0, 1) := by decide +kernel
theorem dL_law_384 : decode cL_law 384 = .ok (.ireturn, 1) := by decide +kernel
theorem dL_law_385 : decode cL_law 385 = .ok (.goto 543, 3) := by decide +kernel
theorem dL_law_388 : decode cL_law 388 = .ok (.aload_n 1, 1) := by decide +kernel
theorem dL_law_389 : decode cL_law 389 = .ok (.aload_n 0, 1) := by decide +kernel
theorem dL_law_390 : decode cL_law 390 = .ok (.iload 4, 2) := by decide +kernel
theorem dL_law_392 : decode cL_law 392 = .ok (.iconst 1, 1) := by decide +kernel
theorem dL_law_393 : decode cL_law 393 = .ok (.iadd, 1) := by decide +kernel
theorem dL_law_394 : decode cL_law 394 = .ok (.iaload, 1) := by decide +kernel
theorem dL_law_395 : decode cL_law 395 = .ok (.aload_n 0, 1) := by decide +kernel
theorem dL_law_396 : decode cL_law 396 = .ok (.iload 4, 2) := by decide +kernel
theorem dL_law_398 : decode cL_law 398 = .ok (.iconst 2, 1) := by decide +kernel
theorem dL_law_399 : decode cL_law 399 = .ok (.iadd, 1) := by decide +kernel
theorem dL_law_400 : decode cL_law 400 = .ok (.iaload, 1) := by decide +kernel
theorem dL_law_401 : decode cL_law 401 = .ok (.aload_n 3, 1) := by decide +kernel
theorem dL_law_402 : decode cL_law 402 = .ok (.invokestatic 87, 3) := by decide +kernel
theorem dL_law_405 : decode cL_law 405 = .ok (.istore 5, 2) := by decide +kernel
theorem dL_law_407 : decode cL_law 407 = .ok (.aload_n 2, 1) := by decide +kernel
theorem dL_law_408 : decode cL_law 408 = .ok (.aload_n 0, 1) := by decide +kernel
theorem dL_law_409 : decode cL_law 409 = .ok (.iload 4, 2) := by decide +kernel
theorem dL_law_411 : decode cL_law 411 = .ok (.iconst 1, 1) := by decide +kernel
theorem dL_law_412 : decode cL_law 412 = .ok (.iadd, 1) := by decide +kernel
theorem dL_law_413 : decode cL_law 413 = .ok (.iaload, 1) := by decide +kernel
theorem dL_law_414 : decode cL_law 414 = .ok (.aload_n 0, 1) := by decide +kernel
theorem dL_law_415 : decode cL_law 415 = .ok (.iload 4, 2) := by decide +kernel
theorem dL_law_417 : decode cL_law 417 = .ok (.iconst 2, 1) := by decide +kernel
theorem dL_law_418 : decode cL_law 418 = .ok (.iadd, 1) := by decide +kernel
theorem dL_law_419 : decode cL_law 419 = .ok (.iaload, 1) := by decide +kernel
theorem dL_law_420 : decode cL_law 420 = .ok (.invokevirtual 89, 3) := by decide +kernel
theorem dL_law_423 : decode cL_law 423 = .ok (.istore 6, 2) := by decide +kernel
theorem dL_law_425 : decode cL_law 425 = .ok (.aload_n 2, 1) := by decide +kernel
theorem dL_law_426 : decode cL_law 426 = .ok (.invokevirtual 69, 3) := by decide +kernel
theorem dL_law_429 : decode cL_law 429 = .ok (.iload 5, 2) := by decide +kernel
theorem dL_law_431 : decode cL_law 431 = .ok (.if_icmp .eq 5, 3) := by decide +kernel
theorem dL_law_434 : decode cL_law 434 = .ok (.iconst 0, 1) := by decide +kernel
theorem dL_law_435 : decode cL_law 435 = .ok (.ireturn, 1) := by decide +kernel
theorem dL_law_436 : decode cL_law 436 = .ok (.iload 5, 2) := by decide +kernel
theorem dL_law_438 : decode cL_law 438 = .ok (.ifCond .ne 15, 3) := by decide +kernel
theorem dL_law_441 : decode cL_law 441 = .ok (.aload_n 3, 1) := by decide +kernel
theorem dL_law_442 : decode cL_law 442 = .ok (.iconst 0, 1) := by decide +kernel
theorem dL_law_443 : decode cL_law 443 = .ok (.laload, 1) := by decide +kernel
theorem dL_law_444 : decode cL_law 444 = .ok (.iload 6, 2) := by decide +kernel
theorem dL_law_446 : decode cL_law 446 = .ok (.i2l, 1) := by decide +kernel
theorem dL_law_447 : decode cL_law 447 = .ok (.lcmp, 1) := by decide +kernel
theorem dL_law_448 : decode cL_law 448 = .ok (.ifCond .eq 5, 3) := by decide +kernel
theorem dL_law_451 : decode cL_law 451 = .ok (.iconst 0, 1) := by decide +kernel
theorem dL_law_452 : decode cL_law 452 = .ok (.ireturn, 1) := by decide +kernel
theorem dL_law_453 : decode cL_law 453 = .ok (.goto 475, 3) := by decide +kernel
theorem dL_law_456 : decode cL_law 456 = .ok (.aload_n 1, 1) := by decide +kernel
theorem dL_law_457 : decode cL_law 457 = .ok (.aload_n 0, 1) := by decide +kernel
theorem dL_law_458 : decode cL_law 458 = .ok (.iload 4, 2) := by decide +kernel
theorem dL_law_460 : decode cL_law 460 = .ok (.iconst 1, 1) := by decide +kernel
theorem dL_law_461 : decode cL_law 461 = .ok (.iadd, 1) := by decide +kernel
theorem dL_law_462 : decode cL_law 462 = .ok (.iaload, 1) := by decide +kernel
theorem dL_law_463 : decode cL_law 463 = .ok (.aload_n 3, 1) := by decide +kernel
theorem dL_law_464 : decode cL_law 464 = .ok (.invokestatic 90, 3) := by decide +kernel
theorem dL_law_467 : decode cL_law 467 = .ok (.istore 5, 2) := by decide +kernel
theorem dL_law_469 : decode cL_law 469 = .ok (.aload_n 2, 1) := by decide +kernel
theorem dL_law_470 : decode cL_law 470 = .ok (.aload_n 0, 1) := by decide +kernel
theorem dL_law_471 : decode cL_law 471 = .ok (.iload 4, 2) := by decide +kernel
theorem dL_law_473 : decode cL_law 473 = .ok (.iconst 1, 1) := by decide +kernel
theorem dL_law_474 : decode cL_law 474 = .ok (.iadd, 1) := by decide +kernel
theorem dL_law_475 : decode cL_law 475 = .ok (.iaload, 1) := by decide +kernel
theorem dL_law_476 : decode cL_law 476 = .ok (.invokevirtual 92, 3) := by decide +kernel
theorem dL_law_479 : decode cL_law 479 = .ok (.istore 6, 2) := by decide +kernel
theorem dL_law_481 : decode cL_law 481 = .ok (.aload_n 2, 1) := by decide +kernel
theorem dL_law_482 : decode cL_law 482 = .ok (.invokevirtual 69, 3) := by decide +kernel
theorem dL_law_485 : decode cL_law 485 = .ok (.iload 5, 2) := by decide +kernel
theorem dL_law_487 : decode cL_law 487 = .ok (.if_icmp .eq 5, 3) := by decide +kernel
theorem dL_law_490 : decode cL_law 490 = .ok (.iconst 0, 1) := by decide +kernel
theorem dL_law_491 : decode cL_law 491 = .ok (.ireturn, 1) := by decide +kernel
theorem dL_law_492 : decode cL_law 492 = .ok (.iload 5, 2) := by decide +kernel
theorem dL_law_494 : decode cL_law 494 = .ok (.ifCond .ne 15, 3) := by decide +kernel
theorem dL_law_497 : decode cL_law 497 = .ok (.aload_n 3, 1) := by decide +kernel
theorem dL_law_498 : decode cL_law 498 = .ok (.iconst 0, 1) := by decide +kernel
theorem dL_law_499 : decode cL_law 499 = .ok (.laload, 1) := by decide +kernel
theorem dL_law_500 : decode cL_law 500 = .ok (.iload 6, 2) := by decide +kernel
theorem dL_law_502 : decode cL_law 502 = .ok (.i2l, 1) := by decide +kernel
theorem dL_law_503 : decode cL_law 503 = .ok (.lcmp, 1) := by decide +kernel
theorem dL_law_504 : decode cL_law 504 = .ok (.ifCond .eq 5, 3) := by decide +kernel
theorem dL_law_507 : decode cL_law 507 = .ok (.iconst 0, 1) := by decide +kernel
theorem dL_law_508 : decode cL_law 508 = .ok (.ireturn, 1) := by decide +kernel
theorem dL_law_509 : decode cL_law 509 = .ok (.goto 419, 3) := by decide +kernel
theorem dL_law_512 : decode cL_law 512 = .ok (.aload_n 1, 1) := by decide +kernel
theorem dL_law_513 : decode cL_law 513 = .ok (.aload_n 0, 1) := by decide +kernel
theorem dL_law_514 : decode cL_law 514 = .ok (.iload 4, 2) := by decide +kernel
theorem dL_law_516 : decode cL_law 516 = .ok (.iconst 1, 1) := by decide +kernel
theorem dL_law_517 : decode cL_law 517 = .ok (.iadd, 1) := by decide +kernel
theorem dL_law_518 : decode cL_law 518 = .ok (.iaload, 1) := by decide +kernel
theorem dL_law_519 : decode cL_law 519 = .ok (.aload_n 0, 1) := by decide +kernel
theorem dL_law_520 : decode cL_law 520 = .ok (.iload 4, 2) := by decide +kernel
theorem dL_law_522 : decode cL_law 522 = .ok (.iconst 2, 1) := by decide +kernel
theorem dL_law_523 : decode cL_law 523 = .ok (.iadd, 1) := by decide +kernel
theorem dL_law_524 : decode cL_law 524 = .ok (.iaload, 1) := by decide +kernel
theorem dL_law_525 : decode cL_law 525 = .ok (.aload_n 0, 1) := by decide +kernel
theorem dL_law_526 : decode cL_law 526 = .ok (.iload 4, 2) := by decide +kernel
theorem dL_law_528 : decode cL_law 528 = .ok (.iconst 3, 1) := by decide +kernel
theorem dL_law_529 : decode cL_law 529 = .ok (.iadd, 1) := by decide +kernel
theorem dL_law_530 : decode cL_law 530 = .ok (.iaload, 1) := by decide +kernel
theorem dL_law_531 : decode cL_law 531 = .ok (.aload_n 3, 1) := by decide +kernel
theorem dL_law_532 : decode cL_law 532 = .ok (.invokestatic 93, 3) := by decide +kernel
theorem dL_law_535 : decode cL_law 535 = .ok (.istore 5, 2) := by decide +kernel
theorem dL_law_537 : decode cL_law 537 = .ok (.aload_n 2, 1) := by decide +kernel
theorem dL_law_538 : decode cL_law 538 = .ok (.aload_n 0, 1) := by decide +kernel
theorem dL_law_539 : decode cL_law 539 = .ok (.iload 4, 2) := by decide +kernel
theorem dL_law_541 : decode cL_law 541 = .ok (.iconst 1, 1) := by decide +kernel
theorem dL_law_542 : decode cL_law 542 = .ok (.iadd, 1) := by decide +kernel
theorem dL_law_543 : decode cL_law 543 = .ok (.iaload, 1) := by decide +kernel
theorem dL_law_544 : decode cL_law 544 = .ok (.aload_n 0, 1) := by decide +kernel
theorem dL_law_545 : decode cL_law 545 = .ok (.iload 4, 2) := by decide +kernel
theorem dL_law_547 : decode cL_law 547 = .ok (.iconst 2, 1) := by decide +kernel
theorem dL_law_548 : decode cL_law 548 = .ok (.iadd, 1) := by decide +kernel
theorem dL_law_549 : decode cL_law 549 = .ok (.iaload, 1) := by decide +kernel
theorem dL_law_550 : decode cL_law 550 = .ok (.aload_n 0, 1) := by decide +kernel
theorem dL_law_551 : decode cL_law 551 = .ok (.iload 4, 2) := by decide +kernel
theorem dL_law_553 : decode cL_law 553 = .ok (.iconst 3, 1) := by decide +kernel
theorem dL_law_554 : decode cL_law 554 = .ok (.iadd, 1) := by decide +kernel
theorem dL_law_555 : decode cL_law 555 = .ok (.iaload, 1) := by decide +kernel
theorem dL_law_556 : decode cL_law 556 = .ok (.invokevirtual 96, 3) := by decide +kernel
theorem dL_law_559 : decode cL_law 559 = .ok (.istore 6, 2) := by decide +kernel
theorem dL_law_561 : decode cL_law 561 = .ok (.aload_n 2, 1) := by decide +kernel
theorem dL_law_562 : decode cL_law 562 = .ok (.invokevirtual 69, 3) := by decide +kernel
theorem dL_law_565 : decode cL_law 565 = .ok (.iload 5, 2) := by decide +kernel
theorem dL_law_567 : decode cL_law 567 = .ok (.if_icmp .eq 5, 3) := by decide +kernel
theorem dL_law_570 : decode cL_law 570 = .ok (.iconst 0, 1) := by decide +kernel
theorem dL_law_571 : decode cL_law 571 = .ok (.ireturn, 1) := by decide +kernel
theorem dL_law_572 : decode cL_law 572 = .ok (.iload 5, 2) := by decide +kernel
theorem dL_law_574 : decode cL_law 574 = .ok (.ifCond .ne 15, 3) := by decide +kernel
theorem dL_law_577 : decode cL_law 577 = .ok (.aload_n 3, 1) := by decide +kernel
theorem dL_law_578 : decode cL_law 578 = .ok (.iconst 0, 1) := by decide +kernel
theorem dL_law_579 : decode cL_law 579 = .ok (.laload, 1) := by decide +kernel
theorem dL_law_580 : decode cL_law 580 = .ok (.iload 6, 2) := by decide +kernel
theorem dL_law_582 : decode cL_law 582 = .ok (.i2l, 1) := by decide +kernel
theorem dL_law_583 : decode cL_law 583 = .ok (.lcmp, 1) := by decide +kernel
theorem dL_law_584 : decode cL_law 584 = .ok (.ifCond .eq 5, 3) := by decide +kernel
theorem dL_law_587 : decode cL_law 587 = .ok (.iconst 0, 1) := by decide +kernel
theorem dL_law_588 : decode cL_law 588 = .ok (.ireturn, 1) := by decide +kernel
theorem dL_law_589 : decode cL_law 589 = .ok (.goto 339, 3) := by decide +kernel
theorem dL_law_592 : decode cL_law 592 = .ok (.aload_n 1, 1) := by decide +kernel
theorem dL_law_593 : decode cL_law 593 = .ok (.aload_n 0, 1) := by decide +kernel
theorem dL_law_594 : decode cL_law 594 = .ok (.iload 4, 2) := by decide +kernel
theorem dL_law_596 : decode cL_law 596 = .ok (.iconst 1, 1) := by decide +kernel
theorem dL_law_597 : decode cL_law 597 = .ok (.iadd, 1) := by decide +kernel
theorem dL_law_598 : decode cL_law 598 = .ok (.iaload, 1) := by decide +kernel
theorem dL_law_599 : decode cL_law 599 = .ok (.aload_n 0, 1) := by decide +kernel
theorem dL_law_600 : decode cL_law 600 = .ok (.iload 4, 2) := by decide +kernel
theorem dL_law_602 : decode cL_law 602 = .ok (.iconst 2, 1) := by decide +kernel
theorem dL_law_603 : decode cL_law 603 = .ok (.iadd, 1) := by decide +kernel
theorem dL_law_604 : decode cL_law 604 = .ok (.iaload, 1) := by decide +kernel
theorem dL_law_605 : decode cL_law 605 = .ok (.aload_n 0, 1) := by decide +kernel
theorem dL_law_606 : decode cL_law 606 = .ok (.iload 4, 2) := by decide +kernel
theorem dL_law_608 : decode cL_law 608 = .ok (.iconst 3, 1) := by decide +kernel
theorem dL_law_609 : decode cL_law 609 = .ok (.iadd, 1) := by decide +kernel
theorem dL_law_610 : decode cL_law 610 = .ok (.iaload, 1) := by decide +kernel
theorem dL_law_611 : decode cL_law 611 = .ok (.ifCond .eq 7, 3) := by decide +kernel
theorem dL_law_614 : decode cL_law 614 = .ok (.iconst 1, 1) := by decide +kernel
theorem dL_law_615 : decode cL_law 615 = .ok (.goto 4, 3) := by decide +kernel
theorem dL_law_618 : decode cL_law 618 = .ok (.iconst 0, 1) := by decide +kernel
theorem dL_law_619 : decode cL_law 619 = .ok (.invokestatic 97, 3) := by decide +kernel
theorem dL_law_622 : decode cL_law 622 = .ok (.istore 5, 2) := by decide +kernel
theorem dL_law_624 : decode cL_law 624 = .ok (.aload_n 2, 1) := by decide +kernel
theorem dL_law_625 : decode cL_law 625 = .ok (.aload_n 0, 1) := by decide +kernel
theorem dL_law_626 : decode cL_law 626 = .ok (.iload 4, 2) := by decide +kernel
theorem dL_law_628 : decode cL_law 628 = .ok (.iconst 1, 1) := by decide +kernel
theorem dL_law_629 : decode cL_law 629 = .ok (.iadd, 1) := by decide +kernel
theorem dL_law_630 : decode cL_law 630 = .ok (.iaload, 1) := by decide +kernel
theorem dL_law_631 : decode cL_law 631 = .ok (.aload_n 0, 1) := by decide +kernel
theorem dL_law_632 : decode cL_law 632 = .ok (.iload 4, 2) := by decide +kernel
theorem dL_law_634 : decode cL_law 634 = .ok (.iconst 2, 1) := by decide +kernel
theorem dL_law_635 : decode cL_law 635 = .ok (.iadd, 1) := by decide +kernel
theorem dL_law_636 : decode cL_law 636 = .ok (.iaload, 1) := by decide +kernel
theorem dL_law_637 : decode cL_law 637 = .ok (.aload_n 0, 1) := by decide +kernel
theorem dL_law_638 : decode cL_law 638 = .ok (.iload 4, 2) := by decide +kernel
theorem dL_law_640 : decode cL_law 640 = .ok (.iconst 3, 1) := by decide +kernel
theorem dL_law_641 : decode cL_law 641 = .ok (.iadd, 1) := by decide +kernel
theorem dL_law_642 : decode cL_law 642 = .ok (.iaload, 1) := by decide +kernel
theorem dL_law_643 : decode cL_law 643 = .ok (.ifCond .eq 7, 3) := by decide +kernel
theorem dL_law_646 : decode cL_law 646 = .ok (.iconst 1, 1) := by decide +kernel
theorem dL_law_647 : decode cL_law 647 = .ok (.goto 4, 3) := by decide +kernel
theorem dL_law_650 : decode cL_law 650 = .ok (.iconst 0, 1) := by decide +kernel
theorem dL_law_651 : decode cL_law 651 = .ok (.invokevirtual 100, 3) := by decide +kernel
theorem dL_law_654 : decode cL_law 654 = .ok (.aload_n 2, 1) := by decide +kernel
theorem dL_law_655 : decode cL_law 655 = .ok (.invokevirtual 69, 3) := by decide +kernel
theorem dL_law_658 : decode cL_law 658 = .ok (.iload 5, 2) := by decide +kernel
theorem dL_law_660 : decode cL_law 660 = .ok (.if_icmp .eq 5, 3) := by decide +kernel
theorem dL_law_663 : decode cL_law 663 = .ok (.iconst 0, 1) := by decide +kernel
theorem dL_law_664 : decode cL_law 664 = .ok (.ireturn, 1) := by decide +kernel
theorem dL_law_665 : decode cL_law 665 = .ok (.goto 263, 3) := by decide +kernel
theorem dL_law_668 : decode cL_law 668 = .ok (.aload_n 1, 1) := by decide +kernel
theorem dL_law_669 : decode cL_law 669 = .ok (.aload_n 0, 1) := by decide +kernel
theorem dL_law_670 : decode cL_law 670 = .ok (.iload 4, 2) := by decide +kernel
theorem dL_law_672 : decode cL_law 672 = .ok (.iconst 1, 1) := by decide +kernel
theorem dL_law_673 : decode cL_law 673 = .ok (.iadd, 1) := by decide +kernel
theorem dL_law_674 : decode cL_law 674 = .ok (.iaload, 1) := by decide +kernel
theorem dL_law_675 : decode cL_law 675 = .ok (.aload_n 0, 1) := by decide +kernel
theorem dL_law_676 : decode cL_law 676 = .ok (.iload 4, 2) := by decide +kernel
theorem dL_law_678 : decode cL_law 678 = .ok (.iconst 2, 1) := by decide +kernel
theorem dL_law_679 : decode cL_law 679 = .ok (.iadd, 1) := by decide +kernel
theorem dL_law_680 : decode cL_law 680 = .ok (.iaload, 1) := by decide +kernel
theorem dL_law_681 : decode cL_law 681 = .ok (.aload_n 3, 1) := by decide +kernel
theorem dL_law_682 : decode cL_law 682 = .ok (.invokestatic 101, 3) := by decide +kernel
theorem dL_law_685 : decode cL_law 685 = .ok (.istore 5, 2) := by decide +kernel
theorem dL_law_687 : decode cL_law 687 = .ok (.aload_n 2, 1) := by decide +kernel
theorem dL_law_688 : decode cL_law 688 = .ok (.aload_n 0, 1) := by decide +kernel
theorem dL_law_689 : decode cL_law 689 = .ok (.iload 4, 2) := by decide +kernel
theorem dL_law_691 : decode cL_law 691 = .ok (.iconst 1, 1) := by decide +kernel
theorem dL_law_692 : decode cL_law 692 = .ok (.iadd, 1) := by decide +kernel
theorem dL_law_693 : decode cL_law 693 = .ok (.iaload, 1) := by decide +kernel
theorem dL_law_694 : decode cL_law 694 = .ok (.aload_n 0, 1) := by decide +kernel
theorem dL_law_695 : decode cL_law 695 = .ok (.iload 4, 2) := by decide +kernel
theorem dL_law_697 : decode cL_law 697 = .ok (.iconst 2, 1) := by decide +kernel
theorem dL_law_698 : decode cL_law 698 = .ok (.iadd, 1) := by decide +kernel
theorem dL_law_699 : decode cL_law 699 = .ok (.iaload, 1) := by decide +kernel
theorem dL_law_700 : decode cL_law 700 = .ok (.invokevirtual 103, 3) := by decide +kernel
theorem dL_law_703 : decode cL_law 703 = .ok (.istore 6, 2) := by decide +kernel
theorem dL_law_705 : decode cL_law 705 = .ok (.aload_n 2, 1) := by decide +kernel
theorem dL_law_706 : decode cL_law 706 = .ok (.invokevirtual 69, 3) := by decide +kernel
theorem dL_law_709 : decode cL_law 709 = .ok (.iload 5, 2) := by decide +kernel
theorem dL_law_711 : decode cL_law 711 = .ok (.if_icmp .eq 5, 3) := by decide +kernel
theorem dL_law_714 : decode cL_law 714 = .ok (.iconst 0, 1) := by decide +kernel
theorem dL_law_715 : decode cL_law 715 = .ok (.ireturn, 1) := by decide +kernel
theorem dL_law_716 : decode cL_law 716 = .ok (.iload 5, 2) := by decide +kernel
theorem dL_law_718 : decode cL_law 718 = .ok (.ifCond .ne 15, 3) := by decide +kernel
theorem dL_law_721 : decode cL_law 721 = .ok (.aload_n 3, 1) := by decide +kernel
theorem dL_law_722 : decode cL_law 722 = .ok (.iconst 0, 1) := by decide +kernel
theorem dL_law_723 : decode cL_law 723 = .ok (.laload, 1) := by decide +kernel
theorem dL_law_724 : decode cL_law 724 = .ok (.iload 6, 2) := by decide +kernel
theorem dL_law_726 : decode cL_law 726 = .ok (.i2l, 1) := by decide +kernel
theorem dL_law_727 : decode cL_law 727 = .ok (.lcmp, 1) := by decide +kernel
theorem dL_law_728 : decode cL_law 728 = .ok (.ifCond .eq 5, 3) := by decide +kernel
theorem dL_law_731 : decode cL_law 731 = .ok (.iconst 0, 1) := by decide +kernel
theorem dL_law_732 : decode cL_law 732 = .ok (.ireturn, 1) := by decide +kernel
theorem dL_law_733 : decode cL_law 733 = .ok (.goto 195, 3) := by decide +kernel
theorem dL_law_736 : decode cL_law 736 = .ok (.aload_n 1, 1) := by decide +kernel
theorem dL_law_737 : decode cL_law 737 = .ok (.aload_n 0, 1) := by decide +kernel
theorem dL_law_738 : decode cL_law 738 = .ok (.iload 4, 2) := by decide +kernel
theorem dL_law_740 : decode cL_law 740 = .ok (.iconst 1, 1) := by decide +kernel
theorem dL_law_741 : decode cL_law 741 = .ok (.iadd, 1) := by decide +kernel
theorem dL_law_742 : decode cL_law 742 = .ok (.iaload, 1) := by decide +kernel
theorem dL_law_743 : decode cL_law 743 = .ok (.aload_n 0, 1) := by decide +kernel
theorem dL_law_744 : decode cL_law 744 = .ok (.iload 4, 2) := by decide +kernel
theorem dL_law_746 : decode cL_law 746 = .ok (.iconst 2, 1) := by decide +kernel
theorem dL_law_747 : decode cL_law 747 = .ok (.iadd, 1) := by decide +kernel
theorem dL_law_748 : decode cL_law 748 = .ok (.iaload, 1) := by decide +kernel
theorem dL_law_749 : decode cL_law 749 = .ok (.aload_n 3, 1) := by decide +kernel
theorem dL_law_750 : decode cL_law 750 = .ok (.invokestatic 104, 3) := by decide +kernel
theorem dL_law_753 : decode cL_law 753 = .ok (.istore 5, 2) := by decide +kernel
theorem dL_law_755 : decode cL_law 755 = .ok (.aload_n 2, 1) := by decide +kernel
theorem dL_law_756 : decode cL_law 756 = .ok (.aload_n 0, 1) := by decide +kernel
theorem dL_law_757 : decode cL_law 757 = .ok (.iload 4, 2) := by decide +kernel
theorem dL_law_759 : decode cL_law 759 = .ok (.iconst 1, 1) := by decide +kernel
theorem dL_law_760 : decode cL_law 760 = .ok (.iadd, 1) := by decide +kernel
theorem dL_law_761 : decode cL_law 761 = .ok (.iaload, 1) := by decide +kernel
theorem dL_law_762 : decode cL_law 762 = .ok (.aload_n 0, 1) := by decide +kernel
theorem dL_law_763 : decode cL_law 763 = .ok (.iload 4, 2) := by decide +kernel
theorem dL_law_765 : decode cL_law 765 = .ok (.iconst 2, 1) := by decide +kernel
theorem dL_law_766 : decode cL_law 766 = .ok (.iadd, 1) := by decide +kernel
theorem dL_law_767 : decode cL_law 767 = .ok (.iaload, 1) := by decide +kernel
theorem dL_law_768 : decode cL_law 768 = .ok (.invokevirtual 106, 3) := by decide +kernel
theorem dL_law_771 : decode cL_law 771 = .ok (.istore 6, 2) := by decide +kernel
theorem dL_law_773 : decode cL_law 773 = .ok (.aload_n 2, 1) := by decide +kernel
theorem dL_law_774 : decode cL_law 774 = .ok (.invokevirtual 69, 3) := by decide +kernel
theorem dL_law_777 : decode cL_law 777 = .ok (.iload 5, 2) := by decide +kernel
theorem dL_law_779 : decode cL_law 779 = .ok (.if_icmp .eq 5, 3) := by decide +kernel
theorem dL_law_782 : decode cL_law 782 = .ok (.iconst 0, 1) := by decide +kernel
theorem dL_law_783 : decode cL_law 783 = .ok (.ireturn, 1) := by decide +kernel
theorem dL_law_784 : decode cL_law 784 = .ok (.iload 5, 2) := by decide +kernel
theorem dL_law_786 : decode cL_law 786 = .ok (.ifCond .ne 15, 3) := by decide +kernel
theorem dL_law_789 : decode cL_law 789 = .ok (.aload_n 3, 1) := by decide +kernel
theorem dL_law_790 : decode cL_law 790 = .ok (.iconst 0, 1) := by decide +kernel
theorem dL_law_791 : decode cL_law 791 = .ok (.laload, 1) := by decide +kernel
theorem dL_law_792 : decode cL_law 792 = .ok (.iload 6, 2) := by decide +kernel
theorem dL_law_794 : decode cL_law 794 = .ok (.i2l, 1) := by decide +kernel
theorem dL_law_795 : decode cL_law 795 = .ok (.lcmp, 1) := by decide +kernel
theorem dL_law_796 : decode cL_law 796 = .ok (.ifCond .eq 5, 3) := by decide +kernel
theorem dL_law_799 : decode cL_law 799 = .ok (.iconst 0, 1) := by decide +kernel
theorem dL_law_800 : decode cL_law 800 = .ok (.ireturn, 1) := by decide +kernel
theorem dL_law_801 : decode cL_law 801 = .ok (.goto 127, 3) := by decide +kernel
theorem dL_law_804 : decode cL_law 804 = .ok (.aload_n 1, 1) := by decide +kernel
theorem dL_law_805 : decode cL_law 805 = .ok (.aload_n 0, 1) := by decide +kernel
theorem dL_law_806 : decode cL_law 806 = .ok (.iload 4, 2) := by decide +kernel
theorem dL_law_808 : decode cL_law 808 = .ok (.iconst 1, 1) := by decide +kernel
theorem dL_law_809 : decode cL_law 809 = .ok (.iadd, 1) := by decide +kernel
theorem dL_law_810 : decode cL_law 810 = .ok (.iaload, 1) := by decide +kernel
theorem dL_law_811 : decode cL_law 811 = .ok (.aload_n 3, 1) := by decide +kernel
theorem dL_law_812 : decode cL_law 812 = .ok (.invokestatic 107, 3) := by decide +kernel
theorem dL_law_815 : decode cL_law 815 = .ok (.istore 5, 2) := by decide +kernel
theorem dL_law_817 : decode cL_law 817 = .ok (.aload_n 2, 1) := by decide +kernel
theorem dL_law_818 : decode cL_law 818 = .ok (.aload_n 0, 1) := by decide +kernel
theorem dL_law_819 : decode cL_law 819 = .ok (.iload 4, 2) := by decide +kernel
theorem dL_law_821 : decode cL_law 821 = .ok (.iconst 1, 1) := by decide +kernel
theorem dL_law_822 : decode cL_law 822 = .ok (.iadd, 1) := by decide +kernel
theorem dL_law_823 : decode cL_law 823 = .ok (.iaload, 1) := by decide +kernel
theorem dL_law_824 : decode cL_law 824 = .ok (.invokevirtual 109, 3) := by decide +kernel
theorem dL_law_827 : decode cL_law 827 = .ok (.istore 6, 2) := by decide +kernel
theorem dL_law_829 : decode cL_law 829 = .ok (.aload_n 2, 1) := by decide +kernel
theorem dL_law_830 : decode cL_law 830 = .ok (.invokevirtual 69, 3) := by decide +kernel
theorem dL_law_833 : decode cL_law 833 = .ok (.iload 5, 2) := by decide +kernel
theorem dL_law_835 : decode cL_law 835 = .ok (.if_icmp .eq 5, 3) := by decide +kernel
theorem dL_law_838 : decode cL_law 838 = .ok (.iconst 0, 1) := by decide +kernel
theorem dL_law_839 : decode cL_law 839 = .ok (.ireturn, 1) := by decide +kernel
theorem dL_law_840 : decode cL_law 840 = .ok (.iload 5, 2) := by decide +kernel
theorem dL_law_842 : decode cL_law 842 = .ok (.ifCond .ne 15, 3) := by decide +kernel
theorem dL_law_845 : decode cL_law 845 = .ok (.aload_n 3, 1) := by decide +kernel
theorem dL_law_846 : decode cL_law 846 = .ok (.iconst 0, 1) := by decide +kernel
theorem dL_law_847 : decode cL_law 847 = .ok (.laload, 1) := by decide +kernel
theorem dL_law_848 : decode cL_law 848 = .ok (.iload 6, 2) := by decide +kernel
theorem dL_law_850 : decode cL_law 850 = .ok (.i2l, 1) := by decide +kernel
theorem dL_law_851 : decode cL_law 851 = .ok (.lcmp, 1) := by decide +kernel
theorem dL_law_852 : decode cL_law 852 = .ok (.ifCond .eq 5, 3) := by decide +kernel
theorem dL_law_855 : decode cL_law 855 = .ok (.iconst 0, 1) := by decide +kernel
theorem dL_law_856 : decode cL_law 856 = .ok (.ireturn, 1) := by decide +kernel
theorem dL_law_857 : decode cL_law 857 = .ok (.goto 71, 3) := by decide +kernel
theorem dL_law_860 : decode cL_law 860 = .ok (.aload_n 1, 1) := by decide +kernel
theorem dL_law_861 : decode cL_law 861 = .ok (.aload_n 0, 1) := by decide +kernel
theorem dL_law_862 : decode cL_law 862 = .ok (.iload 4, 2) := by decide +kernel
theorem dL_law_864 : decode cL_law 864 = .ok (.iconst 1, 1) := by decide +kernel
theorem dL_law_865 : decode cL_law 865 = .ok (.iadd, 1) := by decide +kernel
theorem dL_law_866 : decode cL_law 866 = .ok (.iaload, 1) := by decide +kernel
theorem dL_law_867 : decode cL_law 867 = .ok (.aload_n 0, 1) := by decide +kernel
theorem dL_law_868 : decode cL_law 868 = .ok (.iload 4, 2) := by decide +kernel
theorem dL_law_870 : decode cL_law 870 = .ok (.iconst 2, 1) := by decide +kernel
theorem dL_law_871 : decode cL_law 871 = .ok (.iadd, 1) := by decide +kernel
theorem dL_law_872 : decode cL_law 872 = .ok (.iaload, 1) := by decide +kernel
theorem dL_law_873 : decode cL_law 873 = .ok (.aload_n 3, 1) := by decide +kernel
theorem dL_law_874 : decode cL_law 874 = .ok (.invokestatic 110, 3) := by decide +kernel
theorem dL_law_877 : decode cL_law 877 = .ok (.istore 5, 2) := by decide +kernel
theorem dL_law_879 : decode cL_law 879 = .ok (.aload_n 2, 1) := by decide +kernel
theorem dL_law_880 : decode cL_law 880 = .ok (.aload_n 0, 1) := by decide +kernel
theorem dL_law_881 : decode cL_law 881 = .ok (.iload 4, 2) := by decide +kernel
theorem dL_law_883 : decode cL_law 883 = .ok (.iconst 1, 1) := by decide +kernel
theorem dL_law_884 : decode cL_law 884 = .ok (.iadd, 1) := by decide +kernel
theorem dL_law_885 : decode cL_law 885 = .ok (.iaload, 1) := by decide +kernel
theorem dL_law_886 : decode cL_law 886 = .ok (.aload_n 0, 1) := by decide +kernel
theorem dL_law_887 : decode cL_law 887 = .ok (.iload 4, 2) := by decide +kernel
theorem dL_law_889 : decode cL_law 889 = .ok (.iconst 2, 1) := by decide +kernel
theorem dL_law_890 : decode cL_law 890 = .ok (.iadd, 1) := by decide +kernel
theorem dL_law_891 : decode cL_law 891 = .ok (.iaload, 1) := by decide +kernel
theorem dL_law_892 : decode cL_law 892 = .ok (.invokevirtual 112, 3) := by decide +kernel
theorem dL_law_895 : decode cL_law 895 = .ok (.istore 6, 2) := by decide +kernel
theorem dL_law_897 : decode cL_law 897 = .ok (.aload_n 2, 1) := by decide +kernel
theorem dL_law_898 : decode cL_law 898 = .ok (.invokevirtual 69, 3) := by decide +kernel
theorem dL_law_901 : decode cL_law 901 = .ok (.iload 5, 2) := by decide +kernel
theorem dL_law_903 : decode cL_law 903 = .ok (.if_icmp .eq 5, 3) := by decide +kernel
theorem dL_law_906 : decode cL_law 906 = .ok (.iconst 0, 1) := by decide +kernel
theorem dL_law_907 : decode cL_law 907 = .ok (.ireturn, 1) := by decide +kernel
theorem dL_law_908 : decode cL_law 908 = .ok (.iload 5, 2) := by decide +kernel
theorem dL_law_910 : decode cL_law 910 = .ok (.ifCond .ne 15, 3) := by decide +kernel
theorem dL_law_913 : decode cL_law 913 = .ok (.aload_n 3, 1) := by decide +kernel
theorem dL_law_914 : decode cL_law 914 = .ok (.iconst 0, 1) := by decide +kernel
theorem dL_law_915 : decode cL_law 915 = .ok (.laload, 1) := by decide +kernel
theorem dL_law_916 : decode cL_law 916 = .ok (.iload 6, 2) := by decide +kernel
theorem dL_law_918 : decode cL_law 918 = .ok (.i2l, 1) := by decide +kernel
theorem dL_law_919 : decode cL_law 919 = .ok (.lcmp, 1) := by decide +kernel
theorem dL_law_920 : decode cL_law 920 = .ok (.ifCond .eq 5, 3) := by decide +kernel
theorem dL_law_923 : decode cL_law 923 = .ok (.iconst 0, 1) := by decide +kernel
theorem dL_law_924 : decode cL_law 924 = .ok (.ireturn, 1) := by decide +kernel
theorem dL_law_925 : decode cL_law 925 = .ok (.goto 3, 3) := by decide +kernel
theorem dL_law_928 : decode cL_law 928 = .ok (.iinc 4 4, 3) := by decide +kernel
theorem dL_law_931 : decode cL_law 931 = .ok (.goto (-908), 3) := by decide +kernel
theorem dL_law_934 : decode cL_law 934 = .ok (.iconst 1, 1) := by decide +kernel
theorem dL_law_935 : decode cL_law 935 = .ok (.ireturn, 1) := by decide +kernel
abbrev vwCl : List vw_C := [(RX0, TX0, 2), (RX1, TX1, 4), (RX2, TX2, 11), (RX3, TX3, 1), (RX4, TX4, 7), (RX5, TX5, 25)]
end
section
/-! THE PURE SIDE: cells by numbers, a reference is a cell's number -/
abbrev pC : Type := Nat × List Value
abbrev pM : Type := List pC
abbrev pL : Type := List (Option Value)
def pz (ad : Nat → Nat) (v : Value) : Value := match v with
  | .ref k => .ref (ad k)
  | w => w
theorem pz_int (ad : Nat → Nat) (x : Int32) : pz ad (.int x) = .int x := rfl
theorem pz_ref (ad : Nat → Nat) (k : Nat) : pz ad (.ref k) = .ref (ad k) := rfl
theorem pz_cat (ad : Nat → Nat) (v : Value) : (pz ad v).category = v.category := by cases v <;> rfl
theorem pz_cats (ad : Nat → Nat) (st : List Value) : (st.map (pz ad)).map (fun v => v.category) = st.map (fun v => v.category) := by
  induction st with
  | nil => rfl
  | cons v t ih => simp only [List.map_cons, ih, pz_cat]
def pgi (vs : List Value) (j : Nat) : Int32 := match vs[j]? with
  | some (.int x) => x
  | _ => 0
def pgl (vs : List Value) (j : Nat) : Int64 := match vs[j]? with
  | some (.long x) => x
  | _ => 0
def pgr (ad : Nat → Nat) (vs : List Value) (j : Nat) : Option Nat := match vs[j]? with
  | some (.ref k) => some (ad k)
  | _ => none
/-- tags below 100: an object of that kind; 100: int[]; 101: long[]; 102: boolean[]; above: an array of references -/
def pe (cA : Nat → ClassId) (ad : Nat → Nat) (c : pC) : va_E :=
  if c.1 < 100 then .inr (c.1, c.2.map (pz ad))
  else if c.1 = 100 then .inl (cA 0, c.2.length, .inl (pgi c.2))
  else if c.1 = 101 then .inl (cA 1, c.2.length, .inr (.inl (pgl c.2)))
  else if c.1 = 102 then .inl (cA 2, c.2.length, .inl (pgi c.2))
  else .inl (cA (c.1 - 100), c.2.length, .inr (.inr (.inr (.inr (pgr ad c.2)))))
theorem pe_o {cA : Nat → ClassId} {ad : Nat → Nat} {ci : Nat} {fs : List Value} (h : ci < 100) : pe cA ad (ci, fs) = .inr (ci, fs.map (pz ad)) := by simp [pe, h]
theorem pe_i {cA : Nat → ClassId} {ad : Nat → Nat} {fs : List Value} : pe cA ad (100, fs) = .inl (cA 0, fs.length, .inl (pgi fs)) := by simp [pe]
theorem pe_l {cA : Nat → ClassId} {ad : Nat → Nat} {fs : List Value} : pe cA ad (101, fs) = .inl (cA 1, fs.length, .inr (.inl (pgl fs))) := by simp [pe]
theorem pe_z {cA : Nat → ClassId} {ad : Nat → Nat} {fs : List Value} : pe cA ad (102, fs) = .inl (cA 2, fs.length, .inl (pgi fs)) := by simp [pe]
theorem pe_q {cA : Nat → ClassId} {ad : Nat → Nat} {t : Nat} {fs : List Value} (h : 102 < t) : pe cA ad (t, fs) = .inl (cA (t - 100), fs.length, .inr (.inr (.inr (.inr (pgr ad fs))))) := by
  have h1 : ¬ t < 100 := by omega
  have h2 : ¬ t = 100 := by omega
  have h3 : ¬ t = 101 := by omega
  have h4 : ¬ t = 102 := by omega
  simp [pe, h1, h2, h3, h4]
def pw (cA : Nat → ClassId) (ad : Nat → Nat) (mem : pM) : va_W := mem.mapIdx (fun k c => (ad k, pe cA ad c))
theorem pw_get {cA : Nat → ClassId} {ad : Nat → Nat} {mem : pM} {k : Nat} {c : pC} (h : mem[k]? = some c) : (pw cA ad mem)[k]? = some (ad k, pe cA ad c) := by simp [pw, h]
theorem pw_set {cA : Nat → ClassId} {ad : Nat → Nat} {mem : pM} {k : Nat} {c c' : pC} (h : mem[k]? = some c') : (pw cA ad mem).set k (ad k, pe cA ad c) = pw cA ad (mem.set k c) := by
  have hk : k < mem.length := (List.getElem?_eq_some_iff.mp h).1
  apply List.ext_getElem?
  intro i
  by_cases hi : i = k
  · subst hi
    rw [List.getElem?_set_self (by simp [pw]; exact hk)]
    simp [pw, hk]
  · rw [List.getElem?_set_ne (Ne.symm hi)]
    simp [pw, List.getElem?_set_ne (Ne.symm hi)]
theorem pgi_set {vs : List Value} {i : Nat} {x : Int32} (h : i < vs.length) : upd (pgi vs) i x = pgi (vs.set i (.int x)) := by
  funext j
  by_cases hj : j = i
  · subst hj
    simp [upd, pgi, h]
  · simp [upd, pgi, hj, List.getElem?_set_ne (Ne.symm hj)]
theorem pgl_set {vs : List Value} {i : Nat} {x : Int64} (h : i < vs.length) : vp_updL (pgl vs) i x = pgl (vs.set i (.long x)) := by
  funext j
  by_cases hj : j = i
  · subst hj
    simp [vp_updL, pgl, h]
  · simp [vp_updL, pgl, hj, List.getElem?_set_ne (Ne.symm hj)]
theorem pgr_set {ad : Nat → Nat} {vs : List Value} {i k : Nat} (h : i < vs.length) : va_up (pgr ad vs) i (some (ad k)) = pgr ad (vs.set i (.ref k)) := by
  funext j
  by_cases hj : j = i
  · subst hj
    simp [va_up, pgr, h]
  · simp [va_up, pgr, hj, List.getElem?_set_ne (Ne.symm hj)]
theorem pmap_set (ad : Nat → Nat) (fs : List Value) (k : Nat) (v : Value) : (fs.map (pz ad)).set k (pz ad v) = (fs.set k v).map (pz ad) := by rw [List.map_set]
/-- locals: what is known of them; all of category 1 -/
def plo (ad : Nat → Nat) (ls : Array Slot) (nL : Nat) (L : pL) : Prop := ls.size = nL ∧ lv_wf ls ∧ ∀ (i : Nat) (v : Value), L[i]? = some (some v) → ls[i]? = some (.val (pz ad v)) ∧ v.category = 1
def pas (ad : Nat → Nat) (L : pL) : List (Nat × Value) := (List.range L.length).filterMap (fun i => match L[i]? with
  | some (some v) => some (i, pz ad v)
  | _ => none)
theorem pas_mem {ad : Nat → Nat} {L : pL} {q : Nat × Value} (h : q ∈ pas ad L) : ∃ v, L[q.1]? = some (some v) ∧ q.2 = pz ad v := by
  obtain ⟨i, -, hi⟩ := List.mem_filterMap.mp h
  cases hL : L[i]? with
  | none => rw [hL] at hi; cases hi
  | some o =>
    cases o with
    | none => rw [hL] at hi; cases hi
    | some v => rw [hL] at hi; cases hi; exact ⟨v, hL, rfl⟩
theorem pas_in {ad : Nat → Nat} {L : pL} {i : Nat} {v : Value} (h : L[i]? = some (some v)) : (i, pz ad v) ∈ pas ad L := by
  refine List.mem_filterMap.mpr ⟨i, List.mem_range.mpr (List.getElem?_eq_some_iff.mp h).1, ?_⟩
  rw [h]
theorem plo_has {ad : Nat → Nat} {ls : Array Slot} {nL : Nat} {L : pL} (h : plo ad ls nL L) : lv_has ls nL (pas ad L) := by
  refine ⟨h.1, h.2.1, fun q hq => ?_⟩
  obtain ⟨v, h1, h2⟩ := pas_mem hq
  rw [h2]
  exact (h.2.2 _ _ h1).1
theorem plo_store {ad : Nat → Nat} {ls ls' : Array Slot} {nL : Nat} {L : pL} {i : Nat} {v : Value} (h : plo ad ls nL L) (hc : v.category = 1)
    (h' : lv_has ls' nL ((i, pz ad v) :: (pas ad L).filter (fun q => !(q.1 == i) && !(q.1 + 1 == i && q.2.category == 2)))) : plo ad ls' nL (L.set i (some v)) := by
  refine ⟨h'.1, h'.2.1, fun j w hj => ?_⟩
  by_cases hji : j = i
  · subst hji
    have hl : j < (L.set j (some v)).length := (List.getElem?_eq_some_iff.mp hj).1
    rw [List.getElem?_set_self (by simpa using hl)] at hj
    cases hj
    exact ⟨h'.2.2 _ List.mem_cons_self, hc⟩
  · rw [List.getElem?_set_ne (Ne.symm hji)] at hj
    obtain ⟨-, hw⟩ := h.2.2 j w hj
    refine ⟨h'.2.2 (j, pz ad w) (List.mem_cons_of_mem _ (List.mem_filter.mpr ⟨pas_in hj, ?_⟩)), hw⟩
    simp [hji, pz_cat, hw]
theorem plo_forget {ad : Nat → Nat} {ls : Array Slot} {nL : Nat} {L L' : pL} (h : plo ad ls nL L) (hs : ∀ (i : Nat) (v : Value), L'[i]? = some (some v) → L[i]? = some (some v)) : plo ad ls nL L' := ⟨h.1, h.2.1, fun i v hv => h.2.2 i v (hs i v hv)⟩
end
section
/-! THE PURE MACHINE: a method's walk over pure cells; every machine that bears the method is meant -/
abbrev pK : Type := String × ByteArray × Nat × List Cond × Room × Option FieldType × List ExceptionTableEntry × Nat × Nat
abbrev pK.own (k : pK) : String := k.1
abbrev pK.cc (k : pK) : ByteArray := k.2.1
abbrev pK.nL (k : pK) : Nat := k.2.2.1
abbrev pK.Ts (k : pK) : List Cond := k.2.2.2.1
abbrev pK.R (k : pK) : Room := k.2.2.2.2.1
abbrev pK.ret (k : pK) : Option FieldType := k.2.2.2.2.2.1
abbrev pK.hh (k : pK) : List ExceptionTableEntry := k.2.2.2.2.2.2.1
abbrev pK.mc (k : pK) : Nat := k.2.2.2.2.2.2.2.1
abbrev pK.ms (k : pK) : Nat := k.2.2.2.2.2.2.2.2
abbrev ptys (cA : Nat → ClassId) : List (ClassId × FieldType) := [(cA 0, .int), (cA 1, .long), (cA 2, .boolean), (cA 3, .object RX2), (cA 4, .object RX1), (cA 5, .array .int)]
/-- the exceptions' names, and the texts that the desk throws -/
def pEx : List String := ["java/lang/IllegalArgumentException", "java/lang/IllegalStateException", "java/lang/IndexOutOfBoundsException"]
def pTx : List (Nat × String) := [(59, "the line is off the hook"), (82, "the line is on the hook"), (104, "the line can not camp"), (109, "the line does not talk, or the place is not free"), (118, "the line does not talk"), (149, "the group is full"), (162, "the slot is in use"), (199, "no such entry is kept"), (207, "an argument is not in its range")]
/-- what every state of the run says: it stays true as tables warm -/
def pV (l : Launch) (D : va_G) (cA : Nat → ClassId) (U : State) : Prop := l.stackTraces = false ∧ va_K D vwCl (ptys cA) U ∧ (∀ X ∈ pEx, va_Nw (.castable X X) U) ∧ ∀ q ∈ pTx, ∃ a : Nat, vk_R RX4 q.1 q.2 a U
theorem pV.warm {l : Launch} {D : va_G} {cA : Nat → ClassId} {s U : State} (hW : s.WarmedH U.vm) (h : pV l D cA s) : pV l D cA U :=
  ⟨h.1, va_K.moved hW.alike h.2.1, fun X hX => va_Nw.warmC hW (h.2.2.1 X hX), fun q hq => by
    obtain ⟨a, ha⟩ := h.2.2.2 q hq
    exact ⟨a, vk_R.warm hW ha⟩⟩
def pZs (A : Nat → Prop) (U : State) (H : Heap) : Prop := vx_Zq Bundle.tN "UNASSIGNED_STACK" Bundle.steD A U H ∧ vx_Zq Bundle.tN "SUPPRESSED_SENTINEL" Bundle.listD A U H
def pX (k : pK) (al : Bool) (n0 : Nat) (p : Program) (l : Launch) (s : State) (m : MethodId) (args : Array Value) (meth : Method) (c : Code) (D : va_G) (cA : Nat → ClassId) (ad : Nat → Nat) (A : Nat → Prop) : Prop :=
  p.tables.exec = Jvm.exec ∧ c.code = k.cc ∧ c.maxLocals = k.nL ∧ s.vm.findClass k.own = some m.cls ∧ (∀ w ∈ k.Ts, w.before args s = true) ∧ meth.locks = false ∧ meth.sig.returnType = k.ret ∧ c.exceptionTable.toList = k.hh ∧ pV l D cA s ∧ pZs A s s.heap ∧
  (∀ q : Nat, s.heap.size ≤ q → A q) ∧ (al = true → ∀ j : Nat, n0 ≤ j → ad j = s.heap.size + (j - n0))
def pH (D : va_G) (cA : Nat → ClassId) (ad : Nat → Nat) (A : Nat → Prop) (s : State) (mem : pM) (H : Heap) (locs : List Loc) : Prop :=
  va_P D vwCl (pw cA ad mem) H ∧ va_D A (pw cA ad mem) ∧ va_S A s.heap H locs
abbrev pP : Type := Option Value → pM → Prop
abbrev pT : Type := String → pM → Prop
def pQ (D : va_G) (cA : Nat → ClassId) (ad : Nat → Nat) (A : Nat → Prop) (P : pP) : Array Value → State → Outcome → State → Prop := fun _ st o t =>
  (∃ (v : Option Value) (mem : pM), P v mem ∧ o = .returned (v.map (pz ad)) ∧ va_P D vwCl (pw cA ad mem) t.heap ∧ va_D A (pw cA ad mem)) ∧ va_F A st t
def pXC (D : va_G) (cA : Nat → ClassId) (ad : Nat → Nat) (A : Nat → Prop) (T : pT) : String → State → State → Prop := fun E st t =>
  (∃ mem : pM, T E mem ∧ va_P D vwCl (pw cA ad mem) t.heap ∧ va_D A (pw cA ad mem)) ∧ va_F A st t
/-- from this place the method comes to its end -/
def PW (k : pK) (al : Bool) (n0 : Nat) (P : pP) (T : pT) (pc : Nat) (L : pL) (st : List Value) (mem : pM) (cells slots : Nat) : Prop :=
  ∀ (p : Program) (l : Launch) (e : Env) (s : State) (m : MethodId) (args : Array Value) (below : List Frame) (meth : Method) (c : Code) (D : va_G) (cA : Nat → ClassId) (ad : Nat → Nat) (A : Nat → Prop), pX k al n0 p l s m args meth c D cA ad A →
    ∀ (H : Heap) (locs : List Loc) (ls : Array Slot), pH D cA ad A s mem H locs → plo ad ls k.nL L →
      W p l e k.R s m args below meth c H locs cells slots (vx_MQ below (pQ D cA ad A P) (pXC D cA ad A T) args s k.mc k.ms A) (F0 m pc ls (st.map (pz ad)))
/-- an exception of kind E stands over this place -/
def PT (k : pK) (al : Bool) (n0 : Nat) (P : pP) (T : pT) (E : String) (pc : Nat) (L : pL) (st : List Value) (mem : pM) (cells slots : Nat) : Prop :=
  ∀ (p : Program) (l : Launch) (e : Env) (s : State) (m : MethodId) (args : Array Value) (below : List Frame) (meth : Method) (c : Code) (D : va_G) (cA : Nat → ClassId) (ad : Nat → Nat) (A : Nat → Prop), pX k al n0 p l s m args meth c D cA ad A →
    ∀ (H : Heap) (locs : List Loc) (ls : Array Slot), va_P D vwCl (pw cA ad mem) H → va_D A (pw cA ad mem) → va_S A s.heap H locs → plo ad ls k.nL L → ∀ (q : Addr) (ce : Cell), H[q]? = some ce → ce.vm = .none → s.vm.findClass E = some ce.cls →
      vx_W p l e k.R s m args below meth c H locs cells slots (vx_MQ below (pQ D cA ad A P) (pXC D cA ad A T) args s k.mc k.ms A) (F0 m pc ls (st.map (pz ad))) q
section R1
variable {k : pK} {al : Bool} {n0 : Nat} {P : pP} {T : pT} {pc : Nat} {L : pL} {st : List Value} {mem : pM} {cells slots : Nat}
theorem PW.iconst {n : Int} {v : Int32} (d : decode k.cc pc = .ok (.iconst n, 1)) (hv : Int32.ofInt n = v) (kk : PW k al n0 P T (pc + 1) L (.int v :: st) mem cells slots) : PW k al n0 P T pc L st mem cells slots :=
  fun p l e s m args below meth c D cA ad A X H locs ls hH hl => lv_iconst X.1 X.2.1 d hv (kk p l e s m args below meth c D cA ad A X H locs ls hH hl)
theorem PW.bipush {n : Int} {v : Int32} (d : decode k.cc pc = .ok (.bipush n, 2)) (hv : (Int8.ofInt n).toInt32 = v) (kk : PW k al n0 P T (pc + 2) L (.int v :: st) mem cells slots) : PW k al n0 P T pc L st mem cells slots :=
  fun p l e s m args below meth c D cA ad A X H locs ls hH hl => lv_bipush X.1 X.2.1 d hv (kk p l e s m args below meth c D cA ad A X H locs ls hH hl)
theorem PW.sipush {n : Int} {v : Int32} (d : decode k.cc pc = .ok (.sipush n, 3)) (hv : (Int16.ofInt n).toInt32 = v) (kk : PW k al n0 P T (pc + 3) L (.int v :: st) mem cells slots) : PW k al n0 P T pc L st mem cells slots :=
  fun p l e s m args below meth c D cA ad A X H locs ls hH hl => lv_sipush X.1 X.2.1 d hv (kk p l e s m args below meth c D cA ad A X H locs ls hH hl)
theorem PW.ldc {i : Nat} {v : Int32} (d : decode k.cc pc = .ok (.ldc i, 2)) (hw : Cond.constant k.own i v ∈ k.Ts) (kk : PW k al n0 P T (pc + 2) L (.int v :: st) mem cells slots) : PW k al n0 P T pc L st mem cells slots :=
  fun p l e s m args below meth c D cA ad A X H locs ls hH hl => lv_ldc X.1 X.2.1 X.2.2.2.1 (X.2.2.2.2.1 _ hw) d (kk p l e s m args below meth c D cA ad A X H locs ls hH hl)
theorem PW.null (d : decode k.cc pc = .ok (.aconst_null, 1)) (kk : PW k al n0 P T (pc + 1) L (.null :: st) mem cells slots) : PW k al n0 P T pc L st mem cells slots :=
  fun p l e s m args below meth c D cA ad A X H locs ls hH hl => lv_null X.1 X.2.1 d (kk p l e s m args below meth c D cA ad A X H locs ls hH hl)
theorem PW.iload_n {j : Fin 4} {i : Nat} {x : Int32} (d : decode k.cc pc = .ok (.iload_n j, 1)) (hi : (j : Nat) = i) (hL : L[i]? = some (some (.int x))) (kk : PW k al n0 P T (pc + 1) L (.int x :: st) mem cells slots) : PW k al n0 P T pc L st mem cells slots :=
  fun p l e s m args below meth c D cA ad A X H locs ls hH hl => lv_iload_n X.1 X.2.1 d hi (hl.2.2 _ _ hL).1 (kk p l e s m args below meth c D cA ad A X H locs ls hH hl)
theorem PW.iload {i : Nat} {x : Int32} (d : decode k.cc pc = .ok (.iload i, 2)) (hL : L[i]? = some (some (.int x))) (kk : PW k al n0 P T (pc + 2) L (.int x :: st) mem cells slots) : PW k al n0 P T pc L st mem cells slots :=
  fun p l e s m args below meth c D cA ad A X H locs ls hH hl => lv_iload X.1 X.2.1 d (hl.2.2 _ _ hL).1 (kk p l e s m args below meth c D cA ad A X H locs ls hH hl)
theorem PW.aload_n {j : Fin 4} {i x : Nat} (d : decode k.cc pc = .ok (.aload_n j, 1)) (hi : (j : Nat) = i) (hL : L[i]? = some (some (.ref x))) (kk : PW k al n0 P T (pc + 1) L (.ref x :: st) mem cells slots) : PW k al n0 P T pc L st mem cells slots :=
  fun p l e s m args below meth c D cA ad A X H locs ls hH hl => lv_aload_n X.1 X.2.1 d hi (hl.2.2 _ _ hL).1 (kk p l e s m args below meth c D cA ad A X H locs ls hH hl)
theorem PW.aload {i x : Nat} (d : decode k.cc pc = .ok (.aload i, 2)) (hL : L[i]? = some (some (.ref x))) (kk : PW k al n0 P T (pc + 2) L (.ref x :: st) mem cells slots) : PW k al n0 P T pc L st mem cells slots :=
  fun p l e s m args below meth c D cA ad A X H locs ls hH hl => lv_aload X.1 X.2.1 d (hl.2.2 _ _ hL).1 (kk p l e s m args below meth c D cA ad A X H locs ls hH hl)
theorem PW.aload_nN {j : Fin 4} {i : Nat} (d : decode k.cc pc = .ok (.aload_n j, 1)) (hi : (j : Nat) = i) (hL : L[i]? = some (some .null)) (kk : PW k al n0 P T (pc + 1) L (.null :: st) mem cells slots) : PW k al n0 P T pc L st mem cells slots :=
  fun p l e s m args below meth c D cA ad A X H locs ls hH hl => lv_aload_nN X.1 X.2.1 d hi (hl.2.2 _ _ hL).1 (kk p l e s m args below meth c D cA ad A X H locs ls hH hl)
theorem PW.istore_n {j : Fin 4} {i : Nat} {x : Int32} {L' : pL} (d : decode k.cc pc = .ok (.istore_n j, 1)) (hi : (j : Nat) = i) (hn : i < k.nL) (hL : L.set i (some (.int x)) = L') (kk : PW k al n0 P T (pc + 1) L' st mem cells slots) : PW k al n0 P T pc L (.int x :: st) mem cells slots :=
  fun p l e s m args below meth c D cA ad A X H locs ls hH hl => lv_istore_n X.1 X.2.1 d hi (plo_has hl) hn rfl (fun ls' h' => kk p l e s m args below meth c D cA ad A X H locs ls' hH (by rw [← hL]; exact plo_store hl rfl h'))
theorem PW.istore {i : Nat} {x : Int32} {L' : pL} (d : decode k.cc pc = .ok (.istore i, 2)) (hn : i < k.nL) (hL : L.set i (some (.int x)) = L') (kk : PW k al n0 P T (pc + 2) L' st mem cells slots) : PW k al n0 P T pc L (.int x :: st) mem cells slots :=
  fun p l e s m args below meth c D cA ad A X H locs ls hH hl => lv_istore X.1 X.2.1 d (plo_has hl) hn rfl (fun ls' h' => kk p l e s m args below meth c D cA ad A X H locs ls' hH (by rw [← hL]; exact plo_store hl rfl h'))
theorem PW.astore_n {j : Fin 4} {i x : Nat} {L' : pL} (d : decode k.cc pc = .ok (.astore_n j, 1)) (hi : (j : Nat) = i) (hn : i < k.nL) (hL : L.set i (some (.ref x)) = L') (kk : PW k al n0 P T (pc + 1) L' st mem cells slots) : PW k al n0 P T pc L (.ref x :: st) mem cells slots :=
  fun p l e s m args below meth c D cA ad A X H locs ls hH hl => lv_astore_n X.1 X.2.1 d hi (plo_has hl) hn rfl (fun ls' h' => kk p l e s m args below meth c D cA ad A X H locs ls' hH (by rw [← hL]; exact plo_store (v := .ref x) hl rfl h'))
theorem PW.astore {i x : Nat} {L' : pL} (d : decode k.cc pc = .ok (.astore i, 2)) (hn : i < k.nL) (hL : L.set i (some (.ref x)) = L') (kk : PW k al n0 P T (pc + 2) L' st mem cells slots) : PW k al n0 P T pc L (.ref x :: st) mem cells slots :=
  fun p l e s m args below meth c D cA ad A X H locs ls hH hl => lv_astore X.1 X.2.1 d (plo_has hl) hn rfl (fun ls' h' => kk p l e s m args below meth c D cA ad A X H locs ls' hH (by rw [← hL]; exact plo_store (v := .ref x) hl rfl h'))
theorem PW.astore_nN {j : Fin 4} {i : Nat} {L' : pL} (d : decode k.cc pc = .ok (.astore_n j, 1)) (hi : (j : Nat) = i) (hn : i < k.nL) (hL : L.set i (some .null) = L') (kk : PW k al n0 P T (pc + 1) L' st mem cells slots) : PW k al n0 P T pc L (.null :: st) mem cells slots :=
  fun p l e s m args below meth c D cA ad A X H locs ls hH hl => lv_astore_nN X.1 X.2.1 d hi (plo_has hl) hn rfl (fun ls' h' => kk p l e s m args below meth c D cA ad A X H locs ls' hH (by rw [← hL]; exact plo_store (v := .null) hl rfl h'))
theorem PW.iinc {i : Nat} {n : Int} {x v : Int32} {L' : pL} (d : decode k.cc pc = .ok (.iinc i n, 3)) (hx : L[i]? = some (some (.int x))) (hv : x + Int32.ofInt n = v) (hn : i < k.nL) (hL : L.set i (some (.int v)) = L') (kk : PW k al n0 P T (pc + 3) L' st mem cells slots) : PW k al n0 P T pc L st mem cells slots := by
  intro p l e s m args below meth c D cA ad A X H locs ls hH hl
  obtain ⟨j, hj⟩ := List.getElem?_of_mem (pas_in (ad := ad) hx)
  exact lv_iinc (x := x) X.1 X.2.1 d (plo_has hl) hj hv hn rfl (fun ls' h' => kk p l e s m args below meth c D cA ad A X H locs ls' hH (by rw [← hL]; exact plo_store hl rfl h'))
theorem PW.iadd {x y : Int32} (d : decode k.cc pc = .ok (.iadd, 1)) (kk : PW k al n0 P T (pc + 1) L (.int (x + y) :: st) mem cells slots) : PW k al n0 P T pc L (.int y :: .int x :: st) mem cells slots :=
  fun p l e s m args below meth c D cA ad A X H locs ls hH hl => lv_iadd X.1 X.2.1 d (kk p l e s m args below meth c D cA ad A X H locs ls hH hl)
theorem PW.isub {x y : Int32} (d : decode k.cc pc = .ok (.isub, 1)) (kk : PW k al n0 P T (pc + 1) L (.int (x - y) :: st) mem cells slots) : PW k al n0 P T pc L (.int y :: .int x :: st) mem cells slots :=
  fun p l e s m args below meth c D cA ad A X H locs ls hH hl => lv_isub X.1 X.2.1 d (kk p l e s m args below meth c D cA ad A X H locs ls hH hl)
theorem PW.imul {x y : Int32} (d : decode k.cc pc = .ok (.imul, 1)) (kk : PW k al n0 P T (pc + 1) L (.int (x * y) :: st) mem cells slots) : PW k al n0 P T pc L (.int y :: .int x :: st) mem cells slots :=
  fun p l e s m args below meth c D cA ad A X H locs ls hH hl => lv_imul X.1 X.2.1 d (kk p l e s m args below meth c D cA ad A X H locs ls hH hl)
theorem PW.iand {x y : Int32} (d : decode k.cc pc = .ok (.iand, 1)) (kk : PW k al n0 P T (pc + 1) L (.int (x &&& y) :: st) mem cells slots) : PW k al n0 P T pc L (.int y :: .int x :: st) mem cells slots :=
  fun p l e s m args below meth c D cA ad A X H locs ls hH hl => lv_iand X.1 X.2.1 d (kk p l e s m args below meth c D cA ad A X H locs ls hH hl)
theorem PW.idiv {x y : Int32} (d : decode k.cc pc = .ok (.idiv, 1)) (hne : ¬ y = 0) (kk : PW k al n0 P T (pc + 1) L (.int (x / y) :: st) mem cells slots) : PW k al n0 P T pc L (.int y :: .int x :: st) mem cells slots :=
  fun p l e s m args below meth c D cA ad A X H locs ls hH hl => lv_idiv X.1 X.2.1 d hne (kk p l e s m args below meth c D cA ad A X H locs ls hH hl)
theorem PW.irem {x y : Int32} (d : decode k.cc pc = .ok (.irem, 1)) (hne : ¬ y = 0) (kk : PW k al n0 P T (pc + 1) L (.int (x - x / y * y) :: st) mem cells slots) : PW k al n0 P T pc L (.int y :: .int x :: st) mem cells slots :=
  fun p l e s m args below meth c D cA ad A X H locs ls hH hl => lv_irem X.1 X.2.1 d hne (kk p l e s m args below meth c D cA ad A X H locs ls hH hl)
theorem PW.dup {v : Value} (d : decode k.cc pc = .ok (.dup, 1)) (hv : v.category = 1) (kk : PW k al n0 P T (pc + 1) L (v :: v :: st) mem cells slots) : PW k al n0 P T pc L (v :: st) mem cells slots :=
  fun p l e s m args below meth c D cA ad A X H locs ls hH hl => lv_dup X.1 X.2.1 d (by rw [pz_cat]; exact hv) (kk p l e s m args below meth c D cA ad A X H locs ls hH hl)
theorem PW.dup2 {v w : Value} (d : decode k.cc pc = .ok (.dup2, 1)) (hv : v.category = 1) (hw : w.category = 1) (kk : PW k al n0 P T (pc + 1) L (v :: w :: v :: w :: st) mem cells slots) : PW k al n0 P T pc L (v :: w :: st) mem cells slots :=
  fun p l e s m args below meth c D cA ad A X H locs ls hH hl => lv_dup2_11 X.1 X.2.1 d (by rw [pz_cat]; exact hv) (by rw [pz_cat]; exact hw) (kk p l e s m args below meth c D cA ad A X H locs ls hH hl)
theorem PW.dup_x1 {v w : Value} (d : decode k.cc pc = .ok (.dup_x1, 1)) (hv : v.category = 1) (hw : w.category = 1) (kk : PW k al n0 P T (pc + 1) L (v :: w :: v :: st) mem cells slots) : PW k al n0 P T pc L (v :: w :: st) mem cells slots :=
  fun p l e s m args below meth c D cA ad A X H locs ls hH hl => lv_dup_x1 X.1 X.2.1 d (by rw [pz_cat]; exact hv) (by rw [pz_cat]; exact hw) (kk p l e s m args below meth c D cA ad A X H locs ls hH hl)
theorem PW.pop {v : Value} (d : decode k.cc pc = .ok (.pop, 1)) (hv : v.category = 1) (kk : PW k al n0 P T (pc + 1) L st mem cells slots) : PW k al n0 P T pc L (v :: st) mem cells slots :=
  fun p l e s m args below meth c D cA ad A X H locs ls hH hl => lv_pop X.1 X.2.1 d (by rw [pz_cat]; exact hv) (kk p l e s m args below meth c D cA ad A X H locs ls hH hl)
theorem PW.goto {off : Int} {tgt : Nat} (d : decode k.cc pc = .ok (.goto off, 3)) (ht : (pc : Int) + off = (tgt : Int)) (kk : PW k al n0 P T tgt L st mem cells slots) : PW k al n0 P T pc L st mem cells slots :=
  fun p l e s m args below meth c D cA ad A X H locs ls hH hl => lv_goto X.1 X.2.1 d ht (kk p l e s m args below meth c D cA ad A X H locs ls hH hl)
theorem PW.widen {c' s' : Nat} (h1 : cells ≤ c') (h2 : slots ≤ s') (kk : PW k al n0 P T pc L st mem c' s') : PW k al n0 P T pc L st mem cells slots :=
  fun p l e s m args below meth c D cA ad A X H locs ls hH hl => W.widen h1 h2 (kk p l e s m args below meth c D cA ad A X H locs ls hH hl)
theorem PW.forget {L' : pL} (hs : ∀ (i : Nat) (v : Value), L'[i]? = some (some v) → L[i]? = some (some v)) (kk : PW k al n0 P T pc L' st mem cells slots) : PW k al n0 P T pc L st mem cells slots :=
  fun p l e s m args below meth c D cA ad A X H locs ls hH hl => kk p l e s m args below meth c D cA ad A X H locs ls hH (plo_forget hl hs)
theorem PW.if_eq {x : Int32} {off : Int} {tgt : Nat} (d : decode k.cc pc = .ok (.ifCond .eq off, 3)) (ht : (pc : Int) + off = (tgt : Int)) (kt : x = 0 → PW k al n0 P T tgt L st mem cells slots) (kf : ¬ x = 0 → PW k al n0 P T (pc + 3) L st mem cells slots) : PW k al n0 P T pc L (.int x :: st) mem cells slots :=
  fun p l e s m args below meth c D cA ad A X H locs ls hH hl => lv_if_eq X.1 X.2.1 d ht (fun h => kt h p l e s m args below meth c D cA ad A X H locs ls hH hl) (fun h => kf h p l e s m args below meth c D cA ad A X H locs ls hH hl)
theorem PW.if_ne {x : Int32} {off : Int} {tgt : Nat} (d : decode k.cc pc = .ok (.ifCond .ne off, 3)) (ht : (pc : Int) + off = (tgt : Int)) (kt : ¬ x = 0 → PW k al n0 P T tgt L st mem cells slots) (kf : x = 0 → PW k al n0 P T (pc + 3) L st mem cells slots) : PW k al n0 P T pc L (.int x :: st) mem cells slots :=
  fun p l e s m args below meth c D cA ad A X H locs ls hH hl => lv_if_ne X.1 X.2.1 d ht (fun h => kt h p l e s m args below meth c D cA ad A X H locs ls hH hl) (fun h => kf h p l e s m args below meth c D cA ad A X H locs ls hH hl)
theorem PW.if_lt {x : Int32} {off : Int} {tgt : Nat} (d : decode k.cc pc = .ok (.ifCond .lt off, 3)) (ht : (pc : Int) + off = (tgt : Int)) (kt : x < 0 → PW k al n0 P T tgt L st mem cells slots) (kf : ¬ x < 0 → PW k al n0 P T (pc + 3) L st mem cells slots) : PW k al n0 P T pc L (.int x :: st) mem cells slots :=
  fun p l e s m args below meth c D cA ad A X H locs ls hH hl => lv_if_lt X.1 X.2.1 d ht (fun h => kt h p l e s m args below meth c D cA ad A X H locs ls hH hl) (fun h => kf h p l e s m args below meth c D cA ad A X H locs ls hH hl)
theorem PW.if_ge {x : Int32} {off : Int} {tgt : Nat} (d : decode k.cc pc = .ok (.ifCond .ge off, 3)) (ht : (pc : Int) + off = (tgt : Int)) (kt : 0 ≤ x → PW k al n0 P T tgt L st mem cells slots) (kf : ¬ 0 ≤ x → PW k al n0 P T (pc + 3) L st mem cells slots) : PW k al n0 P T pc L (.int x :: st) mem cells slots :=
  fun p l e s m args below meth c D cA ad A X H locs ls hH hl => lv_if_ge X.1 X.2.1 d ht (fun h => kt h p l e s m args below meth c D cA ad A X H locs ls hH hl) (fun h => kf h p l e s m args below meth c D cA ad A X H locs ls hH hl)
theorem PW.if_gt {x : Int32} {off : Int} {tgt : Nat} (d : decode k.cc pc = .ok (.ifCond .gt off, 3)) (ht : (pc : Int) + off = (tgt : Int)) (kt : 0 < x → PW k al n0 P T tgt L st mem cells slots) (kf : ¬ 0 < x → PW k al n0 P T (pc + 3) L st mem cells slots) : PW k al n0 P T pc L (.int x :: st) mem cells slots :=
  fun p l e s m args below meth c D cA ad A X H locs ls hH hl => lv_if_gt X.1 X.2.1 d ht (fun h => kt h p l e s m args below meth c D cA ad A X H locs ls hH hl) (fun h => kf h p l e s m args below meth c D cA ad A X H locs ls hH hl)
theorem PW.if_le {x : Int32} {off : Int} {tgt : Nat} (d : decode k.cc pc = .ok (.ifCond .le off, 3)) (ht : (pc : Int) + off = (tgt : Int)) (kt : x ≤ 0 → PW k al n0 P T tgt L st mem cells slots) (kf : ¬ x ≤ 0 → PW k al n0 P T (pc + 3) L st mem cells slots) : PW k al n0 P T pc L (.int x :: st) mem cells slots :=
  fun p l e s m args below meth c D cA ad A X H locs ls hH hl => lv_if_le X.1 X.2.1 d ht (fun h => kt h p l e s m args below meth c D cA ad A X H locs ls hH hl) (fun h => kf h p l e s m args below meth c D cA ad A X H locs ls hH hl)
theorem PW.icmp_eq {x y : Int32} {off : Int} {tgt : Nat} (d : decode k.cc pc = .ok (.if_icmp .eq off, 3)) (ht : (pc : Int) + off = (tgt : Int)) (kt : x = y → PW k al n0 P T tgt L st mem cells slots) (kf : ¬ x = y → PW k al n0 P T (pc + 3) L st mem cells slots) : PW k al n0 P T pc L (.int y :: .int x :: st) mem cells slots :=
  fun p l e s m args below meth c D cA ad A X H locs ls hH hl => lv_icmp_eq X.1 X.2.1 d ht (fun h => kt h p l e s m args below meth c D cA ad A X H locs ls hH hl) (fun h => kf h p l e s m args below meth c D cA ad A X H locs ls hH hl)
theorem PW.icmp_ne {x y : Int32} {off : Int} {tgt : Nat} (d : decode k.cc pc = .ok (.if_icmp .ne off, 3)) (ht : (pc : Int) + off = (tgt : Int)) (kt : ¬ x = y → PW k al n0 P T tgt L st mem cells slots) (kf : x = y → PW k al n0 P T (pc + 3) L st mem cells slots) : PW k al n0 P T pc L (.int y :: .int x :: st) mem cells slots :=
  fun p l e s m args below meth c D cA ad A X H locs ls hH hl => lv_icmp_ne X.1 X.2.1 d ht (fun h => kt h p l e s m args below meth c D cA ad A X H locs ls hH hl) (fun h => kf h p l e s m args below meth c D cA ad A X H locs ls hH hl)
theorem PW.icmp_lt {x y : Int32} {off : Int} {tgt : Nat} (d : decode k.cc pc = .ok (.if_icmp .lt off, 3)) (ht : (pc : Int) + off = (tgt : Int)) (kt : x < y → PW k al n0 P T tgt L st mem cells slots) (kf : ¬ x < y → PW k al n0 P T (pc + 3) L st mem cells slots) : PW k al n0 P T pc L (.int y :: .int x :: st) mem cells slots :=
  fun p l e s m args below meth c D cA ad A X H locs ls hH hl => lv_icmp_lt X.1 X.2.1 d ht (fun h => kt h p l e s m args below meth c D cA ad A X H locs ls hH hl) (fun h => kf h p l e s m args below meth c D cA ad A X H locs ls hH hl)
theorem PW.icmp_ge {x y : Int32} {off : Int} {tgt : Nat} (d : decode k.cc pc = .ok (.if_icmp .ge off, 3)) (ht : (pc : Int) + off = (tgt : Int)) (kt : y ≤ x → PW k al n0 P T tgt L st mem cells slots) (kf : ¬ y ≤ x → PW k al n0 P T (pc + 3) L st mem cells slots) : PW k al n0 P T pc L (.int y :: .int x :: st) mem cells slots :=
  fun p l e s m args below meth c D cA ad A X H locs ls hH hl => lv_icmp_ge X.1 X.2.1 d ht (fun h => kt h p l e s m args below meth c D cA ad A X H locs ls hH hl) (fun h => kf h p l e s m args below meth c D cA ad A X H locs ls hH hl)
theorem PW.icmp_gt {x y : Int32} {off : Int} {tgt : Nat} (d : decode k.cc pc = .ok (.if_icmp .gt off, 3)) (ht : (pc : Int) + off = (tgt : Int)) (kt : y < x → PW k al n0 P T tgt L st mem cells slots) (kf : ¬ y < x → PW k al n0 P T (pc + 3) L st mem cells slots) : PW k al n0 P T pc L (.int y :: .int x :: st) mem cells slots :=
  fun p l e s m args below meth c D cA ad A X H locs ls hH hl => lv_icmp_gt X.1 X.2.1 d ht (fun h => kt h p l e s m args below meth c D cA ad A X H locs ls hH hl) (fun h => kf h p l e s m args below meth c D cA ad A X H locs ls hH hl)
theorem PW.icmp_le {x y : Int32} {off : Int} {tgt : Nat} (d : decode k.cc pc = .ok (.if_icmp .le off, 3)) (ht : (pc : Int) + off = (tgt : Int)) (kt : x ≤ y → PW k al n0 P T tgt L st mem cells slots) (kf : ¬ x ≤ y → PW k al n0 P T (pc + 3) L st mem cells slots) : PW k al n0 P T pc L (.int y :: .int x :: st) mem cells slots :=
  fun p l e s m args below meth c D cA ad A X H locs ls hH hl => lv_icmp_le X.1 X.2.1 d ht (fun h => kt h p l e s m args below meth c D cA ad A X H locs ls hH hl) (fun h => kf h p l e s m args below meth c D cA ad A X H locs ls hH hl)
theorem PW.ifnull {x : Nat} {off : Int} (d : decode k.cc pc = .ok (.ifnull off, 3)) (kk : PW k al n0 P T (pc + 3) L st mem cells slots) : PW k al n0 P T pc L (.ref x :: st) mem cells slots :=
  fun p l e s m args below meth c D cA ad A X H locs ls hH hl => lv_ifnull X.1 X.2.1 d (kk p l e s m args below meth c D cA ad A X H locs ls hH hl)
theorem PW.ifnullN {off : Int} {tgt : Nat} (d : decode k.cc pc = .ok (.ifnull off, 3)) (ht : (pc : Int) + off = (tgt : Int)) (kk : PW k al n0 P T tgt L st mem cells slots) : PW k al n0 P T pc L (.null :: st) mem cells slots :=
  fun p l e s m args below meth c D cA ad A X H locs ls hH hl => lv_ifnullN X.1 X.2.1 d ht (kk p l e s m args below meth c D cA ad A X H locs ls hH hl)
theorem PW.ifnonnull {x : Nat} {off : Int} {tgt : Nat} (d : decode k.cc pc = .ok (.ifnonnull off, 3)) (ht : (pc : Int) + off = (tgt : Int)) (kk : PW k al n0 P T tgt L st mem cells slots) : PW k al n0 P T pc L (.ref x :: st) mem cells slots :=
  fun p l e s m args below meth c D cA ad A X H locs ls hH hl => lv_ifnonnull X.1 X.2.1 d ht (kk p l e s m args below meth c D cA ad A X H locs ls hH hl)
theorem PW.ifnonnullN {off : Int} (d : decode k.cc pc = .ok (.ifnonnull off, 3)) (kk : PW k al n0 P T (pc + 3) L st mem cells slots) : PW k al n0 P T pc L (.null :: st) mem cells slots :=
  fun p l e s m args below meth c D cA ad A X H locs ls hH hl => lv_ifnonnullN X.1 X.2.1 d (kk p l e s m args below meth c D cA ad A X H locs ls hH hl)
theorem PW.tableOut {dflt lo hi : Int} {offs : Array Int} {len : Nat} {x : Int32} {tgt : Nat} (d : decode k.cc pc = .ok (.tableswitch dflt lo hi offs, len)) (h : x.toInt < lo ∨ hi < x.toInt) (ht : (pc : Int) + dflt = (tgt : Int)) (kk : PW k al n0 P T tgt L st mem cells slots) : PW k al n0 P T pc L (.int x :: st) mem cells slots :=
  fun p l e s m args below meth c D cA ad A X H locs ls hH hl => lv_tableOut X.1 X.2.1 d h ht (kk p l e s m args below meth c D cA ad A X H locs ls hH hl)
theorem PW.tableIn {dflt lo hi : Int} {offs : Array Int} {len : Nat} {x : Int32} {off : Int} {tgt : Nat} (d : decode k.cc pc = .ok (.tableswitch dflt lo hi offs, len)) (h1 : ¬ x.toInt < lo) (h2 : ¬ hi < x.toInt) (ho : offs[(x.toInt - lo).toNat]? = some off) (ht : (pc : Int) + off = (tgt : Int)) (kk : PW k al n0 P T tgt L st mem cells slots) : PW k al n0 P T pc L (.int x :: st) mem cells slots :=
  fun p l e s m args below meth c D cA ad A X H locs ls hH hl => lv_tableIn X.1 X.2.1 d h1 h2 ho ht (kk p l e s m args below meth c D cA ad A X H locs ls hH hl)
theorem PW.lookup {dflt : Int} {ps : Array (Int × Int)} {len : Nat} {x : Int32} {off : Int} {tgt : Nat} (d : decode k.cc pc = .ok (.lookupswitch dflt ps, len)) (hp : (ps.toList.zip (ps.toList.drop 1)).all (fun (a, next) => a.1 < next.1) = true) (ho : Op.lookupswitch.offset ps.toList dflt x.toInt = off) (ht : (pc : Int) + off = (tgt : Int)) (kk : PW k al n0 P T tgt L st mem cells slots) : PW k al n0 P T pc L (.int x :: st) mem cells slots :=
  fun p l e s m args below meth c D cA ad A X H locs ls hH hl => lv_lookup X.1 X.2.1 d hp ho ht (kk p l e s m args below meth c D cA ad A X H locs ls hH hl)
end R1
end
section
/-- a field that the entry idx of own's pool names: kind ci, place j -/
def pF (Ts : List Cond) (own : String) (idx ci j : Nat) : Prop := ∃ (C : String) (Tb : u_T) (N : Nat), ci < 100 ∧ vwCl[ci]? = some (C, Tb, N) ∧ j < N ∧ (∀ w ∈ u_ws C Tb N, w ∈ Ts) ∧ Cond.fieldLink own idx (Tb j).1 (Tb j).2.1 (Tb j).2.2.1 ∈ Ts
/-- such a field can be written: final or not; its type -/
def pFw (own : String) (ci j : Nat) (fin : Bool) (ty : FieldType) : Prop := ∃ (C : String) (Tb : u_T) (N : Nat) (tyk : Nat → FieldType), vwCl[ci]? = some (C, Tb, N) ∧ (∀ q, q < N → parseFieldDescriptor (Tb q).2.2.1 = some (tyk q)) ∧ (∀ a, a < N → ∀ b, b < N → a ≠ b → (Tb a).2.1 ≠ (Tb b).2.1) ∧ (Tb j).2.2.2 = fin ∧ parseFieldDescriptor (Tb j).2.2.1 = some ty ∧ (fin = true → (Tb j).1 = own)
section R2
variable {k : pK} {al : Bool} {n0 : Nat} {P : pP} {T : pT} {pc : Nat} {L : pL} {st : List Value} {mem : pM} {cells slots : Nat}
theorem PW.getf {idx ci j a : Nat} {fs : List Value} {v : Value} (F : pF k.Ts k.own idx ci j) (d : decode k.cc pc = .ok (.getfield idx, 3)) (hm : mem[a]? = some (ci, fs)) (hv : fs[j]? = some v) (kk : PW k al n0 P T (pc + 3) L (v :: st) mem cells slots) : PW k al n0 P T pc L (.ref a :: st) mem cells slots := by
  intro p l e s m args below meth c D cA ad A X H locs ls hH hl
  obtain ⟨C, Tb, N, hci, hc, hj, hin, hlk⟩ := F
  have he := pw_get (cA := cA) (ad := ad) hm
  rw [pe_o hci] at he
  exact va_get (T := Tb) X.1 X.2.1 X.2.2.2.2.1 hin X.2.2.2.1 X.2.2.2.2.2.2.2.2.1.2.1 hH.1 a he hc j hj (X.2.2.2.2.1 _ hlk) (fun _ h => h) (v := pz ad v) (by rw [List.getElem?_map, hv]; rfl) d (kk p l e s m args below meth c D cA ad A X H locs ls hH hl)
theorem PW.putf {idx ci j a : Nat} {fs : List Value} {v : Value} {ty : FieldType} {mem' : pM} (F : pF k.Ts k.own idx ci j) (Fw : pFw k.own ci j false ty) (d : decode k.cc pc = .ok (.putfield idx, 3)) (hm : mem[a]? = some (ci, fs)) (hj9 : j < fs.length) (hn : ∀ ad : Nat → Nat, narrow ty (pz ad v) = pz ad v) (hf : ∀ ad : Nat → Nat, fits ty (pz ad v) = true) (hm' : mem.set a (ci, fs.set j v) = mem') (kk : PW k al n0 P T (pc + 3) L st mem' cells slots) : PW k al n0 P T pc L (v :: .ref a :: st) mem cells slots := by
  intro p l e s m args below meth c D cA ad A X H locs ls hH hl
  obtain ⟨C, Tb, N, hci, hc, hj, hin, hlk⟩ := F
  obtain ⟨C2, Tb2, N2, tyk, hc2, hty, hnm, hfin, hd, -⟩ := Fw
  cases Option.some.inj (hc.symm.trans hc2)
  have he := pw_get (cA := cA) (ad := ad) hm
  rw [pe_o hci] at he
  refine va_put (T := Tb) X.1 X.2.1 X.2.2.2.2.1 hin tyk hty hnm X.2.2.2.1 X.2.2.2.2.2.2.2.2.1.2.1 hH.1 hH.2.1 hH.2.2 a he hc j hj (X.2.2.2.2.1 _ hlk) (fun _ h => h) hfin hd (hn ad) (hf ad) (by rw [List.length_map]; exact hj9) d (fun H1 locs1 hP1 hD1 hS1 => ?_)
  rw [pmap_set, ← pe_o (cA := cA) hci, pw_set hm, hm'] at hP1 hD1
  exact kk p l e s m args below meth c D cA ad A X H1 locs1 ls ⟨hP1, hD1, hS1⟩ hl
theorem PW.iald {i : Int32} {n a : Nat} {fs : List Value} {x : Int32} (d : decode k.cc pc = .ok (.iaload, 1)) (hm : mem[a]? = some (100, fs)) (hi : i = nI n) (hn : n < 2 ^ 31) (hv : fs[n]? = some (.int x)) (kk : PW k al n0 P T (pc + 1) L (.int x :: st) mem cells slots) : PW k al n0 P T pc L (.int i :: .ref a :: st) mem cells slots := by
  intro p l e s m args below meth c D cA ad A X H locs ls hH hl
  have he := pw_get (cA := cA) (ad := ad) hm
  rw [pe_i] at he
  have hlt : n < fs.length := (List.getElem?_eq_some_iff.mp hv).1
  subst hi
  have hx : pgi fs (nI n).toNatClampNeg = x := by rw [nI_clamp hn]; simp [pgi, hv]
  have hin : vp_in (nI n) fs.length := fun h => by
    rcases h with h | h
    · exact nI_pos hn h
    · rw [nI_clamp hn] at h; omega
  refine va_iald X.1 X.2.1 X.2.2.2.2.2.2.2.2.1.2.1 hH.1 a 0 he rfl hin d ?_
  rw [hx]
  exact kk p l e s m args below meth c D cA ad A X H locs ls hH hl
theorem PW.zald {i : Int32} {n a : Nat} {fs : List Value} {x : Int32} (d : decode k.cc pc = .ok (.baload, 1)) (hm : mem[a]? = some (102, fs)) (hi : i = nI n) (hn : n < 2 ^ 31) (hv : fs[n]? = some (.int x)) (kk : PW k al n0 P T (pc + 1) L (.int x :: st) mem cells slots) : PW k al n0 P T pc L (.int i :: .ref a :: st) mem cells slots := by
  intro p l e s m args below meth c D cA ad A X H locs ls hH hl
  have he := pw_get (cA := cA) (ad := ad) hm
  rw [pe_z] at he
  have hlt : n < fs.length := (List.getElem?_eq_some_iff.mp hv).1
  subst hi
  have hx : pgi fs (nI n).toNatClampNeg = x := by rw [nI_clamp hn]; simp [pgi, hv]
  have hin : vp_in (nI n) fs.length := fun h => by
    rcases h with h | h
    · exact nI_pos hn h
    · rw [nI_clamp hn] at h; omega
  refine va_zald X.1 X.2.1 X.2.2.2.2.2.2.2.2.1.2.1 hH.1 a 2 he rfl hin d ?_
  rw [hx]
  exact kk p l e s m args below meth c D cA ad A X H locs ls hH hl
theorem PW.lald {i : Int32} {n a : Nat} {fs : List Value} {x : Int64} (d : decode k.cc pc = .ok (.laload, 1)) (hm : mem[a]? = some (101, fs)) (hi : i = nI n) (hn : n < 2 ^ 31) (hv : fs[n]? = some (.long x)) (kk : PW k al n0 P T (pc + 1) L (.long x :: st) mem cells slots) : PW k al n0 P T pc L (.int i :: .ref a :: st) mem cells slots := by
  intro p l e s m args below meth c D cA ad A X H locs ls hH hl
  have he := pw_get (cA := cA) (ad := ad) hm
  rw [pe_l] at he
  have hlt : n < fs.length := (List.getElem?_eq_some_iff.mp hv).1
  subst hi
  have hx : pgl fs (nI n).toNatClampNeg = x := by rw [nI_clamp hn]; simp [pgl, hv]
  have hin : vp_in (nI n) fs.length := fun h => by
    rcases h with h | h
    · exact nI_pos hn h
    · rw [nI_clamp hn] at h; omega
  refine va_lald X.1 X.2.1 X.2.2.2.2.2.2.2.2.1.2.1 hH.1 a 1 he rfl hin d ?_
  rw [hx]
  exact kk p l e s m args below meth c D cA ad A X H locs ls hH hl
theorem PW.iast {i : Int32} {n a : Nat} {fs : List Value} {x : Int32} {mem' : pM} (d : decode k.cc pc = .ok (.iastore, 1)) (hm : mem[a]? = some (100, fs)) (hi : i = nI n) (hn : n < 2 ^ 31) (hlt : n < fs.length) (hm' : mem.set a (100, fs.set n (.int x)) = mem') (kk : PW k al n0 P T (pc + 1) L st mem' cells slots) : PW k al n0 P T pc L (.int x :: .int i :: .ref a :: st) mem cells slots := by
  intro p l e s m args below meth c D cA ad A X H locs ls hH hl
  have he := pw_get (cA := cA) (ad := ad) hm
  rw [pe_i] at he
  subst hi
  have hin : vp_in (nI n) fs.length := fun h => by
    rcases h with h | h
    · exact nI_pos hn h
    · rw [nI_clamp hn] at h; omega
  refine va_iast X.1 X.2.1 X.2.2.2.2.2.2.2.2.1.2.1 hH.1 hH.2.1 hH.2.2 a 0 he rfl hin d (fun H1 locs1 hP1 hD1 hS1 => ?_)
  have e2 : (Sum.inl (cA 0, fs.length, Sum.inl (upd (pgi fs) (nI n).toNatClampNeg x)) : va_E) = pe cA ad (100, fs.set n (.int x)) := by
    rw [nI_clamp hn, pgi_set hlt, pe_i, List.length_set]
  rw [e2, pw_set hm, hm'] at hP1 hD1
  exact kk p l e s m args below meth c D cA ad A X H1 locs1 ls ⟨hP1, hD1, hS1⟩ hl
theorem PW.zast {i : Int32} {n a : Nat} {fs : List Value} {x : Int32} {mem' : pM} (d : decode k.cc pc = .ok (.bastore, 1)) (hm : mem[a]? = some (102, fs)) (hi : i = nI n) (hn : n < 2 ^ 31) (hlt : n < fs.length) (hx : vp_nar .boolean x = x) (hm' : mem.set a (102, fs.set n (.int x)) = mem') (kk : PW k al n0 P T (pc + 1) L st mem' cells slots) : PW k al n0 P T pc L (.int x :: .int i :: .ref a :: st) mem cells slots := by
  intro p l e s m args below meth c D cA ad A X H locs ls hH hl
  have he := pw_get (cA := cA) (ad := ad) hm
  rw [pe_z] at he
  subst hi
  have hin : vp_in (nI n) fs.length := fun h => by
    rcases h with h | h
    · exact nI_pos hn h
    · rw [nI_clamp hn] at h; omega
  refine va_zast X.1 X.2.1 X.2.2.2.2.2.2.2.2.1.2.1 hH.1 hH.2.1 hH.2.2 a 2 he rfl hin d (fun H1 locs1 hP1 hD1 hS1 => ?_)
  have e2 : (Sum.inl (cA 2, fs.length, Sum.inl (upd (pgi fs) (nI n).toNatClampNeg (vp_nar .boolean x))) : va_E) = pe cA ad (102, fs.set n (.int x)) := by
    rw [nI_clamp hn, hx, pgi_set hlt, pe_z, List.length_set]
  rw [e2, pw_set hm, hm'] at hP1 hD1
  exact kk p l e s m args below meth c D cA ad A X H1 locs1 ls ⟨hP1, hD1, hS1⟩ hl
theorem PW.last {i : Int32} {n a : Nat} {fs : List Value} {x : Int64} {mem' : pM} (d : decode k.cc pc = .ok (.lastore, 1)) (hm : mem[a]? = some (101, fs)) (hi : i = nI n) (hn : n < 2 ^ 31) (hlt : n < fs.length) (hm' : mem.set a (101, fs.set n (.long x)) = mem') (kk : PW k al n0 P T (pc + 1) L st mem' cells slots) : PW k al n0 P T pc L (.long x :: .int i :: .ref a :: st) mem cells slots := by
  intro p l e s m args below meth c D cA ad A X H locs ls hH hl
  have he := pw_get (cA := cA) (ad := ad) hm
  rw [pe_l] at he
  subst hi
  have hin : vp_in (nI n) fs.length := fun h => by
    rcases h with h | h
    · exact nI_pos hn h
    · rw [nI_clamp hn] at h; omega
  refine va_last X.1 X.2.1 X.2.2.2.2.2.2.2.2.1.2.1 hH.1 hH.2.1 hH.2.2 a 1 he rfl hin d (fun H1 locs1 hP1 hD1 hS1 => ?_)
  have e2 : (Sum.inl (cA 1, fs.length, Sum.inr (Sum.inl (vp_updL (pgl fs) (nI n).toNatClampNeg x))) : va_E) = pe cA ad (101, fs.set n (.long x)) := by
    rw [nI_clamp hn, pgl_set hlt, pe_l, List.length_set]
  rw [e2, pw_set hm, hm'] at hP1 hD1
  exact kk p l e s m args below meth c D cA ad A X H1 locs1 ls ⟨hP1, hD1, hS1⟩ hl
/-- a reference out of an array of references: kind t, its type by the table -/
theorem PW.aald {i : Int32} {n a q t : Nat} {fs : List Value} {ty : FieldType} (d : decode k.cc pc = .ok (.aaload, 1)) (hm : mem[a]? = some (t, fs)) (ht : 102 < t) (hty : ∀ cA : Nat → ClassId, (ptys cA)[t - 100]? = some (cA (t - 100), ty)) (hr : ty.isReference = true) (hi : i = nI n) (hn : n < 2 ^ 31) (hv : fs[n]? = some (.ref q)) (kk : PW k al n0 P T (pc + 1) L (.ref q :: st) mem cells slots) : PW k al n0 P T pc L (.int i :: .ref a :: st) mem cells slots := by
  intro p l e s m args below meth c D cA ad A X H locs ls hH hl
  have he := pw_get (cA := cA) (ad := ad) hm
  rw [pe_q ht] at he
  have hlt : n < fs.length := (List.getElem?_eq_some_iff.mp hv).1
  subst hi
  have hx : va_rf (pgr ad fs n) = .ref (ad q) := by simp [pgr, hv, va_rf]
  have hin : vp_in (nI n) fs.length := fun h => by
    rcases h with h | h
    · exact nI_pos hn h
    · rw [nI_clamp hn] at h; omega
  have hK := (X.2.2.2.2.2.2.2.2.1.2.1).2 _ _ (hty cA)
  refine W.aald (v := .ref (ad q)) (ty := ty) X.1 X.2.1 (hH.1 a _ he) (hK.1 fs.length (fun j => va_rf (pgr ad fs j))) hr (fun h => by cases h) (by show ¬ (nI n < 0 ∨ (arrV _ _ _).slots.size ≤ _); rw [arrV_size]; exact hin) (by show (arrV _ _ _).slots[_]? = _; rw [nI_clamp hn, arrV_read _ _ hlt]; exact congrArg some hx) rfl rfl d ?_
  exact kk p l e s m args below meth c D cA ad A X H locs ls hH hl
theorem PW.alen {a t : Nat} {fs : List Value} {v : Int32} {ty : FieldType} (d : decode k.cc pc = .ok (.arraylength, 1)) (hm : mem[a]? = some (t, fs)) (ht : 100 ≤ t) (hty : ∀ cA : Nat → ClassId, (ptys cA)[t - 100]? = some (cA (t - 100), ty)) (hv : nI fs.length = v) (kk : PW k al n0 P T (pc + 1) L (.int v :: st) mem cells slots) : PW k al n0 P T pc L (.ref a :: st) mem cells slots := by
  intro p l e s m args below meth c D cA ad A X H locs ls hH hl
  have he := pw_get (cA := cA) (ad := ad) hm
  have h1 : ∃ x : vp_A, pe cA ad (t, fs) = .inl (cA (t - 100), x) ∧ x.1 = fs.length := by
    by_cases h0 : t = 100
    · subst h0; rw [pe_i]; exact ⟨_, rfl, rfl⟩
    · by_cases h1 : t = 101
      · subst h1; rw [pe_l]; exact ⟨_, rfl, rfl⟩
      · by_cases h2 : t = 102
        · subst h2; rw [pe_z]; exact ⟨_, rfl, rfl⟩
        · rw [pe_q (by omega)]; exact ⟨_, rfl, rfl⟩
  obtain ⟨x, e1, e2⟩ := h1
  rw [e1] at he
  exact va_alen X.1 X.2.1 X.2.2.2.2.2.2.2.2.1.2.1 hH.1 a _ he (hty cA) (by rw [e2]; exact hv) d (kk p l e s m args below meth c D cA ad A X H locs ls hH hl)
theorem PW.iret {v : Int32} (d : decode k.cc pc = .ok (.ireturn, 1)) (hr : k.ret = some .int) (hp : P (some (.int v)) mem) (h1 : cells ≤ k.mc) (h2 : slots ≤ k.ms) : PW k al n0 P T pc L [.int v] mem cells slots := by
  intro p l e s m args below meth c D cA ad A X H locs ls hH hl
  refine W.widen h1 h2 (vx_ret ?_)
  exact W.iret (v := v) X.1 X.2.1 (X.2.2.2.2.2.2.1.trans hr) (fun t ht hW => ⟨⟨some (.int v), mem, hp, rfl, by rw [ht]; exact hH.1, hH.2.1⟩, hH.2.2.F ht⟩) hH.2.2.2.2 d X.2.2.2.2.2.1
theorem PW.zret {v : Int32} {ty : FieldType} (d : decode k.cc pc = .ok (.ireturn, 1)) (hr : k.ret = some ty) (hn : narrow ty (.int v) = .int v) (hp : P (some (.int v)) mem) (h1 : cells ≤ k.mc) (h2 : slots ≤ k.ms) : PW k al n0 P T pc L [.int v] mem cells slots := by
  intro p l e s m args below meth c D cA ad A X H locs ls hH hl
  refine W.widen h1 h2 (vx_ret ?_)
  exact W.zret (v := v) X.1 X.2.1 (X.2.2.2.2.2.2.1.trans hr) hn (fun t ht hW => ⟨⟨some (.int v), mem, hp, rfl, by rw [ht]; exact hH.1, hH.2.1⟩, hH.2.2.F ht⟩) hH.2.2.2.2 d X.2.2.2.2.2.1
theorem PW.vret (d : decode k.cc pc = .ok (.return_, 1)) (hr : k.ret = none) (hp : P none mem) (h1 : cells ≤ k.mc) (h2 : slots ≤ k.ms) : PW k al n0 P T pc L [] mem cells slots := by
  intro p l e s m args below meth c D cA ad A X H locs ls hH hl
  refine W.widen h1 h2 (vx_ret ?_)
  exact W.vret X.1 X.2.1 (X.2.2.2.2.2.2.1.trans hr) (fun t ht hW => ⟨⟨none, mem, hp, rfl, by rw [ht]; exact hH.1, hH.2.1⟩, hH.2.2.F ht⟩) hH.2.2.2.2 d X.2.2.2.2.2.1
theorem PW.aret {v : Value} {n : String} (d : decode k.cc pc = .ok (.areturn, 1)) (hr : k.ret = some (.object n)) (hv : v = .null ∨ ∃ a, v = .ref a) (hp : P (some v) mem) (h1 : cells ≤ k.mc) (h2 : slots ≤ k.ms) : PW k al n0 P T pc L [v] mem cells slots := by
  intro p l e s m args below meth c D cA ad A X H locs ls hH hl
  refine W.widen h1 h2 (vx_ret ?_)
  exact W.aret (v := pz ad v) X.1 X.2.1 (X.2.2.2.2.2.2.1.trans hr) (Or.inl ⟨n, rfl⟩) (by rcases hv with rfl | ⟨a, rfl⟩; exact Or.inl rfl; exact Or.inr ⟨_, rfl⟩) (fun t ht hW => ⟨⟨some v, mem, hp, rfl, by rw [ht]; exact hH.1, hH.2.1⟩, hH.2.2.F ht⟩) hH.2.2.2.2 d X.2.2.2.2.2.1
/-- two references: by their numbers, where the cells are there -/
theorem PW.acmp_ne {a b : Nat} {off : Int} {tgt : Nat} {x y : pC} (d : decode k.cc pc = .ok (.if_acmp .ne off, 3)) (ht : (pc : Int) + off = (tgt : Int)) (ha : mem[a]? = some x) (hb : mem[b]? = some y) (kt : ¬ a = b → PW k al n0 P T tgt L st mem cells slots) (kf : a = b → PW k al n0 P T (pc + 3) L st mem cells slots) : PW k al n0 P T pc L (.ref b :: .ref a :: st) mem cells slots := by
  intro p l e s m args below meth c D cA ad A X H locs ls hH hl
  refine lv_acmp_ne (rx := some (ad a)) (ry := some (ad b)) X.1 X.2.1 d ht (fun h => ?_) (fun h => ?_)
  · exact kt (fun q => h (by rw [q])) p l e s m args below meth c D cA ad A X H locs ls hH hl
  · exact kf (hH.2.1.1 a b _ _ (pw_get ha) (pw_get hb) (Option.some.inj h)) p l e s m args below meth c D cA ad A X H locs ls hH hl
theorem PW.acmp_eq {a b : Nat} {off : Int} {tgt : Nat} {x y : pC} (d : decode k.cc pc = .ok (.if_acmp .eq off, 3)) (ht : (pc : Int) + off = (tgt : Int)) (ha : mem[a]? = some x) (hb : mem[b]? = some y) (kt : a = b → PW k al n0 P T tgt L st mem cells slots) (kf : ¬ a = b → PW k al n0 P T (pc + 3) L st mem cells slots) : PW k al n0 P T pc L (.ref b :: .ref a :: st) mem cells slots := by
  intro p l e s m args below meth c D cA ad A X H locs ls hH hl
  refine lv_acmp_eq (rx := some (ad a)) (ry := some (ad b)) X.1 X.2.1 d ht (fun h => ?_) (fun h => ?_)
  · exact kt (hH.2.1.1 a b _ _ (pw_get ha) (pw_get hb) (Option.some.inj h)) p l e s m args below meth c D cA ad A X H locs ls hH hl
  · exact kf (fun q => h (by rw [q])) p l e s m args below meth c D cA ad A X H locs ls hH hl
end R2
end
section
/-- what a method owes: on these arguments and these cells it ends as P says, or throws as T says -/
def pMet (l : Launch) (y : MethodName) (k : pK) (al : Bool) (as : List Value) (mem : pM) (P : pP) (T : pT) : Prop :=
  ∀ (D : va_G) (cA : Nat → ClassId) (ad : Nat → Nat) (sz : Nat), vx_Met l y k.Ts k.R
    (va_Pc (as.map (pz ad)) (fun U => U.heap.size = sz ∧ pV l D cA U ∧ pZs (va_A (pw cA ad mem) sz) U U.heap ∧ va_P D vwCl (pw cA ad mem) U.heap ∧ va_D (fun _ => True) (pw cA ad mem) ∧ (al = true → ∀ j : Nat, mem.length ≤ j → ad j = sz + (j - mem.length))))
    (pQ D cA ad (va_A (pw cA ad mem) sz) P) (pXC D cA ad (va_A (pw cA ad mem) sz) T) k.mc k.ms (va_A (pw cA ad mem) sz)
def pEn (as : List Value) (n : Nat) : pL := as.map some ++ List.replicate (n - as.length) none
theorem pEn_sl {ad : Nat → Nat} : ∀ {as : List Value}, (∀ v ∈ as, v.category = 1) → lg_sl (as.map (pz ad)) = as.map (fun v => Slot.val (pz ad v))
  | [], _ => rfl
  | v :: r, h => by
    have h1 : (pz ad v).category = 1 := by rw [pz_cat]; exact h v List.mem_cons_self
    have h2 := pEn_sl (ad := ad) (as := r) (fun w hw => h w (List.mem_cons_of_mem _ hw))
    simp only [lg_sl] at h2
    simp only [lg_sl, List.map_cons, List.flatMap_cons, h1]
    rw [if_neg (by decide), h2]
    rfl
theorem pEn_lo {ad : Nat → Nat} {as : List Value} {n : Nat} (hc : ∀ v ∈ as, v.category = 1) (hn : as.length ≤ n) : plo ad ((lg_sl (as.map (pz ad)) ++ List.replicate (n - (lg_sl (as.map (pz ad))).length) Slot.unset).toArray) n (pEn as n) := by
  have hsl := pEn_sl (ad := ad) hc
  have hl := lv_entry (as.map (pz ad)) (n := n) (by rw [hsl, List.length_map]; exact hn)
  refine ⟨hl.1, hl.2.1, fun i v hv => ?_⟩
  rw [hsl]
  by_cases hi : i < as.length
  · simp only [pEn] at hv
    rw [List.getElem?_append_left (by rw [List.length_map]; exact hi), List.getElem?_map, List.getElem?_eq_getElem hi] at hv
    have e : as[i] = v := by simpa using hv
    subst e
    refine ⟨?_, hc _ (List.getElem_mem hi)⟩
    rw [List.getElem?_toArray, List.getElem?_append_left (by rw [List.length_map]; exact hi), List.getElem?_map, List.getElem?_eq_getElem hi]
    rfl
  · exfalso
    simp only [pEn] at hv
    rw [List.getElem?_append_right (by rw [List.length_map]; omega)] at hv
    have h9 := List.mem_of_getElem? hv
    have h8 := (List.mem_replicate.mp h9).2
    cases h8
theorem pMet.of {l : Launch} {y : MethodName} {k : pK} {al : Bool} {as : List Value} {mem : pM} {P : pP} {T : pT} {ws' : List Cond} (hy : plainName y.cls = true) (hw : k.Ts = Cond.code y k.cc k.nL k.ret :: ws') (hown : y.cls = k.own) (hhh : k.hh = []) (hc : ∀ v ∈ as, v.category = 1) (hn : as.length ≤ k.nL) (body : PW k al mem.length P T 0 (pEn as k.nL) [] mem 0 0) : pMet l y k al as mem P T := by
  intro D cA ad sz
  refine vx_ofW (cc := k.cc) (maxL := k.nL) (ret := k.ret) hy hw ?_
  intro p e s m args below meth c s₁ B hml ht hv
  obtain ⟨rfl, hsz, hV, hZ, hP, hD0, hal⟩ := hv
  subst hsz
  have hD := hD0.self (sz := s.heap.size)
  have hown' : s.vm.findClass k.own = some m.cls := by rw [← hown]; exact findClass_of_methodNamed B.named
  rw [lg_entry_eq]
  refine body p l e s m _ below meth c D cA ad _ ⟨B.exec, B.bytes, hml, hown', atoms_spec (ws := k.Ts) B.pre, B.notSynchronized, B.returns, ?_, hV, hZ, fun q h => Or.inr h, hal⟩ s.heap [] _ ⟨hP, hD, va_S.rf⟩ (pEn_lo hc hn)
  rw [hhh]
  exact List.eq_nil_iff_forall_not_mem.mpr (fun x hx => ht x hx)
theorem pMap_o (ad : Nat → Nat) (v : Option Value) (st : List Value) : (v.map (pz ad)).toList ++ st.map (pz ad) = (v.toList ++ st).map (pz ad) := by cases v <;> rfl
section R3
variable {k : pK} {al : Bool} {n0 : Nat} {P : pP} {T : pT} {pc : Nat} {L : pL} {st : List Value} {mem : pM} {cells slots : Nat}
theorem pPre {k : pK} {al : Bool} {n0 : Nat} {p : Program} {l : Launch} {s : State} {m : MethodId} {args : Array Value} {meth : Method} {c : Code} {D : va_G} {cA : Nat → ClassId} {ad : Nat → Nat} {A : Nat → Prop} {mem : pM} {H : Heap} {locs : List Loc} (X : pX k al n0 p l s m args meth c D cA ad A) (hH : pH D cA ad A s mem H locs) : ∀ q, va_A (pw cA ad mem) H.size q → A q := by
  intro q h
  rcases h with ⟨i, e, h⟩ | h
  · exact hH.2.1.2 i (q, e) h
  · exact X.2.2.2.2.2.2.2.2.2.2.1 q (Nat.le_trans hH.2.2.1 h)
theorem pBlind {l : Launch} {D : va_G} {cA : Nat → ClassId} {ad : Nat → Nat} {sz : Nat} {al' : Bool} {as : List Value} {mem : pM} : FrameBlind (va_Pc (as.map (pz ad)) (fun U => U.heap.size = sz ∧ pV l D cA U ∧ pZs (va_A (pw cA ad mem) sz) U U.heap ∧ va_P D vwCl (pw cA ad mem) U.heap ∧ va_D (fun _ => True) (pw cA ad mem) ∧ (al' = true → ∀ j : Nat, mem.length ≤ j → ad j = sz + (j - mem.length)))) := by
  intro a U g mk h
  obtain ⟨h1, h2, h3, h4, h5, h6, h7⟩ := h
  exact ⟨h1, h2, pV.warm (s := U) (U := U.calling g mk a) (State.WarmedH.refl U) h3, ⟨vx_Zq.moved (u := U) (U := U.calling g mk a) (Vm.Alike.refl U.vm) h4.1, vx_Zq.moved (u := U) (U := U.calling g mk a) (Vm.Alike.refl U.vm) h4.2⟩, h5, h6, h7⟩
theorem pAt {k : pK} {al : Bool} {n0 : Nat} {p : Program} {l : Launch} {s : State} {m : MethodId} {args : Array Value} {meth : Method} {c : Code} {D : va_G} {cA : Nat → ClassId} {ad : Nat → Nat} {A : Nat → Prop} {mem : pM} {H : Heap} {locs : List Loc} (X : pX k al n0 p l s m args meth c D cA ad A) (hH : pH D cA ad A s mem H locs) {U : State} (hU : U.heap = H) (hW : s.WarmedH U.vm) {al' : Bool} (hal : al' = true → ∀ j : Nat, mem.length ≤ j → ad j = H.size + (j - mem.length)) :
    U.heap.size = H.size ∧ pV l D cA U ∧ pZs (va_A (pw cA ad mem) H.size) U U.heap ∧ va_P D vwCl (pw cA ad mem) U.heap ∧ va_D (fun _ => True) (pw cA ad mem) ∧ (al' = true → ∀ j : Nat, mem.length ≤ j → ad j = H.size + (j - mem.length)) := by
  have hF := pPre X hH
  refine ⟨by rw [hU], pV.warm hW X.2.2.2.2.2.2.2.2.1, ?_, by rw [hU]; exact hH.1, hH.2.1.weaken (fun _ _ _ _ => trivial), hal⟩
  obtain ⟨hz1, hz2⟩ := X.2.2.2.2.2.2.2.2.2.1
  refine ⟨?_, ?_⟩
  · rw [hU]; exact (vx_Zq.moved hW.alike (hz1.kept hH.2.2.2.1)).narrow hF
  · rw [hU]; exact (vx_Zq.moved hW.alike (hz2.kept hH.2.2.2.1)).narrow hF
theorem pCall {p : Program} {l : Launch} {e : Env} {s : State} {m : MethodId} {args : Array Value} {below : List Frame} {meth : Method} {c : Code} {D : va_G} {cA : Nat → ClassId} {ad : Nat → Nat} {A : Nat → Prop} (X : pX k al n0 p l s m args meth c D cA ad A) {H : Heap} {locs : List Loc} {ls : Array Slot} (hH : pH D cA ad A s mem H locs) (hl : plo ad ls k.nL L) {mc ms : Nat} {P' : pP} {T' : pT} {a : Array Value} {st0 : List Value}
    (hr : vx_Run p l e k.R s m args below meth c H locs cells slots mc ms (F0 m pc ls st0) (st.map (pz ad)) (pQ D cA ad (va_A (pw cA ad mem) H.size) P' a) (pXC D cA ad (va_A (pw cA ad mem) H.size) T') (va_A (pw cA ad mem) H.size))
    (kk : ∀ (v : Option Value) (mem' : pM), P' v mem' → PW k al n0 P T (pc + 3) L (v.toList ++ st) mem' (cells + mc) (slots + ms)) (kx : ∀ (E : String) (mem' : pM), T' E mem' → PT k al n0 P T E pc L st mem' (cells + mc) (slots + ms)) :
    W p l e k.R s m args below meth c H locs cells slots (vx_MQ below (pQ D cA ad A P) (pXC D cA ad A T) args s k.mc k.ms A) (F0 m pc ls st0) := by
  have hF := pPre X hH
  intro T9 hT Xs
  rcases hr T9 hT Xs with ⟨v, st₀, t, T', Lq, h0, X', hL, e1, e2, ⟨⟨v', mem', hp, hv, hP', hD'⟩, hF'⟩, stp⟩ | ⟨q, st₀, t, T', Lq, E, ce, h0, X', hL, e1, e2, ⟨⟨mem', hp, hP', hD'⟩, hF'⟩, hce, hcv, hcl, stp⟩
  · cases hv
    obtain ⟨k1, k2, k3⟩ := vx_keep h0 e1 hH.2.2 (fun q _ h => hF q h) hF hL hF'
    obtain ⟨t2, a1, b1⟩ := kk v' mem' hp p l e s m args below meth c D cA ad A X T'.heap (locs ++ Lq) ls ⟨by rw [e1]; exact hP', hD'.weaken (fun _ _ _ h => hF _ h), k3⟩ hl T' rfl X'
    refine ⟨t2, stp t2 ?_, b1⟩
    rw [pMap_o]
    exact a1
  · obtain ⟨k1, k2, k3⟩ := vx_keep h0 e1 hH.2.2 (fun q _ h => hF q h) hF hL hF'
    obtain ⟨t2, a1, b1⟩ := kx E mem' hp p l e s m args below meth c D cA ad A X T'.heap (locs ++ Lq) ls (by rw [e1]; exact hP') (hD'.weaken (fun _ _ _ h => hF _ h)) k3 hl q ce (by rw [e1]; exact hce) hcv hcl T' rfl X'
    exact ⟨t2, stp.trans a1, b1⟩
theorem PW.callS {idx n : Nat} {y : MethodName} {k' : pK} {as : List Value} {P' : pP} {T' : pT} {ws' : List Cond} (M : ∀ l : Launch, pMet l y k' false as mem P' T') (d : decode k.cc pc = .ok (.invokestatic idx, 3)) (g : GoodIn k.Ts (va_wsS k.own idx y k'.Ts)) (hw : k'.Ts = Cond.code y k'.cc k'.nL k'.ret :: ws')
    (hd : y.cls ≠ "java/lang/invoke/MethodHandle" ∧ y.cls ≠ "java/lang/invoke/VarHandle" ∧ (parseMethodDescriptor y.desc).map (fun d => d.parameters.length) = some n) (hn : as.length = n) (hR : k'.R.frames + 1 ≤ k.R.frames ∧ 8 + (k'.nL + 11) + k'.R.locals ≤ k.R.locals) (hcs : k'.R.cells = k'.mc ∧ k'.R.slots = k'.ms) (hst : (st.map fun v => v.category).sum ≤ 8) (hf : cells + k'.mc ≤ k.R.cells ∧ slots + k'.ms ≤ k.R.slots)
    {st0 : List Value} (hs0 : as.reverse ++ st = st0) (kk : ∀ (v : Option Value) (mem' : pM), P' v mem' → PW k al n0 P T (pc + 3) L (v.toList ++ st) mem' (cells + k'.mc) (slots + k'.ms)) (kx : ∀ (E : String) (mem' : pM), T' E mem' → PT k al n0 P T E pc L st mem' (cells + k'.mc) (slots + k'.ms)) : PW k al n0 P T pc L st0 mem cells slots := by
  intro p l e s m args below meth c D cA ad A X H locs ls hH hl
  subst hs0
  refine pCall X hH hl (vx_runS (As := as.map (pz ad)) (rest := st.map (pz ad)) ⟨X.1, X.2.1, X.2.2.1, X.2.2.2.1, X.2.2.2.2.1⟩ (M l D cA ad H.size) (va_cwS n X.2.2.2.2.1 g hw hcs.1 hcs.2 hd hR) ⟨pBlind, fun U hU hW => ⟨rfl, pAt X hH hU hW (fun h => by cases h)⟩⟩ rfl (by rw [List.length_map]; exact hn) hl.1 (by rw [List.map_append, List.map_reverse]) (lv_room (by rw [pz_cats]; exact hst)) d hf) kk kx
theorem PW.callV {idx n b ci N : Nat} {C : String} {Tb : u_T} {fs : List Value} {y : MethodName} {k' : pK} {as : List Value} {P' : pP} {T' : pT} {ws' : List Cond} (M : ∀ l : Launch, pMet l y k' false (.ref b :: as) mem P' T') (d : decode k.cc pc = .ok (.invokevirtual idx, 3)) (g : GoodIn k.Ts (wsV k.own idx C y k'.Ts)) (hw : k'.Ts = Cond.code y k'.cc k'.nL k'.ret :: ws')
    (hd : y.cls = C ∧ y.cls ≠ "java/lang/invoke/MethodHandle" ∧ y.cls ≠ "java/lang/invoke/VarHandle" ∧ (parseMethodDescriptor y.desc).map (fun d => d.parameters.length) = some n) (hn : as.length = n) (hR : k'.R.frames + 1 ≤ k.R.frames ∧ 8 + (k'.nL + 11) + k'.R.locals ≤ k.R.locals) (hcs : k'.R.cells = k'.mc ∧ k'.R.slots = k'.ms) (hst : (st.map fun v => v.category).sum ≤ 8) (hf : cells + k'.mc ≤ k.R.cells ∧ slots + k'.ms ≤ k.R.slots)
    (hm : mem[b]? = some (ci, fs)) (hci : ci < 100) (hC : vwCl[ci]? = some (C, Tb, N)) {st0 : List Value} (hs0 : as.reverse ++ .ref b :: st = st0) (kk : ∀ (v : Option Value) (mem' : pM), P' v mem' → PW k al n0 P T (pc + 3) L (v.toList ++ st) mem' (cells + k'.mc) (slots + k'.ms)) (kx : ∀ (E : String) (mem' : pM), T' E mem' → PT k al n0 P T E pc L st mem' (cells + k'.mc) (slots + k'.ms)) : PW k al n0 P T pc L st0 mem cells slots := by
  intro p l e s m args below meth c D cA ad A X H locs ls hH hl
  subst hs0
  have he := pw_get (cA := cA) (ad := ad) hm
  rw [pe_o hci] at he
  refine pCall X hH hl (vx_runV (C := C) (b := ad b) (As := as.map (pz ad)) (rest := st.map (pz ad)) ⟨X.1, X.2.1, X.2.2.1, X.2.2.2.1, X.2.2.2.2.1⟩ (M l D cA ad H.size) (cwV n X.2.2.2.2.1 g hw hcs.1 hcs.2 hd hR) ⟨pBlind, va_recv X.2.2.2.2.2.2.2.2.1.2.1 hH.1 hC he, fun U hU hW => ⟨rfl, pAt X hH hU hW (fun h => by cases h)⟩⟩ rfl (by rw [List.length_map]; exact hn) hl.1 (by rw [List.map_append, List.map_reverse]; rfl) (lv_room (by rw [pz_cats]; exact hst)) d hf) kk kx
theorem PT.out {E : String} (hhh : k.hh = []) (ht : T E mem) (h1 : cells ≤ k.mc) (h2 : slots ≤ k.ms) : PT k al n0 P T E pc L st mem cells slots := by
  intro p l e s m args below meth c D cA ad A X H locs ls hP hD hS hl q ce hce hcv hcl
  exact vx_out (fun x hx => by rw [X.2.2.2.2.2.2.2.1, hhh] at hx; cases hx) X.2.2.2.2.2.1 hce hcv hcl (fun t ht9 _ => ⟨⟨mem, ht, by rw [ht9]; exact hP, hD⟩, hS.F ht9⟩) hS.2.2 h1 h2
theorem PW.throwS {cls text : String} {names : List String} {ik is ic : Nat} (hcls : Bundle.fit cls = true) (hnames : ∀ n ∈ names, Bundle.fit n = true) (hkw : Cond.classLink k.own ik cls ∈ k.Ts) (hiw : Cond.initialized cls ∈ k.Ts) (hstr : (is, text) ∈ pTx) (hown : k.own = RX4) (hex : cls ∈ pEx)
    (hat1 : ∀ w ∈ (vx_atS k.own ic cls names).filter goodWord, w ∈ k.Ts) (hat2 : ∀ w ∈ (vx_atS k.own ic cls names).filter (fun w => !goodWord w), w ∈ [Cond.castable cls cls]) (hgood : ∀ w ∈ Cond.classLink k.own ik cls :: Cond.initialized cls :: vx_atS k.own ic cls names, vx_ot w = true)
    (d0 : decode k.cc pc = .ok (.new ik, 3)) (d3 : decode k.cc (pc + 3) = .ok (.dup, 1)) (d4 : decode k.cc (pc + 4) = .ok (.ldc is, 2)) (d6 : decode k.cc (pc + 6) = .ok (.invokespecial ic, 3)) (d9 : decode k.cc (pc + 9) = .ok (.athrow, 1)) (hhh : k.hh = [])
    (hRf : names.length + 3 < k.R.frames) (hRl : (st.map fun v => v.category).sum + (13 * (names.length + 1) + 43) ≤ k.R.locals) (hRc : cells + 1 ≤ k.R.cells) (hRs : slots + 6 ≤ k.R.slots) (h1 : cells + 1 ≤ k.mc) (h2 : slots + 6 ≤ k.ms) (ht : T cls mem) : PW k al n0 P T pc L st mem cells slots := by
  intro p l e s m args below meth c D cA ad A X H locs ls hH hl
  obtain ⟨sa, hsa⟩ := X.2.2.2.2.2.2.2.2.1.2.2.2 _ hstr
  obtain ⟨hz1, hz2⟩ := X.2.2.2.2.2.2.2.2.2.1
  have hcast : (Cond.castable cls cls).before args s = true := va_Nw.use rfl (X.2.2.2.2.2.2.2.2.1.2.2.1 cls hex)
  refine vx_throwS (cls := cls) (text := text) (names := names) (ik := ik) (is := is) (ic := ic) (sa := sa) (A := A) X.1 X.2.1 X.2.2.2.2.2.2.2.2.1.1 X.2.2.2.1 hcls hnames (X.2.2.2.2.1 _ hkw) (X.2.2.2.2.1 _ hiw) (by rw [hown]; exact hsa) (vx_hat (fun w hw => X.2.2.2.2.1 _ (hat1 w hw)) hat2 (vx_c hcast vx_n)) hgood hz1 hz2 hH.2.2 (hl.1.trans X.2.2.1.symm) d0 d3 d4 d6 d9 (fun x hx => by rw [X.2.2.2.2.2.2.2.1, hhh] at hx; cases hx) hRf (by rw [pz_cats]; exact hRl) hRc hRs X.2.2.2.2.2.1 ?_ hH.2.2.2.2 h1 h2
  intro t _ hsz hq
  refine ⟨⟨mem, ht, hH.1.kept (fun i x hx => hq x.1 ((hH.1 i x hx).lt)), hH.2.1⟩, Nat.le_trans hH.2.2.1 hsz, fun q h1 h2 => ?_⟩
  rw [hq q (Nat.lt_of_lt_of_le h1 hH.2.2.1)]
  exact hH.2.2.2.1 q h1 h2
end R3
end
section
section R4
variable {k : pK} {al : Bool} {n0 : Nat} {P : pP} {T : pT} {pc : Nat} {L : pL} {st : List Value} {mem : pM} {cells slots : Nat}
theorem PW.mmin {idx : Nat} {x y : Int32} (d : decode k.cc pc = .ok (.invokestatic idx, 3)) (h1 : Cond.methodLink k.own idx Lib.Math.min.name ∈ k.Ts) (h2 : Cond.static Lib.Math.min.name ∈ k.Ts) (h3 : Cond.initialized "java/lang/Math" ∈ k.Ts) (h4 : Cond.code Lib.Math.min.name Lib.Math.min.code 2 (some .int) ∈ k.Ts) (hf : 1 ≤ k.R.frames) (hst : (st.map fun v => v.category).sum + 13 ≤ k.R.locals) (hc : cells ≤ k.R.cells) (hs : slots ≤ k.R.slots) (kk : PW k al n0 P T (pc + 3) L (.int (if y < x then y else x) :: st) mem cells slots) : PW k al n0 P T pc L (.int y :: .int x :: st) mem cells slots :=
  fun p l e s m args below meth c D cA ad A X H locs ls hH hl => va_mmin X.1 X.2.1 (X.2.2.1.trans hl.1.symm) X.2.2.2.1 (X.2.2.2.2.1 _ h1) (X.2.2.2.2.1 _ h2) (X.2.2.2.2.1 _ h3) (X.2.2.2.2.1 _ h4) hf (by rw [pz_cats]; exact hst) hc hs d (kk p l e s m args below meth c D cA ad A X H locs ls hH hl)
theorem PW.mmax {idx : Nat} {x y : Int32} (d : decode k.cc pc = .ok (.invokestatic idx, 3)) (h1 : Cond.methodLink k.own idx Lib.Math.max.name ∈ k.Ts) (h2 : Cond.static Lib.Math.max.name ∈ k.Ts) (h3 : Cond.initialized "java/lang/Math" ∈ k.Ts) (h4 : Cond.code Lib.Math.max.name Lib.Math.max.code 2 (some .int) ∈ k.Ts) (hf : 1 ≤ k.R.frames) (hst : (st.map fun v => v.category).sum + 13 ≤ k.R.locals) (hc : cells ≤ k.R.cells) (hs : slots ≤ k.R.slots) (kk : PW k al n0 P T (pc + 3) L (.int (if x < y then y else x) :: st) mem cells slots) : PW k al n0 P T pc L (.int y :: .int x :: st) mem cells slots :=
  fun p l e s m args below meth c D cA ad A X H locs ls hH hl => va_mmax X.1 X.2.1 (X.2.2.1.trans hl.1.symm) X.2.2.2.1 (X.2.2.2.2.1 _ h1) (X.2.2.2.2.1 _ h2) (X.2.2.2.2.1 _ h3) (X.2.2.2.2.1 _ h4) hf (by rw [pz_cats]; exact hst) hc hs d (kk p l e s m args below meth c D cA ad A X H locs ls hH hl)
end R4
theorem div6 {a : Nat} (h : a < 24) : nI a / 6 = nI (a / 6) := pk_div (d := 6) (by omega) (by decide) (by decide)
theorem u6 {a : Nat} (h : a < 24) : a / 6 < 4 := by omega
theorem rem60 {a : Nat} (h : a < 2 ^ 31) : nI a - nI a / 60 * 60 = nI (a % 60) := pk_rem (d := 60) h (by decide) (by decide)
theorem nI_mul4 (a : Nat) : nI a * 4 = nI (a * 4) := pk_mul a 4
end
section
/-! THE DESK's CELLS: 44 of them, their numbers out of M by row and place -/
abbrev dM : Type := Nat → Nat → Int32
def up2 (M : dM) (r j : Nat) (x : Int32) : dM := fun a b => if a = r ∧ b = j then x else M a b
theorem up2_s (M : dM) (r j : Nat) (x : Int32) : up2 M r j x r j = x := by simp [up2]
theorem up2_r {M : dM} {r j a b : Nat} {x : Int32} (h : a ≠ r) : up2 M r j x a b = M a b := by simp [up2, h]
theorem up2_j {M : dM} {r j a b : Nat} {x : Int32} (h : b ≠ j) : up2 M r j x a b = M a b := by simp [up2, h]
def iaF (M : dM) (r n : Nat) : List Value := (List.range n).map (fun j => Value.int (M r j))
theorem iaF_len (M : dM) (r n : Nat) : (iaF M r n).length = n := by simp [iaF]
theorem iaF_get {M : dM} {r n j : Nat} (h : j < n) : (iaF M r n)[j]? = some (.int (M r j)) := by simp [iaF, h]
theorem iaF_set {M : dM} {r n j : Nat} {x : Int32} : (iaF M r n).set j (.int x) = iaF (up2 M r j x) r n := by
  apply List.ext_getElem?
  intro i
  by_cases hi : i < n
  · by_cases hj : i = j
    · subst hj
      rw [List.getElem?_set_self (by rw [iaF_len]; exact hi), iaF_get hi, up2_s]
    · rw [List.getElem?_set_ne (Ne.symm hj), iaF_get hi, iaF_get hi, up2_j hj]
  · rw [List.getElem?_eq_none (by rw [List.length_set, iaF_len]; omega), List.getElem?_eq_none (by rw [iaF_len]; omega)]
theorem iaF_congr {M M' : dM} {r n : Nat} (h : ∀ j, M r j = M' r j) : iaF M r n = iaF M' r n := by
  simp only [iaF, h]
def dkF (M : dM) : List Value := [.ref 1, .ref 26, .ref 32, .ref 41, .ref 42, .int (M 39 5), .int (M 39 6)]
def lnA : List Value := (List.range 24).map (fun i => Value.ref (2 + i))
def lnF (M : dM) (l : Nat) : List Value := [.int (nI l), .int (M l 1), .int (M l 2), .int (M l 3), .int (M l 4), .int (M l 5), .int (M l 6), .int (M l 7), .int (M l 8), .int (M l 9), .int (M l 10)]
def gpF (M : dM) (g : Nat) : List Value := [.ref (34 + 2 * g), .int (M (28 + g) 1), .int (M (28 + g) 2), .int (M (28 + g) 3)]
def bkF (M : dM) : List Value := [.ref 43, .int (M 37 1)]
def dcell (M : dM) (k : Nat) : pC :=
  if k < 26 then (if k = 0 then (4, dkF M) else if k = 1 then (103, lnA) else (2, lnF M (k - 2)))
  else if k < 33 then (if k = 26 then (3, [.ref 27]) else if k = 27 then (105, [.ref 28, .ref 29, .ref 30, .ref 31]) else if k = 32 then (104, [.ref 33, .ref 35, .ref 37, .ref 39]) else (100, iaF M (k - 4) 8))
  else if k < 41 then (if k % 2 = 1 then (1, gpF M ((k - 33) / 2)) else (100, iaF M (32 + (k - 34) / 2) 6))
  else if k = 41 then (100, iaF M 36 4) else if k = 42 then (0, bkF M) else (100, iaF M 38 240)
def SM (M : dM) : pM := (List.range 44).map (dcell M)
def drow (k : Nat) : Nat := if k = 0 then 39 else if k = 1 then 1001 else if k < 26 then k - 2 else if k = 26 then 1026 else if k = 27 then 1027 else if k = 32 then 1032 else if k < 33 then k - 4 else if k < 41 then (if k % 2 = 1 then 28 + (k - 33) / 2 else 32 + (k - 34) / 2) else if k = 41 then 36 else if k = 42 then 37 else 38
theorem drow_inj : ∀ k, k < 44 → ∀ q, q < 44 → k ≠ q → drow k ≠ drow q := by decide +kernel
theorem SM_len (M : dM) : (SM M).length = 44 := by simp [SM]
theorem SM_get {M : dM} {R : pM} {k : Nat} (h : k < 44) : (SM M ++ R)[k]? = some (dcell M k) := by
  rw [List.getElem?_append_left (by rw [SM_len]; exact h)]
  simp [SM, h]
theorem dcell_congr {M M' : dM} {k : Nat} (hk : k < 44) (h : ∀ j, M (drow k) j = M' (drow k) j) : dcell M k = dcell M' k := by
  unfold dcell
  split
  · split
    · next h0 => subst h0; have h5 := h 5; have h6 := h 6; simp only [drow] at h5 h6; simp at h5 h6; simp [dkF, h5, h6]
    · split
      · rfl
      · next h0 h1 h2 =>
        have hd : drow k = k - 2 := by simp only [drow, if_neg h1, if_neg h2, if_pos h0]
        rw [hd] at h
        simp only [lnF, h]
  · split
    · split
      · rfl
      · split
        · rfl
        · split
          · rfl
          · next h0 h1 h2 h3 h4 =>
            have hd : drow k = k - 4 := by
              simp only [drow]
              rw [if_neg (by omega), if_neg (by omega), if_neg (by omega), if_neg (by omega), if_neg (by omega), if_neg (by omega), if_pos (by omega)]
            rw [hd] at h
            rw [iaF_congr h]
    · split
      · split
        · next h0 h1 h2 h3 =>
          have hd : drow k = 28 + (k - 33) / 2 := by
            simp only [drow]
            rw [if_neg (by omega), if_neg (by omega), if_neg (by omega), if_neg (by omega), if_neg (by omega), if_neg (by omega), if_neg (by omega), if_pos (by omega), if_pos h3]
          rw [hd] at h
          simp only [gpF, h]
        · next h0 h1 h2 h3 =>
          have hd : drow k = 32 + (k - 34) / 2 := by
            simp only [drow]
            rw [if_neg (by omega), if_neg (by omega), if_neg (by omega), if_neg (by omega), if_neg (by omega), if_neg (by omega), if_neg (by omega), if_pos (by omega), if_neg h3]
          rw [hd] at h
          rw [iaF_congr h]
      · split
        · next h0 => subst h0; have hd : drow 41 = 36 := by decide
                     rw [hd] at h; rw [iaF_congr h]
        · split
          · next h0 => subst h0; have hd : drow 42 = 37 := by decide
                       rw [hd] at h; simp only [bkF, h]
          · next h0 h1 h2 h3 h4 =>
            have hd : drow k = 38 := by
              have : k = 43 := by omega
              subst this; decide
            rw [hd] at h
            rw [iaF_congr h]
theorem SM_put {M : dM} {R : pM} {k r j : Nat} {x : Int32} {c : pC} (hk : k < 44) (hr : drow k = r) (hc : dcell (up2 M r j x) k = c) : (SM M ++ R).set k c = SM (up2 M r j x) ++ R := by
  rw [List.set_append_left _ _ (by rw [SM_len]; exact hk)]
  congr 1
  apply List.ext_getElem?
  intro i
  by_cases hi : i < 44
  · by_cases hik : i = k
    · subst hik
      rw [List.getElem?_set_self (by rw [SM_len]; exact hi)]
      simp [SM, hi, hc]
    · rw [List.getElem?_set_ne (Ne.symm hik)]
      simp only [SM, List.getElem?_map, List.getElem?_range hi, Option.map_some]
      congr 1
      apply dcell_congr hi
      intro q
      rw [up2_r]
      rw [← hr]
      exact drow_inj i hi k hk hik
  · rw [List.getElem?_eq_none (by rw [List.length_set, SM_len]; omega), List.getElem?_eq_none (by rw [SM_len]; omega)]
section SMG
variable {M : dM} {R : pM} {x : Int32}
theorem sm_desk : (SM M ++ R)[0]? = some (4, dkF M) := SM_get (by decide)
theorem sm_lines : (SM M ++ R)[1]? = some (103, lnA) := SM_get (by decide)
theorem sm_sw : (SM M ++ R)[26]? = some (3, [.ref 27]) := SM_get (by decide)
theorem sm_car : (SM M ++ R)[27]? = some (105, [.ref 28, .ref 29, .ref 30, .ref 31]) := SM_get (by decide)
theorem sm_grs : (SM M ++ R)[32]? = some (104, [.ref 33, .ref 35, .ref 37, .ref 39]) := SM_get (by decide)
theorem sm_plc : (SM M ++ R)[41]? = some (100, iaF M 36 4) := SM_get (by decide)
theorem sm_book : (SM M ++ R)[42]? = some (0, bkF M) := SM_get (by decide)
theorem sm_ent : (SM M ++ R)[43]? = some (100, iaF M 38 240) := SM_get (by decide)
theorem dc_line {l : Nat} (h : l < 24) : dcell M (2 + l) = (2, lnF M l) := by
  unfold dcell
  rw [if_pos (by omega), if_neg (by omega), if_neg (by omega), Nat.add_sub_cancel_left]
theorem dc_row {u : Nat} (h : u < 4) : dcell M (28 + u) = (100, iaF M (24 + u) 8) := by
  unfold dcell
  rw [if_neg (by omega), if_pos (by omega), if_neg (by omega), if_neg (by omega), if_neg (by omega), show 28 + u - 4 = 24 + u by omega]
theorem dc_grp {g : Nat} (h : g < 4) : dcell M (33 + 2 * g) = (1, gpF M g) := by
  unfold dcell
  rw [if_neg (by omega), if_neg (by omega), if_pos (by omega), if_pos (by omega), show (33 + 2 * g - 33) / 2 = g by omega]
theorem dc_grw {g : Nat} (h : g < 4) : dcell M (34 + 2 * g) = (100, iaF M (32 + g) 6) := by
  unfold dcell
  rw [if_neg (by omega), if_neg (by omega), if_pos (by omega), if_neg (by omega), show (34 + 2 * g - 34) / 2 = g by omega]
theorem sm_line {l : Nat} (h : l < 24) : (SM M ++ R)[2 + l]? = some (2, lnF M l) := by rw [SM_get (by omega), dc_line h]
theorem sm_row {u : Nat} (h : u < 4) : (SM M ++ R)[28 + u]? = some (100, iaF M (24 + u) 8) := by rw [SM_get (by omega), dc_row h]
theorem sm_grp {g : Nat} (h : g < 4) : (SM M ++ R)[33 + 2 * g]? = some (1, gpF M g) := by rw [SM_get (by omega), dc_grp h]
theorem sm_grw {g : Nat} (h : g < 4) : (SM M ++ R)[34 + 2 * g]? = some (100, iaF M (32 + g) 6) := by rw [SM_get (by omega), dc_grw h]
theorem dr_line {l : Nat} (h : l < 24) : drow (2 + l) = l := by
  simp only [drow]
  rw [if_neg (by omega), if_neg (by omega), if_pos (by omega), Nat.add_sub_cancel_left]
theorem dr_row : ∀ u, u < 4 → drow (28 + u) = 24 + u := by decide
theorem dr_grp : ∀ g, g < 4 → drow (33 + 2 * g) = 28 + g := by decide
theorem dr_grw : ∀ g, g < 4 → drow (34 + 2 * g) = 32 + g := by decide
theorem lnF_set {l j : Nat} (h1 : 1 ≤ j) (h2 : j ≤ 10) : lnF (up2 M l j x) l = (lnF M l).set j (.int x) := by
  rcases (show j = 1 ∨ j = 2 ∨ j = 3 ∨ j = 4 ∨ j = 5 ∨ j = 6 ∨ j = 7 ∨ j = 8 ∨ j = 9 ∨ j = 10 by omega) with rfl | rfl | rfl | rfl | rfl | rfl | rfl | rfl | rfl | rfl <;> simp [lnF, up2]
theorem pu_line {l j : Nat} (h : l < 24) (h1 : 1 ≤ j) (h2 : j ≤ 10) : (SM M ++ R).set (2 + l) (2, (lnF M l).set j (.int x)) = SM (up2 M l j x) ++ R := SM_put (by omega) (dr_line h) (by rw [dc_line h, lnF_set h1 h2])
theorem pu_time : (SM M ++ R).set 0 (4, (dkF M).set 5 (.int x)) = SM (up2 M 39 5 x) ++ R := SM_put (by decide) (by decide) (by show (4, dkF _) = _; simp [dkF, up2])
theorem pu_blk : (SM M ++ R).set 0 (4, (dkF M).set 6 (.int x)) = SM (up2 M 39 6 x) ++ R := SM_put (by decide) (by decide) (by show (4, dkF _) = _; simp [dkF, up2])
theorem pu_row {u j : Nat} (h : u < 4) : (SM M ++ R).set (28 + u) (100, (iaF M (24 + u) 8).set j (.int x)) = SM (up2 M (24 + u) j x) ++ R := SM_put (by omega) (dr_row u h) (by rw [dc_row h, iaF_set])
theorem pu_grp {g j : Nat} (h : g < 4) (h1 : 1 ≤ j) (h2 : j ≤ 3) : (SM M ++ R).set (33 + 2 * g) (1, (gpF M g).set j (.int x)) = SM (up2 M (28 + g) j x) ++ R := SM_put (by omega) (dr_grp g h) (by
  rw [dc_grp h]
  rcases (show j = 1 ∨ j = 2 ∨ j = 3 by omega) with rfl | rfl | rfl <;> simp [gpF, up2])
theorem pu_grw {g j : Nat} (h : g < 4) : (SM M ++ R).set (34 + 2 * g) (100, (iaF M (32 + g) 6).set j (.int x)) = SM (up2 M (32 + g) j x) ++ R := SM_put (by omega) (dr_grw g h) (by rw [dc_grw h, iaF_set])
theorem pu_plc {j : Nat} : (SM M ++ R).set 41 (100, (iaF M 36 4).set j (.int x)) = SM (up2 M 36 j x) ++ R := SM_put (by decide) (by decide) (by show (100, iaF _ 36 4) = _; rw [iaF_set])
theorem pu_book : (SM M ++ R).set 42 (0, (bkF M).set 1 (.int x)) = SM (up2 M 37 1 x) ++ R := SM_put (by decide) (by decide) (by show (0, bkF _) = _; simp [bkF, up2])
theorem pu_ent {j : Nat} : (SM M ++ R).set 43 (100, (iaF M 38 240).set j (.int x)) = SM (up2 M 38 j x) ++ R := SM_put (by decide) (by decide) (by show (100, iaF _ 38 240) = _; rw [iaF_set])
theorem lnA_get {l : Nat} (h : l < 24) : lnA[l]? = some (.ref (2 + l)) := by simp [lnA, h]
theorem car_get : ∀ u, u < 4 → ([.ref 28, .ref 29, .ref 30, .ref 31] : List Value)[u]? = some (.ref (28 + u)) := by decide
theorem grs_get : ∀ g, g < 4 → ([.ref 33, .ref 35, .ref 37, .ref 39] : List Value)[g]? = some (.ref (33 + 2 * g)) := by decide
end SMG
end
section
theorem Fw_0_1 (own : String) : pFw own 0 1 false .int := ⟨_, _, _, _, rfl, tyX0_ok, nmX0, rfl, by decide +kernel, fun h => by cases h⟩
theorem Fw_1_1 (own : String) : pFw own 1 1 false .int := ⟨_, _, _, _, rfl, tyX1_ok, nmX1, rfl, by decide +kernel, fun h => by cases h⟩
theorem Fw_1_2 (own : String) : pFw own 1 2 false .int := ⟨_, _, _, _, rfl, tyX1_ok, nmX1, rfl, by decide +kernel, fun h => by cases h⟩
theorem Fw_1_3 (own : String) : pFw own 1 3 false .int := ⟨_, _, _, _, rfl, tyX1_ok, nmX1, rfl, by decide +kernel, fun h => by cases h⟩
theorem Fw_2_1 (own : String) : pFw own 2 1 false .int := ⟨_, _, _, _, rfl, tyX2_ok, nmX2, rfl, by decide +kernel, fun h => by cases h⟩
theorem Fw_2_2 (own : String) : pFw own 2 2 false .int := ⟨_, _, _, _, rfl, tyX2_ok, nmX2, rfl, by decide +kernel, fun h => by cases h⟩
theorem Fw_2_3 (own : String) : pFw own 2 3 false .int := ⟨_, _, _, _, rfl, tyX2_ok, nmX2, rfl, by decide +kernel, fun h => by cases h⟩
theorem Fw_2_4 (own : String) : pFw own 2 4 false .int := ⟨_, _, _, _, rfl, tyX2_ok, nmX2, rfl, by decide +kernel, fun h => by cases h⟩
theorem Fw_2_5 (own : String) : pFw own 2 5 false .int := ⟨_, _, _, _, rfl, tyX2_ok, nmX2, rfl, by decide +kernel, fun h => by cases h⟩
theorem Fw_2_6 (own : String) : pFw own 2 6 false .int := ⟨_, _, _, _, rfl, tyX2_ok, nmX2, rfl, by decide +kernel, fun h => by cases h⟩
theorem Fw_2_7 (own : String) : pFw own 2 7 false .boolean := ⟨_, _, _, _, rfl, tyX2_ok, nmX2, rfl, by decide +kernel, fun h => by cases h⟩
theorem Fw_2_8 (own : String) : pFw own 2 8 false .int := ⟨_, _, _, _, rfl, tyX2_ok, nmX2, rfl, by decide +kernel, fun h => by cases h⟩
theorem Fw_2_9 (own : String) : pFw own 2 9 false .boolean := ⟨_, _, _, _, rfl, tyX2_ok, nmX2, rfl, by decide +kernel, fun h => by cases h⟩
theorem Fw_2_10 (own : String) : pFw own 2 10 false .int := ⟨_, _, _, _, rfl, tyX2_ok, nmX2, rfl, by decide +kernel, fun h => by cases h⟩
theorem Fw_4_5 (own : String) : pFw own 4 5 false .int := ⟨_, _, _, _, rfl, tyX4_ok, nmX4, rfl, by decide +kernel, fun h => by cases h⟩
theorem Fw_4_6 (own : String) : pFw own 4 6 false .int := ⟨_, _, _, _, rfl, tyX4_ok, nmX4, rfl, by decide +kernel, fun h => by cases h⟩
theorem Fw_5_0 (own : String) : pFw own 5 0 false .int := ⟨_, _, _, _, rfl, tyX5_ok, nmX5, rfl, by decide +kernel, fun h => by cases h⟩
theorem Fw_5_1 (own : String) : pFw own 5 1 false .int := ⟨_, _, _, _, rfl, tyX5_ok, nmX5, rfl, by decide +kernel, fun h => by cases h⟩
theorem Fw_5_9 (own : String) : pFw own 5 9 false .int := ⟨_, _, _, _, rfl, tyX5_ok, nmX5, rfl, by decide +kernel, fun h => by cases h⟩
theorem Fw_5_22 (own : String) : pFw own 5 22 false .int := ⟨_, _, _, _, rfl, tyX5_ok, nmX5, rfl, by decide +kernel, fun h => by cases h⟩
theorem Fw_5_23 (own : String) : pFw own 5 23 false .int := ⟨_, _, _, _, rfl, tyX5_ok, nmX5, rfl, by decide +kernel, fun h => by cases h⟩
abbrev kX2_isOnHook : pK := (RX2, cX2_isOnHook, 1, wsX2_isOnHook, { frames := 0, cells := 0, slots := 0, locals := 0 }, (some .boolean), [], 0, 0)
theorem FX2_isOnHook_9 : pF kX2_isOnHook.Ts kX2_isOnHook.own 9 2 1 := ⟨_, _, _, by decide, rfl, by decide, by decide +kernel, by decide +kernel⟩
abbrev kX2_ringsFor : pK := (RX2, cX2_ringsFor, 2, wsX2_ringsFor, { frames := 0, cells := 0, slots := 0, locals := 0 }, (some .boolean), [], 0, 0)
theorem FX2_ringsFor_9 : pF kX2_ringsFor.Ts kX2_ringsFor.own 9 2 1 := ⟨_, _, _, by decide, rfl, by decide, by decide +kernel, by decide +kernel⟩
theorem FX2_ringsFor_18 : pF kX2_ringsFor.Ts kX2_ringsFor.own 18 2 3 := ⟨_, _, _, by decide, rfl, by decide, by decide +kernel, by decide +kernel⟩
abbrev kX2_enter : pK := (RX2, cX2_enter, 3, wsX2_enter, { frames := 0, cells := 0, slots := 0, locals := 0 }, none, [], 0, 0)
theorem FX2_enter_9 : pF kX2_enter.Ts kX2_enter.own 9 2 1 := ⟨_, _, _, by decide, rfl, by decide, by decide +kernel, by decide +kernel⟩
theorem FX2_enter_15 : pF kX2_enter.Ts kX2_enter.own 15 2 2 := ⟨_, _, _, by decide, rfl, by decide, by decide +kernel, by decide +kernel⟩
theorem FX2_enter_18 : pF kX2_enter.Ts kX2_enter.own 18 2 3 := ⟨_, _, _, by decide, rfl, by decide, by decide +kernel, by decide +kernel⟩
theorem FX2_enter_21 : pF kX2_enter.Ts kX2_enter.own 21 2 4 := ⟨_, _, _, by decide, rfl, by decide, by decide +kernel, by decide +kernel⟩
theorem FX2_enter_24 : pF kX2_enter.Ts kX2_enter.own 24 2 5 := ⟨_, _, _, by decide, rfl, by decide, by decide +kernel, by decide +kernel⟩
theorem FX2_enter_33 : pF kX2_enter.Ts kX2_enter.own 33 2 7 := ⟨_, _, _, by decide, rfl, by decide, by decide +kernel, by decide +kernel⟩
abbrev kX2_talk : pK := (RX2, cX2_talk, 4, wsX2_talk, { frames := 1, cells := 0, slots := 0, locals := 30 }, none, [], 0, 0)
theorem FX2_talk_18 : pF kX2_talk.Ts kX2_talk.own 18 2 3 := ⟨_, _, _, by decide, rfl, by decide, by decide +kernel, by decide +kernel⟩
theorem FX2_talk_21 : pF kX2_talk.Ts kX2_talk.own 21 2 4 := ⟨_, _, _, by decide, rfl, by decide, by decide +kernel, by decide +kernel⟩
abbrev kX2_due : pK := (RX2, cX2_due, 1, wsX2_due, { frames := 0, cells := 0, slots := 0, locals := 0 }, (some .int), [], 0, 0)
theorem FX2_due_9 : pF kX2_due.Ts kX2_due.own 9 2 1 := ⟨_, _, _, by decide, rfl, by decide, by decide +kernel, by decide +kernel⟩
theorem FX2_due_15 : pF kX2_due.Ts kX2_due.own 15 2 2 := ⟨_, _, _, by decide, rfl, by decide, by decide +kernel, by decide +kernel⟩
abbrev kX3_lowestFree : pK := (RX3, cX3_lowestFree, 6, wsX3_lowestFree, { frames := 0, cells := 0, slots := 0, locals := 0 }, (some .int), [], 0, 0)
theorem FX3_lowestFree_11 : pF kX3_lowestFree.Ts kX3_lowestFree.own 11 3 0 := ⟨_, _, _, by decide, rfl, by decide, by decide +kernel, by decide +kernel⟩
theorem FX3_lowestFree_22 : pF kX3_lowestFree.Ts kX3_lowestFree.own 22 2 0 := ⟨_, _, _, by decide, rfl, by decide, by decide +kernel, by decide +kernel⟩
abbrev kX3_mark : pK := (RX3, cX3_mark, 5, wsX3_mark, { frames := 0, cells := 0, slots := 0, locals := 0 }, none, [], 0, 0)
theorem FX3_mark_11 : pF kX3_mark.Ts kX3_mark.own 11 3 0 := ⟨_, _, _, by decide, rfl, by decide, by decide +kernel, by decide +kernel⟩
theorem FX3_mark_22 : pF kX3_mark.Ts kX3_mark.own 22 2 0 := ⟨_, _, _, by decide, rfl, by decide, by decide +kernel, by decide +kernel⟩
abbrev kX3_take : pK := (RX3, cX3_take, 4, wsX3_take, { frames := 1, cells := 0, slots := 0, locals := 30 }, (some .int), [], 0, 0)
theorem FX3_take_22 : pF kX3_take.Ts kX3_take.own 22 2 0 := ⟨_, _, _, by decide, rfl, by decide, by decide +kernel, by decide +kernel⟩
abbrev kX3_release : pK := (RX3, cX3_release, 4, wsX3_release, { frames := 1, cells := 0, slots := 0, locals := 30 }, none, [], 0, 0)
abbrev kX1_restart : pK := (RX1, cX1_restart, 2, wsX1_restart, { frames := 0, cells := 0, slots := 0, locals := 0 }, none, [], 0, 0)
theorem FX1_restart_22 : pF kX1_restart.Ts kX1_restart.own 22 1 1 := ⟨_, _, _, by decide, rfl, by decide, by decide +kernel, by decide +kernel⟩
theorem FX1_restart_15 : pF kX1_restart.Ts kX1_restart.own 15 1 2 := ⟨_, _, _, by decide, rfl, by decide, by decide +kernel, by decide +kernel⟩
theorem FX1_restart_19 : pF kX1_restart.Ts kX1_restart.own 19 1 3 := ⟨_, _, _, by decide, rfl, by decide, by decide +kernel, by decide +kernel⟩
abbrev kX1_add : pK := (RX1, cX1_add, 2, wsX1_add, { frames := 0, cells := 0, slots := 0, locals := 0 }, none, [], 0, 0)
theorem FX1_add_9 : pF kX1_add.Ts kX1_add.own 9 1 0 := ⟨_, _, _, by decide, rfl, by decide, by decide +kernel, by decide +kernel⟩
theorem FX1_add_22 : pF kX1_add.Ts kX1_add.own 22 1 1 := ⟨_, _, _, by decide, rfl, by decide, by decide +kernel, by decide +kernel⟩
abbrev kX0_write : pK := (RX0, cX0_write, 6, wsX0_write, { frames := 0, cells := 0, slots := 0, locals := 0 }, none, [], 0, 0)
theorem FX0_write_13 : pF kX0_write.Ts kX0_write.own 13 0 1 := ⟨_, _, _, by decide, rfl, by decide, by decide +kernel, by decide +kernel⟩
theorem FX0_write_9 : pF kX0_write.Ts kX0_write.own 9 0 0 := ⟨_, _, _, by decide, rfl, by decide, by decide +kernel, by decide +kernel⟩
abbrev kX0_keeps : pK := (RX0, cX0_keeps, 2, wsX0_keeps, { frames := 0, cells := 0, slots := 0, locals := 0 }, (some .boolean), [], 0, 0)
theorem FX0_keeps_13 : pF kX0_keeps.Ts kX0_keeps.own 13 0 1 := ⟨_, _, _, by decide, rfl, by decide, by decide +kernel, by decide +kernel⟩
abbrev kX0_read : pK := (RX0, cX0_read, 3, wsX0_read, { frames := 0, cells := 0, slots := 0, locals := 0 }, (some .int), [], 0, 0)
theorem FX0_read_9 : pF kX0_read.Ts kX0_read.own 9 0 0 := ⟨_, _, _, by decide, rfl, by decide, by decide +kernel, by decide +kernel⟩
def f_enter (M : dM) (l : Nat) (s n : Int32) : dM := up2 (up2 (up2 (up2 (up2 (up2 M l 1 s) l 2 n) l 3 (-1)) l 4 (-1)) l 5 (-1)) l 7 0
set_option maxRecDepth 100000 in
set_option maxHeartbeats 400000 in
theorem c_enter {M : dM} {R : pM} {l : Nat} (hl : l < 24) (s n : Int32) (l9 : Launch) : pMet l9 yX2_enter kX2_enter false [.ref (2 + l), .int s, .int n] (SM M ++ R) (fun v m => v = none ∧ m = SM (f_enter M l s n) ++ R) (fun _ _ => False) := by
  refine pMet.of (by decide) rfl rfl rfl (by intro v hv; simp only [List.mem_cons, List.not_mem_nil, or_false] at hv; rcases hv with rfl | rfl | rfl <;> rfl) (Nat.le_of_ble_eq_true rfl) ?_
  show PW _ _ _ _ _ 0 [some (.ref (2 + l)), some (.int s), some (.int n)] [] (SM M ++ R) 0 0
  refine PW.aload_n (i := 0) dX2_enter_0 rfl rfl ?_
  refine PW.iload_n (i := 1) dX2_enter_1 rfl rfl ?_
  refine PW.putf FX2_enter_9 (Fw_2_1 _) dX2_enter_2 (sm_line hl) (Nat.le_of_ble_eq_true rfl) (fun _ => rfl) (fun _ => rfl) (pu_line hl (by decide) (by decide)) ?_
  refine PW.aload_n (i := 0) dX2_enter_5 rfl rfl ?_
  refine PW.iload_n (i := 2) dX2_enter_6 rfl rfl ?_
  refine PW.putf FX2_enter_15 (Fw_2_2 _) dX2_enter_7 (sm_line hl) (Nat.le_of_ble_eq_true rfl) (fun _ => rfl) (fun _ => rfl) (pu_line hl (by decide) (by decide)) ?_
  refine PW.aload_n (i := 0) dX2_enter_10 rfl rfl ?_
  refine PW.iconst (v := (-1)) dX2_enter_11 (by decide) ?_
  refine PW.putf FX2_enter_18 (Fw_2_3 _) dX2_enter_12 (sm_line hl) (Nat.le_of_ble_eq_true rfl) (fun _ => rfl) (fun _ => rfl) (pu_line hl (by decide) (by decide)) ?_
  refine PW.aload_n (i := 0) dX2_enter_15 rfl rfl ?_
  refine PW.iconst (v := (-1)) dX2_enter_16 (by decide) ?_
  refine PW.putf FX2_enter_21 (Fw_2_4 _) dX2_enter_17 (sm_line hl) (Nat.le_of_ble_eq_true rfl) (fun _ => rfl) (fun _ => rfl) (pu_line hl (by decide) (by decide)) ?_
  refine PW.aload_n (i := 0) dX2_enter_20 rfl rfl ?_
  refine PW.iconst (v := (-1)) dX2_enter_21 (by decide) ?_
  refine PW.putf FX2_enter_24 (Fw_2_5 _) dX2_enter_22 (sm_line hl) (Nat.le_of_ble_eq_true rfl) (fun _ => rfl) (fun _ => rfl) (pu_line hl (by decide) (by decide)) ?_
  refine PW.aload_n (i := 0) dX2_enter_25 rfl rfl ?_
  refine PW.iconst (v := 0) dX2_enter_26 (by decide) ?_
  refine PW.putf FX2_enter_33 (Fw_2_7 _) dX2_enter_27 (sm_line hl) (Nat.le_of_ble_eq_true rfl) (fun _ => rfl) (fun _ => rfl) (pu_line hl (by decide) (by decide)) ?_
  exact PW.vret dX2_enter_30 rfl ⟨rfl, rfl⟩ (by decide) (by decide)
def f_talk (M : dM) (l : Nat) (w b n : Int32) : dM := up2 (up2 (f_enter M l 6 n) l 3 w) l 4 b
set_option maxRecDepth 100000 in
set_option maxHeartbeats 400000 in
theorem c_talk {M : dM} {R : pM} {l : Nat} (hl : l < 24) (w b n : Int32) (l9 : Launch) : pMet l9 yX2_talk kX2_talk false [.ref (2 + l), .int w, .int b, .int n] (SM M ++ R) (fun v m => v = none ∧ m = SM (f_talk M l w b n) ++ R) (fun _ _ => False) := by
  refine pMet.of (by decide) rfl rfl rfl (by intro v hv; simp only [List.mem_cons, List.not_mem_nil, or_false] at hv; rcases hv with rfl | rfl | rfl | rfl <;> rfl) (Nat.le_of_ble_eq_true rfl) ?_
  show PW _ _ _ _ _ 0 [some (.ref (2 + l)), some (.int w), some (.int b), some (.int n)] [] (SM M ++ R) 0 0
  refine PW.aload_n (i := 0) dX2_talk_0 rfl rfl ?_
  refine PW.bipush (v := 6) dX2_talk_1 (by decide) ?_
  refine PW.iload_n (i := 3) dX2_talk_3 rfl rfl ?_
  refine PW.callV (n := 2) (c_enter hl _ _) dX2_talk_4 gX2_talk_X2_enter rfl (by decide +kernel) rfl ⟨by decide, by decide⟩ ⟨rfl, rfl⟩ (Nat.le_of_ble_eq_true rfl) ⟨by decide, by decide⟩ (sm_line hl) (by decide) rfl rfl (fun v m9 hp => ?_) (fun _ _ hx => hx.elim)
  obtain ⟨rfl, rfl⟩ := hp
  refine PW.aload_n (i := 0) dX2_talk_7 rfl rfl ?_
  refine PW.iload_n (i := 1) dX2_talk_8 rfl rfl ?_
  refine PW.putf FX2_talk_18 (Fw_2_3 _) dX2_talk_9 (sm_line hl) (Nat.le_of_ble_eq_true rfl) (fun _ => rfl) (fun _ => rfl) (pu_line hl (by decide) (by decide)) ?_
  refine PW.aload_n (i := 0) dX2_talk_12 rfl rfl ?_
  refine PW.iload_n (i := 2) dX2_talk_13 rfl rfl ?_
  refine PW.putf FX2_talk_21 (Fw_2_4 _) dX2_talk_14 (sm_line hl) (Nat.le_of_ble_eq_true rfl) (fun _ => rfl) (fun _ => rfl) (pu_line hl (by decide) (by decide)) ?_
  exact PW.vret dX2_talk_17 rfl ⟨rfl, rfl⟩ (by decide) (by decide)
def b2i (b : Bool) : Int32 := if b then 1 else 0
theorem b2i_n (b : Bool) : narrow .boolean (.int (b2i b)) = .int (b2i b) := by cases b <;> rfl
def f_hook (M : dM) (l : Nat) : Bool := decide (M l 1 = 0 ∨ M l 1 = 4)
set_option maxRecDepth 100000 in
set_option maxHeartbeats 400000 in
theorem c_isOnHook {M : dM} {R : pM} {l : Nat} (hl : l < 24) (l9 : Launch) : pMet l9 yX2_isOnHook kX2_isOnHook false [.ref (2 + l)] (SM M ++ R) (fun v m => v = some (.int (b2i (f_hook M l))) ∧ m = SM (M) ++ R) (fun _ _ => False) := by
  refine pMet.of (by decide) rfl rfl rfl (by intro v hv; simp only [List.mem_cons, List.not_mem_nil, or_false] at hv; subst hv; rfl) (Nat.le_of_ble_eq_true rfl) ?_
  show PW _ _ _ _ _ 0 [some (.ref (2 + l))] [] (SM M ++ R) 0 0
  refine PW.aload_n (i := 0) dX2_isOnHook_0 rfl rfl ?_
  refine PW.getf FX2_isOnHook_9 dX2_isOnHook_1 (sm_line hl) rfl ?_
  refine PW.if_eq (tgt := 15) dX2_isOnHook_4 (by decide) (fun h4 => ?_) (fun h4 => ?_)
  · refine PW.iconst (v := 1) dX2_isOnHook_15 (by decide) ?_
    refine PW.goto (tgt := 20) dX2_isOnHook_16 (by decide) ?_
    exact PW.zret (v := 1) dX2_isOnHook_20 rfl rfl ⟨by simp [f_hook, b2i, h4], rfl⟩ (by decide) (by decide)
  · refine PW.aload_n (i := 0) dX2_isOnHook_7 rfl rfl ?_
    refine PW.getf FX2_isOnHook_9 dX2_isOnHook_8 (sm_line hl) rfl ?_
    refine PW.iconst (v := 4) dX2_isOnHook_11 (by decide) ?_
    refine PW.icmp_ne (tgt := 19) dX2_isOnHook_12 (by decide) (fun h12 => ?_) (fun h12 => ?_)
    · refine PW.iconst (v := 0) dX2_isOnHook_19 (by decide) ?_
      exact PW.zret (v := 0) dX2_isOnHook_20 rfl rfl ⟨by simp [f_hook, b2i, h4, h12], rfl⟩ (by decide) (by decide)
    · refine PW.iconst (v := 1) dX2_isOnHook_15 (by decide) ?_
      refine PW.goto (tgt := 20) dX2_isOnHook_16 (by decide) ?_
      exact PW.zret (v := 1) dX2_isOnHook_20 rfl rfl ⟨by simp [f_hook, b2i, h4, h12], rfl⟩ (by decide) (by decide)
def f_rfor (M : dM) (l : Nat) (c : Int32) : Bool := decide (M l 1 = 4 ∧ M l 3 = c)
set_option maxRecDepth 100000 in
set_option maxHeartbeats 400000 in
theorem c_ringsFor {M : dM} {R : pM} {l : Nat} (hl : l < 24) (c : Int32) (l9 : Launch) : pMet l9 yX2_ringsFor kX2_ringsFor false [.ref (2 + l), .int c] (SM M ++ R) (fun v m => v = some (.int (b2i (f_rfor M l c))) ∧ m = SM (M) ++ R) (fun _ _ => False) := by
  refine pMet.of (by decide) rfl rfl rfl (by intro v hv; simp only [List.mem_cons, List.not_mem_nil, or_false] at hv; rcases hv with rfl | rfl <;> rfl) (Nat.le_of_ble_eq_true rfl) ?_
  show PW _ _ _ _ _ 0 [some (.ref (2 + l)), some (.int c)] [] (SM M ++ R) 0 0
  refine PW.aload_n (i := 0) dX2_ringsFor_0 rfl rfl ?_
  refine PW.getf FX2_ringsFor_9 dX2_ringsFor_1 (sm_line hl) rfl ?_
  refine PW.iconst (v := 4) dX2_ringsFor_4 (by decide) ?_
  refine PW.icmp_ne (tgt := 20) dX2_ringsFor_5 (by decide) (fun h5 => ?_) (fun h5 => ?_)
  · refine PW.iconst (v := 0) dX2_ringsFor_20 (by decide) ?_
    exact PW.zret (v := 0) dX2_ringsFor_21 rfl rfl ⟨by simp [f_rfor, b2i, h5], rfl⟩ (by decide) (by decide)
  · refine PW.aload_n (i := 0) dX2_ringsFor_8 rfl rfl ?_
    refine PW.getf FX2_ringsFor_18 dX2_ringsFor_9 (sm_line hl) rfl ?_
    refine PW.iload_n (i := 1) dX2_ringsFor_12 rfl rfl ?_
    refine PW.icmp_ne (tgt := 20) dX2_ringsFor_13 (by decide) (fun h13 => ?_) (fun h13 => ?_)
    · refine PW.iconst (v := 0) dX2_ringsFor_20 (by decide) ?_
      exact PW.zret (v := 0) dX2_ringsFor_21 rfl rfl ⟨by simp [f_rfor, b2i, h5, h13], rfl⟩ (by decide) (by decide)
    · refine PW.iconst (v := 1) dX2_ringsFor_16 (by decide) ?_
      refine PW.goto (tgt := 21) dX2_ringsFor_17 (by decide) ?_
      exact PW.zret (v := 1) dX2_ringsFor_21 rfl rfl ⟨by simp [f_rfor, b2i, h5, h13], rfl⟩ (by decide) (by decide)
end
section
theorem tsw_cases {x : Int32} (e1 : ¬ x = 1) (e2 : ¬ x = 2) (e3 : ¬ x = 3) (e7 : ¬ x = 7) : (x.toInt < 1 ∨ 7 < x.toInt) ∨ x = 4 ∨ x = 5 ∨ x = 6 := by
  have h : ∀ k : Int32, ¬ x = k → x.toInt ≠ k.toInt := fun k hk q => hk (Int32.toInt_inj.mp q)
  have a1 : x.toInt ≠ 1 := h 1 e1
  have a2 : x.toInt ≠ 2 := h 2 e2
  have a3 : x.toInt ≠ 3 := h 3 e3
  have a7 : x.toInt ≠ 7 := h 7 e7
  by_cases b4 : x = 4
  · exact Or.inr (Or.inl b4)
  by_cases b5 : x = 5
  · exact Or.inr (Or.inr (Or.inl b5))
  by_cases b6 : x = 6
  · exact Or.inr (Or.inr (Or.inr b6))
  have a4 : x.toInt ≠ 4 := h 4 b4
  have a5 : x.toInt ≠ 5 := h 5 b5
  have a6 : x.toInt ≠ 6 := h 6 b6
  left
  omega
theorem tsw_due {k : pK} {al : Bool} {n0 : Nat} {P : pP} {T : pT} {L : pL} {st : List Value} {mem : pM} {cells slots : Nat} (d : decode k.cc 4 = .ok (.tableswitch 70 1 7 #[44, 44, 52, 70, 70, 70, 61], 44)) (x : Int32) (e1 : ¬ x = 1) (e2 : ¬ x = 2) (e3 : ¬ x = 3) (e7 : ¬ x = 7) (kk : PW k al n0 P T 74 L st mem cells slots) : PW k al n0 P T 4 L (.int x :: st) mem cells slots := by
  rcases tsw_cases e1 e2 e3 e7 with h | rfl | rfl | rfl
  · exact PW.tableOut (tgt := 74) d h (by decide) kk
  · exact PW.tableIn (off := 70) (tgt := 74) d (by decide) (by decide) (by decide) (by decide) kk
  · exact PW.tableIn (off := 70) (tgt := 74) d (by decide) (by decide) (by decide) (by decide) kk
  · exact PW.tableIn (off := 70) (tgt := 74) d (by decide) (by decide) (by decide) (by decide) kk
def f_due (M : dM) (l : Nat) : Int32 := if M l 1 = 1 ∨ M l 1 = 2 then M l 2 + 100 else if M l 1 = 3 then M l 2 + 300 else if M l 1 = 7 then M l 2 + 600 else 2147483647
set_option maxRecDepth 100000 in
set_option maxHeartbeats 400000 in
theorem c_due {M : dM} {R : pM} {l : Nat} (hl : l < 24) (l9 : Launch) : pMet l9 yX2_due kX2_due false [.ref (2 + l)] (SM M ++ R) (fun v m => v = some (.int (f_due M l)) ∧ m = SM (M) ++ R) (fun _ _ => False) := by
  refine pMet.of (by decide) rfl rfl rfl (by intro v hv; simp only [List.mem_cons, List.not_mem_nil, or_false] at hv; subst hv; rfl) (Nat.le_of_ble_eq_true rfl) ?_
  show PW _ _ _ _ _ 0 [some (.ref (2 + l))] [] (SM M ++ R) 0 0
  refine PW.aload_n (i := 0) dX2_due_0 rfl rfl ?_
  refine PW.getf FX2_due_9 dX2_due_1 (sm_line hl) rfl ?_
  by_cases e1 : M l 1 = 1
  · refine PW.tableIn (off := 44) (tgt := 48) dX2_due_4 (by rw [e1]; decide) (by rw [e1]; decide) (by rw [e1]; decide) (by decide) ?_
    refine PW.aload_n (i := 0) dX2_due_48 rfl rfl ?_
    refine PW.getf FX2_due_15 dX2_due_49 (sm_line hl) rfl ?_
    refine PW.bipush (v := 100) dX2_due_52 (by decide) ?_
    refine PW.iadd dX2_due_54 ?_
    exact PW.iret dX2_due_55 rfl ⟨by simp [f_due, e1], rfl⟩ (by decide) (by decide)
  by_cases e2 : M l 1 = 2
  · refine PW.tableIn (off := 44) (tgt := 48) dX2_due_4 (by rw [e2]; decide) (by rw [e2]; decide) (by rw [e2]; decide) (by decide) ?_
    refine PW.aload_n (i := 0) dX2_due_48 rfl rfl ?_
    refine PW.getf FX2_due_15 dX2_due_49 (sm_line hl) rfl ?_
    refine PW.bipush (v := 100) dX2_due_52 (by decide) ?_
    refine PW.iadd dX2_due_54 ?_
    exact PW.iret dX2_due_55 rfl ⟨by simp [f_due, e2], rfl⟩ (by decide) (by decide)
  by_cases e3 : M l 1 = 3
  · refine PW.tableIn (off := 52) (tgt := 56) dX2_due_4 (by rw [e3]; decide) (by rw [e3]; decide) (by rw [e3]; decide) (by decide) ?_
    refine PW.aload_n (i := 0) dX2_due_56 rfl rfl ?_
    refine PW.getf FX2_due_15 dX2_due_57 (sm_line hl) rfl ?_
    refine PW.sipush (v := 300) dX2_due_60 (by decide) ?_
    refine PW.iadd dX2_due_63 ?_
    exact PW.iret dX2_due_64 rfl ⟨by simp [f_due, e3], rfl⟩ (by decide) (by decide)
  by_cases e7 : M l 1 = 7
  · refine PW.tableIn (off := 61) (tgt := 65) dX2_due_4 (by rw [e7]; decide) (by rw [e7]; decide) (by rw [e7]; decide) (by decide) ?_
    refine PW.aload_n (i := 0) dX2_due_65 rfl rfl ?_
    refine PW.getf FX2_due_15 dX2_due_66 (sm_line hl) rfl ?_
    refine PW.sipush (v := 600) dX2_due_69 (by decide) ?_
    refine PW.iadd dX2_due_72 ?_
    exact PW.iret dX2_due_73 rfl ⟨by simp [f_due, e7], rfl⟩ (by decide) (by decide)
  refine tsw_due (k := kX2_due) dX2_due_4 (M l 1) e1 e2 e3 e7 ?_
  refine PW.ldc (v := 2147483647) dX2_due_74 (by decide +kernel) ?_
  exact PW.iret dX2_due_76 rfl ⟨by simp [f_due, e1, e2, e3, e7], rfl⟩ (by decide) (by decide)
def ff (p q : Nat → Int32) : Nat → Nat → Int32
  | 0, _ => -1
  | n + 1, s => if p s = -1 ∧ q s = -1 then nI s else ff p q n (s + 1)
def f_free (M : dM) (a b : Nat) : Int32 := ff (M (24 + a / 6)) (M (24 + b / 6)) 8 0
theorem ff_cases (p q : Nat → Int32) : ∀ n s, ff p q n s = -1 ∨ ∃ t, s ≤ t ∧ t < s + n ∧ ff p q n s = nI t ∧ p t = -1 ∧ q t = -1
  | 0, _ => Or.inl rfl
  | n + 1, s => by
    by_cases h : p s = -1 ∧ q s = -1
    · exact Or.inr ⟨s, Nat.le_refl _, by omega, by rw [ff, if_pos h], h.1, h.2⟩
    · rcases ff_cases p q n (s + 1) with e | ⟨t, h1, h2, h3, h4⟩
      · left; rw [ff, if_neg h]; exact e
      · right; exact ⟨t, by omega, by omega, by rw [ff, if_neg h]; exact h3, h4⟩
theorem f_free_cases (M : dM) (a b : Nat) : f_free M a b = -1 ∨ ∃ t, t < 8 ∧ f_free M a b = nI t := by
  rcases ff_cases (M (24 + a / 6)) (M (24 + b / 6)) 8 0 with h | ⟨t, -, h2, h3, -⟩
  · exact Or.inl h
  · exact Or.inr ⟨t, by omega, h3⟩
theorem nI_m1 (t : Nat) (h : t < 2 ^ 31) : ¬ nI t = -1 := fun q => nI_pos h (by rw [q]; decide)
set_option maxRecDepth 100000 in
theorem lf_loop {M : dM} {R : pM} {a b n0 : Nat} (ha : a < 24) (hb : b < 24) : ∀ (n s : Nat), s + n = 8 → ff (M (24 + a / 6)) (M (24 + b / 6)) n s = f_free M a b → PW kX3_lowestFree false n0 (fun v m => v = some (.int (f_free M a b)) ∧ m = SM M ++ R) (fun _ _ => False) 30 [some (.ref 26), some (.ref (2 + a)), some (.ref (2 + b)), some (.ref (28 + a / 6)), some (.ref (28 + b / 6)), some (.int (nI s))] [] (SM M ++ R) 0 0 := by
  intro n
  induction n with
  | zero =>
    intro s hs hr
    refine PW.iload dX3_lowestFree_30 rfl ?_
    refine PW.bipush (v := 8) dX3_lowestFree_32 (by decide) ?_
    refine PW.icmp_ge (tgt := 63) dX3_lowestFree_34 (by decide) (fun _ => ?_) (fun h34 => absurd (nI_le (a := 8) (b := s) (by omega) (by omega)) h34)
    refine PW.iconst (v := (-1)) dX3_lowestFree_63 (by decide) ?_
    exact PW.iret dX3_lowestFree_64 rfl ⟨by rw [← hr]; rfl, rfl⟩ (by decide) (by decide)
  | succ n ih =>
    intro s hs hr
    refine PW.iload dX3_lowestFree_30 rfl ?_
    refine PW.bipush (v := 8) dX3_lowestFree_32 (by decide) ?_
    refine PW.icmp_ge (tgt := 63) dX3_lowestFree_34 (by decide) (fun h34 => absurd h34 (nI_ge (a := s) (b := 8) (by omega) (by decide))) (fun _ => ?_)
    refine PW.aload_n (i := 3) dX3_lowestFree_37 rfl rfl ?_
    refine PW.iload dX3_lowestFree_38 rfl ?_
    refine PW.iald dX3_lowestFree_40 (sm_row (u6 ha)) rfl (by omega) (iaF_get (by omega)) ?_
    refine PW.iconst (v := (-1)) dX3_lowestFree_41 (by decide) ?_
    refine PW.icmp_ne (tgt := 57) dX3_lowestFree_42 (by decide) (fun h42 => ?_) (fun h42 => ?_)
    · refine PW.iinc (v := nI (s + 1)) dX3_lowestFree_57 rfl (nI_1 s) (by decide) rfl ?_
      refine PW.goto (tgt := 30) dX3_lowestFree_60 (by decide) ?_
      exact ih (s + 1) (by omega) (by rw [← hr, ff, if_neg (by simp [h42])])
    · refine PW.aload dX3_lowestFree_45 rfl ?_
      refine PW.iload dX3_lowestFree_47 rfl ?_
      refine PW.iald dX3_lowestFree_49 (sm_row (u6 hb)) rfl (by omega) (iaF_get (by omega)) ?_
      refine PW.iconst (v := (-1)) dX3_lowestFree_50 (by decide) ?_
      refine PW.icmp_ne (tgt := 57) dX3_lowestFree_51 (by decide) (fun h51 => ?_) (fun h51 => ?_)
      · refine PW.iinc (v := nI (s + 1)) dX3_lowestFree_57 rfl (nI_1 s) (by decide) rfl ?_
        refine PW.goto (tgt := 30) dX3_lowestFree_60 (by decide) ?_
        exact ih (s + 1) (by omega) (by rw [← hr, ff, if_neg (by simp [h42, h51])])
      · refine PW.iload dX3_lowestFree_54 rfl ?_
        exact PW.iret dX3_lowestFree_56 rfl ⟨by rw [← hr, ff, if_pos ⟨h42, h51⟩], rfl⟩ (by decide) (by decide)
set_option maxRecDepth 100000 in
set_option maxHeartbeats 400000 in
theorem c_lowestFree {M : dM} {R : pM} {a b : Nat} (ha : a < 24) (hb : b < 24) (l9 : Launch) : pMet l9 yX3_lowestFree kX3_lowestFree false [.ref 26, .ref (2 + a), .ref (2 + b)] (SM M ++ R) (fun v m => v = some (.int (f_free M a b)) ∧ m = SM (M) ++ R) (fun _ _ => False) := by
  refine pMet.of (by decide) rfl rfl rfl (by intro v hv; simp only [List.mem_cons, List.not_mem_nil, or_false] at hv; rcases hv with rfl | rfl | rfl <;> rfl) (Nat.le_of_ble_eq_true rfl) ?_
  show PW _ _ _ _ _ 0 [some (.ref 26), some (.ref (2 + a)), some (.ref (2 + b)), none, none, none] [] (SM M ++ R) 0 0
  refine PW.aload_n (i := 0) dX3_lowestFree_0 rfl rfl ?_
  refine PW.getf FX3_lowestFree_11 dX3_lowestFree_1 sm_sw rfl ?_
  refine PW.aload_n (i := 1) dX3_lowestFree_4 rfl rfl ?_
  refine PW.getf FX3_lowestFree_22 dX3_lowestFree_5 (sm_line ha) rfl ?_
  refine PW.bipush (v := 6) dX3_lowestFree_8 (by decide) ?_
  refine PW.idiv dX3_lowestFree_10 (by decide) ?_
  refine PW.aald dX3_lowestFree_11 sm_car (by decide) (fun _ => rfl) rfl (div6 ha) (by omega) (car_get _ (u6 ha)) ?_
  refine PW.astore_n (i := 3) dX3_lowestFree_12 rfl (by decide) rfl ?_
  refine PW.aload_n (i := 0) dX3_lowestFree_13 rfl rfl ?_
  refine PW.getf FX3_lowestFree_11 dX3_lowestFree_14 sm_sw rfl ?_
  refine PW.aload_n (i := 2) dX3_lowestFree_17 rfl rfl ?_
  refine PW.getf FX3_lowestFree_22 dX3_lowestFree_18 (sm_line hb) rfl ?_
  refine PW.bipush (v := 6) dX3_lowestFree_21 (by decide) ?_
  refine PW.idiv dX3_lowestFree_23 (by decide) ?_
  refine PW.aald dX3_lowestFree_24 sm_car (by decide) (fun _ => rfl) rfl (div6 hb) (by omega) (car_get _ (u6 hb)) ?_
  refine PW.astore dX3_lowestFree_25 (by decide) rfl ?_
  refine PW.iconst (v := 0) dX3_lowestFree_27 (by decide) ?_
  refine PW.istore dX3_lowestFree_28 (by decide) rfl ?_
  exact lf_loop ha hb 8 0 rfl rfl
def f_mark (M : dM) (a b t : Nat) (w : Int32) : dM := up2 (up2 M (24 + a / 6) t w) (24 + b / 6) t w
set_option maxRecDepth 100000 in
set_option maxHeartbeats 400000 in
theorem c_mark {M : dM} {R : pM} {a b t : Nat} (ha : a < 24) (hb : b < 24) (ht : t < 8) (w : Int32) (l9 : Launch) : pMet l9 yX3_mark kX3_mark false [.ref 26, .ref (2 + a), .ref (2 + b), .int (nI t), .int w] (SM M ++ R) (fun v m => v = none ∧ m = SM (f_mark M a b t w) ++ R) (fun _ _ => False) := by
  refine pMet.of (by decide) rfl rfl rfl (by intro v hv; simp only [List.mem_cons, List.not_mem_nil, or_false] at hv; rcases hv with rfl | rfl | rfl | rfl | rfl <;> rfl) (Nat.le_of_ble_eq_true rfl) ?_
  show PW _ _ _ _ _ 0 [some (.ref 26), some (.ref (2 + a)), some (.ref (2 + b)), some (.int (nI t)), some (.int w)] [] (SM M ++ R) 0 0
  refine PW.aload_n (i := 0) dX3_mark_0 rfl rfl ?_
  refine PW.getf FX3_mark_11 dX3_mark_1 sm_sw rfl ?_
  refine PW.aload_n (i := 1) dX3_mark_4 rfl rfl ?_
  refine PW.getf FX3_mark_22 dX3_mark_5 (sm_line ha) rfl ?_
  refine PW.bipush (v := 6) dX3_mark_8 (by decide) ?_
  refine PW.idiv dX3_mark_10 (by decide) ?_
  refine PW.aald dX3_mark_11 sm_car (by decide) (fun _ => rfl) rfl (div6 ha) (by omega) (car_get _ (u6 ha)) ?_
  refine PW.iload_n (i := 3) dX3_mark_12 rfl rfl ?_
  refine PW.iload dX3_mark_13 rfl ?_
  refine PW.iast dX3_mark_15 (sm_row (u6 ha)) rfl (by omega) (by rw [iaF_len]; exact ht) (pu_row (u6 ha)) ?_
  refine PW.aload_n (i := 0) dX3_mark_16 rfl rfl ?_
  refine PW.getf FX3_mark_11 dX3_mark_17 sm_sw rfl ?_
  refine PW.aload_n (i := 2) dX3_mark_20 rfl rfl ?_
  refine PW.getf FX3_mark_22 dX3_mark_21 (sm_line hb) rfl ?_
  refine PW.bipush (v := 6) dX3_mark_24 (by decide) ?_
  refine PW.idiv dX3_mark_26 (by decide) ?_
  refine PW.aald dX3_mark_27 sm_car (by decide) (fun _ => rfl) rfl (div6 hb) (by omega) (car_get _ (u6 hb)) ?_
  refine PW.iload_n (i := 3) dX3_mark_28 rfl rfl ?_
  refine PW.iload dX3_mark_29 rfl ?_
  refine PW.iast dX3_mark_31 (sm_row (u6 hb)) rfl (by omega) (by rw [iaF_len]; exact ht) (pu_row (u6 hb)) ?_
  exact PW.vret dX3_mark_32 rfl ⟨rfl, rfl⟩ (by decide) (by decide)
set_option maxRecDepth 100000 in
set_option maxHeartbeats 400000 in
theorem c_release {M : dM} {R : pM} {a b t : Nat} (ha : a < 24) (hb : b < 24) (ht : t < 8) (l9 : Launch) : pMet l9 yX3_release kX3_release false [.ref 26, .ref (2 + a), .ref (2 + b), .int (nI t)] (SM M ++ R) (fun v m => v = none ∧ m = SM (f_mark M a b t (-1)) ++ R) (fun _ _ => False) := by
  refine pMet.of (by decide) rfl rfl rfl (by intro v hv; simp only [List.mem_cons, List.not_mem_nil, or_false] at hv; rcases hv with rfl | rfl | rfl | rfl <;> rfl) (Nat.le_of_ble_eq_true rfl) ?_
  show PW _ _ _ _ _ 0 [some (.ref 26), some (.ref (2 + a)), some (.ref (2 + b)), some (.int (nI t))] [] (SM M ++ R) 0 0
  refine PW.aload_n (i := 0) dX3_release_0 rfl rfl ?_
  refine PW.aload_n (i := 1) dX3_release_1 rfl rfl ?_
  refine PW.aload_n (i := 2) dX3_release_2 rfl rfl ?_
  refine PW.iload_n (i := 3) dX3_release_3 rfl rfl ?_
  refine PW.iconst (v := (-1)) dX3_release_4 (by decide) ?_
  refine PW.callV (n := 4) (c_mark ha hb ht _) dX3_release_5 gX3_release_X3_mark rfl (by decide +kernel) rfl ⟨by decide, by decide⟩ ⟨rfl, rfl⟩ (Nat.le_of_ble_eq_true rfl) ⟨by decide, by decide⟩ sm_sw (by decide) rfl rfl (fun v m9 hp => ?_) (fun _ _ hx => hx.elim)
  obtain ⟨rfl, rfl⟩ := hp
  exact PW.vret dX3_release_8 rfl ⟨rfl, rfl⟩ (by decide) (by decide)
def mnI (a b : Nat) : Int32 := if nI b < nI a then nI b else nI a
def f_take (M : dM) (a b : Nat) : dM := if f_free M a b = -1 then M else f_mark M a b (f_free M a b).toNatClampNeg (mnI a b)
set_option maxRecDepth 100000 in
set_option maxHeartbeats 400000 in
theorem c_take {M : dM} {R : pM} {a b : Nat} (ha : a < 24) (hb : b < 24) (l9 : Launch) : pMet l9 yX3_take kX3_take false [.ref 26, .ref (2 + a), .ref (2 + b)] (SM M ++ R) (fun v m => v = some (.int (f_free M a b)) ∧ m = SM (f_take M a b) ++ R) (fun _ _ => False) := by
  refine pMet.of (by decide) rfl rfl rfl (by intro v hv; simp only [List.mem_cons, List.not_mem_nil, or_false] at hv; rcases hv with rfl | rfl | rfl <;> rfl) (Nat.le_of_ble_eq_true rfl) ?_
  show PW _ _ _ _ _ 0 [some (.ref 26), some (.ref (2 + a)), some (.ref (2 + b)), none] [] (SM M ++ R) 0 0
  refine PW.aload_n (i := 0) dX3_take_0 rfl rfl ?_
  refine PW.aload_n (i := 1) dX3_take_1 rfl rfl ?_
  refine PW.aload_n (i := 2) dX3_take_2 rfl rfl ?_
  refine PW.callV (n := 2) (c_lowestFree ha hb) dX3_take_3 gX3_take_X3_lowestFree rfl (by decide +kernel) rfl ⟨by decide, by decide⟩ ⟨rfl, rfl⟩ (Nat.le_of_ble_eq_true rfl) ⟨by decide, by decide⟩ sm_sw (by decide) rfl rfl (fun v m9 hp => ?_) (fun _ _ hx => hx.elim)
  obtain ⟨rfl, rfl⟩ := hp
  refine PW.istore_n (i := 3) dX3_take_6 rfl (by decide) rfl ?_
  refine PW.iload_n (i := 3) dX3_take_7 rfl rfl ?_
  refine PW.iconst (v := (-1)) dX3_take_8 (by decide) ?_
  refine PW.icmp_eq (tgt := 30) dX3_take_9 (by decide) (fun h9 => ?_) (fun h9 => ?_)
  · refine PW.iload_n (i := 3) dX3_take_30 rfl rfl ?_
    first | exact PW.iret dX3_take_31 rfl ⟨rfl, by rw [f_take, if_pos h9]⟩ (by decide) (by decide) | exact PW.iret dX3_take_31 rfl ⟨rfl, by rw [f_take, if_neg h9, et, nI_clamp (by omega)]; rfl⟩ (by decide) (by decide)
  · obtain ⟨t, ht, et⟩ : ∃ t, t < 8 ∧ f_free M a b = nI t := (f_free_cases M a b).resolve_left h9
    rw [et]
    refine PW.aload_n (i := 0) dX3_take_12 rfl rfl ?_
    refine PW.aload_n (i := 1) dX3_take_13 rfl rfl ?_
    refine PW.aload_n (i := 2) dX3_take_14 rfl rfl ?_
    refine PW.iload_n (i := 3) dX3_take_15 rfl rfl ?_
    refine PW.aload_n (i := 1) dX3_take_16 rfl rfl ?_
    refine PW.getf FX3_take_22 dX3_take_17 (sm_line ha) rfl ?_
    refine PW.aload_n (i := 2) dX3_take_20 rfl rfl ?_
    refine PW.getf FX3_take_22 dX3_take_21 (sm_line hb) rfl ?_
    refine PW.mmin dX3_take_24 (by decide +kernel) (by decide +kernel) (by decide +kernel) (by decide +kernel) (by decide) (Nat.le_of_ble_eq_true rfl) (by decide) (by decide) ?_
    refine PW.callV (n := 4) (c_mark ha hb ht _) dX3_take_27 gX3_take_X3_mark rfl (by decide +kernel) rfl ⟨by decide, by decide⟩ ⟨rfl, rfl⟩ (Nat.le_of_ble_eq_true rfl) ⟨by decide, by decide⟩ sm_sw (by decide) rfl rfl (fun v m9 hp => ?_) (fun _ _ hx => hx.elim)
    obtain ⟨rfl, rfl⟩ := hp
    refine PW.iload_n (i := 3) dX3_take_30 rfl rfl ?_
    first | exact PW.iret dX3_take_31 rfl ⟨rfl, by rw [f_take, if_pos h9]⟩ (by decide) (by decide) | exact PW.iret dX3_take_31 rfl ⟨rfl, by rw [f_take, if_neg h9, et, nI_clamp (by omega)]; rfl⟩ (by decide) (by decide)
end
section
abbrev kX3_slotsInUse : pK := (RX3, cX3_slotsInUse, 4, wsX3_slotsInUse, { frames := 0, cells := 0, slots := 0, locals := 0 }, (some .int), [], 0, 0)
theorem FX3_slotsInUse_11 : pF kX3_slotsInUse.Ts kX3_slotsInUse.own 11 3 0 := ⟨_, _, _, by decide, rfl, by decide, by decide +kernel, by decide +kernel⟩
abbrev kX1_has : pK := (RX1, cX1_has, 3, wsX1_has, { frames := 0, cells := 0, slots := 0, locals := 0 }, (some .boolean), [], 0, 0)
theorem FX1_has_22 : pF kX1_has.Ts kX1_has.own 22 1 1 := ⟨_, _, _, by decide, rfl, by decide, by decide +kernel, by decide +kernel⟩
theorem FX1_has_9 : pF kX1_has.Ts kX1_has.own 9 1 0 := ⟨_, _, _, by decide, rfl, by decide, by decide +kernel, by decide +kernel⟩
def f_restart (M : dM) (g : Nat) (o : Int32) : dM := up2 (up2 (up2 M (28 + g) 1 0) (28 + g) 2 o) (28 + g) 3 (-1)
set_option maxRecDepth 100000 in
set_option maxHeartbeats 400000 in
theorem c_restart {M : dM} {R : pM} {g : Nat} (hg : g < 4) (o : Int32) (l9 : Launch) : pMet l9 yX1_restart kX1_restart false [.ref (33 + 2 * g), .int o] (SM M ++ R) (fun v m => v = none ∧ m = SM (f_restart M g o) ++ R) (fun _ _ => False) := by
  refine pMet.of (by decide) rfl rfl rfl (by intro v hv; simp only [List.mem_cons, List.not_mem_nil, or_false] at hv; rcases hv with rfl | rfl <;> rfl) (Nat.le_of_ble_eq_true rfl) ?_
  show PW _ _ _ _ _ 0 [some (.ref (33 + 2 * g)), some (.int o)] [] (SM M ++ R) 0 0
  refine PW.aload_n (i := 0) dX1_restart_0 rfl rfl ?_
  refine PW.iconst (v := 0) dX1_restart_1 (by decide) ?_
  refine PW.putf FX1_restart_22 (Fw_1_1 _) dX1_restart_2 (sm_grp hg) (Nat.le_of_ble_eq_true rfl) (fun _ => rfl) (fun _ => rfl) (pu_grp hg (by decide) (by decide)) ?_
  refine PW.aload_n (i := 0) dX1_restart_5 rfl rfl ?_
  refine PW.iload_n (i := 1) dX1_restart_6 rfl rfl ?_
  refine PW.putf FX1_restart_15 (Fw_1_2 _) dX1_restart_7 (sm_grp hg) (Nat.le_of_ble_eq_true rfl) (fun _ => rfl) (fun _ => rfl) (pu_grp hg (by decide) (by decide)) ?_
  refine PW.aload_n (i := 0) dX1_restart_10 rfl rfl ?_
  refine PW.iconst (v := (-1)) dX1_restart_11 (by decide) ?_
  refine PW.putf FX1_restart_19 (Fw_1_3 _) dX1_restart_12 (sm_grp hg) (Nat.le_of_ble_eq_true rfl) (fun _ => rfl) (fun _ => rfl) (pu_grp hg (by decide) (by decide)) ?_
  exact PW.vret dX1_restart_15 rfl ⟨rfl, rfl⟩ (by decide) (by decide)
def f_add (M : dM) (g n : Nat) (x : Int32) : dM := up2 (up2 M (32 + g) n x) (28 + g) 1 (nI (n + 1))
theorem up2_r' {M : dM} {r j a b : Nat} {x : Int32} (h : a ≠ r) : up2 M r j x a b = M a b := up2_r h
set_option maxRecDepth 100000 in
set_option maxHeartbeats 400000 in
theorem c_add {M : dM} {R : pM} {g n : Nat} (hg : g < 4) (hn : n < 6) (en : M (28 + g) 1 = nI n) (x : Int32) (l9 : Launch) : pMet l9 yX1_add kX1_add false [.ref (33 + 2 * g), .int x] (SM M ++ R) (fun v m => v = none ∧ m = SM (f_add M g n x) ++ R) (fun _ _ => False) := by
  refine pMet.of (by decide) rfl rfl rfl (by intro v hv; simp only [List.mem_cons, List.not_mem_nil, or_false] at hv; rcases hv with rfl | rfl <;> rfl) (Nat.le_of_ble_eq_true rfl) ?_
  show PW _ _ _ _ _ 0 [some (.ref (33 + 2 * g)), some (.int x)] [] (SM M ++ R) 0 0
  refine PW.aload_n (i := 0) dX1_add_0 rfl rfl ?_
  refine PW.getf FX1_add_9 dX1_add_1 (sm_grp hg) rfl ?_
  refine PW.aload_n (i := 0) dX1_add_4 rfl rfl ?_
  refine PW.getf FX1_add_22 dX1_add_5 (sm_grp hg) rfl ?_
  refine PW.iload_n (i := 1) dX1_add_8 rfl rfl ?_
  refine PW.iast dX1_add_9 (sm_grw hg) en (by omega) (by rw [iaF_len]; exact hn) (pu_grw hg) ?_
  refine PW.aload_n (i := 0) dX1_add_10 rfl rfl ?_
  refine PW.dup dX1_add_11 rfl ?_
  refine PW.getf FX1_add_22 dX1_add_12 (sm_grp hg) rfl ?_
  rw [up2_r (by omega), en]
  refine PW.iconst (v := 1) dX1_add_15 (by decide) ?_
  refine PW.iadd dX1_add_16 ?_
  rw [show nI n + 1 = nI (n + 1) from nI_1 n]
  refine PW.putf FX1_add_22 (Fw_1_1 _) dX1_add_17 (sm_grp hg) (Nat.le_of_ble_eq_true rfl) (fun _ => rfl) (fun _ => rfl) (pu_grp hg (by decide) (by decide)) ?_
  exact PW.vret dX1_add_20 rfl ⟨rfl, rfl⟩ (by decide) (by decide)
def hasL (p : Nat → Int32) (x : Int32) : Nat → Nat → Bool
  | 0, _ => false
  | n + 1, s => if p s = x then true else hasL p x n (s + 1)
set_option maxRecDepth 100000 in
theorem has_loop {M : dM} {R : pM} {g N n0 : Nat} (hg : g < 4) (hN : N ≤ 6) (en : M (28 + g) 1 = nI N) (x : Int32) : ∀ (n s : Nat), s + n = N → hasL (M (32 + g)) x n s = hasL (M (32 + g)) x N 0 → PW kX1_has false n0 (fun v m => v = some (.int (b2i (hasL (M (32 + g)) x N 0))) ∧ m = SM M ++ R) (fun _ _ => False) 2 [some (.ref (33 + 2 * g)), some (.int x), some (.int (nI s))] [] (SM M ++ R) 0 0 := by
  intro n
  induction n with
  | zero =>
    intro s hs hr
    refine PW.iload_n (i := 2) dX1_has_2 rfl rfl ?_
    refine PW.aload_n (i := 0) dX1_has_3 rfl rfl ?_
    refine PW.getf FX1_has_22 dX1_has_4 (sm_grp hg) rfl ?_
    rw [en]
    refine PW.icmp_ge (tgt := 28) dX1_has_7 (by decide) (fun _ => ?_) (fun h7 => absurd (nI_le (a := N) (b := s) (by omega) (by omega)) h7)
    refine PW.iconst (v := 0) dX1_has_28 (by decide) ?_
    exact PW.zret (v := 0) dX1_has_29 rfl rfl ⟨by rw [← hr]; rfl, rfl⟩ (by decide) (by decide)
  | succ n ih =>
    intro s hs hr
    refine PW.iload_n (i := 2) dX1_has_2 rfl rfl ?_
    refine PW.aload_n (i := 0) dX1_has_3 rfl rfl ?_
    refine PW.getf FX1_has_22 dX1_has_4 (sm_grp hg) rfl ?_
    rw [en]
    refine PW.icmp_ge (tgt := 28) dX1_has_7 (by decide) (fun h7 => absurd h7 (nI_ge (a := s) (b := N) (by omega) (by omega))) (fun _ => ?_)
    refine PW.aload_n (i := 0) dX1_has_10 rfl rfl ?_
    refine PW.getf FX1_has_9 dX1_has_11 (sm_grp hg) rfl ?_
    refine PW.iload_n (i := 2) dX1_has_14 rfl rfl ?_
    refine PW.iald dX1_has_15 (sm_grw hg) rfl (by omega) (iaF_get (by omega)) ?_
    refine PW.iload_n (i := 1) dX1_has_16 rfl rfl ?_
    refine PW.icmp_ne (tgt := 22) dX1_has_17 (by decide) (fun h17 => ?_) (fun h17 => ?_)
    · refine PW.iinc (v := nI (s + 1)) dX1_has_22 rfl (nI_1 s) (by decide) rfl ?_
      refine PW.goto (tgt := 2) dX1_has_25 (by decide) ?_
      exact ih (s + 1) (by omega) (by rw [← hr, hasL, if_neg h17])
    · refine PW.iconst (v := 1) dX1_has_20 (by decide) ?_
      exact PW.zret (v := 1) dX1_has_21 rfl rfl ⟨by rw [← hr, hasL, if_pos h17]; rfl, rfl⟩ (by decide) (by decide)
set_option maxRecDepth 100000 in
set_option maxHeartbeats 400000 in
theorem c_has {M : dM} {R : pM} {g N : Nat} (hg : g < 4) (hN : N ≤ 6) (en : M (28 + g) 1 = nI N) (x : Int32) (l9 : Launch) : pMet l9 yX1_has kX1_has false [.ref (33 + 2 * g), .int x] (SM M ++ R) (fun v m => v = some (.int (b2i (hasL (M (32 + g)) x N 0))) ∧ m = SM (M) ++ R) (fun _ _ => False) := by
  refine pMet.of (by decide) rfl rfl rfl (by intro v hv; simp only [List.mem_cons, List.not_mem_nil, or_false] at hv; rcases hv with rfl | rfl <;> rfl) (Nat.le_of_ble_eq_true rfl) ?_
  show PW _ _ _ _ _ 0 [some (.ref (33 + 2 * g)), some (.int x), none] [] (SM M ++ R) 0 0
  refine PW.iconst (v := 0) dX1_has_0 (by decide) ?_
  refine PW.istore_n (i := 2) dX1_has_1 rfl (by decide) rfl ?_
  exact has_loop hg hN en x N 0 (by omega) rfl
def cnt (p : Nat → Int32) : Nat → Nat → Int32 → Int32
  | 0, _, acc => acc
  | n + 1, j, acc => cnt p n (j + 1) (if p j < 0 then acc else acc + 1)
def cntU (M : dM) : Nat → Nat → Int32 → Int32
  | 0, _, acc => acc
  | n + 1, u, acc => cntU M n (u + 1) (cnt (M (24 + u)) 8 0 acc)
set_option maxRecDepth 100000 in
theorem siu_in {M : dM} {R : pM} {P : pP} {T : pT} {n0 u : Nat} {fin : Int32} (hu : u < 4) (kk : PW kX3_slotsInUse false n0 P T 37 [some (.ref 26), some (.int fin), some (.int (nI u)), some (.int (nI 8))] [] (SM M ++ R) 0 0) : ∀ (n j : Nat) (acc : Int32), j + n = 8 → cnt (M (24 + u)) n j acc = fin → PW kX3_slotsInUse false n0 P T 11 [some (.ref 26), some (.int acc), some (.int (nI u)), some (.int (nI j))] [] (SM M ++ R) 0 0 := by
  intro n
  induction n with
  | zero =>
    intro j acc hj hr
    have ej : j = 8 := by omega
    subst ej
    have hr : acc = fin := hr
    subst hr
    refine PW.iload_n (i := 3) dX3_slotsInUse_11 rfl rfl ?_
    refine PW.bipush (v := 8) dX3_slotsInUse_12 (by decide) ?_
    refine PW.icmp_ge (tgt := 37) dX3_slotsInUse_14 (by decide) (fun _ => ?_) (fun h14 => absurd (nI_le (a := 8) (b := 8) (by omega) (by omega)) h14)
    exact kk
  | succ n ih =>
    intro j acc hj hr
    refine PW.iload_n (i := 3) dX3_slotsInUse_11 rfl rfl ?_
    refine PW.bipush (v := 8) dX3_slotsInUse_12 (by decide) ?_
    refine PW.icmp_ge (tgt := 37) dX3_slotsInUse_14 (by decide) (fun h14 => absurd h14 (nI_ge (a := j) (b := 8) (by omega) (by decide))) (fun _ => ?_)
    refine PW.aload_n (i := 0) dX3_slotsInUse_17 rfl rfl ?_
    refine PW.getf FX3_slotsInUse_11 dX3_slotsInUse_18 sm_sw rfl ?_
    refine PW.iload_n (i := 2) dX3_slotsInUse_21 rfl rfl ?_
    refine PW.aald dX3_slotsInUse_22 sm_car (by decide) (fun _ => rfl) rfl rfl (by omega) (car_get _ hu) ?_
    refine PW.iload_n (i := 3) dX3_slotsInUse_23 rfl rfl ?_
    refine PW.iald dX3_slotsInUse_24 (sm_row hu) rfl (by omega) (iaF_get (by omega)) ?_
    refine PW.if_lt (tgt := 31) dX3_slotsInUse_25 (by decide) (fun h25 => ?_) (fun h25 => ?_)
    · refine PW.iinc (v := nI (j + 1)) dX3_slotsInUse_31 rfl (nI_1 j) (by decide) rfl ?_
      refine PW.goto (tgt := 11) dX3_slotsInUse_34 (by decide) ?_
      exact ih (j + 1) _ (by omega) (by rw [← hr, cnt, if_pos h25])
    · refine PW.iinc (v := acc + 1) dX3_slotsInUse_28 rfl rfl (by decide) rfl ?_
      refine PW.iinc (v := nI (j + 1)) dX3_slotsInUse_31 rfl (nI_1 j) (by decide) rfl ?_
      refine PW.goto (tgt := 11) dX3_slotsInUse_34 (by decide) ?_
      exact ih (j + 1) _ (by omega) (by rw [← hr, cnt, if_neg h25])
set_option maxRecDepth 100000 in
theorem siu_out {M : dM} {R : pM} {n0 : Nat} : ∀ (n u : Nat) (acc : Int32) (w3 : Option Value), u + n = 4 → cntU M n u acc = cntU M 4 0 0 → PW kX3_slotsInUse false n0 (fun v m => v = some (.int (cntU M 4 0 0)) ∧ m = SM M ++ R) (fun _ _ => False) 4 [some (.ref 26), some (.int acc), some (.int (nI u)), w3] [] (SM M ++ R) 0 0 := by
  intro n
  induction n with
  | zero =>
    intro u acc w3 hu hr
    refine PW.iload_n (i := 2) dX3_slotsInUse_4 rfl rfl ?_
    refine PW.iconst (v := 4) dX3_slotsInUse_5 (by decide) ?_
    refine PW.icmp_ge (tgt := 43) dX3_slotsInUse_6 (by decide) (fun _ => ?_) (fun h6 => absurd (nI_le (a := 4) (b := u) (by omega) (by omega)) h6)
    refine PW.iload_n (i := 1) dX3_slotsInUse_43 rfl rfl ?_
    exact PW.iret dX3_slotsInUse_44 rfl ⟨by rw [← hr]; rfl, rfl⟩ (by decide) (by decide)
  | succ n ih =>
    intro u acc w3 hu hr
    refine PW.iload_n (i := 2) dX3_slotsInUse_4 rfl rfl ?_
    refine PW.iconst (v := 4) dX3_slotsInUse_5 (by decide) ?_
    refine PW.icmp_ge (tgt := 43) dX3_slotsInUse_6 (by decide) (fun h6 => absurd h6 (nI_ge (a := u) (b := 4) (by omega) (by decide))) (fun _ => ?_)
    refine PW.iconst (v := 0) dX3_slotsInUse_9 (by decide) ?_
    refine PW.istore_n (i := 3) dX3_slotsInUse_10 rfl (by decide) rfl ?_
    refine siu_in (fin := cnt (M (24 + u)) 8 0 acc) (by omega) ?_ 8 0 acc rfl rfl
    refine PW.iinc (v := nI (u + 1)) dX3_slotsInUse_37 rfl (nI_1 u) (by decide) rfl ?_
    refine PW.goto (tgt := 4) dX3_slotsInUse_40 (by decide) ?_
    exact ih (u + 1) _ _ (by omega) (by rw [← hr, cntU])
set_option maxRecDepth 100000 in
set_option maxHeartbeats 400000 in
theorem c_slotsInUse {M : dM} {R : pM} (l9 : Launch) : pMet l9 yX3_slotsInUse kX3_slotsInUse false [.ref 26] (SM M ++ R) (fun v m => v = some (.int (cntU M 4 0 0)) ∧ m = SM (M) ++ R) (fun _ _ => False) := by
  refine pMet.of (by decide) rfl rfl rfl (by intro v hv; simp only [List.mem_cons, List.not_mem_nil, or_false] at hv; subst hv; rfl) (Nat.le_of_ble_eq_true rfl) ?_
  show PW _ _ _ _ _ 0 [some (.ref 26), none, none, none] [] (SM M ++ R) 0 0
  refine PW.iconst (v := 0) dX3_slotsInUse_0 (by decide) ?_
  refine PW.istore_n (i := 1) dX3_slotsInUse_1 rfl (by decide) rfl ?_
  refine PW.iconst (v := 0) dX3_slotsInUse_2 (by decide) ?_
  refine PW.istore_n (i := 2) dX3_slotsInUse_3 rfl (by decide) rfl ?_
  exact siu_out 4 0 0 _ rfl rfl
def f_write (M : dM) (w : Nat) (c o b u : Int32) : dM := up2 (up2 (up2 (up2 (up2 M 38 (w % 60 * 4) c) 38 (w % 60 * 4 + 1) o) 38 (w % 60 * 4 + 2) b) 38 (w % 60 * 4 + 3) u) 37 1 (nI (w + 1))
theorem nI_k (a b : Nat) : nI a + nI b = nI (a + b) := nI_add a b
set_option maxRecDepth 100000 in
set_option maxHeartbeats 400000 in
theorem c_write {M : dM} {R : pM} {w : Nat} (hw : w < 100000) (ew : M 37 1 = nI w) (c o b u : Int32) (l9 : Launch) : pMet l9 yX0_write kX0_write false [.ref 42, .int c, .int o, .int b, .int u] (SM M ++ R) (fun v m => v = none ∧ m = SM (f_write M w c o b u) ++ R) (fun _ _ => False) := by
  refine pMet.of (by decide) rfl rfl rfl (by intro v hv; simp only [List.mem_cons, List.not_mem_nil, or_false] at hv; rcases hv with rfl | rfl | rfl | rfl | rfl <;> rfl) (Nat.le_of_ble_eq_true rfl) ?_
  show PW _ _ _ _ _ 0 [some (.ref 42), some (.int c), some (.int o), some (.int b), some (.int u), none] [] (SM M ++ R) 0 0
  refine PW.aload_n (i := 0) dX0_write_0 rfl rfl ?_
  refine PW.getf FX0_write_13 dX0_write_1 sm_book rfl ?_
  refine PW.bipush (v := 60) dX0_write_4 (by decide) ?_
  rw [ew]
  refine PW.irem dX0_write_6 (by decide) ?_
  rw [rem60 (by omega)]
  refine PW.iconst (v := 4) dX0_write_7 (by decide) ?_
  refine PW.imul dX0_write_8 ?_
  rw [nI_mul4]
  refine PW.istore dX0_write_9 (by decide) rfl ?_
  refine PW.aload_n (i := 0) dX0_write_11 rfl rfl ?_
  refine PW.getf FX0_write_9 dX0_write_12 sm_book rfl ?_
  refine PW.iload dX0_write_15 rfl ?_
  refine PW.iload_n (i := 1) dX0_write_17 rfl rfl ?_
  refine PW.iast dX0_write_18 sm_ent rfl (by omega) (by rw [iaF_len]; omega) pu_ent ?_
  refine PW.aload_n (i := 0) dX0_write_19 rfl rfl ?_
  refine PW.getf FX0_write_9 dX0_write_20 sm_book rfl ?_
  refine PW.iload dX0_write_23 rfl ?_
  refine PW.iconst (v := 1) dX0_write_25 (by decide) ?_
  refine PW.iadd dX0_write_26 ?_
  refine PW.iload_n (i := 2) dX0_write_27 rfl rfl ?_
  refine PW.iast dX0_write_28 sm_ent (nI_k (w % 60 * 4) 1) (by omega) (by rw [iaF_len]; omega) pu_ent ?_
  refine PW.aload_n (i := 0) dX0_write_29 rfl rfl ?_
  refine PW.getf FX0_write_9 dX0_write_30 sm_book rfl ?_
  refine PW.iload dX0_write_33 rfl ?_
  refine PW.iconst (v := 2) dX0_write_35 (by decide) ?_
  refine PW.iadd dX0_write_36 ?_
  refine PW.iload_n (i := 3) dX0_write_37 rfl rfl ?_
  refine PW.iast dX0_write_38 sm_ent (nI_k (w % 60 * 4) 2) (by omega) (by rw [iaF_len]; omega) pu_ent ?_
  refine PW.aload_n (i := 0) dX0_write_39 rfl rfl ?_
  refine PW.getf FX0_write_9 dX0_write_40 sm_book rfl ?_
  refine PW.iload dX0_write_43 rfl ?_
  refine PW.iconst (v := 3) dX0_write_45 (by decide) ?_
  refine PW.iadd dX0_write_46 ?_
  refine PW.iload dX0_write_47 rfl ?_
  refine PW.iast dX0_write_49 sm_ent (nI_k (w % 60 * 4) 3) (by omega) (by rw [iaF_len]; omega) pu_ent ?_
  refine PW.aload_n (i := 0) dX0_write_50 rfl rfl ?_
  refine PW.dup dX0_write_51 rfl ?_
  refine PW.getf FX0_write_13 dX0_write_52 sm_book rfl ?_
  rw [up2_r (by decide), up2_r (by decide), up2_r (by decide), up2_r (by decide), ew]
  refine PW.iconst (v := 1) dX0_write_55 (by decide) ?_
  refine PW.iadd dX0_write_56 ?_
  rw [show nI w + 1 = nI (w + 1) from nI_1 w]
  refine PW.putf FX0_write_13 (Fw_0_1 _) dX0_write_57 sm_book (Nat.le_of_ble_eq_true rfl) (fun _ => rfl) (fun _ => rfl) pu_book ?_
  exact PW.vret dX0_write_60 rfl ⟨rfl, rfl⟩ (by decide) (by decide)
def f_keeps (M : dM) (k : Int32) : Bool := decide (¬ k < 0 ∧ ¬ M 37 1 ≤ k ∧ ¬ k < M 37 1 - 60)
set_option maxRecDepth 100000 in
set_option maxHeartbeats 400000 in
theorem c_keeps {M : dM} {R : pM} (k : Int32) (l9 : Launch) : pMet l9 yX0_keeps kX0_keeps false [.ref 42, .int k] (SM M ++ R) (fun v m => v = some (.int (b2i (f_keeps M k))) ∧ m = SM (M) ++ R) (fun _ _ => False) := by
  refine pMet.of (by decide) rfl rfl rfl (by intro v hv; simp only [List.mem_cons, List.not_mem_nil, or_false] at hv; rcases hv with rfl | rfl <;> rfl) (Nat.le_of_ble_eq_true rfl) ?_
  show PW _ _ _ _ _ 0 [some (.ref 42), some (.int k)] [] (SM M ++ R) 0 0
  refine PW.iload_n (i := 1) dX0_keeps_0 rfl rfl ?_
  refine PW.if_lt (tgt := 27) dX0_keeps_1 (by decide) (fun h1 => ?_) (fun h1 => ?_)
  · refine PW.iconst (v := 0) dX0_keeps_27 (by decide) ?_
    exact PW.zret (v := 0) dX0_keeps_28 rfl rfl ⟨by simp [f_keeps, b2i, h1], rfl⟩ (by decide) (by decide)
  · refine PW.iload_n (i := 1) dX0_keeps_4 rfl rfl ?_
    refine PW.aload_n (i := 0) dX0_keeps_5 rfl rfl ?_
    refine PW.getf FX0_keeps_13 dX0_keeps_6 sm_book rfl ?_
    refine PW.icmp_ge (tgt := 27) dX0_keeps_9 (by decide) (fun h9 => ?_) (fun h9 => ?_)
    · refine PW.iconst (v := 0) dX0_keeps_27 (by decide) ?_
      exact PW.zret (v := 0) dX0_keeps_28 rfl rfl ⟨by simp [f_keeps, b2i, h1, h9], rfl⟩ (by decide) (by decide)
    · refine PW.iload_n (i := 1) dX0_keeps_12 rfl rfl ?_
      refine PW.aload_n (i := 0) dX0_keeps_13 rfl rfl ?_
      refine PW.getf FX0_keeps_13 dX0_keeps_14 sm_book rfl ?_
      refine PW.bipush (v := 60) dX0_keeps_17 (by decide) ?_
      refine PW.isub dX0_keeps_19 ?_
      refine PW.icmp_lt (tgt := 27) dX0_keeps_20 (by decide) (fun h20 => ?_) (fun h20 => ?_)
      · refine PW.iconst (v := 0) dX0_keeps_27 (by decide) ?_
        exact PW.zret (v := 0) dX0_keeps_28 rfl rfl ⟨by simp [f_keeps, b2i, h1, h9, h20], rfl⟩ (by decide) (by decide)
      · refine PW.iconst (v := 1) dX0_keeps_23 (by decide) ?_
        refine PW.goto (tgt := 28) dX0_keeps_24 (by decide) ?_
        exact PW.zret (v := 1) dX0_keeps_28 rfl rfl ⟨by simp [f_keeps, b2i, h1, h9, h20], rfl⟩ (by decide) (by decide)
set_option maxRecDepth 100000 in
set_option maxHeartbeats 400000 in
theorem c_read {M : dM} {R : pM} {q t : Nat} (hq : q < 100000) (ht : t < 4) (l9 : Launch) : pMet l9 yX0_read kX0_read false [.ref 42, .int (nI q), .int (nI t)] (SM M ++ R) (fun v m => v = some (.int (M 38 (q % 60 * 4 + t))) ∧ m = SM (M) ++ R) (fun _ _ => False) := by
  refine pMet.of (by decide) rfl rfl rfl (by intro v hv; simp only [List.mem_cons, List.not_mem_nil, or_false] at hv; rcases hv with rfl | rfl | rfl <;> rfl) (Nat.le_of_ble_eq_true rfl) ?_
  show PW _ _ _ _ _ 0 [some (.ref 42), some (.int (nI q)), some (.int (nI t))] [] (SM M ++ R) 0 0
  refine PW.aload_n (i := 0) dX0_read_0 rfl rfl ?_
  refine PW.getf FX0_read_9 dX0_read_1 sm_book rfl ?_
  refine PW.iload_n (i := 1) dX0_read_4 rfl rfl ?_
  refine PW.bipush (v := 60) dX0_read_5 (by decide) ?_
  refine PW.irem dX0_read_7 (by decide) ?_
  rw [rem60 (by omega)]
  refine PW.iconst (v := 4) dX0_read_8 (by decide) ?_
  refine PW.imul dX0_read_9 ?_
  rw [nI_mul4]
  refine PW.iload_n (i := 2) dX0_read_10 rfl rfl ?_
  refine PW.iadd dX0_read_11 ?_
  rw [nI_k]
  refine PW.iald dX0_read_12 sm_ent rfl (by omega) (iaF_get (by omega)) ?_
  exact PW.iret dX0_read_13 rfl ⟨rfl, rfl⟩ (by decide) (by decide)
end
