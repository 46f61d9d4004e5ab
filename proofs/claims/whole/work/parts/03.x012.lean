theorem dX0_init_0 : decode cX0_init 0 = .ok (.aload_n 0, 1) := by decide +kernel
theorem dX0_init_1 : decode cX0_init 1 = .ok (.invokespecial 3, 3) := by decide +kernel
theorem dX0_init_4 : decode cX0_init 4 = .ok (.aload_n 0, 1) := by decide +kernel
theorem dX0_init_5 : decode cX0_init 5 = .ok (.iconst (-1), 1) := by decide +kernel
theorem dX0_init_6 : decode cX0_init 6 = .ok (.putfield 9, 3) := by decide +kernel
theorem dX0_init_9 : decode cX0_init 9 = .ok (.aload_n 0, 1) := by decide +kernel
theorem dX0_init_10 : decode cX0_init 10 = .ok (.iconst (-1), 1) := by decide +kernel
theorem dX0_init_11 : decode cX0_init 11 = .ok (.putfield 15, 3) := by decide +kernel
theorem dX0_init_14 : decode cX0_init 14 = .ok (.aload_n 0, 1) := by decide +kernel
theorem dX0_init_15 : decode cX0_init 15 = .ok (.iconst 0, 1) := by decide +kernel
theorem dX0_init_16 : decode cX0_init 16 = .ok (.putfield 18, 3) := by decide +kernel
theorem dX0_init_19 : decode cX0_init 19 = .ok (.aload_n 0, 1) := by decide +kernel
theorem dX0_init_20 : decode cX0_init 20 = .ok (.iconst 0, 1) := by decide +kernel
theorem dX0_init_21 : decode cX0_init 21 = .ok (.putfield 21, 3) := by decide +kernel
theorem dX0_init_24 : decode cX0_init 24 = .ok (.aload_n 0, 1) := by decide +kernel
theorem dX0_init_25 : decode cX0_init 25 = .ok (.sipush 496, 3) := by decide +kernel
theorem dX0_init_28 : decode cX0_init 28 = .ok (.putfield 24, 3) := by decide +kernel
theorem dX0_init_31 : decode cX0_init 31 = .ok (.aload_n 0, 1) := by decide +kernel
theorem dX0_init_32 : decode cX0_init 32 = .ok (.sipush 496, 3) := by decide +kernel
theorem dX0_init_35 : decode cX0_init 35 = .ok (.newarray .byte, 2) := by decide +kernel
theorem dX0_init_37 : decode cX0_init 37 = .ok (.putfield 27, 3) := by decide +kernel
theorem dX0_init_40 : decode cX0_init 40 = .ok (.return_, 1) := by decide +kernel
theorem dX0_reset_0 : decode cX0_reset 0 = .ok (.aload_n 0, 1) := by decide +kernel
theorem dX0_reset_1 : decode cX0_reset 1 = .ok (.iload_n 1, 1) := by decide +kernel
theorem dX0_reset_2 : decode cX0_reset 2 = .ok (.putfield 9, 3) := by decide +kernel
theorem dX0_reset_5 : decode cX0_reset 5 = .ok (.aload_n 0, 1) := by decide +kernel
theorem dX0_reset_6 : decode cX0_reset 6 = .ok (.iconst (-1), 1) := by decide +kernel
theorem dX0_reset_7 : decode cX0_reset 7 = .ok (.putfield 15, 3) := by decide +kernel
theorem dX0_reset_10 : decode cX0_reset 10 = .ok (.aload_n 0, 1) := by decide +kernel
theorem dX0_reset_11 : decode cX0_reset 11 = .ok (.iconst 0, 1) := by decide +kernel
theorem dX0_reset_12 : decode cX0_reset 12 = .ok (.putfield 18, 3) := by decide +kernel
theorem dX0_reset_15 : decode cX0_reset 15 = .ok (.aload_n 0, 1) := by decide +kernel
theorem dX0_reset_16 : decode cX0_reset 16 = .ok (.iconst 0, 1) := by decide +kernel
theorem dX0_reset_17 : decode cX0_reset 17 = .ok (.putfield 21, 3) := by decide +kernel
theorem dX0_reset_20 : decode cX0_reset 20 = .ok (.aload_n 0, 1) := by decide +kernel
theorem dX0_reset_21 : decode cX0_reset 21 = .ok (.sipush 496, 3) := by decide +kernel
theorem dX0_reset_24 : decode cX0_reset 24 = .ok (.putfield 24, 3) := by decide +kernel
theorem dX0_reset_27 : decode cX0_reset 27 = .ok (.return_, 1) := by decide +kernel
theorem dX0_freeBytes_0 : decode cX0_freeBytes 0 = .ok (.aload_n 0, 1) := by decide +kernel
theorem dX0_freeBytes_1 : decode cX0_freeBytes 1 = .ok (.getfield 24, 3) := by decide +kernel
theorem dX0_freeBytes_4 : decode cX0_freeBytes 4 = .ok (.iconst 4, 1) := by decide +kernel
theorem dX0_freeBytes_5 : decode cX0_freeBytes 5 = .ok (.aload_n 0, 1) := by decide +kernel
theorem dX0_freeBytes_6 : decode cX0_freeBytes 6 = .ok (.getfield 18, 3) := by decide +kernel
theorem dX0_freeBytes_9 : decode cX0_freeBytes 9 = .ok (.imul, 1) := by decide +kernel
theorem dX0_freeBytes_10 : decode cX0_freeBytes 10 = .ok (.isub, 1) := by decide +kernel
theorem dX0_freeBytes_11 : decode cX0_freeBytes 11 = .ok (.ireturn, 1) := by decide +kernel
set_option maxRecDepth 20000 in
theorem ggX0_holds_X0_sizeOf : GoodIn wsX0_holds wsX0_sizeOf := goodIn_r _ [6, 7, 8, 9, 5, 10, 11, 12, 13, 14, 15, 16, 17] (by decide +kernel) (by decide +kernel)
set_option maxRecDepth 20000 in
theorem gX0_holds_X0_sizeOf : GoodIn wsX0_holds (wsV RX0 31 RX0 yX0_sizeOf wsX0_sizeOf) := goodIn_app (goodIn_of _ (by decide +kernel)) ggX0_holds_X0_sizeOf
theorem dX0_holds_0 : decode cX0_holds 0 = .ok (.iload_n 1, 1) := by decide +kernel
theorem dX0_holds_1 : decode cX0_holds 1 = .ok (.ifCond .lt 23, 3) := by decide +kernel
theorem dX0_holds_4 : decode cX0_holds 4 = .ok (.iload_n 1, 1) := by decide +kernel
theorem dX0_holds_5 : decode cX0_holds 5 = .ok (.aload_n 0, 1) := by decide +kernel
theorem dX0_holds_6 : decode cX0_holds 6 = .ok (.getfield 18, 3) := by decide +kernel
theorem dX0_holds_9 : decode cX0_holds 9 = .ok (.if_icmp .ge 15, 3) := by decide +kernel
theorem dX0_holds_12 : decode cX0_holds 12 = .ok (.aload_n 0, 1) := by decide +kernel
theorem dX0_holds_13 : decode cX0_holds 13 = .ok (.iload_n 1, 1) := by decide +kernel
theorem dX0_holds_14 : decode cX0_holds 14 = .ok (.invokevirtual 31, 3) := by decide +kernel
theorem dX0_holds_17 : decode cX0_holds 17 = .ok (.ifCond .le 7, 3) := by decide +kernel
theorem dX0_holds_20 : decode cX0_holds 20 = .ok (.iconst 1, 1) := by decide +kernel
theorem dX0_holds_21 : decode cX0_holds 21 = .ok (.goto 4, 3) := by decide +kernel
theorem dX0_holds_24 : decode cX0_holds 24 = .ok (.iconst 0, 1) := by decide +kernel
theorem dX0_holds_25 : decode cX0_holds 25 = .ok (.ireturn, 1) := by decide +kernel
set_option maxRecDepth 20000 in
theorem ggX0_startOf_X0_read : GoodIn wsX0_startOf wsX0_read := goodIn_r _ [5, 6, 7, 8, 9, 10, 11, 12] (by decide +kernel) (by decide +kernel)
set_option maxRecDepth 20000 in
theorem gX0_startOf_X0_read : GoodIn wsX0_startOf (wsV RX0 35 RX0 yX0_read wsX0_read) := goodIn_app (goodIn_of _ (by decide +kernel)) ggX0_startOf_X0_read
theorem dX0_startOf_0 : decode cX0_startOf 0 = .ok (.aload_n 0, 1) := by decide +kernel
theorem dX0_startOf_1 : decode cX0_startOf 1 = .ok (.iconst 4, 1) := by decide +kernel
theorem dX0_startOf_2 : decode cX0_startOf 2 = .ok (.iload_n 1, 1) := by decide +kernel
theorem dX0_startOf_3 : decode cX0_startOf 3 = .ok (.imul, 1) := by decide +kernel
theorem dX0_startOf_4 : decode cX0_startOf 4 = .ok (.iconst 2, 1) := by decide +kernel
theorem dX0_startOf_5 : decode cX0_startOf 5 = .ok (.invokevirtual 35, 3) := by decide +kernel
theorem dX0_startOf_8 : decode cX0_startOf 8 = .ok (.l2i, 1) := by decide +kernel
theorem dX0_startOf_9 : decode cX0_startOf 9 = .ok (.ireturn, 1) := by decide +kernel
set_option maxRecDepth 20000 in
theorem ggX0_sizeOf_X0_read : GoodIn wsX0_sizeOf wsX0_read := goodIn_r _ [5, 6, 7, 8, 9, 10, 11, 12] (by decide +kernel) (by decide +kernel)
set_option maxRecDepth 20000 in
theorem gX0_sizeOf_X0_read : GoodIn wsX0_sizeOf (wsV RX0 35 RX0 yX0_read wsX0_read) := goodIn_app (goodIn_of _ (by decide +kernel)) ggX0_sizeOf_X0_read
theorem dX0_sizeOf_0 : decode cX0_sizeOf 0 = .ok (.aload_n 0, 1) := by decide +kernel
theorem dX0_sizeOf_1 : decode cX0_sizeOf 1 = .ok (.iconst 4, 1) := by decide +kernel
theorem dX0_sizeOf_2 : decode cX0_sizeOf 2 = .ok (.iload_n 1, 1) := by decide +kernel
theorem dX0_sizeOf_3 : decode cX0_sizeOf 3 = .ok (.imul, 1) := by decide +kernel
theorem dX0_sizeOf_4 : decode cX0_sizeOf 4 = .ok (.iconst 2, 1) := by decide +kernel
theorem dX0_sizeOf_5 : decode cX0_sizeOf 5 = .ok (.iadd, 1) := by decide +kernel
theorem dX0_sizeOf_6 : decode cX0_sizeOf 6 = .ok (.iconst 2, 1) := by decide +kernel
theorem dX0_sizeOf_7 : decode cX0_sizeOf 7 = .ok (.invokevirtual 35, 3) := by decide +kernel
theorem dX0_sizeOf_10 : decode cX0_sizeOf 10 = .ok (.l2i, 1) := by decide +kernel
theorem dX0_sizeOf_11 : decode cX0_sizeOf 11 = .ok (.ireturn, 1) := by decide +kernel
set_option maxRecDepth 20000 in
theorem ggX0_firstHeldFrom_X0_holds : GoodIn wsX0_firstHeldFrom wsX0_holds := goodIn_r _ [6, 1, 7, 8, 9, 5, 10, 11, 12, 13, 14, 15, 16, 17, 18, 19, 20, 21] (by decide +kernel) (by decide +kernel)
set_option maxRecDepth 20000 in
theorem gX0_firstHeldFrom_X0_holds : GoodIn wsX0_firstHeldFrom (wsV RX0 39 RX0 yX0_holds wsX0_holds) := goodIn_app (goodIn_of _ (by decide +kernel)) ggX0_firstHeldFrom_X0_holds
theorem dX0_firstHeldFrom_0 : decode cX0_firstHeldFrom 0 = .ok (.iload_n 1, 1) := by decide +kernel
theorem dX0_firstHeldFrom_1 : decode cX0_firstHeldFrom 1 = .ok (.istore_n 2, 1) := by decide +kernel
theorem dX0_firstHeldFrom_2 : decode cX0_firstHeldFrom 2 = .ok (.iload_n 2, 1) := by decide +kernel
theorem dX0_firstHeldFrom_3 : decode cX0_firstHeldFrom 3 = .ok (.aload_n 0, 1) := by decide +kernel
theorem dX0_firstHeldFrom_4 : decode cX0_firstHeldFrom 4 = .ok (.getfield 18, 3) := by decide +kernel
theorem dX0_firstHeldFrom_7 : decode cX0_firstHeldFrom 7 = .ok (.if_icmp .ge 19, 3) := by decide +kernel
theorem dX0_firstHeldFrom_10 : decode cX0_firstHeldFrom 10 = .ok (.aload_n 0, 1) := by decide +kernel
theorem dX0_firstHeldFrom_11 : decode cX0_firstHeldFrom 11 = .ok (.iload_n 2, 1) := by decide +kernel
theorem dX0_firstHeldFrom_12 : decode cX0_firstHeldFrom 12 = .ok (.invokevirtual 39, 3) := by decide +kernel
theorem dX0_firstHeldFrom_15 : decode cX0_firstHeldFrom 15 = .ok (.ifCond .eq 5, 3) := by decide +kernel
theorem dX0_firstHeldFrom_18 : decode cX0_firstHeldFrom 18 = .ok (.iload_n 2, 1) := by decide +kernel
theorem dX0_firstHeldFrom_19 : decode cX0_firstHeldFrom 19 = .ok (.ireturn, 1) := by decide +kernel
theorem dX0_firstHeldFrom_20 : decode cX0_firstHeldFrom 20 = .ok (.iinc 2 1, 3) := by decide +kernel
theorem dX0_firstHeldFrom_23 : decode cX0_firstHeldFrom 23 = .ok (.goto (-21), 3) := by decide +kernel
theorem dX0_firstHeldFrom_26 : decode cX0_firstHeldFrom 26 = .ok (.iconst (-1), 1) := by decide +kernel
theorem dX0_firstHeldFrom_27 : decode cX0_firstHeldFrom 27 = .ok (.ireturn, 1) := by decide +kernel
set_option maxRecDepth 20000 in
theorem ggX0_slotFor_X0_holds : GoodIn wsX0_slotFor wsX0_holds := goodIn_r _ [6, 1, 7, 8, 9, 5, 10, 11, 12, 13, 14, 15, 21, 22, 23, 24, 25, 26] (by decide +kernel) (by decide +kernel)
set_option maxRecDepth 20000 in
theorem gX0_slotFor_X0_holds : GoodIn wsX0_slotFor (wsV RX0 39 RX0 yX0_holds wsX0_holds) := goodIn_app (goodIn_of _ (by decide +kernel)) ggX0_slotFor_X0_holds
set_option maxRecDepth 20000 in
theorem ggX0_slotFor_X0_freeBytes : GoodIn wsX0_slotFor wsX0_freeBytes := goodIn_r _ [19, 20, 1, 21, 22, 23, 24, 25, 26] (by decide +kernel) (by decide +kernel)
set_option maxRecDepth 20000 in
theorem gX0_slotFor_X0_freeBytes : GoodIn wsX0_slotFor (wsV RX0 43 RX0 yX0_freeBytes wsX0_freeBytes) := goodIn_app (goodIn_of _ (by decide +kernel)) ggX0_slotFor_X0_freeBytes
theorem dX0_slotFor_0 : decode cX0_slotFor 0 = .ok (.iconst 0, 1) := by decide +kernel
theorem dX0_slotFor_1 : decode cX0_slotFor 1 = .ok (.istore_n 2, 1) := by decide +kernel
theorem dX0_slotFor_2 : decode cX0_slotFor 2 = .ok (.iload_n 2, 1) := by decide +kernel
theorem dX0_slotFor_3 : decode cX0_slotFor 3 = .ok (.aload_n 0, 1) := by decide +kernel
theorem dX0_slotFor_4 : decode cX0_slotFor 4 = .ok (.getfield 18, 3) := by decide +kernel
theorem dX0_slotFor_7 : decode cX0_slotFor 7 = .ok (.if_icmp .ge 31, 3) := by decide +kernel
theorem dX0_slotFor_10 : decode cX0_slotFor 10 = .ok (.aload_n 0, 1) := by decide +kernel
theorem dX0_slotFor_11 : decode cX0_slotFor 11 = .ok (.iload_n 2, 1) := by decide +kernel
theorem dX0_slotFor_12 : decode cX0_slotFor 12 = .ok (.invokevirtual 39, 3) := by decide +kernel
theorem dX0_slotFor_15 : decode cX0_slotFor 15 = .ok (.ifCond .ne 17, 3) := by decide +kernel
theorem dX0_slotFor_18 : decode cX0_slotFor 18 = .ok (.iload_n 1, 1) := by decide +kernel
theorem dX0_slotFor_19 : decode cX0_slotFor 19 = .ok (.aload_n 0, 1) := by decide +kernel
theorem dX0_slotFor_20 : decode cX0_slotFor 20 = .ok (.invokevirtual 43, 3) := by decide +kernel
theorem dX0_slotFor_23 : decode cX0_slotFor 23 = .ok (.if_icmp .gt 7, 3) := by decide +kernel
theorem dX0_slotFor_26 : decode cX0_slotFor 26 = .ok (.iload_n 2, 1) := by decide +kernel
theorem dX0_slotFor_27 : decode cX0_slotFor 27 = .ok (.goto 4, 3) := by decide +kernel
theorem dX0_slotFor_30 : decode cX0_slotFor 30 = .ok (.iconst (-1), 1) := by decide +kernel
theorem dX0_slotFor_31 : decode cX0_slotFor 31 = .ok (.ireturn, 1) := by decide +kernel
theorem dX0_slotFor_32 : decode cX0_slotFor 32 = .ok (.iinc 2 1, 3) := by decide +kernel
theorem dX0_slotFor_35 : decode cX0_slotFor 35 = .ok (.goto (-33), 3) := by decide +kernel
theorem dX0_slotFor_38 : decode cX0_slotFor 38 = .ok (.aload_n 0, 1) := by decide +kernel
theorem dX0_slotFor_39 : decode cX0_slotFor 39 = .ok (.getfield 18, 3) := by decide +kernel
theorem dX0_slotFor_42 : decode cX0_slotFor 42 = .ok (.bipush 120, 2) := by decide +kernel
theorem dX0_slotFor_44 : decode cX0_slotFor 44 = .ok (.if_icmp .ge 20, 3) := by decide +kernel
theorem dX0_slotFor_47 : decode cX0_slotFor 47 = .ok (.iload_n 1, 1) := by decide +kernel
theorem dX0_slotFor_48 : decode cX0_slotFor 48 = .ok (.iconst 4, 1) := by decide +kernel
theorem dX0_slotFor_49 : decode cX0_slotFor 49 = .ok (.iadd, 1) := by decide +kernel
theorem dX0_slotFor_50 : decode cX0_slotFor 50 = .ok (.aload_n 0, 1) := by decide +kernel
theorem dX0_slotFor_51 : decode cX0_slotFor 51 = .ok (.invokevirtual 43, 3) := by decide +kernel
theorem dX0_slotFor_54 : decode cX0_slotFor 54 = .ok (.if_icmp .gt 10, 3) := by decide +kernel
theorem dX0_slotFor_57 : decode cX0_slotFor 57 = .ok (.aload_n 0, 1) := by decide +kernel
theorem dX0_slotFor_58 : decode cX0_slotFor 58 = .ok (.getfield 18, 3) := by decide +kernel
theorem dX0_slotFor_61 : decode cX0_slotFor 61 = .ok (.goto 4, 3) := by decide +kernel
theorem dX0_slotFor_64 : decode cX0_slotFor 64 = .ok (.iconst (-1), 1) := by decide +kernel
theorem dX0_slotFor_65 : decode cX0_slotFor 65 = .ok (.ireturn, 1) := by decide +kernel
set_option maxRecDepth 20000 in
theorem ggX0_add_X0_setSlot : GoodIn wsX0_add wsX0_setSlot := goodIn_r _ [8, 9, 10, 11, 7, 12, 13, 14, 15, 16, 17, 18, 19] (by decide +kernel) (by decide +kernel)
set_option maxRecDepth 20000 in
theorem gX0_add_X0_setSlot : GoodIn wsX0_add (wsV RX0 47 RX0 yX0_setSlot wsX0_setSlot) := goodIn_app (goodIn_of _ (by decide +kernel)) ggX0_add_X0_setSlot
theorem dX0_add_0 : decode cX0_add 0 = .ok (.iload_n 1, 1) := by decide +kernel
theorem dX0_add_1 : decode cX0_add 1 = .ok (.aload_n 0, 1) := by decide +kernel
theorem dX0_add_2 : decode cX0_add 2 = .ok (.getfield 18, 3) := by decide +kernel
theorem dX0_add_5 : decode cX0_add 5 = .ok (.if_icmp .ne 13, 3) := by decide +kernel
theorem dX0_add_8 : decode cX0_add 8 = .ok (.aload_n 0, 1) := by decide +kernel
theorem dX0_add_9 : decode cX0_add 9 = .ok (.dup, 1) := by decide +kernel
theorem dX0_add_10 : decode cX0_add 10 = .ok (.getfield 18, 3) := by decide +kernel
theorem dX0_add_13 : decode cX0_add 13 = .ok (.iconst 1, 1) := by decide +kernel
theorem dX0_add_14 : decode cX0_add 14 = .ok (.iadd, 1) := by decide +kernel
theorem dX0_add_15 : decode cX0_add 15 = .ok (.putfield 18, 3) := by decide +kernel
theorem dX0_add_18 : decode cX0_add 18 = .ok (.aload_n 0, 1) := by decide +kernel
theorem dX0_add_19 : decode cX0_add 19 = .ok (.dup, 1) := by decide +kernel
theorem dX0_add_20 : decode cX0_add 20 = .ok (.getfield 24, 3) := by decide +kernel
theorem dX0_add_23 : decode cX0_add 23 = .ok (.iload_n 2, 1) := by decide +kernel
theorem dX0_add_24 : decode cX0_add 24 = .ok (.isub, 1) := by decide +kernel
theorem dX0_add_25 : decode cX0_add 25 = .ok (.putfield 24, 3) := by decide +kernel
theorem dX0_add_28 : decode cX0_add 28 = .ok (.aload_n 0, 1) := by decide +kernel
theorem dX0_add_29 : decode cX0_add 29 = .ok (.iload_n 1, 1) := by decide +kernel
theorem dX0_add_30 : decode cX0_add 30 = .ok (.aload_n 0, 1) := by decide +kernel
theorem dX0_add_31 : decode cX0_add 31 = .ok (.getfield 24, 3) := by decide +kernel
theorem dX0_add_34 : decode cX0_add 34 = .ok (.iload_n 2, 1) := by decide +kernel
theorem dX0_add_35 : decode cX0_add 35 = .ok (.invokevirtual 47, 3) := by decide +kernel
theorem dX0_add_38 : decode cX0_add 38 = .ok (.aload_n 0, 1) := by decide +kernel
theorem dX0_add_39 : decode cX0_add 39 = .ok (.dup, 1) := by decide +kernel
theorem dX0_add_40 : decode cX0_add 40 = .ok (.getfield 21, 3) := by decide +kernel
theorem dX0_add_43 : decode cX0_add 43 = .ok (.iconst 1, 1) := by decide +kernel
theorem dX0_add_44 : decode cX0_add 44 = .ok (.iadd, 1) := by decide +kernel
theorem dX0_add_45 : decode cX0_add 45 = .ok (.putfield 21, 3) := by decide +kernel
theorem dX0_add_48 : decode cX0_add 48 = .ok (.return_, 1) := by decide +kernel
set_option maxRecDepth 20000 in
theorem ggX0_remove_X0_startOf : GoodIn wsX0_remove wsX0_startOf := goodIn_r _ [6, 7, 8, 9, 5, 10, 11, 38, 39, 40, 41, 42, 43] (by decide +kernel) (by decide +kernel)
set_option maxRecDepth 20000 in
theorem gX0_remove_X0_startOf : GoodIn wsX0_remove (wsV RX0 51 RX0 yX0_startOf wsX0_startOf) := goodIn_app (goodIn_of _ (by decide +kernel)) ggX0_remove_X0_startOf
set_option maxRecDepth 20000 in
theorem ggX0_remove_X0_sizeOf : GoodIn wsX0_remove wsX0_sizeOf := goodIn_r _ [15, 7, 8, 9, 5, 10, 11, 38, 39, 40, 41, 42, 43] (by decide +kernel) (by decide +kernel)
set_option maxRecDepth 20000 in
theorem gX0_remove_X0_sizeOf : GoodIn wsX0_remove (wsV RX0 31 RX0 yX0_sizeOf wsX0_sizeOf) := goodIn_app (goodIn_of _ (by decide +kernel)) ggX0_remove_X0_sizeOf
set_option maxRecDepth 20000 in
theorem ggX0_remove_X0_closeGap : GoodIn wsX0_remove wsX0_closeGap := goodIn_r _ [19, 20, 11, 21, 22, 23, 24, 25, 26, 27, 28, 5, 29, 12, 13, 14, 15, 7, 8, 9, 10, 2, 3, 4, 6, 30, 31, 32, 33, 34, 35, 36, 37, 38, 39, 40, 41, 42, 43] (by decide +kernel) (by decide +kernel)
set_option maxRecDepth 20000 in
theorem gX0_remove_X0_closeGap : GoodIn wsX0_remove (wsV RX0 54 RX0 yX0_closeGap wsX0_closeGap) := goodIn_app (goodIn_of _ (by decide +kernel)) ggX0_remove_X0_closeGap
set_option maxRecDepth 20000 in
theorem ggX0_remove_X0_setSlot : GoodIn wsX0_remove wsX0_setSlot := goodIn_r _ [33, 34, 35, 36, 5, 37, 11, 38, 39, 40, 41, 42, 43] (by decide +kernel) (by decide +kernel)
set_option maxRecDepth 20000 in
theorem gX0_remove_X0_setSlot : GoodIn wsX0_remove (wsV RX0 47 RX0 yX0_setSlot wsX0_setSlot) := goodIn_app (goodIn_of _ (by decide +kernel)) ggX0_remove_X0_setSlot
theorem dX0_remove_0 : decode cX0_remove 0 = .ok (.aload_n 0, 1) := by decide +kernel
theorem dX0_remove_1 : decode cX0_remove 1 = .ok (.iload_n 1, 1) := by decide +kernel
theorem dX0_remove_2 : decode cX0_remove 2 = .ok (.invokevirtual 51, 3) := by decide +kernel
theorem dX0_remove_5 : decode cX0_remove 5 = .ok (.istore_n 2, 1) := by decide +kernel
theorem dX0_remove_6 : decode cX0_remove 6 = .ok (.aload_n 0, 1) := by decide +kernel
theorem dX0_remove_7 : decode cX0_remove 7 = .ok (.iload_n 1, 1) := by decide +kernel
theorem dX0_remove_8 : decode cX0_remove 8 = .ok (.invokevirtual 31, 3) := by decide +kernel
theorem dX0_remove_11 : decode cX0_remove 11 = .ok (.istore_n 3, 1) := by decide +kernel
theorem dX0_remove_12 : decode cX0_remove 12 = .ok (.aload_n 0, 1) := by decide +kernel
theorem dX0_remove_13 : decode cX0_remove 13 = .ok (.iload_n 2, 1) := by decide +kernel
theorem dX0_remove_14 : decode cX0_remove 14 = .ok (.iload_n 3, 1) := by decide +kernel
theorem dX0_remove_15 : decode cX0_remove 15 = .ok (.invokevirtual 54, 3) := by decide +kernel
theorem dX0_remove_18 : decode cX0_remove 18 = .ok (.aload_n 0, 1) := by decide +kernel
theorem dX0_remove_19 : decode cX0_remove 19 = .ok (.iload_n 1, 1) := by decide +kernel
theorem dX0_remove_20 : decode cX0_remove 20 = .ok (.iconst 0, 1) := by decide +kernel
theorem dX0_remove_21 : decode cX0_remove 21 = .ok (.iconst 0, 1) := by decide +kernel
theorem dX0_remove_22 : decode cX0_remove 22 = .ok (.invokevirtual 47, 3) := by decide +kernel
theorem dX0_remove_25 : decode cX0_remove 25 = .ok (.aload_n 0, 1) := by decide +kernel
theorem dX0_remove_26 : decode cX0_remove 26 = .ok (.dup, 1) := by decide +kernel
theorem dX0_remove_27 : decode cX0_remove 27 = .ok (.getfield 21, 3) := by decide +kernel
theorem dX0_remove_30 : decode cX0_remove 30 = .ok (.iconst 1, 1) := by decide +kernel
theorem dX0_remove_31 : decode cX0_remove 31 = .ok (.isub, 1) := by decide +kernel
theorem dX0_remove_32 : decode cX0_remove 32 = .ok (.putfield 21, 3) := by decide +kernel
theorem dX0_remove_35 : decode cX0_remove 35 = .ok (.return_, 1) := by decide +kernel
set_option maxRecDepth 20000 in
theorem ggX0_closeGap_X0_holds : GoodIn wsX0_closeGap wsX0_holds := goodIn_r _ [12, 7, 13, 14, 15, 11, 16, 17, 18, 19, 20, 2, 33, 34, 35, 36, 37, 38] (by decide +kernel) (by decide +kernel)
set_option maxRecDepth 20000 in
theorem gX0_closeGap_X0_holds : GoodIn wsX0_closeGap (wsV RX0 39 RX0 yX0_holds wsX0_holds) := goodIn_app (goodIn_of _ (by decide +kernel)) ggX0_closeGap_X0_holds
set_option maxRecDepth 20000 in
theorem ggX0_closeGap_X0_startOf : GoodIn wsX0_closeGap wsX0_startOf := goodIn_r _ [24, 17, 18, 19, 11, 20, 2, 33, 34, 35, 36, 37, 38] (by decide +kernel) (by decide +kernel)
set_option maxRecDepth 20000 in
theorem gX0_closeGap_X0_startOf : GoodIn wsX0_closeGap (wsV RX0 51 RX0 yX0_startOf wsX0_startOf) := goodIn_app (goodIn_of _ (by decide +kernel)) ggX0_closeGap_X0_startOf
set_option maxRecDepth 20000 in
theorem ggX0_closeGap_X0_sizeOf : GoodIn wsX0_closeGap wsX0_sizeOf := goodIn_r _ [16, 17, 18, 19, 11, 20, 2, 33, 34, 35, 36, 37, 38] (by decide +kernel) (by decide +kernel)
set_option maxRecDepth 20000 in
theorem gX0_closeGap_X0_sizeOf : GoodIn wsX0_closeGap (wsV RX0 31 RX0 yX0_sizeOf wsX0_sizeOf) := goodIn_app (goodIn_of _ (by decide +kernel)) ggX0_closeGap_X0_sizeOf
set_option maxRecDepth 20000 in
theorem ggX0_closeGap_X0_setSlot : GoodIn wsX0_closeGap wsX0_setSlot := goodIn_r _ [28, 29, 30, 31, 11, 32, 2, 33, 34, 35, 36, 37, 38] (by decide +kernel) (by decide +kernel)
set_option maxRecDepth 20000 in
theorem gX0_closeGap_X0_setSlot : GoodIn wsX0_closeGap (wsV RX0 47 RX0 yX0_setSlot wsX0_setSlot) := goodIn_app (goodIn_of _ (by decide +kernel)) ggX0_closeGap_X0_setSlot
theorem dX0_closeGap_0 : decode cX0_closeGap 0 = .ok (.aload_n 0, 1) := by decide +kernel
theorem dX0_closeGap_1 : decode cX0_closeGap 1 = .ok (.getfield 24, 3) := by decide +kernel
theorem dX0_closeGap_4 : decode cX0_closeGap 4 = .ok (.ifCond .lt 24, 3) := by decide +kernel
theorem dX0_closeGap_7 : decode cX0_closeGap 7 = .ok (.iload_n 1, 1) := by decide +kernel
theorem dX0_closeGap_8 : decode cX0_closeGap 8 = .ok (.aload_n 0, 1) := by decide +kernel
theorem dX0_closeGap_9 : decode cX0_closeGap 9 = .ok (.getfield 24, 3) := by decide +kernel
theorem dX0_closeGap_12 : decode cX0_closeGap 12 = .ok (.if_icmp .lt 16, 3) := by decide +kernel
theorem dX0_closeGap_15 : decode cX0_closeGap 15 = .ok (.iload_n 2, 1) := by decide +kernel
theorem dX0_closeGap_16 : decode cX0_closeGap 16 = .ok (.ifCond .lt 12, 3) := by decide +kernel
theorem dX0_closeGap_19 : decode cX0_closeGap 19 = .ok (.iload_n 1, 1) := by decide +kernel
theorem dX0_closeGap_20 : decode cX0_closeGap 20 = .ok (.iload_n 2, 1) := by decide +kernel
theorem dX0_closeGap_21 : decode cX0_closeGap 21 = .ok (.iadd, 1) := by decide +kernel
theorem dX0_closeGap_22 : decode cX0_closeGap 22 = .ok (.sipush 496, 3) := by decide +kernel
theorem dX0_closeGap_25 : decode cX0_closeGap 25 = .ok (.if_icmp .le 4, 3) := by decide +kernel
theorem dX0_closeGap_28 : decode cX0_closeGap 28 = .ok (.return_, 1) := by decide +kernel
theorem dX0_closeGap_29 : decode cX0_closeGap 29 = .ok (.aload_n 0, 1) := by decide +kernel
theorem dX0_closeGap_30 : decode cX0_closeGap 30 = .ok (.getfield 27, 3) := by decide +kernel
theorem dX0_closeGap_33 : decode cX0_closeGap 33 = .ok (.aload_n 0, 1) := by decide +kernel
theorem dX0_closeGap_34 : decode cX0_closeGap 34 = .ok (.getfield 24, 3) := by decide +kernel
theorem dX0_closeGap_37 : decode cX0_closeGap 37 = .ok (.aload_n 0, 1) := by decide +kernel
theorem dX0_closeGap_38 : decode cX0_closeGap 38 = .ok (.getfield 27, 3) := by decide +kernel
theorem dX0_closeGap_41 : decode cX0_closeGap 41 = .ok (.aload_n 0, 1) := by decide +kernel
theorem dX0_closeGap_42 : decode cX0_closeGap 42 = .ok (.getfield 24, 3) := by decide +kernel
theorem dX0_closeGap_45 : decode cX0_closeGap 45 = .ok (.iload_n 2, 1) := by decide +kernel
theorem dX0_closeGap_46 : decode cX0_closeGap 46 = .ok (.iadd, 1) := by decide +kernel
theorem dX0_closeGap_47 : decode cX0_closeGap 47 = .ok (.iload_n 1, 1) := by decide +kernel
theorem dX0_closeGap_48 : decode cX0_closeGap 48 = .ok (.aload_n 0, 1) := by decide +kernel
theorem dX0_closeGap_49 : decode cX0_closeGap 49 = .ok (.getfield 24, 3) := by decide +kernel
theorem dX0_closeGap_52 : decode cX0_closeGap 52 = .ok (.isub, 1) := by decide +kernel
theorem dX0_closeGap_53 : decode cX0_closeGap 53 = .ok (.invokestatic 58, 3) := by decide +kernel
theorem dX0_closeGap_56 : decode cX0_closeGap 56 = .ok (.aload_n 0, 1) := by decide +kernel
theorem dX0_closeGap_57 : decode cX0_closeGap 57 = .ok (.dup, 1) := by decide +kernel
theorem dX0_closeGap_58 : decode cX0_closeGap 58 = .ok (.getfield 24, 3) := by decide +kernel
theorem dX0_closeGap_61 : decode cX0_closeGap 61 = .ok (.iload_n 2, 1) := by decide +kernel
theorem dX0_closeGap_62 : decode cX0_closeGap 62 = .ok (.iadd, 1) := by decide +kernel
theorem dX0_closeGap_63 : decode cX0_closeGap 63 = .ok (.putfield 24, 3) := by decide +kernel
theorem dX0_closeGap_66 : decode cX0_closeGap 66 = .ok (.iconst 0, 1) := by decide +kernel
theorem dX0_closeGap_67 : decode cX0_closeGap 67 = .ok (.istore_n 3, 1) := by decide +kernel
theorem dX0_closeGap_68 : decode cX0_closeGap 68 = .ok (.iload_n 3, 1) := by decide +kernel
theorem dX0_closeGap_69 : decode cX0_closeGap 69 = .ok (.aload_n 0, 1) := by decide +kernel
theorem dX0_closeGap_70 : decode cX0_closeGap 70 = .ok (.getfield 18, 3) := by decide +kernel
theorem dX0_closeGap_73 : decode cX0_closeGap 73 = .ok (.if_icmp .ge 43, 3) := by decide +kernel
theorem dX0_closeGap_76 : decode cX0_closeGap 76 = .ok (.aload_n 0, 1) := by decide +kernel
theorem dX0_closeGap_77 : decode cX0_closeGap 77 = .ok (.iload_n 3, 1) := by decide +kernel
theorem dX0_closeGap_78 : decode cX0_closeGap 78 = .ok (.invokevirtual 39, 3) := by decide +kernel
theorem dX0_closeGap_81 : decode cX0_closeGap 81 = .ok (.ifCond .eq 29, 3) := by decide +kernel
theorem dX0_closeGap_84 : decode cX0_closeGap 84 = .ok (.aload_n 0, 1) := by decide +kernel
theorem dX0_closeGap_85 : decode cX0_closeGap 85 = .ok (.iload_n 3, 1) := by decide +kernel
theorem dX0_closeGap_86 : decode cX0_closeGap 86 = .ok (.invokevirtual 51, 3) := by decide +kernel
theorem dX0_closeGap_89 : decode cX0_closeGap 89 = .ok (.iload_n 1, 1) := by decide +kernel
theorem dX0_closeGap_90 : decode cX0_closeGap 90 = .ok (.if_icmp .ge 20, 3) := by decide +kernel
theorem dX0_closeGap_93 : decode cX0_closeGap 93 = .ok (.aload_n 0, 1) := by decide +kernel
theorem dX0_closeGap_94 : decode cX0_closeGap 94 = .ok (.iload_n 3, 1) := by decide +kernel
theorem dX0_closeGap_95 : decode cX0_closeGap 95 = .ok (.aload_n 0, 1) := by decide +kernel
theorem dX0_closeGap_96 : decode cX0_closeGap 96 = .ok (.iload_n 3, 1) := by decide +kernel
theorem dX0_closeGap_97 : decode cX0_closeGap 97 = .ok (.invokevirtual 51, 3) := by decide +kernel
theorem dX0_closeGap_100 : decode cX0_closeGap 100 = .ok (.iload_n 2, 1) := by decide +kernel
theorem dX0_closeGap_101 : decode cX0_closeGap 101 = .ok (.iadd, 1) := by decide +kernel
theorem dX0_closeGap_102 : decode cX0_closeGap 102 = .ok (.aload_n 0, 1) := by decide +kernel
theorem dX0_closeGap_103 : decode cX0_closeGap 103 = .ok (.iload_n 3, 1) := by decide +kernel
theorem dX0_closeGap_104 : decode cX0_closeGap 104 = .ok (.invokevirtual 31, 3) := by decide +kernel
theorem dX0_closeGap_107 : decode cX0_closeGap 107 = .ok (.invokevirtual 47, 3) := by decide +kernel
theorem dX0_closeGap_110 : decode cX0_closeGap 110 = .ok (.iinc 3 1, 3) := by decide +kernel
theorem dX0_closeGap_113 : decode cX0_closeGap 113 = .ok (.goto (-45), 3) := by decide +kernel
theorem dX0_closeGap_116 : decode cX0_closeGap 116 = .ok (.return_, 1) := by decide +kernel
set_option maxRecDepth 20000 in
theorem ggX0_setSlot_X0_write : GoodIn wsX0_setSlot wsX0_write := goodIn_r _ [5, 6, 7, 8, 9, 10, 11, 12] (by decide +kernel) (by decide +kernel)
set_option maxRecDepth 20000 in
theorem gX0_setSlot_X0_write : GoodIn wsX0_setSlot (wsV RX0 64 RX0 yX0_write wsX0_write) := goodIn_app (goodIn_of _ (by decide +kernel)) ggX0_setSlot_X0_write
theorem dX0_setSlot_0 : decode cX0_setSlot 0 = .ok (.aload_n 0, 1) := by decide +kernel
theorem dX0_setSlot_1 : decode cX0_setSlot 1 = .ok (.iconst 4, 1) := by decide +kernel
theorem dX0_setSlot_2 : decode cX0_setSlot 2 = .ok (.iload_n 1, 1) := by decide +kernel
theorem dX0_setSlot_3 : decode cX0_setSlot 3 = .ok (.imul, 1) := by decide +kernel
theorem dX0_setSlot_4 : decode cX0_setSlot 4 = .ok (.iconst 2, 1) := by decide +kernel
theorem dX0_setSlot_5 : decode cX0_setSlot 5 = .ok (.iload_n 2, 1) := by decide +kernel
theorem dX0_setSlot_6 : decode cX0_setSlot 6 = .ok (.i2l, 1) := by decide +kernel
theorem dX0_setSlot_7 : decode cX0_setSlot 7 = .ok (.invokevirtual 64, 3) := by decide +kernel
theorem dX0_setSlot_10 : decode cX0_setSlot 10 = .ok (.aload_n 0, 1) := by decide +kernel
theorem dX0_setSlot_11 : decode cX0_setSlot 11 = .ok (.iconst 4, 1) := by decide +kernel
theorem dX0_setSlot_12 : decode cX0_setSlot 12 = .ok (.iload_n 1, 1) := by decide +kernel
theorem dX0_setSlot_13 : decode cX0_setSlot 13 = .ok (.imul, 1) := by decide +kernel
theorem dX0_setSlot_14 : decode cX0_setSlot 14 = .ok (.iconst 2, 1) := by decide +kernel
theorem dX0_setSlot_15 : decode cX0_setSlot 15 = .ok (.iadd, 1) := by decide +kernel
theorem dX0_setSlot_16 : decode cX0_setSlot 16 = .ok (.iconst 2, 1) := by decide +kernel
theorem dX0_setSlot_17 : decode cX0_setSlot 17 = .ok (.iload_n 3, 1) := by decide +kernel
theorem dX0_setSlot_18 : decode cX0_setSlot 18 = .ok (.i2l, 1) := by decide +kernel
theorem dX0_setSlot_19 : decode cX0_setSlot 19 = .ok (.invokevirtual 64, 3) := by decide +kernel
theorem dX0_setSlot_22 : decode cX0_setSlot 22 = .ok (.return_, 1) := by decide +kernel
theorem dX0_read_0 : decode cX0_read 0 = .ok (.lconst 0, 1) := by decide +kernel
theorem dX0_read_1 : decode cX0_read 1 = .ok (.lstore_n 3, 1) := by decide +kernel
theorem dX0_read_2 : decode cX0_read 2 = .ok (.iload_n 1, 1) := by decide +kernel
theorem dX0_read_3 : decode cX0_read 3 = .ok (.istore 5, 2) := by decide +kernel
theorem dX0_read_5 : decode cX0_read 5 = .ok (.iload 5, 2) := by decide +kernel
theorem dX0_read_7 : decode cX0_read 7 = .ok (.iload_n 1, 1) := by decide +kernel
theorem dX0_read_8 : decode cX0_read 8 = .ok (.iload_n 2, 1) := by decide +kernel
theorem dX0_read_9 : decode cX0_read 9 = .ok (.iadd, 1) := by decide +kernel
theorem dX0_read_10 : decode cX0_read 10 = .ok (.if_icmp .ge 48, 3) := by decide +kernel
theorem dX0_read_13 : decode cX0_read 13 = .ok (.iload 5, 2) := by decide +kernel
theorem dX0_read_15 : decode cX0_read 15 = .ok (.ifCond .lt 25, 3) := by decide +kernel
theorem dX0_read_18 : decode cX0_read 18 = .ok (.iload 5, 2) := by decide +kernel
theorem dX0_read_20 : decode cX0_read 20 = .ok (.sipush 496, 3) := by decide +kernel
theorem dX0_read_23 : decode cX0_read 23 = .ok (.if_icmp .ge 17, 3) := by decide +kernel
theorem dX0_read_26 : decode cX0_read 26 = .ok (.aload_n 0, 1) := by decide +kernel
theorem dX0_read_27 : decode cX0_read 27 = .ok (.getfield 27, 3) := by decide +kernel
theorem dX0_read_30 : decode cX0_read 30 = .ok (.iload 5, 2) := by decide +kernel
theorem dX0_read_32 : decode cX0_read 32 = .ok (.baload, 1) := by decide +kernel
theorem dX0_read_33 : decode cX0_read 33 = .ok (.sipush 255, 3) := by decide +kernel
theorem dX0_read_36 : decode cX0_read 36 = .ok (.iand, 1) := by decide +kernel
theorem dX0_read_37 : decode cX0_read 37 = .ok (.goto 4, 3) := by decide +kernel
theorem dX0_read_40 : decode cX0_read 40 = .ok (.iconst 0, 1) := by decide +kernel
theorem dX0_read_41 : decode cX0_read 41 = .ok (.istore 6, 2) := by decide +kernel
theorem dX0_read_43 : decode cX0_read 43 = .ok (.lload_n 3, 1) := by decide +kernel
theorem dX0_read_44 : decode cX0_read 44 = .ok (.bipush 8, 2) := by decide +kernel
theorem dX0_read_46 : decode cX0_read 46 = .ok (.lshl, 1) := by decide +kernel
theorem dX0_read_47 : decode cX0_read 47 = .ok (.iload 6, 2) := by decide +kernel
theorem dX0_read_49 : decode cX0_read 49 = .ok (.i2l, 1) := by decide +kernel
theorem dX0_read_50 : decode cX0_read 50 = .ok (.lor, 1) := by decide +kernel
theorem dX0_read_51 : decode cX0_read 51 = .ok (.lstore_n 3, 1) := by decide +kernel
theorem dX0_read_52 : decode cX0_read 52 = .ok (.iinc 5 1, 3) := by decide +kernel
theorem dX0_read_55 : decode cX0_read 55 = .ok (.goto (-50), 3) := by decide +kernel
theorem dX0_read_58 : decode cX0_read 58 = .ok (.lload_n 3, 1) := by decide +kernel
theorem dX0_read_59 : decode cX0_read 59 = .ok (.lreturn, 1) := by decide +kernel
theorem dX0_write_0 : decode cX0_write 0 = .ok (.iconst 0, 1) := by decide +kernel
theorem dX0_write_1 : decode cX0_write 1 = .ok (.istore 5, 2) := by decide +kernel
theorem dX0_write_3 : decode cX0_write 3 = .ok (.iload 5, 2) := by decide +kernel
theorem dX0_write_5 : decode cX0_write 5 = .ok (.iload_n 2, 1) := by decide +kernel
theorem dX0_write_6 : decode cX0_write 6 = .ok (.if_icmp .ge 48, 3) := by decide +kernel
theorem dX0_write_9 : decode cX0_write 9 = .ok (.iload_n 1, 1) := by decide +kernel
theorem dX0_write_10 : decode cX0_write 10 = .ok (.iload_n 2, 1) := by decide +kernel
theorem dX0_write_11 : decode cX0_write 11 = .ok (.iadd, 1) := by decide +kernel
theorem dX0_write_12 : decode cX0_write 12 = .ok (.iconst 1, 1) := by decide +kernel
theorem dX0_write_13 : decode cX0_write 13 = .ok (.isub, 1) := by decide +kernel
theorem dX0_write_14 : decode cX0_write 14 = .ok (.iload 5, 2) := by decide +kernel
theorem dX0_write_16 : decode cX0_write 16 = .ok (.isub, 1) := by decide +kernel
theorem dX0_write_17 : decode cX0_write 17 = .ok (.istore 6, 2) := by decide +kernel
theorem dX0_write_19 : decode cX0_write 19 = .ok (.iload 6, 2) := by decide +kernel
theorem dX0_write_21 : decode cX0_write 21 = .ok (.ifCond .lt 27, 3) := by decide +kernel
theorem dX0_write_24 : decode cX0_write 24 = .ok (.iload 6, 2) := by decide +kernel
theorem dX0_write_26 : decode cX0_write 26 = .ok (.sipush 496, 3) := by decide +kernel
theorem dX0_write_29 : decode cX0_write 29 = .ok (.if_icmp .ge 19, 3) := by decide +kernel
theorem dX0_write_32 : decode cX0_write 32 = .ok (.aload_n 0, 1) := by decide +kernel
theorem dX0_write_33 : decode cX0_write 33 = .ok (.getfield 27, 3) := by decide +kernel
theorem dX0_write_36 : decode cX0_write 36 = .ok (.iload 6, 2) := by decide +kernel
theorem dX0_write_38 : decode cX0_write 38 = .ok (.lload_n 3, 1) := by decide +kernel
theorem dX0_write_39 : decode cX0_write 39 = .ok (.bipush 8, 2) := by decide +kernel
theorem dX0_write_41 : decode cX0_write 41 = .ok (.iload 5, 2) := by decide +kernel
theorem dX0_write_43 : decode cX0_write 43 = .ok (.imul, 1) := by decide +kernel
theorem dX0_write_44 : decode cX0_write 44 = .ok (.lushr, 1) := by decide +kernel
theorem dX0_write_45 : decode cX0_write 45 = .ok (.l2i, 1) := by decide +kernel
theorem dX0_write_46 : decode cX0_write 46 = .ok (.i2b, 1) := by decide +kernel
theorem dX0_write_47 : decode cX0_write 47 = .ok (.bastore, 1) := by decide +kernel
theorem dX0_write_48 : decode cX0_write 48 = .ok (.iinc 5 1, 3) := by decide +kernel
theorem dX0_write_51 : decode cX0_write 51 = .ok (.goto (-48), 3) := by decide +kernel
theorem dX0_write_54 : decode cX0_write 54 = .ok (.return_, 1) := by decide +kernel
theorem dX1_init_0 : decode cX1_init 0 = .ok (.aload_n 0, 1) := by decide +kernel
theorem dX1_init_1 : decode cX1_init 1 = .ok (.invokespecial 3, 3) := by decide +kernel
theorem dX1_init_4 : decode cX1_init 4 = .ok (.aload_n 0, 1) := by decide +kernel
theorem dX1_init_5 : decode cX1_init 5 = .ok (.bipush 8, 2) := by decide +kernel
theorem dX1_init_7 : decode cX1_init 7 = .ok (.newarray .int, 2) := by decide +kernel
theorem dX1_init_9 : decode cX1_init 9 = .ok (.putfield 9, 3) := by decide +kernel
theorem dX1_init_12 : decode cX1_init 12 = .ok (.aload_n 0, 1) := by decide +kernel
theorem dX1_init_13 : decode cX1_init 13 = .ok (.bipush 8, 2) := by decide +kernel
theorem dX1_init_15 : decode cX1_init 15 = .ok (.newarray .long, 2) := by decide +kernel
theorem dX1_init_17 : decode cX1_init 17 = .ok (.putfield 15, 3) := by decide +kernel
theorem dX1_init_20 : decode cX1_init 20 = .ok (.aload_n 0, 1) := by decide +kernel
theorem dX1_init_21 : decode cX1_init 21 = .ok (.bipush 8, 2) := by decide +kernel
theorem dX1_init_23 : decode cX1_init 23 = .ok (.newarray .int, 2) := by decide +kernel
theorem dX1_init_25 : decode cX1_init 25 = .ok (.putfield 19, 3) := by decide +kernel
theorem dX1_init_28 : decode cX1_init 28 = .ok (.aload_n 0, 1) := by decide +kernel
theorem dX1_init_29 : decode cX1_init 29 = .ok (.sipush 248, 3) := by decide +kernel
theorem dX1_init_32 : decode cX1_init 32 = .ok (.newarray .byte, 2) := by decide +kernel
theorem dX1_init_34 : decode cX1_init 34 = .ok (.putfield 22, 3) := by decide +kernel
theorem dX1_init_37 : decode cX1_init 37 = .ok (.return_, 1) := by decide +kernel
set_option maxRecDepth 20000 in
theorem ggX1_makeAllNull_J7_fill_53178 : GoodIn wsX1_makeAllNull wsJ7_fill_53178 := goodIn_r _ [5] (by decide +kernel) (by decide +kernel)
set_option maxRecDepth 20000 in
theorem gX1_makeAllNull_J7_fill_53178 : GoodIn wsX1_makeAllNull (va_wsS RX1 26 yJ7_fill_53178 wsJ7_fill_53178) := goodIn_app (goodIn_of _ (by decide +kernel)) ggX1_makeAllNull_J7_fill_53178
theorem dX1_makeAllNull_0 : decode cX1_makeAllNull 0 = .ok (.aload_n 0, 1) := by decide +kernel
theorem dX1_makeAllNull_1 : decode cX1_makeAllNull 1 = .ok (.getfield 9, 3) := by decide +kernel
theorem dX1_makeAllNull_4 : decode cX1_makeAllNull 4 = .ok (.iconst 0, 1) := by decide +kernel
theorem dX1_makeAllNull_5 : decode cX1_makeAllNull 5 = .ok (.invokestatic 26, 3) := by decide +kernel
theorem dX1_makeAllNull_8 : decode cX1_makeAllNull 8 = .ok (.return_, 1) := by decide +kernel
set_option maxRecDepth 20000 in
theorem ggX1_kindAt_X3_isColumn : GoodIn wsX1_kindAt wsX3_isColumn := goodIn_r _ [4] (by decide +kernel) (by decide +kernel)
set_option maxRecDepth 20000 in
theorem gX1_kindAt_X3_isColumn_n32 : GoodIn wsX1_kindAt (wsX3_isColumn) := ggX1_kindAt_X3_isColumn
theorem dX1_kindAt_0 : decode cX1_kindAt 0 = .ok (.iload_n 1, 1) := by decide +kernel
theorem dX1_kindAt_1 : decode cX1_kindAt 1 = .ok (.invokestatic 32, 3) := by decide +kernel
theorem dX1_kindAt_4 : decode cX1_kindAt 4 = .ok (.ifCond .eq 12, 3) := by decide +kernel
theorem dX1_kindAt_7 : decode cX1_kindAt 7 = .ok (.aload_n 0, 1) := by decide +kernel
theorem dX1_kindAt_8 : decode cX1_kindAt 8 = .ok (.getfield 9, 3) := by decide +kernel
theorem dX1_kindAt_11 : decode cX1_kindAt 11 = .ok (.iload_n 1, 1) := by decide +kernel
theorem dX1_kindAt_12 : decode cX1_kindAt 12 = .ok (.iaload, 1) := by decide +kernel
theorem dX1_kindAt_13 : decode cX1_kindAt 13 = .ok (.goto 4, 3) := by decide +kernel
theorem dX1_kindAt_16 : decode cX1_kindAt 16 = .ok (.iconst (-1), 1) := by decide +kernel
theorem dX1_kindAt_17 : decode cX1_kindAt 17 = .ok (.ireturn, 1) := by decide +kernel
set_option maxRecDepth 20000 in
theorem ggX1_numberAt_X1_kindAt : GoodIn wsX1_numberAt wsX1_kindAt := goodIn_r _ [6, 7, 8, 9, 10, 11, 12, 13, 14] (by decide +kernel) (by decide +kernel)
set_option maxRecDepth 20000 in
theorem gX1_numberAt_X1_kindAt : GoodIn wsX1_numberAt (wsV RX1 36 RX1 yX1_kindAt wsX1_kindAt) := goodIn_app (goodIn_of _ (by decide +kernel)) ggX1_numberAt_X1_kindAt
theorem dX1_numberAt_0 : decode cX1_numberAt 0 = .ok (.aload_n 0, 1) := by decide +kernel
theorem dX1_numberAt_1 : decode cX1_numberAt 1 = .ok (.iload_n 1, 1) := by decide +kernel
theorem dX1_numberAt_2 : decode cX1_numberAt 2 = .ok (.invokevirtual 36, 3) := by decide +kernel
theorem dX1_numberAt_5 : decode cX1_numberAt 5 = .ok (.iconst 1, 1) := by decide +kernel
theorem dX1_numberAt_6 : decode cX1_numberAt 6 = .ok (.if_icmp .ne 12, 3) := by decide +kernel
theorem dX1_numberAt_9 : decode cX1_numberAt 9 = .ok (.aload_n 0, 1) := by decide +kernel
theorem dX1_numberAt_10 : decode cX1_numberAt 10 = .ok (.getfield 15, 3) := by decide +kernel
theorem dX1_numberAt_13 : decode cX1_numberAt 13 = .ok (.iload_n 1, 1) := by decide +kernel
theorem dX1_numberAt_14 : decode cX1_numberAt 14 = .ok (.laload, 1) := by decide +kernel
theorem dX1_numberAt_15 : decode cX1_numberAt 15 = .ok (.goto 4, 3) := by decide +kernel
theorem dX1_numberAt_18 : decode cX1_numberAt 18 = .ok (.lconst 0, 1) := by decide +kernel
theorem dX1_numberAt_19 : decode cX1_numberAt 19 = .ok (.lreturn, 1) := by decide +kernel
set_option maxRecDepth 20000 in
theorem ggX1_lengthAt_X1_kindAt : GoodIn wsX1_lengthAt wsX1_kindAt := goodIn_r _ [6, 7, 8, 9, 10, 11, 12, 13, 14] (by decide +kernel) (by decide +kernel)
set_option maxRecDepth 20000 in
theorem gX1_lengthAt_X1_kindAt : GoodIn wsX1_lengthAt (wsV RX1 36 RX1 yX1_kindAt wsX1_kindAt) := goodIn_app (goodIn_of _ (by decide +kernel)) ggX1_lengthAt_X1_kindAt
theorem dX1_lengthAt_0 : decode cX1_lengthAt 0 = .ok (.aload_n 0, 1) := by decide +kernel
theorem dX1_lengthAt_1 : decode cX1_lengthAt 1 = .ok (.iload_n 1, 1) := by decide +kernel
theorem dX1_lengthAt_2 : decode cX1_lengthAt 2 = .ok (.invokevirtual 36, 3) := by decide +kernel
theorem dX1_lengthAt_5 : decode cX1_lengthAt 5 = .ok (.iconst 2, 1) := by decide +kernel
theorem dX1_lengthAt_6 : decode cX1_lengthAt 6 = .ok (.if_icmp .ne 12, 3) := by decide +kernel
theorem dX1_lengthAt_9 : decode cX1_lengthAt 9 = .ok (.aload_n 0, 1) := by decide +kernel
theorem dX1_lengthAt_10 : decode cX1_lengthAt 10 = .ok (.getfield 19, 3) := by decide +kernel
theorem dX1_lengthAt_13 : decode cX1_lengthAt 13 = .ok (.iload_n 1, 1) := by decide +kernel
theorem dX1_lengthAt_14 : decode cX1_lengthAt 14 = .ok (.iaload, 1) := by decide +kernel
theorem dX1_lengthAt_15 : decode cX1_lengthAt 15 = .ok (.goto 4, 3) := by decide +kernel
theorem dX1_lengthAt_18 : decode cX1_lengthAt 18 = .ok (.iconst 0, 1) := by decide +kernel
theorem dX1_lengthAt_19 : decode cX1_lengthAt 19 = .ok (.ireturn, 1) := by decide +kernel
set_option maxRecDepth 20000 in
theorem ggX1_letterAt_X1_kindAt : GoodIn wsX1_letterAt wsX1_kindAt := goodIn_r _ [7, 8, 9, 10, 11, 12, 13, 14, 15] (by decide +kernel) (by decide +kernel)
set_option maxRecDepth 20000 in
theorem gX1_letterAt_X1_kindAt : GoodIn wsX1_letterAt (wsV RX1 36 RX1 yX1_kindAt wsX1_kindAt) := goodIn_app (goodIn_of _ (by decide +kernel)) ggX1_letterAt_X1_kindAt
theorem dX1_letterAt_0 : decode cX1_letterAt 0 = .ok (.aload_n 0, 1) := by decide +kernel
theorem dX1_letterAt_1 : decode cX1_letterAt 1 = .ok (.iload_n 1, 1) := by decide +kernel
theorem dX1_letterAt_2 : decode cX1_letterAt 2 = .ok (.invokevirtual 36, 3) := by decide +kernel
theorem dX1_letterAt_5 : decode cX1_letterAt 5 = .ok (.iconst 2, 1) := by decide +kernel
theorem dX1_letterAt_6 : decode cX1_letterAt 6 = .ok (.if_icmp .ne 17, 3) := by decide +kernel
theorem dX1_letterAt_9 : decode cX1_letterAt 9 = .ok (.iload_n 2, 1) := by decide +kernel
theorem dX1_letterAt_10 : decode cX1_letterAt 10 = .ok (.ifCond .lt 13, 3) := by decide +kernel
theorem dX1_letterAt_13 : decode cX1_letterAt 13 = .ok (.iload_n 2, 1) := by decide +kernel
theorem dX1_letterAt_14 : decode cX1_letterAt 14 = .ok (.aload_n 0, 1) := by decide +kernel
theorem dX1_letterAt_15 : decode cX1_letterAt 15 = .ok (.getfield 19, 3) := by decide +kernel
theorem dX1_letterAt_18 : decode cX1_letterAt 18 = .ok (.iload_n 1, 1) := by decide +kernel
theorem dX1_letterAt_19 : decode cX1_letterAt 19 = .ok (.iaload, 1) := by decide +kernel
theorem dX1_letterAt_20 : decode cX1_letterAt 20 = .ok (.if_icmp .lt 5, 3) := by decide +kernel
theorem dX1_letterAt_23 : decode cX1_letterAt 23 = .ok (.iconst (-1), 1) := by decide +kernel
theorem dX1_letterAt_24 : decode cX1_letterAt 24 = .ok (.ireturn, 1) := by decide +kernel
theorem dX1_letterAt_25 : decode cX1_letterAt 25 = .ok (.aload_n 0, 1) := by decide +kernel
theorem dX1_letterAt_26 : decode cX1_letterAt 26 = .ok (.getfield 22, 3) := by decide +kernel
theorem dX1_letterAt_29 : decode cX1_letterAt 29 = .ok (.iload_n 1, 1) := by decide +kernel
theorem dX1_letterAt_30 : decode cX1_letterAt 30 = .ok (.bipush 31, 2) := by decide +kernel
theorem dX1_letterAt_32 : decode cX1_letterAt 32 = .ok (.imul, 1) := by decide +kernel
theorem dX1_letterAt_33 : decode cX1_letterAt 33 = .ok (.iload_n 2, 1) := by decide +kernel
theorem dX1_letterAt_34 : decode cX1_letterAt 34 = .ok (.iadd, 1) := by decide +kernel
theorem dX1_letterAt_35 : decode cX1_letterAt 35 = .ok (.baload, 1) := by decide +kernel
theorem dX1_letterAt_36 : decode cX1_letterAt 36 = .ok (.sipush 255, 3) := by decide +kernel
theorem dX1_letterAt_39 : decode cX1_letterAt 39 = .ok (.iand, 1) := by decide +kernel
theorem dX1_letterAt_40 : decode cX1_letterAt 40 = .ok (.ireturn, 1) := by decide +kernel
set_option maxRecDepth 20000 in
theorem ggX1_setNumber_X3_isColumn : GoodIn wsX1_setNumber wsX3_isColumn := goodIn_r _ [5] (by decide +kernel) (by decide +kernel)
set_option maxRecDepth 20000 in
theorem gX1_setNumber_X3_isColumn_n32 : GoodIn wsX1_setNumber (wsX3_isColumn) := ggX1_setNumber_X3_isColumn
theorem dX1_setNumber_0 : decode cX1_setNumber 0 = .ok (.iload_n 1, 1) := by decide +kernel
theorem dX1_setNumber_1 : decode cX1_setNumber 1 = .ok (.invokestatic 32, 3) := by decide +kernel
theorem dX1_setNumber_4 : decode cX1_setNumber 4 = .ok (.ifCond .eq 17, 3) := by decide +kernel
theorem dX1_setNumber_7 : decode cX1_setNumber 7 = .ok (.aload_n 0, 1) := by decide +kernel
theorem dX1_setNumber_8 : decode cX1_setNumber 8 = .ok (.getfield 9, 3) := by decide +kernel
theorem dX1_setNumber_11 : decode cX1_setNumber 11 = .ok (.iload_n 1, 1) := by decide +kernel
theorem dX1_setNumber_12 : decode cX1_setNumber 12 = .ok (.iconst 1, 1) := by decide +kernel
theorem dX1_setNumber_13 : decode cX1_setNumber 13 = .ok (.iastore, 1) := by decide +kernel
theorem dX1_setNumber_14 : decode cX1_setNumber 14 = .ok (.aload_n 0, 1) := by decide +kernel
theorem dX1_setNumber_15 : decode cX1_setNumber 15 = .ok (.getfield 15, 3) := by decide +kernel
theorem dX1_setNumber_18 : decode cX1_setNumber 18 = .ok (.iload_n 1, 1) := by decide +kernel
theorem dX1_setNumber_19 : decode cX1_setNumber 19 = .ok (.lload_n 2, 1) := by decide +kernel
theorem dX1_setNumber_20 : decode cX1_setNumber 20 = .ok (.lastore, 1) := by decide +kernel
theorem dX1_setNumber_21 : decode cX1_setNumber 21 = .ok (.return_, 1) := by decide +kernel
set_option maxRecDepth 20000 in
theorem ggX1_makeText_X3_isColumn : GoodIn wsX1_makeText wsX3_isColumn := goodIn_r _ [5] (by decide +kernel) (by decide +kernel)
set_option maxRecDepth 20000 in
theorem gX1_makeText_X3_isColumn_n32 : GoodIn wsX1_makeText (wsX3_isColumn) := ggX1_makeText_X3_isColumn
theorem dX1_makeText_0 : decode cX1_makeText 0 = .ok (.iload_n 1, 1) := by decide +kernel
theorem dX1_makeText_1 : decode cX1_makeText 1 = .ok (.invokestatic 32, 3) := by decide +kernel
theorem dX1_makeText_4 : decode cX1_makeText 4 = .ok (.ifCond .eq 27, 3) := by decide +kernel
theorem dX1_makeText_7 : decode cX1_makeText 7 = .ok (.aload_n 0, 1) := by decide +kernel
theorem dX1_makeText_8 : decode cX1_makeText 8 = .ok (.getfield 9, 3) := by decide +kernel
theorem dX1_makeText_11 : decode cX1_makeText 11 = .ok (.iload_n 1, 1) := by decide +kernel
theorem dX1_makeText_12 : decode cX1_makeText 12 = .ok (.iaload, 1) := by decide +kernel
theorem dX1_makeText_13 : decode cX1_makeText 13 = .ok (.iconst 2, 1) := by decide +kernel
theorem dX1_makeText_14 : decode cX1_makeText 14 = .ok (.if_icmp .eq 17, 3) := by decide +kernel
theorem dX1_makeText_17 : decode cX1_makeText 17 = .ok (.aload_n 0, 1) := by decide +kernel
theorem dX1_makeText_18 : decode cX1_makeText 18 = .ok (.getfield 9, 3) := by decide +kernel
theorem dX1_makeText_21 : decode cX1_makeText 21 = .ok (.iload_n 1, 1) := by decide +kernel
theorem dX1_makeText_22 : decode cX1_makeText 22 = .ok (.iconst 2, 1) := by decide +kernel
theorem dX1_makeText_23 : decode cX1_makeText 23 = .ok (.iastore, 1) := by decide +kernel
theorem dX1_makeText_24 : decode cX1_makeText 24 = .ok (.aload_n 0, 1) := by decide +kernel
theorem dX1_makeText_25 : decode cX1_makeText 25 = .ok (.getfield 19, 3) := by decide +kernel
theorem dX1_makeText_28 : decode cX1_makeText 28 = .ok (.iload_n 1, 1) := by decide +kernel
theorem dX1_makeText_29 : decode cX1_makeText 29 = .ok (.iconst 0, 1) := by decide +kernel
theorem dX1_makeText_30 : decode cX1_makeText 30 = .ok (.iastore, 1) := by decide +kernel
theorem dX1_makeText_31 : decode cX1_makeText 31 = .ok (.return_, 1) := by decide +kernel
set_option maxRecDepth 20000 in
theorem ggX1_addLetter_X1_kindAt : GoodIn wsX1_addLetter wsX1_kindAt := goodIn_r _ [7, 8, 9, 10, 11, 12, 13, 14, 15] (by decide +kernel) (by decide +kernel)
set_option maxRecDepth 20000 in
theorem gX1_addLetter_X1_kindAt : GoodIn wsX1_addLetter (wsV RX1 36 RX1 yX1_kindAt wsX1_kindAt) := goodIn_app (goodIn_of _ (by decide +kernel)) ggX1_addLetter_X1_kindAt
theorem dX1_addLetter_0 : decode cX1_addLetter 0 = .ok (.aload_n 0, 1) := by decide +kernel
theorem dX1_addLetter_1 : decode cX1_addLetter 1 = .ok (.iload_n 1, 1) := by decide +kernel
theorem dX1_addLetter_2 : decode cX1_addLetter 2 = .ok (.invokevirtual 36, 3) := by decide +kernel
theorem dX1_addLetter_5 : decode cX1_addLetter 5 = .ok (.iconst 2, 1) := by decide +kernel
theorem dX1_addLetter_6 : decode cX1_addLetter 6 = .ok (.if_icmp .ne 42, 3) := by decide +kernel
theorem dX1_addLetter_9 : decode cX1_addLetter 9 = .ok (.aload_n 0, 1) := by decide +kernel
theorem dX1_addLetter_10 : decode cX1_addLetter 10 = .ok (.getfield 19, 3) := by decide +kernel
theorem dX1_addLetter_13 : decode cX1_addLetter 13 = .ok (.iload_n 1, 1) := by decide +kernel
theorem dX1_addLetter_14 : decode cX1_addLetter 14 = .ok (.iaload, 1) := by decide +kernel
theorem dX1_addLetter_15 : decode cX1_addLetter 15 = .ok (.bipush 31, 2) := by decide +kernel
theorem dX1_addLetter_17 : decode cX1_addLetter 17 = .ok (.if_icmp .ge 31, 3) := by decide +kernel
theorem dX1_addLetter_20 : decode cX1_addLetter 20 = .ok (.aload_n 0, 1) := by decide +kernel
theorem dX1_addLetter_21 : decode cX1_addLetter 21 = .ok (.getfield 22, 3) := by decide +kernel
theorem dX1_addLetter_24 : decode cX1_addLetter 24 = .ok (.iload_n 1, 1) := by decide +kernel
theorem dX1_addLetter_25 : decode cX1_addLetter 25 = .ok (.bipush 31, 2) := by decide +kernel
theorem dX1_addLetter_27 : decode cX1_addLetter 27 = .ok (.imul, 1) := by decide +kernel
theorem dX1_addLetter_28 : decode cX1_addLetter 28 = .ok (.aload_n 0, 1) := by decide +kernel
theorem dX1_addLetter_29 : decode cX1_addLetter 29 = .ok (.getfield 19, 3) := by decide +kernel
theorem dX1_addLetter_32 : decode cX1_addLetter 32 = .ok (.iload_n 1, 1) := by decide +kernel
theorem dX1_addLetter_33 : decode cX1_addLetter 33 = .ok (.iaload, 1) := by decide +kernel
theorem dX1_addLetter_34 : decode cX1_addLetter 34 = .ok (.iadd, 1) := by decide +kernel
theorem dX1_addLetter_35 : decode cX1_addLetter 35 = .ok (.iload_n 2, 1) := by decide +kernel
theorem dX1_addLetter_36 : decode cX1_addLetter 36 = .ok (.i2b, 1) := by decide +kernel
theorem dX1_addLetter_37 : decode cX1_addLetter 37 = .ok (.bastore, 1) := by decide +kernel
theorem dX1_addLetter_38 : decode cX1_addLetter 38 = .ok (.aload_n 0, 1) := by decide +kernel
theorem dX1_addLetter_39 : decode cX1_addLetter 39 = .ok (.getfield 19, 3) := by decide +kernel
theorem dX1_addLetter_42 : decode cX1_addLetter 42 = .ok (.iload_n 1, 1) := by decide +kernel
theorem dX1_addLetter_43 : decode cX1_addLetter 43 = .ok (.dup2, 1) := by decide +kernel
theorem dX1_addLetter_44 : decode cX1_addLetter 44 = .ok (.iaload, 1) := by decide +kernel
theorem dX1_addLetter_45 : decode cX1_addLetter 45 = .ok (.iconst 1, 1) := by decide +kernel
theorem dX1_addLetter_46 : decode cX1_addLetter 46 = .ok (.iadd, 1) := by decide +kernel
theorem dX1_addLetter_47 : decode cX1_addLetter 47 = .ok (.iastore, 1) := by decide +kernel
theorem dX1_addLetter_48 : decode cX1_addLetter 48 = .ok (.return_, 1) := by decide +kernel
theorem dX2_init_0 : decode cX2_init 0 = .ok (.aload_n 0, 1) := by decide +kernel
theorem dX2_init_1 : decode cX2_init 1 = .ok (.invokespecial 1, 3) := by decide +kernel
theorem dX2_init_4 : decode cX2_init 4 = .ok (.aload_n 0, 1) := by decide +kernel
theorem dX2_init_5 : decode cX2_init 5 = .ok (.iload_n 1, 1) := by decide +kernel
theorem dX2_init_6 : decode cX2_init 6 = .ok (.putfield 7, 3) := by decide +kernel
theorem dX2_init_9 : decode cX2_init 9 = .ok (.aload_n 0, 1) := by decide +kernel
theorem dX2_init_10 : decode cX2_init 10 = .ok (.iload_n 2, 1) := by decide +kernel
theorem dX2_init_11 : decode cX2_init 11 = .ok (.putfield 13, 3) := by decide +kernel
theorem dX2_init_14 : decode cX2_init 14 = .ok (.aload_n 0, 1) := by decide +kernel
theorem dX2_init_15 : decode cX2_init 15 = .ok (.iload_n 3, 1) := by decide +kernel
theorem dX2_init_16 : decode cX2_init 16 = .ok (.putfield 16, 3) := by decide +kernel
theorem dX2_init_19 : decode cX2_init 19 = .ok (.return_, 1) := by decide +kernel
set_option maxRecDepth 20000 in
theorem ggX2_typeAt_X3_digit : GoodIn wsX2_typeAt wsX3_digit := goodIn_r _ [4] (by decide +kernel) (by decide +kernel)
set_option maxRecDepth 20000 in
theorem gX2_typeAt_X3_digit_n19 : GoodIn wsX2_typeAt (wsX3_digit) := ggX2_typeAt_X3_digit
theorem dX2_typeAt_0 : decode cX2_typeAt 0 = .ok (.aload_n 0, 1) := by decide +kernel
theorem dX2_typeAt_1 : decode cX2_typeAt 1 = .ok (.getfield 16, 3) := by decide +kernel
theorem dX2_typeAt_4 : decode cX2_typeAt 4 = .ok (.iload_n 1, 1) := by decide +kernel
theorem dX2_typeAt_5 : decode cX2_typeAt 5 = .ok (.invokestatic 19, 3) := by decide +kernel
theorem dX2_typeAt_8 : decode cX2_typeAt 8 = .ok (.ireturn, 1) := by decide +kernel
theorem dJ7_fill_53178_0 : decode cJ7_fill_53178 0 = .ok (.iconst 0, 1) := by decide +kernel
theorem dJ7_fill_53178_1 : decode cJ7_fill_53178 1 = .ok (.istore_n 2, 1) := by decide +kernel
theorem dJ7_fill_53178_2 : decode cJ7_fill_53178 2 = .ok (.aload_n 0, 1) := by decide +kernel
theorem dJ7_fill_53178_3 : decode cJ7_fill_53178 3 = .ok (.arraylength, 1) := by decide +kernel
theorem dJ7_fill_53178_4 : decode cJ7_fill_53178 4 = .ok (.istore_n 3, 1) := by decide +kernel
theorem dJ7_fill_53178_5 : decode cJ7_fill_53178 5 = .ok (.iload_n 2, 1) := by decide +kernel
theorem dJ7_fill_53178_6 : decode cJ7_fill_53178 6 = .ok (.iload_n 3, 1) := by decide +kernel
theorem dJ7_fill_53178_7 : decode cJ7_fill_53178 7 = .ok (.if_icmp .ge 13, 3) := by decide +kernel
theorem dJ7_fill_53178_10 : decode cJ7_fill_53178 10 = .ok (.aload_n 0, 1) := by decide +kernel
theorem dJ7_fill_53178_11 : decode cJ7_fill_53178 11 = .ok (.iload_n 2, 1) := by decide +kernel
theorem dJ7_fill_53178_12 : decode cJ7_fill_53178 12 = .ok (.iload_n 1, 1) := by decide +kernel
theorem dJ7_fill_53178_13 : decode cJ7_fill_53178 13 = .ok (.iastore, 1) := by decide +kernel
theorem dJ7_fill_53178_14 : decode cJ7_fill_53178 14 = .ok (.iinc 2 1, 3) := by decide +kernel
theorem dJ7_fill_53178_17 : decode cJ7_fill_53178 17 = .ok (.goto (-12), 3) := by decide +kernel
theorem dJ7_fill_53178_20 : decode cJ7_fill_53178 20 = .ok (.return_, 1) := by decide +kernel
