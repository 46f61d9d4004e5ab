set_option maxRecDepth 20000 in
theorem ggX3_init_X1_init : GoodIn wsX3_init wsX1_init := goodIn_r _ [13, 14, 2, 3, 15, 16, 17, 18, 19, 20, 21, 22, 23, 24, 25] (by decide +kernel) (by decide +kernel)
set_option maxRecDepth 20000 in
theorem gX3_init_X1_init_n11 : GoodIn wsX3_init (wsX1_init) := ggX3_init_X1_init
theorem dX3_init_0 : decode cX3_init 0 = .ok (.aload_n 0, 1) := by decide +kernel
theorem dX3_init_1 : decode cX3_init 1 = .ok (.invokespecial 3, 3) := by decide +kernel
theorem dX3_init_4 : decode cX3_init 4 = .ok (.aload_n 0, 1) := by decide +kernel
theorem dX3_init_5 : decode cX3_init 5 = .ok (.new 9, 3) := by decide +kernel
theorem dX3_init_8 : decode cX3_init 8 = .ok (.dup, 1) := by decide +kernel
theorem dX3_init_9 : decode cX3_init 9 = .ok (.invokespecial 11, 3) := by decide +kernel
theorem dX3_init_12 : decode cX3_init 12 = .ok (.putfield 12, 3) := by decide +kernel
theorem dX3_init_15 : decode cX3_init 15 = .ok (.aload_n 0, 1) := by decide +kernel
theorem dX3_init_16 : decode cX3_init 16 = .ok (.bipush 8, 2) := by decide +kernel
theorem dX3_init_18 : decode cX3_init 18 = .ok (.anewarray 16, 3) := by decide +kernel
theorem dX3_init_21 : decode cX3_init 21 = .ok (.putfield 18, 3) := by decide +kernel
theorem dX3_init_24 : decode cX3_init 24 = .ok (.aload_n 0, 1) := by decide +kernel
theorem dX3_init_25 : decode cX3_init 25 = .ok (.bipush 60, 2) := by decide +kernel
theorem dX3_init_27 : decode cX3_init 27 = .ok (.anewarray 22, 3) := by decide +kernel
theorem dX3_init_30 : decode cX3_init 30 = .ok (.putfield 24, 3) := by decide +kernel
theorem dX3_init_33 : decode cX3_init 33 = .ok (.return_, 1) := by decide +kernel
set_option maxRecDepth 20000 in
theorem ggX3_create_X3_areTypes : GoodIn wsX3_create wsX3_areTypes := goodIn_r _ [8, 9, 10, 7, 11] (by decide +kernel) (by decide +kernel)
set_option maxRecDepth 20000 in
theorem gX3_create_X3_areTypes : GoodIn wsX3_create (va_wsS RX3 28 yX3_areTypes wsX3_areTypes) := goodIn_app (goodIn_of _ (by decide +kernel)) ggX3_create_X3_areTypes
set_option maxRecDepth 20000 in
theorem ggX3_create_X3_openLowestFreePage : GoodIn wsX3_create wsX3_openLowestFreePage := goodIn_r _ [15, 16, 17, 18, 19, 20, 21, 22, 23, 24, 25, 26, 27, 28, 29, 30, 31, 32, 33, 34, 35, 36, 44, 45, 46, 50, 51, 52, 53, 54, 55] (by decide +kernel) (by decide +kernel)
set_option maxRecDepth 20000 in
theorem gX3_create_X3_openLowestFreePage : GoodIn wsX3_create (wsV RX3 32 RX3 yX3_openLowestFreePage wsX3_openLowestFreePage) := goodIn_app (goodIn_of _ (by decide +kernel)) ggX3_create_X3_openLowestFreePage
set_option maxRecDepth 20000 in
theorem ggX3_create_X2_init : GoodIn wsX3_create wsX2_init := goodIn_r _ [39, 40, 24, 25, 41, 42, 43, 47, 48, 49] (by decide +kernel) (by decide +kernel)
set_option maxRecDepth 20000 in
theorem gX3_create_X2_init : GoodIn wsX3_create (wsX2_init) := ggX3_create_X2_init
theorem dX3_create_0 : decode cX3_create 0 = .ok (.iload_n 1, 1) := by decide +kernel
theorem dX3_create_1 : decode cX3_create 1 = .ok (.ifCond .lt 26, 3) := by decide +kernel
theorem dX3_create_4 : decode cX3_create 4 = .ok (.iload_n 1, 1) := by decide +kernel
theorem dX3_create_5 : decode cX3_create 5 = .ok (.bipush 8, 2) := by decide +kernel
theorem dX3_create_7 : decode cX3_create 7 = .ok (.if_icmp .ge 20, 3) := by decide +kernel
theorem dX3_create_10 : decode cX3_create 10 = .ok (.aload_n 0, 1) := by decide +kernel
theorem dX3_create_11 : decode cX3_create 11 = .ok (.getfield 18, 3) := by decide +kernel
theorem dX3_create_14 : decode cX3_create 14 = .ok (.iload_n 1, 1) := by decide +kernel
theorem dX3_create_15 : decode cX3_create 15 = .ok (.aaload, 1) := by decide +kernel
theorem dX3_create_16 : decode cX3_create 16 = .ok (.ifnonnull 11, 3) := by decide +kernel
theorem dX3_create_19 : decode cX3_create 19 = .ok (.iload_n 2, 1) := by decide +kernel
theorem dX3_create_20 : decode cX3_create 20 = .ok (.iload_n 3, 1) := by decide +kernel
theorem dX3_create_21 : decode cX3_create 21 = .ok (.invokestatic 28, 3) := by decide +kernel
theorem dX3_create_24 : decode cX3_create 24 = .ok (.ifCond .ne 5, 3) := by decide +kernel
theorem dX3_create_27 : decode cX3_create 27 = .ok (.iconst 0, 1) := by decide +kernel
theorem dX3_create_28 : decode cX3_create 28 = .ok (.ireturn, 1) := by decide +kernel
theorem dX3_create_29 : decode cX3_create 29 = .ok (.aload_n 0, 1) := by decide +kernel
theorem dX3_create_30 : decode cX3_create 30 = .ok (.iload_n 1, 1) := by decide +kernel
theorem dX3_create_31 : decode cX3_create 31 = .ok (.invokevirtual 32, 3) := by decide +kernel
theorem dX3_create_34 : decode cX3_create 34 = .ok (.istore 4, 2) := by decide +kernel
theorem dX3_create_36 : decode cX3_create 36 = .ok (.iload 4, 2) := by decide +kernel
theorem dX3_create_38 : decode cX3_create 38 = .ok (.iconst (-1), 1) := by decide +kernel
theorem dX3_create_39 : decode cX3_create 39 = .ok (.if_icmp .ne 5, 3) := by decide +kernel
theorem dX3_create_42 : decode cX3_create 42 = .ok (.iconst 0, 1) := by decide +kernel
theorem dX3_create_43 : decode cX3_create 43 = .ok (.ireturn, 1) := by decide +kernel
theorem dX3_create_44 : decode cX3_create 44 = .ok (.aload_n 0, 1) := by decide +kernel
theorem dX3_create_45 : decode cX3_create 45 = .ok (.getfield 18, 3) := by decide +kernel
theorem dX3_create_48 : decode cX3_create 48 = .ok (.iload_n 1, 1) := by decide +kernel
theorem dX3_create_49 : decode cX3_create 49 = .ok (.new 16, 3) := by decide +kernel
theorem dX3_create_52 : decode cX3_create 52 = .ok (.dup, 1) := by decide +kernel
theorem dX3_create_53 : decode cX3_create 53 = .ok (.iload 4, 2) := by decide +kernel
theorem dX3_create_55 : decode cX3_create 55 = .ok (.iload_n 2, 1) := by decide +kernel
theorem dX3_create_56 : decode cX3_create 56 = .ok (.iload_n 3, 1) := by decide +kernel
theorem dX3_create_57 : decode cX3_create 57 = .ok (.invokespecial 36, 3) := by decide +kernel
theorem dX3_create_60 : decode cX3_create 60 = .ok (.aastore, 1) := by decide +kernel
theorem dX3_create_61 : decode cX3_create 61 = .ok (.iconst 1, 1) := by decide +kernel
theorem dX3_create_62 : decode cX3_create 62 = .ok (.ireturn, 1) := by decide +kernel
set_option maxRecDepth 20000 in
theorem ggX3_drop_X3_tableAt : GoodIn wsX3_drop wsX3_tableAt := goodIn_r _ [7, 2, 29, 30, 31] (by decide +kernel) (by decide +kernel)
set_option maxRecDepth 20000 in
theorem gX3_drop_X3_tableAt : GoodIn wsX3_drop (wsV RX3 39 RX3 yX3_tableAt wsX3_tableAt) := goodIn_app (goodIn_of _ (by decide +kernel)) ggX3_drop_X3_tableAt
set_option maxRecDepth 20000 in
theorem ggX3_drop_X3_usedPage : GoodIn wsX3_drop wsX3_usedPage := goodIn_r _ [11, 12, 1, 29, 30, 31, 23, 24, 25, 26, 27, 28] (by decide +kernel) (by decide +kernel)
set_option maxRecDepth 20000 in
theorem gX3_drop_X3_usedPage : GoodIn wsX3_drop (wsV RX3 43 RX3 yX3_usedPage wsX3_usedPage) := goodIn_app (goodIn_of _ (by decide +kernel)) ggX3_drop_X3_usedPage
set_option maxRecDepth 20000 in
theorem ggX3_drop_X0_reset : GoodIn wsX3_drop wsX0_reset := goodIn_r _ [17, 18, 19, 20, 21, 22, 23, 24, 25, 26, 27, 28] (by decide +kernel) (by decide +kernel)
set_option maxRecDepth 20000 in
theorem gX3_drop_X0_reset : GoodIn wsX3_drop (wsV RX3 51 RX0 yX0_reset wsX0_reset) := goodIn_app (goodIn_of _ (by decide +kernel)) ggX3_drop_X0_reset
theorem dX3_drop_0 : decode cX3_drop 0 = .ok (.aload_n 0, 1) := by decide +kernel
theorem dX3_drop_1 : decode cX3_drop 1 = .ok (.iload_n 1, 1) := by decide +kernel
theorem dX3_drop_2 : decode cX3_drop 2 = .ok (.invokevirtual 39, 3) := by decide +kernel
theorem dX3_drop_5 : decode cX3_drop 5 = .ok (.ifnonnull 5, 3) := by decide +kernel
theorem dX3_drop_8 : decode cX3_drop 8 = .ok (.iconst 0, 1) := by decide +kernel
theorem dX3_drop_9 : decode cX3_drop 9 = .ok (.ireturn, 1) := by decide +kernel
theorem dX3_drop_10 : decode cX3_drop 10 = .ok (.iconst 0, 1) := by decide +kernel
theorem dX3_drop_11 : decode cX3_drop 11 = .ok (.istore_n 2, 1) := by decide +kernel
theorem dX3_drop_12 : decode cX3_drop 12 = .ok (.iload_n 2, 1) := by decide +kernel
theorem dX3_drop_13 : decode cX3_drop 13 = .ok (.bipush 60, 2) := by decide +kernel
theorem dX3_drop_15 : decode cX3_drop 15 = .ok (.if_icmp .ge 32, 3) := by decide +kernel
theorem dX3_drop_18 : decode cX3_drop 18 = .ok (.aload_n 0, 1) := by decide +kernel
theorem dX3_drop_19 : decode cX3_drop 19 = .ok (.iload_n 2, 1) := by decide +kernel
theorem dX3_drop_20 : decode cX3_drop 20 = .ok (.invokevirtual 43, 3) := by decide +kernel
theorem dX3_drop_23 : decode cX3_drop 23 = .ok (.astore_n 3, 1) := by decide +kernel
theorem dX3_drop_24 : decode cX3_drop 24 = .ok (.aload_n 3, 1) := by decide +kernel
theorem dX3_drop_25 : decode cX3_drop 25 = .ok (.ifnull 16, 3) := by decide +kernel
theorem dX3_drop_28 : decode cX3_drop 28 = .ok (.aload_n 3, 1) := by decide +kernel
theorem dX3_drop_29 : decode cX3_drop 29 = .ok (.getfield 47, 3) := by decide +kernel
theorem dX3_drop_32 : decode cX3_drop 32 = .ok (.iload_n 1, 1) := by decide +kernel
theorem dX3_drop_33 : decode cX3_drop 33 = .ok (.if_icmp .ne 8, 3) := by decide +kernel
theorem dX3_drop_36 : decode cX3_drop 36 = .ok (.aload_n 3, 1) := by decide +kernel
theorem dX3_drop_37 : decode cX3_drop 37 = .ok (.iconst (-1), 1) := by decide +kernel
theorem dX3_drop_38 : decode cX3_drop 38 = .ok (.invokevirtual 51, 3) := by decide +kernel
theorem dX3_drop_41 : decode cX3_drop 41 = .ok (.iinc 2 1, 3) := by decide +kernel
theorem dX3_drop_44 : decode cX3_drop 44 = .ok (.goto (-32), 3) := by decide +kernel
theorem dX3_drop_47 : decode cX3_drop 47 = .ok (.aload_n 0, 1) := by decide +kernel
theorem dX3_drop_48 : decode cX3_drop 48 = .ok (.getfield 18, 3) := by decide +kernel
theorem dX3_drop_51 : decode cX3_drop 51 = .ok (.iload_n 1, 1) := by decide +kernel
theorem dX3_drop_52 : decode cX3_drop 52 = .ok (.aconst_null, 1) := by decide +kernel
theorem dX3_drop_53 : decode cX3_drop 53 = .ok (.aastore, 1) := by decide +kernel
theorem dX3_drop_54 : decode cX3_drop 54 = .ok (.iconst 1, 1) := by decide +kernel
theorem dX3_drop_55 : decode cX3_drop 55 = .ok (.ireturn, 1) := by decide +kernel
set_option maxRecDepth 20000 in
theorem ggX3_clear_X1_makeAllNull : GoodIn wsX3_clear wsX1_makeAllNull := goodIn_r _ [6, 7, 8, 9, 10, 11, 15, 16, 17, 18] (by decide +kernel) (by decide +kernel)
set_option maxRecDepth 20000 in
theorem gX3_clear_X1_makeAllNull : GoodIn wsX3_clear (wsV RX3 55 RX1 yX1_makeAllNull wsX1_makeAllNull) := goodIn_app (goodIn_of _ (by decide +kernel)) ggX3_clear_X1_makeAllNull
theorem dX3_clear_0 : decode cX3_clear 0 = .ok (.aload_n 0, 1) := by decide +kernel
theorem dX3_clear_1 : decode cX3_clear 1 = .ok (.getfield 12, 3) := by decide +kernel
theorem dX3_clear_4 : decode cX3_clear 4 = .ok (.invokevirtual 55, 3) := by decide +kernel
theorem dX3_clear_7 : decode cX3_clear 7 = .ok (.return_, 1) := by decide +kernel
set_option maxRecDepth 20000 in
theorem ggX3_cell_X3_isColumn : GoodIn wsX3_cell wsX3_isColumn := goodIn_r _ [5] (by decide +kernel) (by decide +kernel)
set_option maxRecDepth 20000 in
theorem gX3_cell_X3_isColumn : GoodIn wsX3_cell (va_wsS RX3 58 yX3_isColumn wsX3_isColumn) := goodIn_app (goodIn_of _ (by decide +kernel)) ggX3_cell_X3_isColumn
set_option maxRecDepth 20000 in
theorem ggX3_cell_X1_setNumber : GoodIn wsX3_cell wsX1_setNumber := goodIn_r _ [10, 11, 12, 3, 4, 5, 16, 17, 18, 19] (by decide +kernel) (by decide +kernel)
set_option maxRecDepth 20000 in
theorem gX3_cell_X1_setNumber : GoodIn wsX3_cell (wsV RX3 62 RX1 yX1_setNumber wsX1_setNumber) := goodIn_app (goodIn_of _ (by decide +kernel)) ggX3_cell_X1_setNumber
theorem dX3_cell_0 : decode cX3_cell 0 = .ok (.iload_n 1, 1) := by decide +kernel
theorem dX3_cell_1 : decode cX3_cell 1 = .ok (.invokestatic 58, 3) := by decide +kernel
theorem dX3_cell_4 : decode cX3_cell 4 = .ok (.ifCond .ne 5, 3) := by decide +kernel
theorem dX3_cell_7 : decode cX3_cell 7 = .ok (.iconst 0, 1) := by decide +kernel
theorem dX3_cell_8 : decode cX3_cell 8 = .ok (.ireturn, 1) := by decide +kernel
theorem dX3_cell_9 : decode cX3_cell 9 = .ok (.aload_n 0, 1) := by decide +kernel
theorem dX3_cell_10 : decode cX3_cell 10 = .ok (.getfield 12, 3) := by decide +kernel
theorem dX3_cell_13 : decode cX3_cell 13 = .ok (.iload_n 1, 1) := by decide +kernel
theorem dX3_cell_14 : decode cX3_cell 14 = .ok (.lload_n 2, 1) := by decide +kernel
theorem dX3_cell_15 : decode cX3_cell 15 = .ok (.invokevirtual 62, 3) := by decide +kernel
theorem dX3_cell_18 : decode cX3_cell 18 = .ok (.iconst 1, 1) := by decide +kernel
theorem dX3_cell_19 : decode cX3_cell 19 = .ok (.ireturn, 1) := by decide +kernel
set_option maxRecDepth 20000 in
theorem ggX3_text_X3_isColumn : GoodIn wsX3_text wsX3_isColumn := goodIn_r _ [5] (by decide +kernel) (by decide +kernel)
set_option maxRecDepth 20000 in
theorem gX3_text_X3_isColumn : GoodIn wsX3_text (va_wsS RX3 58 yX3_isColumn wsX3_isColumn) := goodIn_app (goodIn_of _ (by decide +kernel)) ggX3_text_X3_isColumn
set_option maxRecDepth 20000 in
theorem ggX3_text_X1_lengthAt : GoodIn wsX3_text wsX1_lengthAt := goodIn_r _ [10, 11, 12, 13, 14, 9, 15, 16, 3, 4, 5, 29, 30, 31, 32] (by decide +kernel) (by decide +kernel)
set_option maxRecDepth 20000 in
theorem gX3_text_X1_lengthAt : GoodIn wsX3_text (wsV RX3 66 RX1 yX1_lengthAt wsX1_lengthAt) := goodIn_app (goodIn_of _ (by decide +kernel)) ggX3_text_X1_lengthAt
set_option maxRecDepth 20000 in
theorem ggX3_text_X1_makeText : GoodIn wsX3_text wsX1_makeText := goodIn_r _ [20, 16, 11, 3, 4, 5, 29, 30, 31, 32] (by decide +kernel) (by decide +kernel)
set_option maxRecDepth 20000 in
theorem gX3_text_X1_makeText : GoodIn wsX3_text (wsV RX3 69 RX1 yX1_makeText wsX1_makeText) := goodIn_app (goodIn_of _ (by decide +kernel)) ggX3_text_X1_makeText
set_option maxRecDepth 20000 in
theorem ggX3_text_X1_addLetter : GoodIn wsX3_text wsX1_addLetter := goodIn_r _ [24, 11, 25, 12, 13, 14, 9, 15, 16, 3, 4, 5, 29, 30, 31, 32] (by decide +kernel) (by decide +kernel)
set_option maxRecDepth 20000 in
theorem gX3_text_X1_addLetter : GoodIn wsX3_text (wsV RX3 72 RX1 yX1_addLetter wsX1_addLetter) := goodIn_app (goodIn_of _ (by decide +kernel)) ggX3_text_X1_addLetter
theorem dX3_text_0 : decode cX3_text 0 = .ok (.iload_n 1, 1) := by decide +kernel
theorem dX3_text_1 : decode cX3_text 1 = .ok (.invokestatic 58, 3) := by decide +kernel
theorem dX3_text_4 : decode cX3_text 4 = .ok (.ifCond .eq 31, 3) := by decide +kernel
theorem dX3_text_7 : decode cX3_text 7 = .ok (.iload 4, 2) := by decide +kernel
theorem dX3_text_9 : decode cX3_text 9 = .ok (.ifCond .lt 26, 3) := by decide +kernel
theorem dX3_text_12 : decode cX3_text 12 = .ok (.iload 4, 2) := by decide +kernel
theorem dX3_text_14 : decode cX3_text 14 = .ok (.bipush 8, 2) := by decide +kernel
theorem dX3_text_16 : decode cX3_text 16 = .ok (.if_icmp .gt 19, 3) := by decide +kernel
theorem dX3_text_19 : decode cX3_text 19 = .ok (.aload_n 0, 1) := by decide +kernel
theorem dX3_text_20 : decode cX3_text 20 = .ok (.getfield 12, 3) := by decide +kernel
theorem dX3_text_23 : decode cX3_text 23 = .ok (.iload_n 1, 1) := by decide +kernel
theorem dX3_text_24 : decode cX3_text 24 = .ok (.invokevirtual 66, 3) := by decide +kernel
theorem dX3_text_27 : decode cX3_text 27 = .ok (.iload 4, 2) := by decide +kernel
theorem dX3_text_29 : decode cX3_text 29 = .ok (.iadd, 1) := by decide +kernel
theorem dX3_text_30 : decode cX3_text 30 = .ok (.bipush 31, 2) := by decide +kernel
theorem dX3_text_32 : decode cX3_text 32 = .ok (.if_icmp .le 5, 3) := by decide +kernel
theorem dX3_text_35 : decode cX3_text 35 = .ok (.iconst 0, 1) := by decide +kernel
theorem dX3_text_36 : decode cX3_text 36 = .ok (.ireturn, 1) := by decide +kernel
theorem dX3_text_37 : decode cX3_text 37 = .ok (.aload_n 0, 1) := by decide +kernel
theorem dX3_text_38 : decode cX3_text 38 = .ok (.getfield 12, 3) := by decide +kernel
theorem dX3_text_41 : decode cX3_text 41 = .ok (.iload_n 1, 1) := by decide +kernel
theorem dX3_text_42 : decode cX3_text 42 = .ok (.invokevirtual 69, 3) := by decide +kernel
theorem dX3_text_45 : decode cX3_text 45 = .ok (.iload 4, 2) := by decide +kernel
theorem dX3_text_47 : decode cX3_text 47 = .ok (.iconst 1, 1) := by decide +kernel
theorem dX3_text_48 : decode cX3_text 48 = .ok (.isub, 1) := by decide +kernel
theorem dX3_text_49 : decode cX3_text 49 = .ok (.istore 5, 2) := by decide +kernel
theorem dX3_text_51 : decode cX3_text 51 = .ok (.iload 5, 2) := by decide +kernel
theorem dX3_text_53 : decode cX3_text 53 = .ok (.ifCond .lt 25, 3) := by decide +kernel
theorem dX3_text_56 : decode cX3_text 56 = .ok (.aload_n 0, 1) := by decide +kernel
theorem dX3_text_57 : decode cX3_text 57 = .ok (.getfield 12, 3) := by decide +kernel
theorem dX3_text_60 : decode cX3_text 60 = .ok (.iload_n 1, 1) := by decide +kernel
theorem dX3_text_61 : decode cX3_text 61 = .ok (.lload_n 2, 1) := by decide +kernel
theorem dX3_text_62 : decode cX3_text 62 = .ok (.bipush 8, 2) := by decide +kernel
theorem dX3_text_64 : decode cX3_text 64 = .ok (.iload 5, 2) := by decide +kernel
theorem dX3_text_66 : decode cX3_text 66 = .ok (.imul, 1) := by decide +kernel
theorem dX3_text_67 : decode cX3_text 67 = .ok (.lushr, 1) := by decide +kernel
theorem dX3_text_68 : decode cX3_text 68 = .ok (.l2i, 1) := by decide +kernel
theorem dX3_text_69 : decode cX3_text 69 = .ok (.invokevirtual 72, 3) := by decide +kernel
theorem dX3_text_72 : decode cX3_text 72 = .ok (.iinc 5 (-1), 3) := by decide +kernel
theorem dX3_text_75 : decode cX3_text 75 = .ok (.goto (-24), 3) := by decide +kernel
theorem dX3_text_78 : decode cX3_text 78 = .ok (.iconst 1, 1) := by decide +kernel
theorem dX3_text_79 : decode cX3_text 79 = .ok (.ireturn, 1) := by decide +kernel
set_option maxRecDepth 20000 in
theorem ggX3_put_X3_tableAt : GoodIn wsX3_put wsX3_tableAt := goodIn_r _ [5, 6, 162, 163, 164] (by decide +kernel) (by decide +kernel)
set_option maxRecDepth 20000 in
theorem gX3_put_X3_tableAt : GoodIn wsX3_put (wsV RX3 39 RX3 yX3_tableAt wsX3_tableAt) := goodIn_app (goodIn_of _ (by decide +kernel)) ggX3_put_X3_tableAt
set_option maxRecDepth 20000 in
theorem ggX3_put_X3_isShort : GoodIn wsX3_put wsX3_isShort := goodIn_r _ [9, 10] (by decide +kernel) (by decide +kernel)
set_option maxRecDepth 20000 in
theorem gX3_put_X3_isShort : GoodIn wsX3_put (va_wsS RX3 76 yX3_isShort wsX3_isShort) := goodIn_app (goodIn_of _ (by decide +kernel)) ggX3_put_X3_isShort
set_option maxRecDepth 20000 in
theorem ggX3_put_X3_handSuits : GoodIn wsX3_put wsX3_handSuits := goodIn_r _ [14, 15, 16, 17, 18, 19, 20, 21, 22, 23, 4, 24, 25, 26, 27, 28, 29, 30, 31, 32, 165, 166, 167, 162, 163, 164, 168, 169, 170, 171] (by decide +kernel) (by decide +kernel)
set_option maxRecDepth 20000 in
theorem gX3_put_X3_handSuits : GoodIn wsX3_put (wsV RX3 79 RX3 yX3_handSuits wsX3_handSuits) := goodIn_app (goodIn_of _ (by decide +kernel)) ggX3_put_X3_handSuits
set_option maxRecDepth 20000 in
theorem ggX3_put_X3_sizeOfHand : GoodIn wsX3_put wsX3_sizeOfHand := goodIn_r _ [36, 15, 16, 17, 18, 19, 20, 21, 22, 23, 4, 24, 25, 26, 27, 28, 29, 30, 31, 32, 37, 38, 39, 40, 41, 42, 43, 44, 45, 46, 165, 166, 167, 162, 163, 164, 168, 169, 170, 171] (by decide +kernel) (by decide +kernel)
set_option maxRecDepth 20000 in
theorem gX3_put_X3_sizeOfHand : GoodIn wsX3_put (wsV RX3 83 RX3 yX3_sizeOfHand wsX3_sizeOfHand) := goodIn_app (goodIn_of _ (by decide +kernel)) ggX3_put_X3_sizeOfHand
set_option maxRecDepth 20000 in
theorem ggX3_put_X3_makeRoom : GoodIn wsX3_put wsX3_makeRoom := goodIn_r _ [50, 51, 52, 53, 54, 55, 4, 56, 57, 58, 59, 60, 61, 62, 63, 64, 65, 66, 67, 68, 69, 70, 71, 72, 73, 74, 75, 76, 77, 78, 79, 80, 81, 82, 83, 84, 85, 86, 87, 88, 89, 90, 91, 92, 93, 94, 95, 96, 97, 98, 99, 100, 101, 102, 103, 104, 105, 106, 107, 108, 109, 110, 111, 112, 113, 114, 115, 116, 117, 165, 166, 167, 172, 173, 174, 175, 176, 177, 162, 163, 164] (by decide +kernel) (by decide +kernel)
set_option maxRecDepth 20000 in
theorem gX3_put_X3_makeRoom : GoodIn wsX3_put (wsV RX3 87 RX3 yX3_makeRoom wsX3_makeRoom) := goodIn_app (goodIn_of _ (by decide +kernel)) ggX3_put_X3_makeRoom
set_option maxRecDepth 20000 in
theorem ggX3_put_X3_pageWithVersion : GoodIn wsX3_put wsX3_pageWithVersion := goodIn_r _ [121, 122, 123, 4, 124, 125, 126, 127, 53, 54, 55, 56, 57, 58, 128, 129, 130, 131, 66, 67, 62, 68, 64, 69, 70, 71, 72, 73, 74, 75, 76, 77, 162, 163, 164, 172, 173, 174, 175, 176, 177] (by decide +kernel) (by decide +kernel)
set_option maxRecDepth 20000 in
theorem gX3_put_X3_pageWithVersion : GoodIn wsX3_put (wsV RX3 91 RX3 yX3_pageWithVersion wsX3_pageWithVersion) := goodIn_app (goodIn_of _ (by decide +kernel)) ggX3_put_X3_pageWithVersion
set_option maxRecDepth 20000 in
theorem ggX3_put_X3_slotOf : GoodIn wsX3_put wsX3_slotOf := goodIn_r _ [130] (by decide +kernel) (by decide +kernel)
set_option maxRecDepth 20000 in
theorem gX3_put_X3_slotOf : GoodIn wsX3_put (va_wsS RX3 94 yX3_slotOf wsX3_slotOf) := goodIn_app (goodIn_of _ (by decide +kernel)) ggX3_put_X3_slotOf
set_option maxRecDepth 20000 in
theorem ggX3_put_X0_startOf : GoodIn wsX3_put wsX0_startOf := goodIn_r _ [135, 73, 74, 75, 62, 76, 77, 172, 173, 174, 175, 176, 177] (by decide +kernel) (by decide +kernel)
set_option maxRecDepth 20000 in
theorem gX3_put_X0_startOf : GoodIn wsX3_put (wsV RX3 97 RX0 yX0_startOf wsX0_startOf) := goodIn_app (goodIn_of _ (by decide +kernel)) ggX3_put_X0_startOf
set_option maxRecDepth 20000 in
theorem ggX3_put_X0_write : GoodIn wsX3_put wsX0_write := goodIn_r _ [99, 77, 172, 173, 174, 175, 176, 177] (by decide +kernel) (by decide +kernel)
set_option maxRecDepth 20000 in
theorem gX3_put_X0_write : GoodIn wsX3_put (wsV RX3 100 RX0 yX0_write wsX0_write) := goodIn_app (goodIn_of _ (by decide +kernel)) ggX3_put_X0_write
set_option maxRecDepth 20000 in
theorem ggX3_put_X3_writeBehind : GoodIn wsX3_put wsX3_writeBehind := goodIn_r _ [139, 136, 97, 98, 62, 99, 77, 172, 173, 174, 175, 176, 177] (by decide +kernel) (by decide +kernel)
set_option maxRecDepth 20000 in
theorem gX3_put_X3_writeBehind : GoodIn wsX3_put (va_wsS RX3 104 yX3_writeBehind wsX3_writeBehind) := goodIn_app (goodIn_of _ (by decide +kernel)) ggX3_put_X3_writeBehind
set_option maxRecDepth 20000 in
theorem ggX3_put_X3_packHand : GoodIn wsX3_put wsX3_packHand := goodIn_r _ [143, 15, 16, 17, 18, 19, 20, 21, 22, 23, 4, 24, 25, 26, 27, 28, 29, 30, 31, 32, 144, 145, 146, 147, 148, 149, 150, 151, 152, 46, 136, 97, 98, 62, 99, 77, 153, 154, 155, 156, 41, 42, 43, 44, 45, 157, 158, 159, 160, 161, 165, 166, 167, 162, 163, 164, 168, 169, 170, 171, 172, 173, 174, 175, 176, 177] (by decide +kernel) (by decide +kernel)
set_option maxRecDepth 20000 in
theorem gX3_put_X3_packHand : GoodIn wsX3_put (wsV RX3 108 RX3 yX3_packHand wsX3_packHand) := goodIn_app (goodIn_of _ (by decide +kernel)) ggX3_put_X3_packHand
theorem dX3_put_0 : decode cX3_put 0 = .ok (.aload_n 0, 1) := by decide +kernel
theorem dX3_put_1 : decode cX3_put 1 = .ok (.iload_n 1, 1) := by decide +kernel
theorem dX3_put_2 : decode cX3_put 2 = .ok (.invokevirtual 39, 3) := by decide +kernel
theorem dX3_put_5 : decode cX3_put 5 = .ok (.astore 5, 2) := by decide +kernel
theorem dX3_put_7 : decode cX3_put 7 = .ok (.aload 5, 2) := by decide +kernel
theorem dX3_put_9 : decode cX3_put 9 = .ok (.ifnull 31, 3) := by decide +kernel
theorem dX3_put_12 : decode cX3_put 12 = .ok (.iload_n 2, 1) := by decide +kernel
theorem dX3_put_13 : decode cX3_put 13 = .ok (.ifCond .lt 27, 3) := by decide +kernel
theorem dX3_put_16 : decode cX3_put 16 = .ok (.iload_n 3, 1) := by decide +kernel
theorem dX3_put_17 : decode cX3_put 17 = .ok (.invokestatic 76, 3) := by decide +kernel
theorem dX3_put_20 : decode cX3_put 20 = .ok (.ifCond .eq 20, 3) := by decide +kernel
theorem dX3_put_23 : decode cX3_put 23 = .ok (.iload 4, 2) := by decide +kernel
theorem dX3_put_25 : decode cX3_put 25 = .ok (.invokestatic 76, 3) := by decide +kernel
theorem dX3_put_28 : decode cX3_put 28 = .ok (.ifCond .eq 12, 3) := by decide +kernel
theorem dX3_put_31 : decode cX3_put 31 = .ok (.aload_n 0, 1) := by decide +kernel
theorem dX3_put_32 : decode cX3_put 32 = .ok (.aload 5, 2) := by decide +kernel
theorem dX3_put_34 : decode cX3_put 34 = .ok (.invokevirtual 79, 3) := by decide +kernel
theorem dX3_put_37 : decode cX3_put 37 = .ok (.ifCond .ne 6, 3) := by decide +kernel
theorem dX3_put_40 : decode cX3_put 40 = .ok (.bipush (-2), 2) := by decide +kernel
theorem dX3_put_42 : decode cX3_put 42 = .ok (.ireturn, 1) := by decide +kernel
theorem dX3_put_43 : decode cX3_put 43 = .ok (.aload_n 0, 1) := by decide +kernel
theorem dX3_put_44 : decode cX3_put 44 = .ok (.iload_n 1, 1) := by decide +kernel
theorem dX3_put_45 : decode cX3_put 45 = .ok (.aload 5, 2) := by decide +kernel
theorem dX3_put_47 : decode cX3_put 47 = .ok (.aload_n 0, 1) := by decide +kernel
theorem dX3_put_48 : decode cX3_put 48 = .ok (.aload 5, 2) := by decide +kernel
theorem dX3_put_50 : decode cX3_put 50 = .ok (.invokevirtual 83, 3) := by decide +kernel
theorem dX3_put_53 : decode cX3_put 53 = .ok (.invokevirtual 87, 3) := by decide +kernel
theorem dX3_put_56 : decode cX3_put 56 = .ok (.istore 6, 2) := by decide +kernel
theorem dX3_put_58 : decode cX3_put 58 = .ok (.aload_n 0, 1) := by decide +kernel
theorem dX3_put_59 : decode cX3_put 59 = .ok (.iload 6, 2) := by decide +kernel
theorem dX3_put_61 : decode cX3_put 61 = .ok (.invokevirtual 91, 3) := by decide +kernel
theorem dX3_put_64 : decode cX3_put 64 = .ok (.astore 7, 2) := by decide +kernel
theorem dX3_put_66 : decode cX3_put 66 = .ok (.aload 7, 2) := by decide +kernel
theorem dX3_put_68 : decode cX3_put 68 = .ok (.ifnonnull 5, 3) := by decide +kernel
theorem dX3_put_71 : decode cX3_put 71 = .ok (.iconst (-1), 1) := by decide +kernel
theorem dX3_put_72 : decode cX3_put 72 = .ok (.ireturn, 1) := by decide +kernel
theorem dX3_put_73 : decode cX3_put 73 = .ok (.aload 7, 2) := by decide +kernel
theorem dX3_put_75 : decode cX3_put 75 = .ok (.iload 6, 2) := by decide +kernel
theorem dX3_put_77 : decode cX3_put 77 = .ok (.invokestatic 94, 3) := by decide +kernel
theorem dX3_put_80 : decode cX3_put 80 = .ok (.invokevirtual 97, 3) := by decide +kernel
theorem dX3_put_83 : decode cX3_put 83 = .ok (.istore 8, 2) := by decide +kernel
theorem dX3_put_85 : decode cX3_put 85 = .ok (.aload 7, 2) := by decide +kernel
theorem dX3_put_87 : decode cX3_put 87 = .ok (.iload 8, 2) := by decide +kernel
theorem dX3_put_89 : decode cX3_put 89 = .ok (.iconst 0, 1) := by decide +kernel
theorem dX3_put_90 : decode cX3_put 90 = .ok (.iadd, 1) := by decide +kernel
theorem dX3_put_91 : decode cX3_put 91 = .ok (.iconst 4, 1) := by decide +kernel
theorem dX3_put_92 : decode cX3_put 92 = .ok (.iload_n 2, 1) := by decide +kernel
theorem dX3_put_93 : decode cX3_put 93 = .ok (.i2l, 1) := by decide +kernel
theorem dX3_put_94 : decode cX3_put 94 = .ok (.invokevirtual 100, 3) := by decide +kernel
theorem dX3_put_97 : decode cX3_put 97 = .ok (.aload 7, 2) := by decide +kernel
theorem dX3_put_99 : decode cX3_put 99 = .ok (.iload 8, 2) := by decide +kernel
theorem dX3_put_101 : decode cX3_put 101 = .ok (.iconst 4, 1) := by decide +kernel
theorem dX3_put_102 : decode cX3_put 102 = .ok (.iadd, 1) := by decide +kernel
theorem dX3_put_103 : decode cX3_put 103 = .ok (.iconst 2, 1) := by decide +kernel
theorem dX3_put_104 : decode cX3_put 104 = .ok (.iload_n 3, 1) := by decide +kernel
theorem dX3_put_105 : decode cX3_put 105 = .ok (.i2l, 1) := by decide +kernel
theorem dX3_put_106 : decode cX3_put 106 = .ok (.invokevirtual 100, 3) := by decide +kernel
theorem dX3_put_109 : decode cX3_put 109 = .ok (.aload 7, 2) := by decide +kernel
theorem dX3_put_111 : decode cX3_put 111 = .ok (.iload 8, 2) := by decide +kernel
theorem dX3_put_113 : decode cX3_put 113 = .ok (.bipush 6, 2) := by decide +kernel
theorem dX3_put_115 : decode cX3_put 115 = .ok (.iadd, 1) := by decide +kernel
theorem dX3_put_116 : decode cX3_put 116 = .ok (.iconst 2, 1) := by decide +kernel
theorem dX3_put_117 : decode cX3_put 117 = .ok (.iload 4, 2) := by decide +kernel
theorem dX3_put_119 : decode cX3_put 119 = .ok (.i2l, 1) := by decide +kernel
theorem dX3_put_120 : decode cX3_put 120 = .ok (.invokevirtual 100, 3) := by decide +kernel
theorem dX3_put_123 : decode cX3_put 123 = .ok (.aload 7, 2) := by decide +kernel
theorem dX3_put_125 : decode cX3_put 125 = .ok (.iload 8, 2) := by decide +kernel
theorem dX3_put_127 : decode cX3_put 127 = .ok (.bipush 8, 2) := by decide +kernel
theorem dX3_put_129 : decode cX3_put 129 = .ok (.iadd, 1) := by decide +kernel
theorem dX3_put_130 : decode cX3_put 130 = .ok (.iconst 2, 1) := by decide +kernel
theorem dX3_put_131 : decode cX3_put 131 = .ok (.lconst 0, 1) := by decide +kernel
theorem dX3_put_132 : decode cX3_put 132 = .ok (.invokevirtual 100, 3) := by decide +kernel
theorem dX3_put_135 : decode cX3_put 135 = .ok (.aload 7, 2) := by decide +kernel
theorem dX3_put_137 : decode cX3_put 137 = .ok (.iload 8, 2) := by decide +kernel
theorem dX3_put_139 : decode cX3_put 139 = .ok (.bipush 10, 2) := by decide +kernel
theorem dX3_put_141 : decode cX3_put 141 = .ok (.iadd, 1) := by decide +kernel
theorem dX3_put_142 : decode cX3_put 142 = .ok (.iconst 2, 1) := by decide +kernel
theorem dX3_put_143 : decode cX3_put 143 = .ok (.lconst 0, 1) := by decide +kernel
theorem dX3_put_144 : decode cX3_put 144 = .ok (.invokevirtual 100, 3) := by decide +kernel
theorem dX3_put_147 : decode cX3_put 147 = .ok (.aload 7, 2) := by decide +kernel
theorem dX3_put_149 : decode cX3_put 149 = .ok (.iload 8, 2) := by decide +kernel
theorem dX3_put_151 : decode cX3_put 151 = .ok (.iconst (-1), 1) := by decide +kernel
theorem dX3_put_152 : decode cX3_put 152 = .ok (.invokestatic 104, 3) := by decide +kernel
theorem dX3_put_155 : decode cX3_put 155 = .ok (.aload_n 0, 1) := by decide +kernel
theorem dX3_put_156 : decode cX3_put 156 = .ok (.aload 5, 2) := by decide +kernel
theorem dX3_put_158 : decode cX3_put 158 = .ok (.aload 7, 2) := by decide +kernel
theorem dX3_put_160 : decode cX3_put 160 = .ok (.iload 8, 2) := by decide +kernel
theorem dX3_put_162 : decode cX3_put 162 = .ok (.invokevirtual 108, 3) := by decide +kernel
theorem dX3_put_165 : decode cX3_put 165 = .ok (.iload 6, 2) := by decide +kernel
theorem dX3_put_167 : decode cX3_put 167 = .ok (.ireturn, 1) := by decide +kernel
set_option maxRecDepth 20000 in
theorem ggX3_get_X3_pageWithVersion : GoodIn wsX3_get wsX3_pageWithVersion := goodIn_r _ [7, 8, 9, 6, 10, 11, 12, 13, 14, 15, 16, 17, 18, 1, 19, 20, 21, 22, 23, 24, 25, 26, 27, 28, 29, 30, 31, 32, 33, 34, 35, 36, 105, 106, 107, 99, 100, 101, 102, 103, 104] (by decide +kernel) (by decide +kernel)
set_option maxRecDepth 20000 in
theorem gX3_get_X3_pageWithVersion : GoodIn wsX3_get (wsV RX3 91 RX3 yX3_pageWithVersion wsX3_pageWithVersion) := goodIn_app (goodIn_of _ (by decide +kernel)) ggX3_get_X3_pageWithVersion
set_option maxRecDepth 20000 in
theorem ggX3_get_X3_tableAt : GoodIn wsX3_get wsX3_tableAt := goodIn_r _ [40, 41, 105, 106, 107] (by decide +kernel) (by decide +kernel)
set_option maxRecDepth 20000 in
theorem gX3_get_X3_tableAt : GoodIn wsX3_get (wsV RX3 39 RX3 yX3_tableAt wsX3_tableAt) := goodIn_app (goodIn_of _ (by decide +kernel)) ggX3_get_X3_tableAt
set_option maxRecDepth 20000 in
theorem ggX3_get_X1_makeAllNull : GoodIn wsX3_get wsX1_makeAllNull := goodIn_r _ [46, 47, 48, 49, 50, 51, 108, 109, 110, 111] (by decide +kernel) (by decide +kernel)
set_option maxRecDepth 20000 in
theorem gX3_get_X1_makeAllNull : GoodIn wsX3_get (wsV RX3 55 RX1 yX1_makeAllNull wsX1_makeAllNull) := goodIn_app (goodIn_of _ (by decide +kernel)) ggX3_get_X1_makeAllNull
set_option maxRecDepth 20000 in
theorem ggX3_get_X3_slotOf : GoodIn wsX3_get wsX3_slotOf := goodIn_r _ [21] (by decide +kernel) (by decide +kernel)
set_option maxRecDepth 20000 in
theorem gX3_get_X3_slotOf : GoodIn wsX3_get (va_wsS RX3 94 yX3_slotOf wsX3_slotOf) := goodIn_app (goodIn_of _ (by decide +kernel)) ggX3_get_X3_slotOf
set_option maxRecDepth 20000 in
theorem ggX3_get_X0_startOf : GoodIn wsX3_get wsX0_startOf := goodIn_r _ [55, 32, 33, 34, 25, 35, 36, 99, 100, 101, 102, 103, 104] (by decide +kernel) (by decide +kernel)
set_option maxRecDepth 20000 in
theorem gX3_get_X0_startOf : GoodIn wsX3_get (wsV RX3 97 RX0 yX0_startOf wsX0_startOf) := goodIn_app (goodIn_of _ (by decide +kernel)) ggX3_get_X0_startOf
set_option maxRecDepth 20000 in
theorem ggX3_get_X3_unpackToHand : GoodIn wsX3_get wsX3_unpackToHand := goodIn_r _ [59, 60, 61, 33, 34, 25, 35, 36, 62, 63, 64, 65, 66, 67, 68, 6, 69, 70, 71, 72, 73, 2, 74, 75, 76, 45, 77, 47, 78, 79, 80, 81, 82, 83, 84, 85, 86, 87, 88, 89, 90, 91, 92, 93, 94, 95, 96, 97, 98, 112, 113, 114, 99, 100, 101, 102, 103, 104, 105, 106, 107, 108, 109, 110, 111] (by decide +kernel) (by decide +kernel)
set_option maxRecDepth 20000 in
theorem gX3_get_X3_unpackToHand : GoodIn wsX3_get (wsV RX3 112 RX3 yX3_unpackToHand wsX3_unpackToHand) := goodIn_app (goodIn_of _ (by decide +kernel)) ggX3_get_X3_unpackToHand
theorem dX3_get_0 : decode cX3_get 0 = .ok (.aload_n 0, 1) := by decide +kernel
theorem dX3_get_1 : decode cX3_get 1 = .ok (.iload_n 1, 1) := by decide +kernel
theorem dX3_get_2 : decode cX3_get 2 = .ok (.invokevirtual 91, 3) := by decide +kernel
theorem dX3_get_5 : decode cX3_get 5 = .ok (.astore_n 2, 1) := by decide +kernel
theorem dX3_get_6 : decode cX3_get 6 = .ok (.aload_n 2, 1) := by decide +kernel
theorem dX3_get_7 : decode cX3_get 7 = .ok (.ifnonnull 5, 3) := by decide +kernel
theorem dX3_get_10 : decode cX3_get 10 = .ok (.iconst 0, 1) := by decide +kernel
theorem dX3_get_11 : decode cX3_get 11 = .ok (.ireturn, 1) := by decide +kernel
theorem dX3_get_12 : decode cX3_get 12 = .ok (.aload_n 0, 1) := by decide +kernel
theorem dX3_get_13 : decode cX3_get 13 = .ok (.aload_n 2, 1) := by decide +kernel
theorem dX3_get_14 : decode cX3_get 14 = .ok (.getfield 47, 3) := by decide +kernel
theorem dX3_get_17 : decode cX3_get 17 = .ok (.invokevirtual 39, 3) := by decide +kernel
theorem dX3_get_20 : decode cX3_get 20 = .ok (.astore_n 3, 1) := by decide +kernel
theorem dX3_get_21 : decode cX3_get 21 = .ok (.aload_n 3, 1) := by decide +kernel
theorem dX3_get_22 : decode cX3_get 22 = .ok (.ifnonnull 5, 3) := by decide +kernel
theorem dX3_get_25 : decode cX3_get 25 = .ok (.iconst 0, 1) := by decide +kernel
theorem dX3_get_26 : decode cX3_get 26 = .ok (.ireturn, 1) := by decide +kernel
theorem dX3_get_27 : decode cX3_get 27 = .ok (.aload_n 0, 1) := by decide +kernel
theorem dX3_get_28 : decode cX3_get 28 = .ok (.getfield 12, 3) := by decide +kernel
theorem dX3_get_31 : decode cX3_get 31 = .ok (.invokevirtual 55, 3) := by decide +kernel
theorem dX3_get_34 : decode cX3_get 34 = .ok (.aload_n 0, 1) := by decide +kernel
theorem dX3_get_35 : decode cX3_get 35 = .ok (.aload_n 3, 1) := by decide +kernel
theorem dX3_get_36 : decode cX3_get 36 = .ok (.aload_n 2, 1) := by decide +kernel
theorem dX3_get_37 : decode cX3_get 37 = .ok (.aload_n 2, 1) := by decide +kernel
theorem dX3_get_38 : decode cX3_get 38 = .ok (.iload_n 1, 1) := by decide +kernel
theorem dX3_get_39 : decode cX3_get 39 = .ok (.invokestatic 94, 3) := by decide +kernel
theorem dX3_get_42 : decode cX3_get 42 = .ok (.invokevirtual 97, 3) := by decide +kernel
theorem dX3_get_45 : decode cX3_get 45 = .ok (.invokevirtual 112, 3) := by decide +kernel
theorem dX3_get_48 : decode cX3_get 48 = .ok (.iconst 1, 1) := by decide +kernel
theorem dX3_get_49 : decode cX3_get 49 = .ok (.ireturn, 1) := by decide +kernel
set_option maxRecDepth 20000 in
theorem ggX3_end_X3_pageWithVersion : GoodIn wsX3_end wsX3_pageWithVersion := goodIn_r _ [5, 6, 7, 4, 8, 9, 10, 11, 12, 13, 14, 15, 16, 17, 18, 19, 20, 21, 22, 23, 24, 25, 26, 27, 28, 29, 30, 31, 32, 33, 34, 35, 48, 49, 50, 51, 52, 53, 54, 55, 56] (by decide +kernel) (by decide +kernel)
set_option maxRecDepth 20000 in
theorem gX3_end_X3_pageWithVersion : GoodIn wsX3_end (wsV RX3 91 RX3 yX3_pageWithVersion wsX3_pageWithVersion) := goodIn_app (goodIn_of _ (by decide +kernel)) ggX3_end_X3_pageWithVersion
set_option maxRecDepth 20000 in
theorem ggX3_end_X3_isShort : GoodIn wsX3_end wsX3_isShort := goodIn_r _ [38, 39] (by decide +kernel) (by decide +kernel)
set_option maxRecDepth 20000 in
theorem gX3_end_X3_isShort : GoodIn wsX3_end (va_wsS RX3 76 yX3_isShort wsX3_isShort) := goodIn_app (goodIn_of _ (by decide +kernel)) ggX3_end_X3_isShort
set_option maxRecDepth 20000 in
theorem ggX3_end_X3_slotOf : GoodIn wsX3_end wsX3_slotOf := goodIn_r _ [20] (by decide +kernel) (by decide +kernel)
set_option maxRecDepth 20000 in
theorem gX3_end_X3_slotOf : GoodIn wsX3_end (va_wsS RX3 94 yX3_slotOf wsX3_slotOf) := goodIn_app (goodIn_of _ (by decide +kernel)) ggX3_end_X3_slotOf
set_option maxRecDepth 20000 in
theorem ggX3_end_X0_startOf : GoodIn wsX3_end wsX0_startOf := goodIn_r _ [43, 31, 32, 33, 24, 34, 35, 51, 52, 53, 54, 55, 56] (by decide +kernel) (by decide +kernel)
set_option maxRecDepth 20000 in
theorem gX3_end_X0_startOf : GoodIn wsX3_end (wsV RX3 97 RX0 yX0_startOf wsX0_startOf) := goodIn_app (goodIn_of _ (by decide +kernel)) ggX3_end_X0_startOf
set_option maxRecDepth 20000 in
theorem ggX3_end_X0_write : GoodIn wsX3_end wsX0_write := goodIn_r _ [47, 35, 51, 52, 53, 54, 55, 56] (by decide +kernel) (by decide +kernel)
set_option maxRecDepth 20000 in
theorem gX3_end_X0_write : GoodIn wsX3_end (wsV RX3 100 RX0 yX0_write wsX0_write) := goodIn_app (goodIn_of _ (by decide +kernel)) ggX3_end_X0_write
theorem dX3_end_0 : decode cX3_end 0 = .ok (.aload_n 0, 1) := by decide +kernel
theorem dX3_end_1 : decode cX3_end 1 = .ok (.iload_n 1, 1) := by decide +kernel
theorem dX3_end_2 : decode cX3_end 2 = .ok (.invokevirtual 91, 3) := by decide +kernel
theorem dX3_end_5 : decode cX3_end 5 = .ok (.astore 4, 2) := by decide +kernel
theorem dX3_end_7 : decode cX3_end 7 = .ok (.aload 4, 2) := by decide +kernel
theorem dX3_end_9 : decode cX3_end 9 = .ok (.ifnull 17, 3) := by decide +kernel
theorem dX3_end_12 : decode cX3_end 12 = .ok (.iload_n 2, 1) := by decide +kernel
theorem dX3_end_13 : decode cX3_end 13 = .ok (.invokestatic 76, 3) := by decide +kernel
theorem dX3_end_16 : decode cX3_end 16 = .ok (.ifCond .eq 10, 3) := by decide +kernel
theorem dX3_end_19 : decode cX3_end 19 = .ok (.iload_n 3, 1) := by decide +kernel
theorem dX3_end_20 : decode cX3_end 20 = .ok (.invokestatic 76, 3) := by decide +kernel
theorem dX3_end_23 : decode cX3_end 23 = .ok (.ifCond .ne 5, 3) := by decide +kernel
theorem dX3_end_26 : decode cX3_end 26 = .ok (.iconst 0, 1) := by decide +kernel
theorem dX3_end_27 : decode cX3_end 27 = .ok (.ireturn, 1) := by decide +kernel
theorem dX3_end_28 : decode cX3_end 28 = .ok (.aload 4, 2) := by decide +kernel
theorem dX3_end_30 : decode cX3_end 30 = .ok (.iload_n 1, 1) := by decide +kernel
theorem dX3_end_31 : decode cX3_end 31 = .ok (.invokestatic 94, 3) := by decide +kernel
theorem dX3_end_34 : decode cX3_end 34 = .ok (.invokevirtual 97, 3) := by decide +kernel
theorem dX3_end_37 : decode cX3_end 37 = .ok (.istore 5, 2) := by decide +kernel
theorem dX3_end_39 : decode cX3_end 39 = .ok (.aload 4, 2) := by decide +kernel
theorem dX3_end_41 : decode cX3_end 41 = .ok (.iload 5, 2) := by decide +kernel
theorem dX3_end_43 : decode cX3_end 43 = .ok (.bipush 8, 2) := by decide +kernel
theorem dX3_end_45 : decode cX3_end 45 = .ok (.iadd, 1) := by decide +kernel
theorem dX3_end_46 : decode cX3_end 46 = .ok (.iconst 2, 1) := by decide +kernel
theorem dX3_end_47 : decode cX3_end 47 = .ok (.iload_n 2, 1) := by decide +kernel
theorem dX3_end_48 : decode cX3_end 48 = .ok (.i2l, 1) := by decide +kernel
theorem dX3_end_49 : decode cX3_end 49 = .ok (.invokevirtual 100, 3) := by decide +kernel
theorem dX3_end_52 : decode cX3_end 52 = .ok (.aload 4, 2) := by decide +kernel
theorem dX3_end_54 : decode cX3_end 54 = .ok (.iload 5, 2) := by decide +kernel
theorem dX3_end_56 : decode cX3_end 56 = .ok (.bipush 10, 2) := by decide +kernel
theorem dX3_end_58 : decode cX3_end 58 = .ok (.iadd, 1) := by decide +kernel
theorem dX3_end_59 : decode cX3_end 59 = .ok (.iconst 2, 1) := by decide +kernel
theorem dX3_end_60 : decode cX3_end 60 = .ok (.iload_n 3, 1) := by decide +kernel
theorem dX3_end_61 : decode cX3_end 61 = .ok (.i2l, 1) := by decide +kernel
theorem dX3_end_62 : decode cX3_end 62 = .ok (.invokevirtual 100, 3) := by decide +kernel
theorem dX3_end_65 : decode cX3_end 65 = .ok (.iconst 1, 1) := by decide +kernel
theorem dX3_end_66 : decode cX3_end 66 = .ok (.ireturn, 1) := by decide +kernel
set_option maxRecDepth 20000 in
theorem ggX3_behind_X3_pageWithVersion : GoodIn wsX3_behind wsX3_pageWithVersion := goodIn_r _ [5, 6, 7, 4, 8, 9, 10, 11, 12, 13, 14, 15, 16, 17, 18, 19, 20, 21, 22, 23, 24, 25, 26, 27, 28, 29, 30, 31, 32, 33, 34, 35, 47, 48, 49, 50, 51, 52, 53, 54, 55] (by decide +kernel) (by decide +kernel)
set_option maxRecDepth 20000 in
theorem gX3_behind_X3_pageWithVersion : GoodIn wsX3_behind (wsV RX3 91 RX3 yX3_pageWithVersion wsX3_pageWithVersion) := goodIn_app (goodIn_of _ (by decide +kernel)) ggX3_behind_X3_pageWithVersion
set_option maxRecDepth 20000 in
theorem ggX3_behind_X3_isPlace : GoodIn wsX3_behind wsX3_isPlace := goodIn_r _ [8] (by decide +kernel) (by decide +kernel)
set_option maxRecDepth 20000 in
theorem gX3_behind_X3_isPlace : GoodIn wsX3_behind (va_wsS RX3 115 yX3_isPlace wsX3_isPlace) := goodIn_app (goodIn_of _ (by decide +kernel)) ggX3_behind_X3_isPlace
set_option maxRecDepth 20000 in
theorem ggX3_behind_X3_slotOf : GoodIn wsX3_behind wsX3_slotOf := goodIn_r _ [20] (by decide +kernel) (by decide +kernel)
set_option maxRecDepth 20000 in
theorem gX3_behind_X3_slotOf : GoodIn wsX3_behind (va_wsS RX3 94 yX3_slotOf wsX3_slotOf) := goodIn_app (goodIn_of _ (by decide +kernel)) ggX3_behind_X3_slotOf
set_option maxRecDepth 20000 in
theorem ggX3_behind_X0_startOf : GoodIn wsX3_behind wsX0_startOf := goodIn_r _ [39, 31, 32, 33, 24, 34, 35, 50, 51, 52, 53, 54, 55] (by decide +kernel) (by decide +kernel)
set_option maxRecDepth 20000 in
theorem gX3_behind_X0_startOf : GoodIn wsX3_behind (wsV RX3 97 RX0 yX0_startOf wsX0_startOf) := goodIn_app (goodIn_of _ (by decide +kernel)) ggX3_behind_X0_startOf
set_option maxRecDepth 20000 in
theorem ggX3_behind_X3_writeBehind : GoodIn wsX3_behind wsX3_writeBehind := goodIn_r _ [42, 43, 44, 45, 24, 46, 35, 50, 51, 52, 53, 54, 55] (by decide +kernel) (by decide +kernel)
set_option maxRecDepth 20000 in
theorem gX3_behind_X3_writeBehind : GoodIn wsX3_behind (va_wsS RX3 104 yX3_writeBehind wsX3_writeBehind) := goodIn_app (goodIn_of _ (by decide +kernel)) ggX3_behind_X3_writeBehind
theorem dX3_behind_0 : decode cX3_behind 0 = .ok (.aload_n 0, 1) := by decide +kernel
theorem dX3_behind_1 : decode cX3_behind 1 = .ok (.iload_n 1, 1) := by decide +kernel
theorem dX3_behind_2 : decode cX3_behind 2 = .ok (.invokevirtual 91, 3) := by decide +kernel
theorem dX3_behind_5 : decode cX3_behind 5 = .ok (.astore_n 3, 1) := by decide +kernel
theorem dX3_behind_6 : decode cX3_behind 6 = .ok (.aload_n 3, 1) := by decide +kernel
theorem dX3_behind_7 : decode cX3_behind 7 = .ok (.ifnull 15, 3) := by decide +kernel
theorem dX3_behind_10 : decode cX3_behind 10 = .ok (.iload_n 2, 1) := by decide +kernel
theorem dX3_behind_11 : decode cX3_behind 11 = .ok (.iconst (-1), 1) := by decide +kernel
theorem dX3_behind_12 : decode cX3_behind 12 = .ok (.if_icmp .eq 12, 3) := by decide +kernel
theorem dX3_behind_15 : decode cX3_behind 15 = .ok (.iload_n 2, 1) := by decide +kernel
theorem dX3_behind_16 : decode cX3_behind 16 = .ok (.invokestatic 115, 3) := by decide +kernel
theorem dX3_behind_19 : decode cX3_behind 19 = .ok (.ifCond .ne 5, 3) := by decide +kernel
theorem dX3_behind_22 : decode cX3_behind 22 = .ok (.iconst 0, 1) := by decide +kernel
theorem dX3_behind_23 : decode cX3_behind 23 = .ok (.ireturn, 1) := by decide +kernel
theorem dX3_behind_24 : decode cX3_behind 24 = .ok (.aload_n 3, 1) := by decide +kernel
theorem dX3_behind_25 : decode cX3_behind 25 = .ok (.aload_n 3, 1) := by decide +kernel
theorem dX3_behind_26 : decode cX3_behind 26 = .ok (.iload_n 1, 1) := by decide +kernel
theorem dX3_behind_27 : decode cX3_behind 27 = .ok (.invokestatic 94, 3) := by decide +kernel
theorem dX3_behind_30 : decode cX3_behind 30 = .ok (.invokevirtual 97, 3) := by decide +kernel
theorem dX3_behind_33 : decode cX3_behind 33 = .ok (.iload_n 2, 1) := by decide +kernel
theorem dX3_behind_34 : decode cX3_behind 34 = .ok (.invokestatic 104, 3) := by decide +kernel
theorem dX3_behind_37 : decode cX3_behind 37 = .ok (.iconst 1, 1) := by decide +kernel
theorem dX3_behind_38 : decode cX3_behind 38 = .ok (.ireturn, 1) := by decide +kernel
set_option maxRecDepth 20000 in
theorem ggX3_take_X3_pageWithVersion : GoodIn wsX3_take wsX3_pageWithVersion := goodIn_r _ [6, 7, 8, 5, 9, 10, 11, 12, 13, 14, 15, 16, 17, 18, 19, 20, 21, 22, 23, 24, 25, 26, 27, 28, 29, 30, 31, 32, 33, 34, 35, 36, 87, 88, 89, 81, 82, 83, 84, 85, 86] (by decide +kernel) (by decide +kernel)
set_option maxRecDepth 20000 in
theorem gX3_take_X3_pageWithVersion : GoodIn wsX3_take (wsV RX3 91 RX3 yX3_pageWithVersion wsX3_pageWithVersion) := goodIn_app (goodIn_of _ (by decide +kernel)) ggX3_take_X3_pageWithVersion
set_option maxRecDepth 20000 in
theorem ggX3_take_X3_slotOf : GoodIn wsX3_take wsX3_slotOf := goodIn_r _ [21] (by decide +kernel) (by decide +kernel)
set_option maxRecDepth 20000 in
theorem gX3_take_X3_slotOf : GoodIn wsX3_take (va_wsS RX3 94 yX3_slotOf wsX3_slotOf) := goodIn_app (goodIn_of _ (by decide +kernel)) ggX3_take_X3_slotOf
set_option maxRecDepth 20000 in
theorem ggX3_take_X0_remove : GoodIn wsX3_take wsX0_remove := goodIn_r _ [40, 41, 42, 43, 44, 25, 45, 32, 33, 34, 35, 36, 28, 29, 30, 31, 46, 47, 48, 49, 50, 51, 52, 53, 54, 27, 55, 23, 24, 26, 56, 57, 58, 59, 60, 61, 62, 63, 81, 82, 83, 84, 85, 86] (by decide +kernel) (by decide +kernel)
set_option maxRecDepth 20000 in
theorem gX3_take_X0_remove : GoodIn wsX3_take (wsV RX3 118 RX0 yX0_remove wsX0_remove) := goodIn_app (goodIn_of _ (by decide +kernel)) ggX3_take_X0_remove
set_option maxRecDepth 20000 in
theorem ggX3_take_X3_pageOf : GoodIn wsX3_take wsX3_pageOf := goodIn_r _ [12] (by decide +kernel) (by decide +kernel)
set_option maxRecDepth 20000 in
theorem gX3_take_X3_pageOf : GoodIn wsX3_take (va_wsS RX3 124 yX3_pageOf wsX3_pageOf) := goodIn_app (goodIn_of _ (by decide +kernel)) ggX3_take_X3_pageOf
set_option maxRecDepth 20000 in
theorem ggX3_take_X3_leaveChain : GoodIn wsX3_take wsX3_leaveChain := goodIn_r _ [67, 18, 68, 69, 70, 71, 72, 5, 73, 74, 13, 14, 15, 16, 17, 75, 76, 77, 25, 78, 79, 80, 27, 41, 50, 81, 82, 83, 84, 85, 86, 90, 91, 92, 87, 88, 89] (by decide +kernel) (by decide +kernel)
set_option maxRecDepth 20000 in
theorem gX3_take_X3_leaveChain : GoodIn wsX3_take (wsV RX3 127 RX3 yX3_leaveChain wsX3_leaveChain) := goodIn_app (goodIn_of _ (by decide +kernel)) ggX3_take_X3_leaveChain
theorem dX3_take_0 : decode cX3_take 0 = .ok (.aload_n 0, 1) := by decide +kernel
theorem dX3_take_1 : decode cX3_take 1 = .ok (.iload_n 1, 1) := by decide +kernel
theorem dX3_take_2 : decode cX3_take 2 = .ok (.invokevirtual 91, 3) := by decide +kernel
theorem dX3_take_5 : decode cX3_take 5 = .ok (.astore_n 2, 1) := by decide +kernel
theorem dX3_take_6 : decode cX3_take 6 = .ok (.aload_n 2, 1) := by decide +kernel
theorem dX3_take_7 : decode cX3_take 7 = .ok (.ifnonnull 5, 3) := by decide +kernel
theorem dX3_take_10 : decode cX3_take 10 = .ok (.iconst 0, 1) := by decide +kernel
theorem dX3_take_11 : decode cX3_take 11 = .ok (.ireturn, 1) := by decide +kernel
theorem dX3_take_12 : decode cX3_take 12 = .ok (.aload_n 2, 1) := by decide +kernel
theorem dX3_take_13 : decode cX3_take 13 = .ok (.iload_n 1, 1) := by decide +kernel
theorem dX3_take_14 : decode cX3_take 14 = .ok (.invokestatic 94, 3) := by decide +kernel
theorem dX3_take_17 : decode cX3_take 17 = .ok (.invokevirtual 118, 3) := by decide +kernel
theorem dX3_take_20 : decode cX3_take 20 = .ok (.aload_n 2, 1) := by decide +kernel
theorem dX3_take_21 : decode cX3_take 21 = .ok (.getfield 121, 3) := by decide +kernel
theorem dX3_take_24 : decode cX3_take 24 = .ok (.ifCond .ne 12, 3) := by decide +kernel
theorem dX3_take_27 : decode cX3_take 27 = .ok (.aload_n 0, 1) := by decide +kernel
theorem dX3_take_28 : decode cX3_take 28 = .ok (.iload_n 1, 1) := by decide +kernel
theorem dX3_take_29 : decode cX3_take 29 = .ok (.invokestatic 124, 3) := by decide +kernel
theorem dX3_take_32 : decode cX3_take 32 = .ok (.aload_n 2, 1) := by decide +kernel
theorem dX3_take_33 : decode cX3_take 33 = .ok (.invokevirtual 127, 3) := by decide +kernel
theorem dX3_take_36 : decode cX3_take 36 = .ok (.iconst 1, 1) := by decide +kernel
theorem dX3_take_37 : decode cX3_take 37 = .ok (.ireturn, 1) := by decide +kernel
set_option maxRecDepth 20000 in
theorem ggX3_look_X3_pageWithVersion : GoodIn wsX3_look wsX3_pageWithVersion := goodIn_r _ [6, 7, 8, 5, 9, 10, 11, 12, 13, 14, 15, 16, 17, 1, 18, 19, 20, 21, 22, 23, 24, 25, 26, 27, 28, 29, 30, 31, 32, 33, 34, 35, 51, 52, 53, 45, 46, 47, 48, 49, 50] (by decide +kernel) (by decide +kernel)
set_option maxRecDepth 20000 in
theorem gX3_look_X3_pageWithVersion : GoodIn wsX3_look (wsV RX3 91 RX3 yX3_pageWithVersion wsX3_pageWithVersion) := goodIn_app (goodIn_of _ (by decide +kernel)) ggX3_look_X3_pageWithVersion
set_option maxRecDepth 20000 in
theorem ggX3_look_X3_slotOf : GoodIn wsX3_look wsX3_slotOf := goodIn_r _ [20] (by decide +kernel) (by decide +kernel)
set_option maxRecDepth 20000 in
theorem gX3_look_X3_slotOf : GoodIn wsX3_look (va_wsS RX3 94 yX3_slotOf wsX3_slotOf) := goodIn_app (goodIn_of _ (by decide +kernel)) ggX3_look_X3_slotOf
set_option maxRecDepth 20000 in
theorem ggX3_look_X0_startOf : GoodIn wsX3_look wsX0_startOf := goodIn_r _ [39, 31, 32, 33, 24, 34, 35, 45, 46, 47, 48, 49, 50] (by decide +kernel) (by decide +kernel)
set_option maxRecDepth 20000 in
theorem gX3_look_X0_startOf : GoodIn wsX3_look (wsV RX3 97 RX0 yX0_startOf wsX0_startOf) := goodIn_app (goodIn_of _ (by decide +kernel)) ggX3_look_X0_startOf
set_option maxRecDepth 20000 in
theorem ggX3_look_X0_read : GoodIn wsX3_look wsX0_read := goodIn_r _ [34, 35, 45, 46, 47, 48, 49, 50] (by decide +kernel) (by decide +kernel)
set_option maxRecDepth 20000 in
theorem gX3_look_X0_read : GoodIn wsX3_look (wsV RX3 131 RX0 yX0_read wsX0_read) := goodIn_app (goodIn_of _ (by decide +kernel)) ggX3_look_X0_read
set_option maxRecDepth 20000 in
theorem ggX3_look_X3_readBehind : GoodIn wsX3_look wsX3_readBehind := goodIn_r _ [43, 40, 32, 33, 24, 34, 35, 45, 46, 47, 48, 49, 50] (by decide +kernel) (by decide +kernel)
set_option maxRecDepth 20000 in
theorem gX3_look_X3_readBehind : GoodIn wsX3_look (va_wsS RX3 135 yX3_readBehind wsX3_readBehind) := goodIn_app (goodIn_of _ (by decide +kernel)) ggX3_look_X3_readBehind
set_option maxRecDepth 20000 in
theorem ggX3_look_X0_sizeOf : GoodIn wsX3_look wsX0_sizeOf := goodIn_r _ [30, 31, 32, 33, 24, 34, 35, 45, 46, 47, 48, 49, 50] (by decide +kernel) (by decide +kernel)
set_option maxRecDepth 20000 in
theorem gX3_look_X0_sizeOf : GoodIn wsX3_look (wsV RX3 139 RX0 yX0_sizeOf wsX0_sizeOf) := goodIn_app (goodIn_of _ (by decide +kernel)) ggX3_look_X0_sizeOf
theorem dX3_look_0 : decode cX3_look 0 = .ok (.aload_n 0, 1) := by decide +kernel
theorem dX3_look_1 : decode cX3_look 1 = .ok (.iload_n 1, 1) := by decide +kernel
theorem dX3_look_2 : decode cX3_look 2 = .ok (.invokevirtual 91, 3) := by decide +kernel
theorem dX3_look_5 : decode cX3_look 5 = .ok (.astore_n 3, 1) := by decide +kernel
theorem dX3_look_6 : decode cX3_look 6 = .ok (.aload_n 3, 1) := by decide +kernel
theorem dX3_look_7 : decode cX3_look 7 = .ok (.ifnonnull 5, 3) := by decide +kernel
theorem dX3_look_10 : decode cX3_look 10 = .ok (.iconst (-1), 1) := by decide +kernel
theorem dX3_look_11 : decode cX3_look 11 = .ok (.ireturn, 1) := by decide +kernel
theorem dX3_look_12 : decode cX3_look 12 = .ok (.iload_n 1, 1) := by decide +kernel
theorem dX3_look_13 : decode cX3_look 13 = .ok (.invokestatic 94, 3) := by decide +kernel
theorem dX3_look_16 : decode cX3_look 16 = .ok (.istore 4, 2) := by decide +kernel
theorem dX3_look_18 : decode cX3_look 18 = .ok (.aload_n 3, 1) := by decide +kernel
theorem dX3_look_19 : decode cX3_look 19 = .ok (.iload 4, 2) := by decide +kernel
theorem dX3_look_21 : decode cX3_look 21 = .ok (.invokevirtual 97, 3) := by decide +kernel
theorem dX3_look_24 : decode cX3_look 24 = .ok (.istore 5, 2) := by decide +kernel
theorem dX3_look_26 : decode cX3_look 26 = .ok (.iload_n 2, 1) := by decide +kernel
theorem dX3_look_27 : decode cX3_look 27 = .ok (.tableswitch 122 0 7 #[45, 56, 67, 79, 91, 103, 110, 117], 45) := by decide +kernel
theorem dX3_look_72 : decode cX3_look 72 = .ok (.aload_n 3, 1) := by decide +kernel
theorem dX3_look_73 : decode cX3_look 73 = .ok (.iload 5, 2) := by decide +kernel
theorem dX3_look_75 : decode cX3_look 75 = .ok (.iconst 0, 1) := by decide +kernel
theorem dX3_look_76 : decode cX3_look 76 = .ok (.iadd, 1) := by decide +kernel
theorem dX3_look_77 : decode cX3_look 77 = .ok (.iconst 4, 1) := by decide +kernel
theorem dX3_look_78 : decode cX3_look 78 = .ok (.invokevirtual 131, 3) := by decide +kernel
theorem dX3_look_81 : decode cX3_look 81 = .ok (.l2i, 1) := by decide +kernel
theorem dX3_look_82 : decode cX3_look 82 = .ok (.ireturn, 1) := by decide +kernel
theorem dX3_look_83 : decode cX3_look 83 = .ok (.aload_n 3, 1) := by decide +kernel
theorem dX3_look_84 : decode cX3_look 84 = .ok (.iload 5, 2) := by decide +kernel
theorem dX3_look_86 : decode cX3_look 86 = .ok (.iconst 4, 1) := by decide +kernel
theorem dX3_look_87 : decode cX3_look 87 = .ok (.iadd, 1) := by decide +kernel
theorem dX3_look_88 : decode cX3_look 88 = .ok (.iconst 2, 1) := by decide +kernel
theorem dX3_look_89 : decode cX3_look 89 = .ok (.invokevirtual 131, 3) := by decide +kernel
theorem dX3_look_92 : decode cX3_look 92 = .ok (.l2i, 1) := by decide +kernel
theorem dX3_look_93 : decode cX3_look 93 = .ok (.ireturn, 1) := by decide +kernel
theorem dX3_look_94 : decode cX3_look 94 = .ok (.aload_n 3, 1) := by decide +kernel
theorem dX3_look_95 : decode cX3_look 95 = .ok (.iload 5, 2) := by decide +kernel
theorem dX3_look_97 : decode cX3_look 97 = .ok (.bipush 6, 2) := by decide +kernel
theorem dX3_look_99 : decode cX3_look 99 = .ok (.iadd, 1) := by decide +kernel
theorem dX3_look_100 : decode cX3_look 100 = .ok (.iconst 2, 1) := by decide +kernel
theorem dX3_look_101 : decode cX3_look 101 = .ok (.invokevirtual 131, 3) := by decide +kernel
theorem dX3_look_104 : decode cX3_look 104 = .ok (.l2i, 1) := by decide +kernel
theorem dX3_look_105 : decode cX3_look 105 = .ok (.ireturn, 1) := by decide +kernel
theorem dX3_look_106 : decode cX3_look 106 = .ok (.aload_n 3, 1) := by decide +kernel
theorem dX3_look_107 : decode cX3_look 107 = .ok (.iload 5, 2) := by decide +kernel
theorem dX3_look_109 : decode cX3_look 109 = .ok (.bipush 8, 2) := by decide +kernel
theorem dX3_look_111 : decode cX3_look 111 = .ok (.iadd, 1) := by decide +kernel
theorem dX3_look_112 : decode cX3_look 112 = .ok (.iconst 2, 1) := by decide +kernel
theorem dX3_look_113 : decode cX3_look 113 = .ok (.invokevirtual 131, 3) := by decide +kernel
theorem dX3_look_116 : decode cX3_look 116 = .ok (.l2i, 1) := by decide +kernel
theorem dX3_look_117 : decode cX3_look 117 = .ok (.ireturn, 1) := by decide +kernel
theorem dX3_look_118 : decode cX3_look 118 = .ok (.aload_n 3, 1) := by decide +kernel
theorem dX3_look_119 : decode cX3_look 119 = .ok (.iload 5, 2) := by decide +kernel
theorem dX3_look_121 : decode cX3_look 121 = .ok (.bipush 10, 2) := by decide +kernel
theorem dX3_look_123 : decode cX3_look 123 = .ok (.iadd, 1) := by decide +kernel
theorem dX3_look_124 : decode cX3_look 124 = .ok (.iconst 2, 1) := by decide +kernel
theorem dX3_look_125 : decode cX3_look 125 = .ok (.invokevirtual 131, 3) := by decide +kernel
theorem dX3_look_128 : decode cX3_look 128 = .ok (.l2i, 1) := by decide +kernel
theorem dX3_look_129 : decode cX3_look 129 = .ok (.ireturn, 1) := by decide +kernel
theorem dX3_look_130 : decode cX3_look 130 = .ok (.aload_n 3, 1) := by decide +kernel
theorem dX3_look_131 : decode cX3_look 131 = .ok (.iload 5, 2) := by decide +kernel
theorem dX3_look_133 : decode cX3_look 133 = .ok (.invokestatic 135, 3) := by decide +kernel
theorem dX3_look_136 : decode cX3_look 136 = .ok (.ireturn, 1) := by decide +kernel
theorem dX3_look_137 : decode cX3_look 137 = .ok (.aload_n 3, 1) := by decide +kernel
theorem dX3_look_138 : decode cX3_look 138 = .ok (.iload 4, 2) := by decide +kernel
theorem dX3_look_140 : decode cX3_look 140 = .ok (.invokevirtual 139, 3) := by decide +kernel
theorem dX3_look_143 : decode cX3_look 143 = .ok (.ireturn, 1) := by decide +kernel
theorem dX3_look_144 : decode cX3_look 144 = .ok (.aload_n 3, 1) := by decide +kernel
theorem dX3_look_145 : decode cX3_look 145 = .ok (.getfield 47, 3) := by decide +kernel
theorem dX3_look_148 : decode cX3_look 148 = .ok (.ireturn, 1) := by decide +kernel
theorem dX3_look_149 : decode cX3_look 149 = .ok (.iconst (-1), 1) := by decide +kernel
theorem dX3_look_150 : decode cX3_look 150 = .ok (.ireturn, 1) := by decide +kernel
set_option maxRecDepth 20000 in
theorem ggX3_next_X3_tableAt : GoodIn wsX3_next wsX3_tableAt := goodIn_r _ [7, 8, 56, 57, 58] (by decide +kernel) (by decide +kernel)
set_option maxRecDepth 20000 in
theorem gX3_next_X3_tableAt : GoodIn wsX3_next (wsV RX3 39 RX3 yX3_tableAt wsX3_tableAt) := goodIn_app (goodIn_of _ (by decide +kernel)) ggX3_next_X3_tableAt
set_option maxRecDepth 20000 in
theorem ggX3_next_X3_firstVersionFrom : GoodIn wsX3_next wsX3_firstVersionFrom := goodIn_r _ [12, 13, 14, 15, 16, 6, 17, 18, 2, 19, 20, 21, 22, 23, 24, 25, 26, 27, 28, 29, 30, 31, 32, 33, 34, 35, 36, 37, 50, 51, 52, 53, 54, 55, 56, 57, 58] (by decide +kernel) (by decide +kernel)
set_option maxRecDepth 20000 in
theorem gX3_next_X3_firstVersionFrom : GoodIn wsX3_next (wsV RX3 145 RX3 yX3_firstVersionFrom wsX3_firstVersionFrom) := goodIn_app (goodIn_of _ (by decide +kernel)) ggX3_next_X3_firstVersionFrom
set_option maxRecDepth 20000 in
theorem ggX3_next_X3_isPlace : GoodIn wsX3_next wsX3_isPlace := goodIn_r _ [40] (by decide +kernel) (by decide +kernel)
set_option maxRecDepth 20000 in
theorem gX3_next_X3_isPlace : GoodIn wsX3_next (va_wsS RX3 115 yX3_isPlace wsX3_isPlace) := goodIn_app (goodIn_of _ (by decide +kernel)) ggX3_next_X3_isPlace
set_option maxRecDepth 20000 in
theorem ggX3_next_X3_pageOf : GoodIn wsX3_next wsX3_pageOf := goodIn_r _ [43] (by decide +kernel) (by decide +kernel)
set_option maxRecDepth 20000 in
theorem gX3_next_X3_pageOf : GoodIn wsX3_next (va_wsS RX3 124 yX3_pageOf wsX3_pageOf) := goodIn_app (goodIn_of _ (by decide +kernel)) ggX3_next_X3_pageOf
set_option maxRecDepth 20000 in
theorem ggX3_next_X3_usedPage : GoodIn wsX3_next wsX3_usedPage := goodIn_r _ [17, 18, 2, 56, 57, 58, 50, 51, 52, 53, 54, 55] (by decide +kernel) (by decide +kernel)
set_option maxRecDepth 20000 in
theorem gX3_next_X3_usedPage : GoodIn wsX3_next (wsV RX3 43 RX3 yX3_usedPage wsX3_usedPage) := goodIn_app (goodIn_of _ (by decide +kernel)) ggX3_next_X3_usedPage
set_option maxRecDepth 20000 in
theorem ggX3_next_X3_slotOf : GoodIn wsX3_next wsX3_slotOf := goodIn_r _ [46] (by decide +kernel) (by decide +kernel)
set_option maxRecDepth 20000 in
theorem gX3_next_X3_slotOf : GoodIn wsX3_next (va_wsS RX3 94 yX3_slotOf wsX3_slotOf) := goodIn_app (goodIn_of _ (by decide +kernel)) ggX3_next_X3_slotOf
theorem dX3_next_0 : decode cX3_next 0 = .ok (.aload_n 0, 1) := by decide +kernel
theorem dX3_next_1 : decode cX3_next 1 = .ok (.iload_n 1, 1) := by decide +kernel
theorem dX3_next_2 : decode cX3_next 2 = .ok (.invokevirtual 39, 3) := by decide +kernel
theorem dX3_next_5 : decode cX3_next 5 = .ok (.astore_n 3, 1) := by decide +kernel
theorem dX3_next_6 : decode cX3_next 6 = .ok (.aload_n 3, 1) := by decide +kernel
theorem dX3_next_7 : decode cX3_next 7 = .ok (.ifnonnull 5, 3) := by decide +kernel
theorem dX3_next_10 : decode cX3_next 10 = .ok (.iconst (-1), 1) := by decide +kernel
theorem dX3_next_11 : decode cX3_next 11 = .ok (.ireturn, 1) := by decide +kernel
theorem dX3_next_12 : decode cX3_next 12 = .ok (.iload_n 2, 1) := by decide +kernel
theorem dX3_next_13 : decode cX3_next 13 = .ok (.iconst (-1), 1) := by decide +kernel
theorem dX3_next_14 : decode cX3_next 14 = .ok (.if_icmp .ne 13, 3) := by decide +kernel
theorem dX3_next_17 : decode cX3_next 17 = .ok (.aload_n 0, 1) := by decide +kernel
theorem dX3_next_18 : decode cX3_next 18 = .ok (.aload_n 3, 1) := by decide +kernel
theorem dX3_next_19 : decode cX3_next 19 = .ok (.getfield 142, 3) := by decide +kernel
theorem dX3_next_22 : decode cX3_next 22 = .ok (.iconst 0, 1) := by decide +kernel
theorem dX3_next_23 : decode cX3_next 23 = .ok (.invokevirtual 145, 3) := by decide +kernel
theorem dX3_next_26 : decode cX3_next 26 = .ok (.ireturn, 1) := by decide +kernel
theorem dX3_next_27 : decode cX3_next 27 = .ok (.iload_n 2, 1) := by decide +kernel
theorem dX3_next_28 : decode cX3_next 28 = .ok (.invokestatic 115, 3) := by decide +kernel
theorem dX3_next_31 : decode cX3_next 31 = .ok (.ifCond .ne 5, 3) := by decide +kernel
theorem dX3_next_34 : decode cX3_next 34 = .ok (.iconst (-1), 1) := by decide +kernel
theorem dX3_next_35 : decode cX3_next 35 = .ok (.ireturn, 1) := by decide +kernel
theorem dX3_next_36 : decode cX3_next 36 = .ok (.aload_n 0, 1) := by decide +kernel
theorem dX3_next_37 : decode cX3_next 37 = .ok (.iload_n 2, 1) := by decide +kernel
theorem dX3_next_38 : decode cX3_next 38 = .ok (.invokestatic 124, 3) := by decide +kernel
theorem dX3_next_41 : decode cX3_next 41 = .ok (.invokevirtual 43, 3) := by decide +kernel
theorem dX3_next_44 : decode cX3_next 44 = .ok (.astore 4, 2) := by decide +kernel
theorem dX3_next_46 : decode cX3_next 46 = .ok (.aload 4, 2) := by decide +kernel
theorem dX3_next_48 : decode cX3_next 48 = .ok (.ifnull 12, 3) := by decide +kernel
theorem dX3_next_51 : decode cX3_next 51 = .ok (.aload 4, 2) := by decide +kernel
theorem dX3_next_53 : decode cX3_next 53 = .ok (.getfield 47, 3) := by decide +kernel
theorem dX3_next_56 : decode cX3_next 56 = .ok (.iload_n 1, 1) := by decide +kernel
theorem dX3_next_57 : decode cX3_next 57 = .ok (.if_icmp .eq 5, 3) := by decide +kernel
theorem dX3_next_60 : decode cX3_next 60 = .ok (.iconst (-1), 1) := by decide +kernel
theorem dX3_next_61 : decode cX3_next 61 = .ok (.ireturn, 1) := by decide +kernel
theorem dX3_next_62 : decode cX3_next 62 = .ok (.aload_n 0, 1) := by decide +kernel
theorem dX3_next_63 : decode cX3_next 63 = .ok (.iload_n 2, 1) := by decide +kernel
theorem dX3_next_64 : decode cX3_next 64 = .ok (.invokestatic 124, 3) := by decide +kernel
theorem dX3_next_67 : decode cX3_next 67 = .ok (.iload_n 2, 1) := by decide +kernel
theorem dX3_next_68 : decode cX3_next 68 = .ok (.invokestatic 94, 3) := by decide +kernel
theorem dX3_next_71 : decode cX3_next 71 = .ok (.iconst 1, 1) := by decide +kernel
theorem dX3_next_72 : decode cX3_next 72 = .ok (.iadd, 1) := by decide +kernel
theorem dX3_next_73 : decode cX3_next 73 = .ok (.invokevirtual 145, 3) := by decide +kernel
theorem dX3_next_76 : decode cX3_next 76 = .ok (.ireturn, 1) := by decide +kernel
set_option maxRecDepth 20000 in
theorem ggX3_value_X1_kindAt : GoodIn wsX3_value wsX1_kindAt := goodIn_r _ [6, 7, 8, 9, 10, 25, 26, 27, 28] (by decide +kernel) (by decide +kernel)
set_option maxRecDepth 20000 in
theorem gX3_value_X1_kindAt : GoodIn wsX3_value (wsV RX3 149 RX1 yX1_kindAt wsX1_kindAt) := goodIn_app (goodIn_of _ (by decide +kernel)) ggX3_value_X1_kindAt
set_option maxRecDepth 20000 in
theorem ggX3_value_X1_numberAt : GoodIn wsX3_value wsX1_numberAt := goodIn_r _ [14, 15, 16, 3, 4, 5, 6, 7, 8, 9, 10, 25, 26, 27, 28] (by decide +kernel) (by decide +kernel)
set_option maxRecDepth 20000 in
theorem gX3_value_X1_numberAt : GoodIn wsX3_value (wsV RX3 152 RX1 yX1_numberAt wsX1_numberAt) := goodIn_app (goodIn_of _ (by decide +kernel)) ggX3_value_X1_numberAt
set_option maxRecDepth 20000 in
theorem ggX3_value_X1_lengthAt : GoodIn wsX3_value wsX1_lengthAt := goodIn_r _ [20, 21, 16, 3, 4, 5, 6, 7, 8, 9, 10, 25, 26, 27, 28] (by decide +kernel) (by decide +kernel)
set_option maxRecDepth 20000 in
theorem gX3_value_X1_lengthAt : GoodIn wsX3_value (wsV RX3 66 RX1 yX1_lengthAt wsX1_lengthAt) := goodIn_app (goodIn_of _ (by decide +kernel)) ggX3_value_X1_lengthAt
theorem dX3_value_0 : decode cX3_value 0 = .ok (.aload_n 0, 1) := by decide +kernel
theorem dX3_value_1 : decode cX3_value 1 = .ok (.getfield 12, 3) := by decide +kernel
theorem dX3_value_4 : decode cX3_value 4 = .ok (.iload_n 1, 1) := by decide +kernel
theorem dX3_value_5 : decode cX3_value 5 = .ok (.invokevirtual 149, 3) := by decide +kernel
theorem dX3_value_8 : decode cX3_value 8 = .ok (.lookupswitch 47 #[(1, 28), (2, 37)], 28) := by decide +kernel
theorem dX3_value_36 : decode cX3_value 36 = .ok (.aload_n 0, 1) := by decide +kernel
theorem dX3_value_37 : decode cX3_value 37 = .ok (.getfield 12, 3) := by decide +kernel
theorem dX3_value_40 : decode cX3_value 40 = .ok (.iload_n 1, 1) := by decide +kernel
theorem dX3_value_41 : decode cX3_value 41 = .ok (.invokevirtual 152, 3) := by decide +kernel
theorem dX3_value_44 : decode cX3_value 44 = .ok (.lreturn, 1) := by decide +kernel
theorem dX3_value_45 : decode cX3_value 45 = .ok (.aload_n 0, 1) := by decide +kernel
theorem dX3_value_46 : decode cX3_value 46 = .ok (.getfield 12, 3) := by decide +kernel
theorem dX3_value_49 : decode cX3_value 49 = .ok (.iload_n 1, 1) := by decide +kernel
theorem dX3_value_50 : decode cX3_value 50 = .ok (.invokevirtual 66, 3) := by decide +kernel
theorem dX3_value_53 : decode cX3_value 53 = .ok (.i2l, 1) := by decide +kernel
theorem dX3_value_54 : decode cX3_value 54 = .ok (.lreturn, 1) := by decide +kernel
theorem dX3_value_55 : decode cX3_value 55 = .ok (.lconst 0, 1) := by decide +kernel
theorem dX3_value_56 : decode cX3_value 56 = .ok (.lreturn, 1) := by decide +kernel
set_option maxRecDepth 20000 in
theorem ggX3_letter_X1_letterAt : GoodIn wsX3_letter wsX1_letterAt := goodIn_r _ [6, 7, 8, 9, 10, 11, 5, 12, 13, 14, 15, 16, 20, 21, 22, 23] (by decide +kernel) (by decide +kernel)
set_option maxRecDepth 20000 in
theorem gX3_letter_X1_letterAt : GoodIn wsX3_letter (wsV RX3 156 RX1 yX1_letterAt wsX1_letterAt) := goodIn_app (goodIn_of _ (by decide +kernel)) ggX3_letter_X1_letterAt
theorem dX3_letter_0 : decode cX3_letter 0 = .ok (.aload_n 0, 1) := by decide +kernel
theorem dX3_letter_1 : decode cX3_letter 1 = .ok (.getfield 12, 3) := by decide +kernel
theorem dX3_letter_4 : decode cX3_letter 4 = .ok (.iload_n 1, 1) := by decide +kernel
theorem dX3_letter_5 : decode cX3_letter 5 = .ok (.iload_n 2, 1) := by decide +kernel
theorem dX3_letter_6 : decode cX3_letter 6 = .ok (.invokevirtual 156, 3) := by decide +kernel
theorem dX3_letter_9 : decode cX3_letter 9 = .ok (.ireturn, 1) := by decide +kernel
set_option maxRecDepth 20000 in
theorem ggX3_kind_X1_kindAt : GoodIn wsX3_kind wsX1_kindAt := goodIn_r _ [6, 7, 8, 9, 10, 14, 15, 16, 17] (by decide +kernel) (by decide +kernel)
set_option maxRecDepth 20000 in
theorem gX3_kind_X1_kindAt : GoodIn wsX3_kind (wsV RX3 149 RX1 yX1_kindAt wsX1_kindAt) := goodIn_app (goodIn_of _ (by decide +kernel)) ggX3_kind_X1_kindAt
theorem dX3_kind_0 : decode cX3_kind 0 = .ok (.aload_n 0, 1) := by decide +kernel
theorem dX3_kind_1 : decode cX3_kind 1 = .ok (.getfield 12, 3) := by decide +kernel
theorem dX3_kind_4 : decode cX3_kind 4 = .ok (.iload_n 1, 1) := by decide +kernel
theorem dX3_kind_5 : decode cX3_kind 5 = .ok (.invokevirtual 149, 3) := by decide +kernel
theorem dX3_kind_8 : decode cX3_kind 8 = .ok (.ireturn, 1) := by decide +kernel
set_option maxRecDepth 20000 in
theorem ggX3_page_X3_usedPage : GoodIn wsX3_page wsX3_usedPage := goodIn_r _ [5, 6, 7, 24, 25, 26, 27, 28, 29, 30, 31, 32] (by decide +kernel) (by decide +kernel)
set_option maxRecDepth 20000 in
theorem gX3_page_X3_usedPage : GoodIn wsX3_page (wsV RX3 43 RX3 yX3_usedPage wsX3_usedPage) := goodIn_app (goodIn_of _ (by decide +kernel)) ggX3_page_X3_usedPage
set_option maxRecDepth 20000 in
theorem ggX3_page_X3_factOfFreePage : GoodIn wsX3_page wsX3_factOfFreePage := goodIn_r _ [10] (by decide +kernel) (by decide +kernel)
set_option maxRecDepth 20000 in
theorem gX3_page_X3_factOfFreePage : GoodIn wsX3_page (va_wsS RX3 159 yX3_factOfFreePage wsX3_factOfFreePage) := goodIn_app (goodIn_of _ (by decide +kernel)) ggX3_page_X3_factOfFreePage
set_option maxRecDepth 20000 in
theorem ggX3_page_X3_factOfPage : GoodIn wsX3_page wsX3_factOfPage := goodIn_r _ [13, 7, 14, 15, 16, 17, 18, 19, 20, 21, 22, 23, 27, 28, 29, 30, 31, 32] (by decide +kernel) (by decide +kernel)
set_option maxRecDepth 20000 in
theorem gX3_page_X3_factOfPage : GoodIn wsX3_page (va_wsS RX3 162 yX3_factOfPage wsX3_factOfPage) := goodIn_app (goodIn_of _ (by decide +kernel)) ggX3_page_X3_factOfPage
theorem dX3_page_0 : decode cX3_page 0 = .ok (.iload_n 1, 1) := by decide +kernel
theorem dX3_page_1 : decode cX3_page 1 = .ok (.ifCond .lt 9, 3) := by decide +kernel
theorem dX3_page_4 : decode cX3_page 4 = .ok (.iload_n 1, 1) := by decide +kernel
theorem dX3_page_5 : decode cX3_page 5 = .ok (.bipush 60, 2) := by decide +kernel
theorem dX3_page_7 : decode cX3_page 7 = .ok (.if_icmp .lt 5, 3) := by decide +kernel
theorem dX3_page_10 : decode cX3_page 10 = .ok (.iconst (-1), 1) := by decide +kernel
theorem dX3_page_11 : decode cX3_page 11 = .ok (.ireturn, 1) := by decide +kernel
theorem dX3_page_12 : decode cX3_page 12 = .ok (.aload_n 0, 1) := by decide +kernel
theorem dX3_page_13 : decode cX3_page 13 = .ok (.iload_n 1, 1) := by decide +kernel
theorem dX3_page_14 : decode cX3_page 14 = .ok (.invokevirtual 43, 3) := by decide +kernel
theorem dX3_page_17 : decode cX3_page 17 = .ok (.astore_n 3, 1) := by decide +kernel
theorem dX3_page_18 : decode cX3_page 18 = .ok (.aload_n 3, 1) := by decide +kernel
theorem dX3_page_19 : decode cX3_page 19 = .ok (.ifnonnull 10, 3) := by decide +kernel
theorem dX3_page_22 : decode cX3_page 22 = .ok (.iload_n 2, 1) := by decide +kernel
theorem dX3_page_23 : decode cX3_page 23 = .ok (.invokestatic 159, 3) := by decide +kernel
theorem dX3_page_26 : decode cX3_page 26 = .ok (.goto 8, 3) := by decide +kernel
theorem dX3_page_29 : decode cX3_page 29 = .ok (.aload_n 3, 1) := by decide +kernel
theorem dX3_page_30 : decode cX3_page 30 = .ok (.iload_n 2, 1) := by decide +kernel
theorem dX3_page_31 : decode cX3_page 31 = .ok (.invokestatic 162, 3) := by decide +kernel
theorem dX3_page_34 : decode cX3_page 34 = .ok (.ireturn, 1) := by decide +kernel
set_option maxRecDepth 20000 in
theorem ggX3_factOfPage_X0_freeBytes : GoodIn wsX3_factOfPage wsX0_freeBytes := goodIn_r _ [9, 10, 11, 12, 13, 14, 15, 16, 17] (by decide +kernel) (by decide +kernel)
set_option maxRecDepth 20000 in
theorem gX3_factOfPage_X0_freeBytes : GoodIn wsX3_factOfPage (wsV RX3 168 RX0 yX0_freeBytes wsX0_freeBytes) := goodIn_app (goodIn_of _ (by decide +kernel)) ggX3_factOfPage_X0_freeBytes
theorem dX3_factOfPage_0 : decode cX3_factOfPage 0 = .ok (.iload_n 1, 1) := by decide +kernel
theorem dX3_factOfPage_1 : decode cX3_factOfPage 1 = .ok (.tableswitch 60 0 4 #[35, 40, 45, 50, 55], 35) := by decide +kernel
theorem dX3_factOfPage_36 : decode cX3_factOfPage 36 = .ok (.aload_n 0, 1) := by decide +kernel
theorem dX3_factOfPage_37 : decode cX3_factOfPage 37 = .ok (.getfield 47, 3) := by decide +kernel
theorem dX3_factOfPage_40 : decode cX3_factOfPage 40 = .ok (.ireturn, 1) := by decide +kernel
theorem dX3_factOfPage_41 : decode cX3_factOfPage 41 = .ok (.aload_n 0, 1) := by decide +kernel
theorem dX3_factOfPage_42 : decode cX3_factOfPage 42 = .ok (.getfield 165, 3) := by decide +kernel
theorem dX3_factOfPage_45 : decode cX3_factOfPage 45 = .ok (.ireturn, 1) := by decide +kernel
theorem dX3_factOfPage_46 : decode cX3_factOfPage 46 = .ok (.aload_n 0, 1) := by decide +kernel
theorem dX3_factOfPage_47 : decode cX3_factOfPage 47 = .ok (.getfield 121, 3) := by decide +kernel
theorem dX3_factOfPage_50 : decode cX3_factOfPage 50 = .ok (.ireturn, 1) := by decide +kernel
theorem dX3_factOfPage_51 : decode cX3_factOfPage 51 = .ok (.aload_n 0, 1) := by decide +kernel
theorem dX3_factOfPage_52 : decode cX3_factOfPage 52 = .ok (.invokevirtual 168, 3) := by decide +kernel
theorem dX3_factOfPage_55 : decode cX3_factOfPage 55 = .ok (.ireturn, 1) := by decide +kernel
theorem dX3_factOfPage_56 : decode cX3_factOfPage 56 = .ok (.aload_n 0, 1) := by decide +kernel
theorem dX3_factOfPage_57 : decode cX3_factOfPage 57 = .ok (.getfield 172, 3) := by decide +kernel
theorem dX3_factOfPage_60 : decode cX3_factOfPage 60 = .ok (.ireturn, 1) := by decide +kernel
theorem dX3_factOfPage_61 : decode cX3_factOfPage 61 = .ok (.iconst (-1), 1) := by decide +kernel
theorem dX3_factOfPage_62 : decode cX3_factOfPage 62 = .ok (.ireturn, 1) := by decide +kernel
theorem dX3_factOfFreePage_0 : decode cX3_factOfFreePage 0 = .ok (.iload_n 0, 1) := by decide +kernel
theorem dX3_factOfFreePage_1 : decode cX3_factOfFreePage 1 = .ok (.tableswitch 35 1 3 #[27, 29, 31], 27) := by decide +kernel
theorem dX3_factOfFreePage_28 : decode cX3_factOfFreePage 28 = .ok (.iconst 0, 1) := by decide +kernel
theorem dX3_factOfFreePage_29 : decode cX3_factOfFreePage 29 = .ok (.ireturn, 1) := by decide +kernel
theorem dX3_factOfFreePage_30 : decode cX3_factOfFreePage 30 = .ok (.iconst 0, 1) := by decide +kernel
theorem dX3_factOfFreePage_31 : decode cX3_factOfFreePage 31 = .ok (.ireturn, 1) := by decide +kernel
theorem dX3_factOfFreePage_32 : decode cX3_factOfFreePage 32 = .ok (.sipush 496, 3) := by decide +kernel
theorem dX3_factOfFreePage_35 : decode cX3_factOfFreePage 35 = .ok (.ireturn, 1) := by decide +kernel
theorem dX3_factOfFreePage_36 : decode cX3_factOfFreePage 36 = .ok (.iconst (-1), 1) := by decide +kernel
theorem dX3_factOfFreePage_37 : decode cX3_factOfFreePage 37 = .ok (.ireturn, 1) := by decide +kernel
theorem dX3_isColumn_0 : decode cX3_isColumn 0 = .ok (.iload_n 0, 1) := by decide +kernel
theorem dX3_isColumn_1 : decode cX3_isColumn 1 = .ok (.ifCond .lt 13, 3) := by decide +kernel
theorem dX3_isColumn_4 : decode cX3_isColumn 4 = .ok (.iload_n 0, 1) := by decide +kernel
theorem dX3_isColumn_5 : decode cX3_isColumn 5 = .ok (.bipush 8, 2) := by decide +kernel
theorem dX3_isColumn_7 : decode cX3_isColumn 7 = .ok (.if_icmp .ge 7, 3) := by decide +kernel
theorem dX3_isColumn_10 : decode cX3_isColumn 10 = .ok (.iconst 1, 1) := by decide +kernel
theorem dX3_isColumn_11 : decode cX3_isColumn 11 = .ok (.goto 4, 3) := by decide +kernel
theorem dX3_isColumn_14 : decode cX3_isColumn 14 = .ok (.iconst 0, 1) := by decide +kernel
theorem dX3_isColumn_15 : decode cX3_isColumn 15 = .ok (.ireturn, 1) := by decide +kernel
theorem dX3_isShort_0 : decode cX3_isShort 0 = .ok (.iload_n 0, 1) := by decide +kernel
theorem dX3_isShort_1 : decode cX3_isShort 1 = .ok (.ifCond .lt 13, 3) := by decide +kernel
theorem dX3_isShort_4 : decode cX3_isShort 4 = .ok (.iload_n 0, 1) := by decide +kernel
theorem dX3_isShort_5 : decode cX3_isShort 5 = .ok (.ldc 175, 2) := by decide +kernel
theorem dX3_isShort_7 : decode cX3_isShort 7 = .ok (.if_icmp .gt 7, 3) := by decide +kernel
theorem dX3_isShort_10 : decode cX3_isShort 10 = .ok (.iconst 1, 1) := by decide +kernel
theorem dX3_isShort_11 : decode cX3_isShort 11 = .ok (.goto 4, 3) := by decide +kernel
theorem dX3_isShort_14 : decode cX3_isShort 14 = .ok (.iconst 0, 1) := by decide +kernel
theorem dX3_isShort_15 : decode cX3_isShort 15 = .ok (.ireturn, 1) := by decide +kernel
theorem dX3_isPlace_0 : decode cX3_isPlace 0 = .ok (.iload_n 0, 1) := by decide +kernel
theorem dX3_isPlace_1 : decode cX3_isPlace 1 = .ok (.ifCond .lt 14, 3) := by decide +kernel
theorem dX3_isPlace_4 : decode cX3_isPlace 4 = .ok (.iload_n 0, 1) := by decide +kernel
theorem dX3_isPlace_5 : decode cX3_isPlace 5 = .ok (.sipush 15360, 3) := by decide +kernel
theorem dX3_isPlace_8 : decode cX3_isPlace 8 = .ok (.if_icmp .ge 7, 3) := by decide +kernel
theorem dX3_isPlace_11 : decode cX3_isPlace 11 = .ok (.iconst 1, 1) := by decide +kernel
theorem dX3_isPlace_12 : decode cX3_isPlace 12 = .ok (.goto 4, 3) := by decide +kernel
theorem dX3_isPlace_15 : decode cX3_isPlace 15 = .ok (.iconst 0, 1) := by decide +kernel
theorem dX3_isPlace_16 : decode cX3_isPlace 16 = .ok (.ireturn, 1) := by decide +kernel
theorem dX3_pageOf_0 : decode cX3_pageOf 0 = .ok (.iload_n 0, 1) := by decide +kernel
theorem dX3_pageOf_1 : decode cX3_pageOf 1 = .ok (.sipush 256, 3) := by decide +kernel
theorem dX3_pageOf_4 : decode cX3_pageOf 4 = .ok (.idiv, 1) := by decide +kernel
theorem dX3_pageOf_5 : decode cX3_pageOf 5 = .ok (.ireturn, 1) := by decide +kernel
theorem dX3_slotOf_0 : decode cX3_slotOf 0 = .ok (.iload_n 0, 1) := by decide +kernel
theorem dX3_slotOf_1 : decode cX3_slotOf 1 = .ok (.sipush 256, 3) := by decide +kernel
theorem dX3_slotOf_4 : decode cX3_slotOf 4 = .ok (.irem, 1) := by decide +kernel
theorem dX3_slotOf_5 : decode cX3_slotOf 5 = .ok (.ireturn, 1) := by decide +kernel
theorem dX3_digit_0 : decode cX3_digit 0 = .ok (.iload_n 0, 1) := by decide +kernel
theorem dX3_digit_1 : decode cX3_digit 1 = .ok (.istore_n 2, 1) := by decide +kernel
theorem dX3_digit_2 : decode cX3_digit 2 = .ok (.iconst 0, 1) := by decide +kernel
theorem dX3_digit_3 : decode cX3_digit 3 = .ok (.istore_n 3, 1) := by decide +kernel
theorem dX3_digit_4 : decode cX3_digit 4 = .ok (.iload_n 3, 1) := by decide +kernel
theorem dX3_digit_5 : decode cX3_digit 5 = .ok (.iload_n 1, 1) := by decide +kernel
theorem dX3_digit_6 : decode cX3_digit 6 = .ok (.if_icmp .ge 14, 3) := by decide +kernel
theorem dX3_digit_9 : decode cX3_digit 9 = .ok (.iload_n 2, 1) := by decide +kernel
theorem dX3_digit_10 : decode cX3_digit 10 = .ok (.bipush 10, 2) := by decide +kernel
theorem dX3_digit_12 : decode cX3_digit 12 = .ok (.idiv, 1) := by decide +kernel
theorem dX3_digit_13 : decode cX3_digit 13 = .ok (.istore_n 2, 1) := by decide +kernel
theorem dX3_digit_14 : decode cX3_digit 14 = .ok (.iinc 3 1, 3) := by decide +kernel
theorem dX3_digit_17 : decode cX3_digit 17 = .ok (.goto (-13), 3) := by decide +kernel
theorem dX3_digit_20 : decode cX3_digit 20 = .ok (.iload_n 2, 1) := by decide +kernel
theorem dX3_digit_21 : decode cX3_digit 21 = .ok (.bipush 10, 2) := by decide +kernel
theorem dX3_digit_23 : decode cX3_digit 23 = .ok (.irem, 1) := by decide +kernel
theorem dX3_digit_24 : decode cX3_digit 24 = .ok (.ireturn, 1) := by decide +kernel
set_option maxRecDepth 20000 in
theorem ggX3_areTypes_X3_digit : GoodIn wsX3_areTypes wsX3_digit := goodIn_r _ [4] (by decide +kernel) (by decide +kernel)
set_option maxRecDepth 20000 in
theorem gX3_areTypes_X3_digit : GoodIn wsX3_areTypes (va_wsS RX3 176 yX3_digit wsX3_digit) := goodIn_app (goodIn_of _ (by decide +kernel)) ggX3_areTypes_X3_digit
theorem dX3_areTypes_0 : decode cX3_areTypes 0 = .ok (.iload_n 0, 1) := by decide +kernel
theorem dX3_areTypes_1 : decode cX3_areTypes 1 = .ok (.iconst 1, 1) := by decide +kernel
theorem dX3_areTypes_2 : decode cX3_areTypes 2 = .ok (.if_icmp .lt 9, 3) := by decide +kernel
theorem dX3_areTypes_5 : decode cX3_areTypes 5 = .ok (.iload_n 0, 1) := by decide +kernel
theorem dX3_areTypes_6 : decode cX3_areTypes 6 = .ok (.bipush 8, 2) := by decide +kernel
theorem dX3_areTypes_8 : decode cX3_areTypes 8 = .ok (.if_icmp .le 5, 3) := by decide +kernel
theorem dX3_areTypes_11 : decode cX3_areTypes 11 = .ok (.iconst 0, 1) := by decide +kernel
theorem dX3_areTypes_12 : decode cX3_areTypes 12 = .ok (.ireturn, 1) := by decide +kernel
theorem dX3_areTypes_13 : decode cX3_areTypes 13 = .ok (.iconst 0, 1) := by decide +kernel
theorem dX3_areTypes_14 : decode cX3_areTypes 14 = .ok (.istore_n 2, 1) := by decide +kernel
theorem dX3_areTypes_15 : decode cX3_areTypes 15 = .ok (.iload_n 2, 1) := by decide +kernel
theorem dX3_areTypes_16 : decode cX3_areTypes 16 = .ok (.iload_n 0, 1) := by decide +kernel
theorem dX3_areTypes_17 : decode cX3_areTypes 17 = .ok (.if_icmp .ge 32, 3) := by decide +kernel
theorem dX3_areTypes_20 : decode cX3_areTypes 20 = .ok (.iload_n 1, 1) := by decide +kernel
theorem dX3_areTypes_21 : decode cX3_areTypes 21 = .ok (.iload_n 2, 1) := by decide +kernel
theorem dX3_areTypes_22 : decode cX3_areTypes 22 = .ok (.invokestatic 176, 3) := by decide +kernel
theorem dX3_areTypes_25 : decode cX3_areTypes 25 = .ok (.istore_n 3, 1) := by decide +kernel
theorem dX3_areTypes_26 : decode cX3_areTypes 26 = .ok (.iload_n 3, 1) := by decide +kernel
theorem dX3_areTypes_27 : decode cX3_areTypes 27 = .ok (.iconst 1, 1) := by decide +kernel
theorem dX3_areTypes_28 : decode cX3_areTypes 28 = .ok (.if_icmp .eq 15, 3) := by decide +kernel
theorem dX3_areTypes_31 : decode cX3_areTypes 31 = .ok (.iload_n 3, 1) := by decide +kernel
theorem dX3_areTypes_32 : decode cX3_areTypes 32 = .ok (.iconst 2, 1) := by decide +kernel
theorem dX3_areTypes_33 : decode cX3_areTypes 33 = .ok (.if_icmp .eq 10, 3) := by decide +kernel
theorem dX3_areTypes_36 : decode cX3_areTypes 36 = .ok (.iload_n 3, 1) := by decide +kernel
theorem dX3_areTypes_37 : decode cX3_areTypes 37 = .ok (.iconst 3, 1) := by decide +kernel
theorem dX3_areTypes_38 : decode cX3_areTypes 38 = .ok (.if_icmp .eq 5, 3) := by decide +kernel
theorem dX3_areTypes_41 : decode cX3_areTypes 41 = .ok (.iconst 0, 1) := by decide +kernel
theorem dX3_areTypes_42 : decode cX3_areTypes 42 = .ok (.ireturn, 1) := by decide +kernel
theorem dX3_areTypes_43 : decode cX3_areTypes 43 = .ok (.iinc 2 1, 3) := by decide +kernel
theorem dX3_areTypes_46 : decode cX3_areTypes 46 = .ok (.goto (-31), 3) := by decide +kernel
theorem dX3_areTypes_49 : decode cX3_areTypes 49 = .ok (.iconst 1, 1) := by decide +kernel
theorem dX3_areTypes_50 : decode cX3_areTypes 50 = .ok (.ireturn, 1) := by decide +kernel
theorem dX3_tableAt_0 : decode cX3_tableAt 0 = .ok (.iload_n 1, 1) := by decide +kernel
theorem dX3_tableAt_1 : decode cX3_tableAt 1 = .ok (.ifCond .lt 18, 3) := by decide +kernel
theorem dX3_tableAt_4 : decode cX3_tableAt 4 = .ok (.iload_n 1, 1) := by decide +kernel
theorem dX3_tableAt_5 : decode cX3_tableAt 5 = .ok (.bipush 8, 2) := by decide +kernel
theorem dX3_tableAt_7 : decode cX3_tableAt 7 = .ok (.if_icmp .ge 12, 3) := by decide +kernel
theorem dX3_tableAt_10 : decode cX3_tableAt 10 = .ok (.aload_n 0, 1) := by decide +kernel
theorem dX3_tableAt_11 : decode cX3_tableAt 11 = .ok (.getfield 18, 3) := by decide +kernel
theorem dX3_tableAt_14 : decode cX3_tableAt 14 = .ok (.iload_n 1, 1) := by decide +kernel
theorem dX3_tableAt_15 : decode cX3_tableAt 15 = .ok (.aaload, 1) := by decide +kernel
theorem dX3_tableAt_16 : decode cX3_tableAt 16 = .ok (.goto 4, 3) := by decide +kernel
theorem dX3_tableAt_19 : decode cX3_tableAt 19 = .ok (.aconst_null, 1) := by decide +kernel
theorem dX3_tableAt_20 : decode cX3_tableAt 20 = .ok (.areturn, 1) := by decide +kernel
theorem dX3_usedPage_0 : decode cX3_usedPage 0 = .ok (.iload_n 1, 1) := by decide +kernel
theorem dX3_usedPage_1 : decode cX3_usedPage 1 = .ok (.ifCond .lt 9, 3) := by decide +kernel
theorem dX3_usedPage_4 : decode cX3_usedPage 4 = .ok (.iload_n 1, 1) := by decide +kernel
theorem dX3_usedPage_5 : decode cX3_usedPage 5 = .ok (.bipush 60, 2) := by decide +kernel
theorem dX3_usedPage_7 : decode cX3_usedPage 7 = .ok (.if_icmp .lt 5, 3) := by decide +kernel
theorem dX3_usedPage_10 : decode cX3_usedPage 10 = .ok (.aconst_null, 1) := by decide +kernel
theorem dX3_usedPage_11 : decode cX3_usedPage 11 = .ok (.areturn, 1) := by decide +kernel
theorem dX3_usedPage_12 : decode cX3_usedPage 12 = .ok (.aload_n 0, 1) := by decide +kernel
theorem dX3_usedPage_13 : decode cX3_usedPage 13 = .ok (.getfield 24, 3) := by decide +kernel
theorem dX3_usedPage_16 : decode cX3_usedPage 16 = .ok (.iload_n 1, 1) := by decide +kernel
theorem dX3_usedPage_17 : decode cX3_usedPage 17 = .ok (.aaload, 1) := by decide +kernel
theorem dX3_usedPage_18 : decode cX3_usedPage 18 = .ok (.astore_n 2, 1) := by decide +kernel
theorem dX3_usedPage_19 : decode cX3_usedPage 19 = .ok (.aload_n 2, 1) := by decide +kernel
theorem dX3_usedPage_20 : decode cX3_usedPage 20 = .ok (.ifnull 15, 3) := by decide +kernel
theorem dX3_usedPage_23 : decode cX3_usedPage 23 = .ok (.aload_n 2, 1) := by decide +kernel
theorem dX3_usedPage_24 : decode cX3_usedPage 24 = .ok (.getfield 47, 3) := by decide +kernel
theorem dX3_usedPage_27 : decode cX3_usedPage 27 = .ok (.iconst (-1), 1) := by decide +kernel
theorem dX3_usedPage_28 : decode cX3_usedPage 28 = .ok (.if_icmp .eq 7, 3) := by decide +kernel
theorem dX3_usedPage_31 : decode cX3_usedPage 31 = .ok (.aload_n 2, 1) := by decide +kernel
theorem dX3_usedPage_32 : decode cX3_usedPage 32 = .ok (.goto 4, 3) := by decide +kernel
theorem dX3_usedPage_35 : decode cX3_usedPage 35 = .ok (.aconst_null, 1) := by decide +kernel
theorem dX3_usedPage_36 : decode cX3_usedPage 36 = .ok (.areturn, 1) := by decide +kernel
set_option maxRecDepth 20000 in
theorem ggX3_pageWithVersion_X3_isPlace : GoodIn wsX3_pageWithVersion wsX3_isPlace := goodIn_r _ [4] (by decide +kernel) (by decide +kernel)
set_option maxRecDepth 20000 in
theorem gX3_pageWithVersion_X3_isPlace : GoodIn wsX3_pageWithVersion (va_wsS RX3 115 yX3_isPlace wsX3_isPlace) := goodIn_app (goodIn_of _ (by decide +kernel)) ggX3_pageWithVersion_X3_isPlace
set_option maxRecDepth 20000 in
theorem ggX3_pageWithVersion_X3_pageOf : GoodIn wsX3_pageWithVersion wsX3_pageOf := goodIn_r _ [7] (by decide +kernel) (by decide +kernel)
set_option maxRecDepth 20000 in
theorem gX3_pageWithVersion_X3_pageOf : GoodIn wsX3_pageWithVersion (va_wsS RX3 124 yX3_pageOf wsX3_pageOf) := goodIn_app (goodIn_of _ (by decide +kernel)) ggX3_pageWithVersion_X3_pageOf
set_option maxRecDepth 20000 in
theorem ggX3_pageWithVersion_X3_usedPage : GoodIn wsX3_pageWithVersion wsX3_usedPage := goodIn_r _ [11, 12, 13, 32, 33, 34, 35, 36, 37, 38, 39, 40] (by decide +kernel) (by decide +kernel)
set_option maxRecDepth 20000 in
theorem gX3_pageWithVersion_X3_usedPage : GoodIn wsX3_pageWithVersion (wsV RX3 43 RX3 yX3_usedPage wsX3_usedPage) := goodIn_app (goodIn_of _ (by decide +kernel)) ggX3_pageWithVersion_X3_usedPage
set_option maxRecDepth 20000 in
theorem ggX3_pageWithVersion_X3_slotOf : GoodIn wsX3_pageWithVersion wsX3_slotOf := goodIn_r _ [16] (by decide +kernel) (by decide +kernel)
set_option maxRecDepth 20000 in
theorem gX3_pageWithVersion_X3_slotOf : GoodIn wsX3_pageWithVersion (va_wsS RX3 94 yX3_slotOf wsX3_slotOf) := goodIn_app (goodIn_of _ (by decide +kernel)) ggX3_pageWithVersion_X3_slotOf
set_option maxRecDepth 20000 in
theorem ggX3_pageWithVersion_X0_holds : GoodIn wsX3_pageWithVersion wsX0_holds := goodIn_r _ [21, 22, 23, 24, 25, 20, 26, 27, 28, 29, 30, 31, 35, 36, 37, 38, 39, 40] (by decide +kernel) (by decide +kernel)
set_option maxRecDepth 20000 in
theorem gX3_pageWithVersion_X0_holds : GoodIn wsX3_pageWithVersion (wsV RX3 179 RX0 yX0_holds wsX0_holds) := goodIn_app (goodIn_of _ (by decide +kernel)) ggX3_pageWithVersion_X0_holds
theorem dX3_pageWithVersion_0 : decode cX3_pageWithVersion 0 = .ok (.iload_n 1, 1) := by decide +kernel
theorem dX3_pageWithVersion_1 : decode cX3_pageWithVersion 1 = .ok (.invokestatic 115, 3) := by decide +kernel
theorem dX3_pageWithVersion_4 : decode cX3_pageWithVersion 4 = .ok (.ifCond .ne 5, 3) := by decide +kernel
theorem dX3_pageWithVersion_7 : decode cX3_pageWithVersion 7 = .ok (.aconst_null, 1) := by decide +kernel
theorem dX3_pageWithVersion_8 : decode cX3_pageWithVersion 8 = .ok (.areturn, 1) := by decide +kernel
theorem dX3_pageWithVersion_9 : decode cX3_pageWithVersion 9 = .ok (.aload_n 0, 1) := by decide +kernel
theorem dX3_pageWithVersion_10 : decode cX3_pageWithVersion 10 = .ok (.iload_n 1, 1) := by decide +kernel
theorem dX3_pageWithVersion_11 : decode cX3_pageWithVersion 11 = .ok (.invokestatic 124, 3) := by decide +kernel
theorem dX3_pageWithVersion_14 : decode cX3_pageWithVersion 14 = .ok (.invokevirtual 43, 3) := by decide +kernel
theorem dX3_pageWithVersion_17 : decode cX3_pageWithVersion 17 = .ok (.astore_n 2, 1) := by decide +kernel
theorem dX3_pageWithVersion_18 : decode cX3_pageWithVersion 18 = .ok (.aload_n 2, 1) := by decide +kernel
theorem dX3_pageWithVersion_19 : decode cX3_pageWithVersion 19 = .ok (.ifnull 18, 3) := by decide +kernel
theorem dX3_pageWithVersion_22 : decode cX3_pageWithVersion 22 = .ok (.aload_n 2, 1) := by decide +kernel
theorem dX3_pageWithVersion_23 : decode cX3_pageWithVersion 23 = .ok (.iload_n 1, 1) := by decide +kernel
theorem dX3_pageWithVersion_24 : decode cX3_pageWithVersion 24 = .ok (.invokestatic 94, 3) := by decide +kernel
theorem dX3_pageWithVersion_27 : decode cX3_pageWithVersion 27 = .ok (.invokevirtual 179, 3) := by decide +kernel
theorem dX3_pageWithVersion_30 : decode cX3_pageWithVersion 30 = .ok (.ifCond .eq 7, 3) := by decide +kernel
theorem dX3_pageWithVersion_33 : decode cX3_pageWithVersion 33 = .ok (.aload_n 2, 1) := by decide +kernel
theorem dX3_pageWithVersion_34 : decode cX3_pageWithVersion 34 = .ok (.goto 4, 3) := by decide +kernel
theorem dX3_pageWithVersion_37 : decode cX3_pageWithVersion 37 = .ok (.aconst_null, 1) := by decide +kernel
theorem dX3_pageWithVersion_38 : decode cX3_pageWithVersion 38 = .ok (.areturn, 1) := by decide +kernel
set_option maxRecDepth 20000 in
theorem ggX3_openLowestFreePage_X0_init : GoodIn wsX3_openLowestFreePage wsX0_init := goodIn_r _ [7, 8, 9, 10, 11, 12, 13, 14, 15, 16, 17, 25, 26, 27, 28, 29, 30] (by decide +kernel) (by decide +kernel)
set_option maxRecDepth 20000 in
theorem gX3_openLowestFreePage_X0_init_n182 : GoodIn wsX3_openLowestFreePage (wsX0_init) := ggX3_openLowestFreePage_X0_init
set_option maxRecDepth 20000 in
theorem ggX3_openLowestFreePage_X0_reset : GoodIn wsX3_openLowestFreePage wsX0_reset := goodIn_r _ [21, 11, 12, 13, 14, 15, 25, 26, 27, 28, 29, 30] (by decide +kernel) (by decide +kernel)
set_option maxRecDepth 20000 in
theorem gX3_openLowestFreePage_X0_reset : GoodIn wsX3_openLowestFreePage (wsV RX3 51 RX0 yX0_reset wsX0_reset) := goodIn_app (goodIn_of _ (by decide +kernel)) ggX3_openLowestFreePage_X0_reset
theorem dX3_openLowestFreePage_0 : decode cX3_openLowestFreePage 0 = .ok (.iconst 0, 1) := by decide +kernel
theorem dX3_openLowestFreePage_1 : decode cX3_openLowestFreePage 1 = .ok (.istore_n 2, 1) := by decide +kernel
theorem dX3_openLowestFreePage_2 : decode cX3_openLowestFreePage 2 = .ok (.iload_n 2, 1) := by decide +kernel
theorem dX3_openLowestFreePage_3 : decode cX3_openLowestFreePage 3 = .ok (.bipush 60, 2) := by decide +kernel
theorem dX3_openLowestFreePage_5 : decode cX3_openLowestFreePage 5 = .ok (.if_icmp .ge 50, 3) := by decide +kernel
theorem dX3_openLowestFreePage_8 : decode cX3_openLowestFreePage 8 = .ok (.aload_n 0, 1) := by decide +kernel
theorem dX3_openLowestFreePage_9 : decode cX3_openLowestFreePage 9 = .ok (.getfield 24, 3) := by decide +kernel
theorem dX3_openLowestFreePage_12 : decode cX3_openLowestFreePage 12 = .ok (.iload_n 2, 1) := by decide +kernel
theorem dX3_openLowestFreePage_13 : decode cX3_openLowestFreePage 13 = .ok (.aaload, 1) := by decide +kernel
theorem dX3_openLowestFreePage_14 : decode cX3_openLowestFreePage 14 = .ok (.astore_n 3, 1) := by decide +kernel
theorem dX3_openLowestFreePage_15 : decode cX3_openLowestFreePage 15 = .ok (.aload_n 3, 1) := by decide +kernel
theorem dX3_openLowestFreePage_16 : decode cX3_openLowestFreePage 16 = .ok (.ifnonnull 18, 3) := by decide +kernel
theorem dX3_openLowestFreePage_19 : decode cX3_openLowestFreePage 19 = .ok (.new 22, 3) := by decide +kernel
theorem dX3_openLowestFreePage_22 : decode cX3_openLowestFreePage 22 = .ok (.dup, 1) := by decide +kernel
theorem dX3_openLowestFreePage_23 : decode cX3_openLowestFreePage 23 = .ok (.invokespecial 182, 3) := by decide +kernel
theorem dX3_openLowestFreePage_26 : decode cX3_openLowestFreePage 26 = .ok (.astore_n 3, 1) := by decide +kernel
theorem dX3_openLowestFreePage_27 : decode cX3_openLowestFreePage 27 = .ok (.aload_n 0, 1) := by decide +kernel
theorem dX3_openLowestFreePage_28 : decode cX3_openLowestFreePage 28 = .ok (.getfield 24, 3) := by decide +kernel
theorem dX3_openLowestFreePage_31 : decode cX3_openLowestFreePage 31 = .ok (.iload_n 2, 1) := by decide +kernel
theorem dX3_openLowestFreePage_32 : decode cX3_openLowestFreePage 32 = .ok (.aload_n 3, 1) := by decide +kernel
theorem dX3_openLowestFreePage_33 : decode cX3_openLowestFreePage 33 = .ok (.aastore, 1) := by decide +kernel
theorem dX3_openLowestFreePage_34 : decode cX3_openLowestFreePage 34 = .ok (.aload_n 3, 1) := by decide +kernel
theorem dX3_openLowestFreePage_35 : decode cX3_openLowestFreePage 35 = .ok (.getfield 47, 3) := by decide +kernel
theorem dX3_openLowestFreePage_38 : decode cX3_openLowestFreePage 38 = .ok (.iconst (-1), 1) := by decide +kernel
theorem dX3_openLowestFreePage_39 : decode cX3_openLowestFreePage 39 = .ok (.if_icmp .ne 10, 3) := by decide +kernel
theorem dX3_openLowestFreePage_42 : decode cX3_openLowestFreePage 42 = .ok (.aload_n 3, 1) := by decide +kernel
theorem dX3_openLowestFreePage_43 : decode cX3_openLowestFreePage 43 = .ok (.iload_n 1, 1) := by decide +kernel
theorem dX3_openLowestFreePage_44 : decode cX3_openLowestFreePage 44 = .ok (.invokevirtual 51, 3) := by decide +kernel
theorem dX3_openLowestFreePage_47 : decode cX3_openLowestFreePage 47 = .ok (.iload_n 2, 1) := by decide +kernel
theorem dX3_openLowestFreePage_48 : decode cX3_openLowestFreePage 48 = .ok (.ireturn, 1) := by decide +kernel
theorem dX3_openLowestFreePage_49 : decode cX3_openLowestFreePage 49 = .ok (.iinc 2 1, 3) := by decide +kernel
theorem dX3_openLowestFreePage_52 : decode cX3_openLowestFreePage 52 = .ok (.goto (-50), 3) := by decide +kernel
theorem dX3_openLowestFreePage_55 : decode cX3_openLowestFreePage 55 = .ok (.iconst (-1), 1) := by decide +kernel
theorem dX3_openLowestFreePage_56 : decode cX3_openLowestFreePage 56 = .ok (.ireturn, 1) := by decide +kernel
set_option maxRecDepth 20000 in
theorem ggX3_makeRoom_X3_usedPage : GoodIn wsX3_makeRoom wsX3_usedPage := goodIn_r _ [7, 8, 9, 78, 79, 80, 72, 73, 74, 75, 76, 77] (by decide +kernel) (by decide +kernel)
set_option maxRecDepth 20000 in
theorem gX3_makeRoom_X3_usedPage : GoodIn wsX3_makeRoom (wsV RX3 43 RX3 yX3_usedPage wsX3_usedPage) := goodIn_app (goodIn_of _ (by decide +kernel)) ggX3_makeRoom_X3_usedPage
set_option maxRecDepth 20000 in
theorem ggX3_makeRoom_X0_slotFor : GoodIn wsX3_makeRoom wsX0_slotFor := goodIn_r _ [14, 15, 16, 17, 18, 13, 19, 20, 21, 22, 23, 24, 25, 26, 27, 28, 29, 30, 31, 32, 33, 72, 73, 74, 75, 76, 77] (by decide +kernel) (by decide +kernel)
set_option maxRecDepth 20000 in
theorem gX3_makeRoom_X0_slotFor : GoodIn wsX3_makeRoom (wsV RX3 183 RX0 yX0_slotFor wsX0_slotFor) := goodIn_app (goodIn_of _ (by decide +kernel)) ggX3_makeRoom_X0_slotFor
set_option maxRecDepth 20000 in
theorem ggX3_makeRoom_X3_addAt : GoodIn wsX3_makeRoom wsX3_addAt := goodIn_r _ [37, 3, 4, 5, 6, 7, 8, 9, 38, 39, 40, 13, 41, 15, 33, 42, 43, 44, 45, 46, 47, 48, 49, 50, 28, 78, 79, 80, 72, 73, 74, 75, 76, 77] (by decide +kernel) (by decide +kernel)
set_option maxRecDepth 20000 in
theorem gX3_makeRoom_X3_addAt : GoodIn wsX3_makeRoom (wsV RX3 186 RX3 yX3_addAt wsX3_addAt) := goodIn_app (goodIn_of _ (by decide +kernel)) ggX3_makeRoom_X3_addAt
set_option maxRecDepth 20000 in
theorem ggX3_makeRoom_X3_openLowestFreePage : GoodIn wsX3_makeRoom wsX3_openLowestFreePage := goodIn_r _ [54, 8, 55, 56, 13, 9, 57, 58, 59, 60, 61, 62, 63, 15, 42, 33, 64, 28, 65, 66, 67, 68, 78, 79, 80, 72, 73, 74, 75, 76, 77] (by decide +kernel) (by decide +kernel)
set_option maxRecDepth 20000 in
theorem gX3_makeRoom_X3_openLowestFreePage : GoodIn wsX3_makeRoom (wsV RX3 32 RX3 yX3_openLowestFreePage wsX3_openLowestFreePage) := goodIn_app (goodIn_of _ (by decide +kernel)) ggX3_makeRoom_X3_openLowestFreePage
theorem dX3_makeRoom_0 : decode cX3_makeRoom 0 = .ok (.aload_n 2, 1) := by decide +kernel
theorem dX3_makeRoom_1 : decode cX3_makeRoom 1 = .ok (.getfield 142, 3) := by decide +kernel
theorem dX3_makeRoom_4 : decode cX3_makeRoom 4 = .ok (.istore 4, 2) := by decide +kernel
theorem dX3_makeRoom_6 : decode cX3_makeRoom 6 = .ok (.iconst 0, 1) := by decide +kernel
theorem dX3_makeRoom_7 : decode cX3_makeRoom 7 = .ok (.istore 5, 2) := by decide +kernel
theorem dX3_makeRoom_9 : decode cX3_makeRoom 9 = .ok (.iload 5, 2) := by decide +kernel
theorem dX3_makeRoom_11 : decode cX3_makeRoom 11 = .ok (.bipush 60, 2) := by decide +kernel
theorem dX3_makeRoom_13 : decode cX3_makeRoom 13 = .ok (.if_icmp .ge 86, 3) := by decide +kernel
theorem dX3_makeRoom_16 : decode cX3_makeRoom 16 = .ok (.aload_n 0, 1) := by decide +kernel
theorem dX3_makeRoom_17 : decode cX3_makeRoom 17 = .ok (.iload 4, 2) := by decide +kernel
theorem dX3_makeRoom_19 : decode cX3_makeRoom 19 = .ok (.invokevirtual 43, 3) := by decide +kernel
theorem dX3_makeRoom_22 : decode cX3_makeRoom 22 = .ok (.astore 6, 2) := by decide +kernel
theorem dX3_makeRoom_24 : decode cX3_makeRoom 24 = .ok (.aload 6, 2) := by decide +kernel
theorem dX3_makeRoom_26 : decode cX3_makeRoom 26 = .ok (.ifnonnull 5, 3) := by decide +kernel
theorem dX3_makeRoom_29 : decode cX3_makeRoom 29 = .ok (.iconst (-1), 1) := by decide +kernel
theorem dX3_makeRoom_30 : decode cX3_makeRoom 30 = .ok (.ireturn, 1) := by decide +kernel
theorem dX3_makeRoom_31 : decode cX3_makeRoom 31 = .ok (.aload 6, 2) := by decide +kernel
theorem dX3_makeRoom_33 : decode cX3_makeRoom 33 = .ok (.iload_n 3, 1) := by decide +kernel
theorem dX3_makeRoom_34 : decode cX3_makeRoom 34 = .ok (.invokevirtual 183, 3) := by decide +kernel
theorem dX3_makeRoom_37 : decode cX3_makeRoom 37 = .ok (.istore 7, 2) := by decide +kernel
theorem dX3_makeRoom_39 : decode cX3_makeRoom 39 = .ok (.iload 7, 2) := by decide +kernel
theorem dX3_makeRoom_41 : decode cX3_makeRoom 41 = .ok (.iconst (-1), 1) := by decide +kernel
theorem dX3_makeRoom_42 : decode cX3_makeRoom 42 = .ok (.if_icmp .eq 13, 3) := by decide +kernel
theorem dX3_makeRoom_45 : decode cX3_makeRoom 45 = .ok (.aload_n 0, 1) := by decide +kernel
theorem dX3_makeRoom_46 : decode cX3_makeRoom 46 = .ok (.iload 4, 2) := by decide +kernel
theorem dX3_makeRoom_48 : decode cX3_makeRoom 48 = .ok (.iload 7, 2) := by decide +kernel
theorem dX3_makeRoom_50 : decode cX3_makeRoom 50 = .ok (.iload_n 3, 1) := by decide +kernel
theorem dX3_makeRoom_51 : decode cX3_makeRoom 51 = .ok (.invokevirtual 186, 3) := by decide +kernel
theorem dX3_makeRoom_54 : decode cX3_makeRoom 54 = .ok (.ireturn, 1) := by decide +kernel
theorem dX3_makeRoom_55 : decode cX3_makeRoom 55 = .ok (.aload 6, 2) := by decide +kernel
theorem dX3_makeRoom_57 : decode cX3_makeRoom 57 = .ok (.getfield 172, 3) := by decide +kernel
theorem dX3_makeRoom_60 : decode cX3_makeRoom 60 = .ok (.iconst (-1), 1) := by decide +kernel
theorem dX3_makeRoom_61 : decode cX3_makeRoom 61 = .ok (.if_icmp .ne 25, 3) := by decide +kernel
theorem dX3_makeRoom_64 : decode cX3_makeRoom 64 = .ok (.aload 6, 2) := by decide +kernel
theorem dX3_makeRoom_66 : decode cX3_makeRoom 66 = .ok (.aload_n 0, 1) := by decide +kernel
theorem dX3_makeRoom_67 : decode cX3_makeRoom 67 = .ok (.iload_n 1, 1) := by decide +kernel
theorem dX3_makeRoom_68 : decode cX3_makeRoom 68 = .ok (.invokevirtual 32, 3) := by decide +kernel
theorem dX3_makeRoom_71 : decode cX3_makeRoom 71 = .ok (.putfield 172, 3) := by decide +kernel
theorem dX3_makeRoom_74 : decode cX3_makeRoom 74 = .ok (.aload_n 0, 1) := by decide +kernel
theorem dX3_makeRoom_75 : decode cX3_makeRoom 75 = .ok (.aload 6, 2) := by decide +kernel
theorem dX3_makeRoom_77 : decode cX3_makeRoom 77 = .ok (.getfield 172, 3) := by decide +kernel
theorem dX3_makeRoom_80 : decode cX3_makeRoom 80 = .ok (.iconst 0, 1) := by decide +kernel
theorem dX3_makeRoom_81 : decode cX3_makeRoom 81 = .ok (.iload_n 3, 1) := by decide +kernel
theorem dX3_makeRoom_82 : decode cX3_makeRoom 82 = .ok (.invokevirtual 186, 3) := by decide +kernel
theorem dX3_makeRoom_85 : decode cX3_makeRoom 85 = .ok (.ireturn, 1) := by decide +kernel
theorem dX3_makeRoom_86 : decode cX3_makeRoom 86 = .ok (.aload 6, 2) := by decide +kernel
theorem dX3_makeRoom_88 : decode cX3_makeRoom 88 = .ok (.getfield 172, 3) := by decide +kernel
theorem dX3_makeRoom_91 : decode cX3_makeRoom 91 = .ok (.istore 4, 2) := by decide +kernel
theorem dX3_makeRoom_93 : decode cX3_makeRoom 93 = .ok (.iinc 5 1, 3) := by decide +kernel
theorem dX3_makeRoom_96 : decode cX3_makeRoom 96 = .ok (.goto (-87), 3) := by decide +kernel
theorem dX3_makeRoom_99 : decode cX3_makeRoom 99 = .ok (.iconst (-1), 1) := by decide +kernel
theorem dX3_makeRoom_100 : decode cX3_makeRoom 100 = .ok (.ireturn, 1) := by decide +kernel
set_option maxRecDepth 20000 in
theorem ggX3_addAt_X3_usedPage : GoodIn wsX3_addAt wsX3_usedPage := goodIn_r _ [5, 6, 7, 25, 26, 27, 28, 29, 30, 31, 32, 33] (by decide +kernel) (by decide +kernel)
set_option maxRecDepth 20000 in
theorem gX3_addAt_X3_usedPage : GoodIn wsX3_addAt (wsV RX3 43 RX3 yX3_usedPage wsX3_usedPage) := goodIn_app (goodIn_of _ (by decide +kernel)) ggX3_addAt_X3_usedPage
set_option maxRecDepth 20000 in
theorem ggX3_addAt_X0_add : GoodIn wsX3_addAt wsX0_add := goodIn_r _ [12, 13, 14, 15, 16, 17, 18, 11, 19, 20, 21, 22, 23, 24, 28, 29, 30, 31, 32, 33] (by decide +kernel) (by decide +kernel)
set_option maxRecDepth 20000 in
theorem gX3_addAt_X0_add : GoodIn wsX3_addAt (wsV RX3 190 RX0 yX0_add wsX0_add) := goodIn_app (goodIn_of _ (by decide +kernel)) ggX3_addAt_X0_add
theorem dX3_addAt_0 : decode cX3_addAt 0 = .ok (.aload_n 0, 1) := by decide +kernel
theorem dX3_addAt_1 : decode cX3_addAt 1 = .ok (.iload_n 1, 1) := by decide +kernel
theorem dX3_addAt_2 : decode cX3_addAt 2 = .ok (.invokevirtual 43, 3) := by decide +kernel
theorem dX3_addAt_5 : decode cX3_addAt 5 = .ok (.astore 4, 2) := by decide +kernel
theorem dX3_addAt_7 : decode cX3_addAt 7 = .ok (.aload 4, 2) := by decide +kernel
theorem dX3_addAt_9 : decode cX3_addAt 9 = .ok (.ifnonnull 5, 3) := by decide +kernel
theorem dX3_addAt_12 : decode cX3_addAt 12 = .ok (.iconst (-1), 1) := by decide +kernel
theorem dX3_addAt_13 : decode cX3_addAt 13 = .ok (.ireturn, 1) := by decide +kernel
theorem dX3_addAt_14 : decode cX3_addAt 14 = .ok (.aload 4, 2) := by decide +kernel
theorem dX3_addAt_16 : decode cX3_addAt 16 = .ok (.iload_n 2, 1) := by decide +kernel
theorem dX3_addAt_17 : decode cX3_addAt 17 = .ok (.iload_n 3, 1) := by decide +kernel
theorem dX3_addAt_18 : decode cX3_addAt 18 = .ok (.invokevirtual 190, 3) := by decide +kernel
theorem dX3_addAt_21 : decode cX3_addAt 21 = .ok (.sipush 256, 3) := by decide +kernel
theorem dX3_addAt_24 : decode cX3_addAt 24 = .ok (.iload_n 1, 1) := by decide +kernel
theorem dX3_addAt_25 : decode cX3_addAt 25 = .ok (.imul, 1) := by decide +kernel
theorem dX3_addAt_26 : decode cX3_addAt 26 = .ok (.iload_n 2, 1) := by decide +kernel
theorem dX3_addAt_27 : decode cX3_addAt 27 = .ok (.iadd, 1) := by decide +kernel
theorem dX3_addAt_28 : decode cX3_addAt 28 = .ok (.ireturn, 1) := by decide +kernel
set_option maxRecDepth 20000 in
theorem ggX3_leaveChain_X3_tableAt : GoodIn wsX3_leaveChain wsX3_tableAt := goodIn_r _ [8, 9, 34, 35, 36] (by decide +kernel) (by decide +kernel)
set_option maxRecDepth 20000 in
theorem gX3_leaveChain_X3_tableAt : GoodIn wsX3_leaveChain (wsV RX3 39 RX3 yX3_tableAt wsX3_tableAt) := goodIn_app (goodIn_of _ (by decide +kernel)) ggX3_leaveChain_X3_tableAt
set_option maxRecDepth 20000 in
theorem ggX3_leaveChain_X3_usedPage : GoodIn wsX3_leaveChain wsX3_usedPage := goodIn_r _ [13, 14, 1, 34, 35, 36, 25, 26, 27, 28, 29, 30] (by decide +kernel) (by decide +kernel)
set_option maxRecDepth 20000 in
theorem gX3_leaveChain_X3_usedPage : GoodIn wsX3_leaveChain (wsV RX3 43 RX3 yX3_usedPage wsX3_usedPage) := goodIn_app (goodIn_of _ (by decide +kernel)) ggX3_leaveChain_X3_usedPage
set_option maxRecDepth 20000 in
theorem ggX3_leaveChain_X0_reset : GoodIn wsX3_leaveChain wsX0_reset := goodIn_r _ [19, 20, 21, 22, 23, 24, 25, 26, 27, 28, 29, 30] (by decide +kernel) (by decide +kernel)
set_option maxRecDepth 20000 in
theorem gX3_leaveChain_X0_reset : GoodIn wsX3_leaveChain (wsV RX3 51 RX0 yX0_reset wsX0_reset) := goodIn_app (goodIn_of _ (by decide +kernel)) ggX3_leaveChain_X0_reset
theorem dX3_leaveChain_0 : decode cX3_leaveChain 0 = .ok (.aload_n 0, 1) := by decide +kernel
theorem dX3_leaveChain_1 : decode cX3_leaveChain 1 = .ok (.aload_n 2, 1) := by decide +kernel
theorem dX3_leaveChain_2 : decode cX3_leaveChain 2 = .ok (.getfield 47, 3) := by decide +kernel
theorem dX3_leaveChain_5 : decode cX3_leaveChain 5 = .ok (.invokevirtual 39, 3) := by decide +kernel
theorem dX3_leaveChain_8 : decode cX3_leaveChain 8 = .ok (.astore_n 3, 1) := by decide +kernel
theorem dX3_leaveChain_9 : decode cX3_leaveChain 9 = .ok (.aload_n 3, 1) := by decide +kernel
theorem dX3_leaveChain_10 : decode cX3_leaveChain 10 = .ok (.ifnonnull 4, 3) := by decide +kernel
theorem dX3_leaveChain_13 : decode cX3_leaveChain 13 = .ok (.return_, 1) := by decide +kernel
theorem dX3_leaveChain_14 : decode cX3_leaveChain 14 = .ok (.aload_n 3, 1) := by decide +kernel
theorem dX3_leaveChain_15 : decode cX3_leaveChain 15 = .ok (.getfield 142, 3) := by decide +kernel
theorem dX3_leaveChain_18 : decode cX3_leaveChain 18 = .ok (.istore 4, 2) := by decide +kernel
theorem dX3_leaveChain_20 : decode cX3_leaveChain 20 = .ok (.iconst 0, 1) := by decide +kernel
theorem dX3_leaveChain_21 : decode cX3_leaveChain 21 = .ok (.istore 5, 2) := by decide +kernel
theorem dX3_leaveChain_23 : decode cX3_leaveChain 23 = .ok (.iload 5, 2) := by decide +kernel
theorem dX3_leaveChain_25 : decode cX3_leaveChain 25 = .ok (.bipush 60, 2) := by decide +kernel
theorem dX3_leaveChain_27 : decode cX3_leaveChain 27 = .ok (.if_icmp .ge 54, 3) := by decide +kernel
theorem dX3_leaveChain_30 : decode cX3_leaveChain 30 = .ok (.aload_n 0, 1) := by decide +kernel
theorem dX3_leaveChain_31 : decode cX3_leaveChain 31 = .ok (.iload 4, 2) := by decide +kernel
theorem dX3_leaveChain_33 : decode cX3_leaveChain 33 = .ok (.invokevirtual 43, 3) := by decide +kernel
theorem dX3_leaveChain_36 : decode cX3_leaveChain 36 = .ok (.astore 6, 2) := by decide +kernel
theorem dX3_leaveChain_38 : decode cX3_leaveChain 38 = .ok (.aload 6, 2) := by decide +kernel
theorem dX3_leaveChain_40 : decode cX3_leaveChain 40 = .ok (.ifnonnull 4, 3) := by decide +kernel
theorem dX3_leaveChain_43 : decode cX3_leaveChain 43 = .ok (.return_, 1) := by decide +kernel
theorem dX3_leaveChain_44 : decode cX3_leaveChain 44 = .ok (.aload 6, 2) := by decide +kernel
theorem dX3_leaveChain_46 : decode cX3_leaveChain 46 = .ok (.getfield 172, 3) := by decide +kernel
theorem dX3_leaveChain_49 : decode cX3_leaveChain 49 = .ok (.iload_n 1, 1) := by decide +kernel
theorem dX3_leaveChain_50 : decode cX3_leaveChain 50 = .ok (.if_icmp .ne 18, 3) := by decide +kernel
theorem dX3_leaveChain_53 : decode cX3_leaveChain 53 = .ok (.aload 6, 2) := by decide +kernel
theorem dX3_leaveChain_55 : decode cX3_leaveChain 55 = .ok (.aload_n 2, 1) := by decide +kernel
theorem dX3_leaveChain_56 : decode cX3_leaveChain 56 = .ok (.getfield 172, 3) := by decide +kernel
theorem dX3_leaveChain_59 : decode cX3_leaveChain 59 = .ok (.putfield 172, 3) := by decide +kernel
theorem dX3_leaveChain_62 : decode cX3_leaveChain 62 = .ok (.aload_n 2, 1) := by decide +kernel
theorem dX3_leaveChain_63 : decode cX3_leaveChain 63 = .ok (.iconst (-1), 1) := by decide +kernel
theorem dX3_leaveChain_64 : decode cX3_leaveChain 64 = .ok (.invokevirtual 51, 3) := by decide +kernel
theorem dX3_leaveChain_67 : decode cX3_leaveChain 67 = .ok (.return_, 1) := by decide +kernel
theorem dX3_leaveChain_68 : decode cX3_leaveChain 68 = .ok (.aload 6, 2) := by decide +kernel
theorem dX3_leaveChain_70 : decode cX3_leaveChain 70 = .ok (.getfield 172, 3) := by decide +kernel
theorem dX3_leaveChain_73 : decode cX3_leaveChain 73 = .ok (.istore 4, 2) := by decide +kernel
theorem dX3_leaveChain_75 : decode cX3_leaveChain 75 = .ok (.iinc 5 1, 3) := by decide +kernel
theorem dX3_leaveChain_78 : decode cX3_leaveChain 78 = .ok (.goto (-55), 3) := by decide +kernel
theorem dX3_leaveChain_81 : decode cX3_leaveChain 81 = .ok (.return_, 1) := by decide +kernel
set_option maxRecDepth 20000 in
theorem ggX3_firstVersionFrom_X3_usedPage : GoodIn wsX3_firstVersionFrom wsX3_usedPage := goodIn_r _ [6, 7, 8, 34, 35, 36, 28, 29, 30, 31, 32, 33] (by decide +kernel) (by decide +kernel)
set_option maxRecDepth 20000 in
theorem gX3_firstVersionFrom_X3_usedPage : GoodIn wsX3_firstVersionFrom (wsV RX3 43 RX3 yX3_usedPage wsX3_usedPage) := goodIn_app (goodIn_of _ (by decide +kernel)) ggX3_firstVersionFrom_X3_usedPage
set_option maxRecDepth 20000 in
theorem ggX3_firstVersionFrom_X0_firstHeldFrom : GoodIn wsX3_firstVersionFrom wsX0_firstHeldFrom := goodIn_r _ [13, 14, 15, 16, 17, 12, 18, 19, 20, 21, 22, 23, 24, 25, 26, 27, 28, 29, 30, 31, 32, 33] (by decide +kernel) (by decide +kernel)
set_option maxRecDepth 20000 in
theorem gX3_firstVersionFrom_X0_firstHeldFrom : GoodIn wsX3_firstVersionFrom (wsV RX3 193 RX0 yX0_firstHeldFrom wsX0_firstHeldFrom) := goodIn_app (goodIn_of _ (by decide +kernel)) ggX3_firstVersionFrom_X0_firstHeldFrom
theorem dX3_firstVersionFrom_0 : decode cX3_firstVersionFrom 0 = .ok (.iload_n 1, 1) := by decide +kernel
theorem dX3_firstVersionFrom_1 : decode cX3_firstVersionFrom 1 = .ok (.istore_n 3, 1) := by decide +kernel
theorem dX3_firstVersionFrom_2 : decode cX3_firstVersionFrom 2 = .ok (.iload_n 2, 1) := by decide +kernel
theorem dX3_firstVersionFrom_3 : decode cX3_firstVersionFrom 3 = .ok (.istore 4, 2) := by decide +kernel
theorem dX3_firstVersionFrom_5 : decode cX3_firstVersionFrom 5 = .ok (.iconst 0, 1) := by decide +kernel
theorem dX3_firstVersionFrom_6 : decode cX3_firstVersionFrom 6 = .ok (.istore 5, 2) := by decide +kernel
theorem dX3_firstVersionFrom_8 : decode cX3_firstVersionFrom 8 = .ok (.iload 5, 2) := by decide +kernel
theorem dX3_firstVersionFrom_10 : decode cX3_firstVersionFrom 10 = .ok (.bipush 60, 2) := by decide +kernel
theorem dX3_firstVersionFrom_12 : decode cX3_firstVersionFrom 12 = .ok (.if_icmp .ge 56, 3) := by decide +kernel
theorem dX3_firstVersionFrom_15 : decode cX3_firstVersionFrom 15 = .ok (.aload_n 0, 1) := by decide +kernel
theorem dX3_firstVersionFrom_16 : decode cX3_firstVersionFrom 16 = .ok (.iload_n 3, 1) := by decide +kernel
theorem dX3_firstVersionFrom_17 : decode cX3_firstVersionFrom 17 = .ok (.invokevirtual 43, 3) := by decide +kernel
theorem dX3_firstVersionFrom_20 : decode cX3_firstVersionFrom 20 = .ok (.astore 6, 2) := by decide +kernel
theorem dX3_firstVersionFrom_22 : decode cX3_firstVersionFrom 22 = .ok (.aload 6, 2) := by decide +kernel
theorem dX3_firstVersionFrom_24 : decode cX3_firstVersionFrom 24 = .ok (.ifnonnull 5, 3) := by decide +kernel
theorem dX3_firstVersionFrom_27 : decode cX3_firstVersionFrom 27 = .ok (.iconst (-1), 1) := by decide +kernel
theorem dX3_firstVersionFrom_28 : decode cX3_firstVersionFrom 28 = .ok (.ireturn, 1) := by decide +kernel
theorem dX3_firstVersionFrom_29 : decode cX3_firstVersionFrom 29 = .ok (.aload 6, 2) := by decide +kernel
theorem dX3_firstVersionFrom_31 : decode cX3_firstVersionFrom 31 = .ok (.iload 4, 2) := by decide +kernel
theorem dX3_firstVersionFrom_33 : decode cX3_firstVersionFrom 33 = .ok (.invokevirtual 193, 3) := by decide +kernel
theorem dX3_firstVersionFrom_36 : decode cX3_firstVersionFrom 36 = .ok (.istore 7, 2) := by decide +kernel
theorem dX3_firstVersionFrom_38 : decode cX3_firstVersionFrom 38 = .ok (.iload 7, 2) := by decide +kernel
theorem dX3_firstVersionFrom_40 : decode cX3_firstVersionFrom 40 = .ok (.iconst (-1), 1) := by decide +kernel
theorem dX3_firstVersionFrom_41 : decode cX3_firstVersionFrom 41 = .ok (.if_icmp .eq 12, 3) := by decide +kernel
theorem dX3_firstVersionFrom_44 : decode cX3_firstVersionFrom 44 = .ok (.sipush 256, 3) := by decide +kernel
theorem dX3_firstVersionFrom_47 : decode cX3_firstVersionFrom 47 = .ok (.iload_n 3, 1) := by decide +kernel
theorem dX3_firstVersionFrom_48 : decode cX3_firstVersionFrom 48 = .ok (.imul, 1) := by decide +kernel
theorem dX3_firstVersionFrom_49 : decode cX3_firstVersionFrom 49 = .ok (.iload 7, 2) := by decide +kernel
theorem dX3_firstVersionFrom_51 : decode cX3_firstVersionFrom 51 = .ok (.iadd, 1) := by decide +kernel
theorem dX3_firstVersionFrom_52 : decode cX3_firstVersionFrom 52 = .ok (.ireturn, 1) := by decide +kernel
theorem dX3_firstVersionFrom_53 : decode cX3_firstVersionFrom 53 = .ok (.aload 6, 2) := by decide +kernel
theorem dX3_firstVersionFrom_55 : decode cX3_firstVersionFrom 55 = .ok (.getfield 172, 3) := by decide +kernel
theorem dX3_firstVersionFrom_58 : decode cX3_firstVersionFrom 58 = .ok (.istore_n 3, 1) := by decide +kernel
theorem dX3_firstVersionFrom_59 : decode cX3_firstVersionFrom 59 = .ok (.iconst 0, 1) := by decide +kernel
theorem dX3_firstVersionFrom_60 : decode cX3_firstVersionFrom 60 = .ok (.istore 4, 2) := by decide +kernel
theorem dX3_firstVersionFrom_62 : decode cX3_firstVersionFrom 62 = .ok (.iinc 5 1, 3) := by decide +kernel
theorem dX3_firstVersionFrom_65 : decode cX3_firstVersionFrom 65 = .ok (.goto (-57), 3) := by decide +kernel
theorem dX3_firstVersionFrom_68 : decode cX3_firstVersionFrom 68 = .ok (.iconst (-1), 1) := by decide +kernel
theorem dX3_firstVersionFrom_69 : decode cX3_firstVersionFrom 69 = .ok (.ireturn, 1) := by decide +kernel
set_option maxRecDepth 20000 in
theorem ggX3_writeBehind_X0_write : GoodIn wsX3_writeBehind wsX0_write := goodIn_r _ [5, 6, 7, 8, 9, 10, 11, 12] (by decide +kernel) (by decide +kernel)
set_option maxRecDepth 20000 in
theorem gX3_writeBehind_X0_write : GoodIn wsX3_writeBehind (wsV RX3 100 RX0 yX0_write wsX0_write) := goodIn_app (goodIn_of _ (by decide +kernel)) ggX3_writeBehind_X0_write
theorem dX3_writeBehind_0 : decode cX3_writeBehind 0 = .ok (.aload_n 0, 1) := by decide +kernel
theorem dX3_writeBehind_1 : decode cX3_writeBehind 1 = .ok (.iload_n 1, 1) := by decide +kernel
theorem dX3_writeBehind_2 : decode cX3_writeBehind 2 = .ok (.bipush 12, 2) := by decide +kernel
theorem dX3_writeBehind_4 : decode cX3_writeBehind 4 = .ok (.iadd, 1) := by decide +kernel
theorem dX3_writeBehind_5 : decode cX3_writeBehind 5 = .ok (.iconst 2, 1) := by decide +kernel
theorem dX3_writeBehind_6 : decode cX3_writeBehind 6 = .ok (.iload_n 2, 1) := by decide +kernel
theorem dX3_writeBehind_7 : decode cX3_writeBehind 7 = .ok (.iconst 1, 1) := by decide +kernel
theorem dX3_writeBehind_8 : decode cX3_writeBehind 8 = .ok (.iadd, 1) := by decide +kernel
theorem dX3_writeBehind_9 : decode cX3_writeBehind 9 = .ok (.i2l, 1) := by decide +kernel
theorem dX3_writeBehind_10 : decode cX3_writeBehind 10 = .ok (.invokevirtual 100, 3) := by decide +kernel
theorem dX3_writeBehind_13 : decode cX3_writeBehind 13 = .ok (.return_, 1) := by decide +kernel
set_option maxRecDepth 20000 in
theorem ggX3_readBehind_X0_read : GoodIn wsX3_readBehind wsX0_read := goodIn_r _ [5, 6, 7, 8, 9, 10, 11, 12] (by decide +kernel) (by decide +kernel)
set_option maxRecDepth 20000 in
theorem gX3_readBehind_X0_read : GoodIn wsX3_readBehind (wsV RX3 131 RX0 yX0_read wsX0_read) := goodIn_app (goodIn_of _ (by decide +kernel)) ggX3_readBehind_X0_read
theorem dX3_readBehind_0 : decode cX3_readBehind 0 = .ok (.aload_n 0, 1) := by decide +kernel
theorem dX3_readBehind_1 : decode cX3_readBehind 1 = .ok (.iload_n 1, 1) := by decide +kernel
theorem dX3_readBehind_2 : decode cX3_readBehind 2 = .ok (.bipush 12, 2) := by decide +kernel
theorem dX3_readBehind_4 : decode cX3_readBehind 4 = .ok (.iadd, 1) := by decide +kernel
theorem dX3_readBehind_5 : decode cX3_readBehind 5 = .ok (.iconst 2, 1) := by decide +kernel
theorem dX3_readBehind_6 : decode cX3_readBehind 6 = .ok (.invokevirtual 131, 3) := by decide +kernel
theorem dX3_readBehind_9 : decode cX3_readBehind 9 = .ok (.l2i, 1) := by decide +kernel
theorem dX3_readBehind_10 : decode cX3_readBehind 10 = .ok (.iconst 1, 1) := by decide +kernel
theorem dX3_readBehind_11 : decode cX3_readBehind 11 = .ok (.isub, 1) := by decide +kernel
theorem dX3_readBehind_12 : decode cX3_readBehind 12 = .ok (.ireturn, 1) := by decide +kernel
set_option maxRecDepth 20000 in
theorem ggX3_handSuits_X1_kindAt : GoodIn wsX3_handSuits wsX1_kindAt := goodIn_r _ [7, 8, 9, 10, 11, 26, 27, 28, 29] (by decide +kernel) (by decide +kernel)
set_option maxRecDepth 20000 in
theorem gX3_handSuits_X1_kindAt : GoodIn wsX3_handSuits (wsV RX3 149 RX1 yX1_kindAt wsX1_kindAt) := goodIn_app (goodIn_of _ (by decide +kernel)) ggX3_handSuits_X1_kindAt
set_option maxRecDepth 20000 in
theorem ggX3_handSuits_X2_typeAt : GoodIn wsX3_handSuits wsX2_typeAt := goodIn_r _ [16, 17, 18, 10, 19, 20, 21, 22] (by decide +kernel) (by decide +kernel)
set_option maxRecDepth 20000 in
theorem gX3_handSuits_X2_typeAt : GoodIn wsX3_handSuits (wsV RX3 199 RX2 yX2_typeAt wsX2_typeAt) := goodIn_app (goodIn_of _ (by decide +kernel)) ggX3_handSuits_X2_typeAt
theorem dX3_handSuits_0 : decode cX3_handSuits 0 = .ok (.iconst 0, 1) := by decide +kernel
theorem dX3_handSuits_1 : decode cX3_handSuits 1 = .ok (.istore_n 2, 1) := by decide +kernel
theorem dX3_handSuits_2 : decode cX3_handSuits 2 = .ok (.iload_n 2, 1) := by decide +kernel
theorem dX3_handSuits_3 : decode cX3_handSuits 3 = .ok (.aload_n 1, 1) := by decide +kernel
theorem dX3_handSuits_4 : decode cX3_handSuits 4 = .ok (.getfield 196, 3) := by decide +kernel
theorem dX3_handSuits_7 : decode cX3_handSuits 7 = .ok (.if_icmp .ge 55, 3) := by decide +kernel
theorem dX3_handSuits_10 : decode cX3_handSuits 10 = .ok (.aload_n 0, 1) := by decide +kernel
theorem dX3_handSuits_11 : decode cX3_handSuits 11 = .ok (.getfield 12, 3) := by decide +kernel
theorem dX3_handSuits_14 : decode cX3_handSuits 14 = .ok (.iload_n 2, 1) := by decide +kernel
theorem dX3_handSuits_15 : decode cX3_handSuits 15 = .ok (.invokevirtual 149, 3) := by decide +kernel
theorem dX3_handSuits_18 : decode cX3_handSuits 18 = .ok (.istore_n 3, 1) := by decide +kernel
theorem dX3_handSuits_19 : decode cX3_handSuits 19 = .ok (.aload_n 1, 1) := by decide +kernel
theorem dX3_handSuits_20 : decode cX3_handSuits 20 = .ok (.iload_n 2, 1) := by decide +kernel
theorem dX3_handSuits_21 : decode cX3_handSuits 21 = .ok (.invokevirtual 199, 3) := by decide +kernel
theorem dX3_handSuits_24 : decode cX3_handSuits 24 = .ok (.iconst 2, 1) := by decide +kernel
theorem dX3_handSuits_25 : decode cX3_handSuits 25 = .ok (.if_icmp .ne 7, 3) := by decide +kernel
theorem dX3_handSuits_28 : decode cX3_handSuits 28 = .ok (.iconst 1, 1) := by decide +kernel
theorem dX3_handSuits_29 : decode cX3_handSuits 29 = .ok (.goto 4, 3) := by decide +kernel
theorem dX3_handSuits_32 : decode cX3_handSuits 32 = .ok (.iconst 0, 1) := by decide +kernel
theorem dX3_handSuits_33 : decode cX3_handSuits 33 = .ok (.istore 4, 2) := by decide +kernel
theorem dX3_handSuits_35 : decode cX3_handSuits 35 = .ok (.iload_n 3, 1) := by decide +kernel
theorem dX3_handSuits_36 : decode cX3_handSuits 36 = .ok (.ifCond .eq 20, 3) := by decide +kernel
theorem dX3_handSuits_39 : decode cX3_handSuits 39 = .ok (.iload_n 3, 1) := by decide +kernel
theorem dX3_handSuits_40 : decode cX3_handSuits 40 = .ok (.iconst 2, 1) := by decide +kernel
theorem dX3_handSuits_41 : decode cX3_handSuits 41 = .ok (.if_icmp .ne 7, 3) := by decide +kernel
theorem dX3_handSuits_44 : decode cX3_handSuits 44 = .ok (.iconst 1, 1) := by decide +kernel
theorem dX3_handSuits_45 : decode cX3_handSuits 45 = .ok (.goto 4, 3) := by decide +kernel
theorem dX3_handSuits_48 : decode cX3_handSuits 48 = .ok (.iconst 0, 1) := by decide +kernel
theorem dX3_handSuits_49 : decode cX3_handSuits 49 = .ok (.iload 4, 2) := by decide +kernel
theorem dX3_handSuits_51 : decode cX3_handSuits 51 = .ok (.if_icmp .eq 5, 3) := by decide +kernel
theorem dX3_handSuits_54 : decode cX3_handSuits 54 = .ok (.iconst 0, 1) := by decide +kernel
theorem dX3_handSuits_55 : decode cX3_handSuits 55 = .ok (.ireturn, 1) := by decide +kernel
theorem dX3_handSuits_56 : decode cX3_handSuits 56 = .ok (.iinc 2 1, 3) := by decide +kernel
theorem dX3_handSuits_59 : decode cX3_handSuits 59 = .ok (.goto (-57), 3) := by decide +kernel
theorem dX3_handSuits_62 : decode cX3_handSuits 62 = .ok (.iconst 1, 1) := by decide +kernel
theorem dX3_handSuits_63 : decode cX3_handSuits 63 = .ok (.ireturn, 1) := by decide +kernel
set_option maxRecDepth 20000 in
theorem ggX3_sizeOfHand_X1_kindAt : GoodIn wsX3_sizeOfHand wsX1_kindAt := goodIn_r _ [7, 8, 9, 10, 11, 36, 37, 38, 39] (by decide +kernel) (by decide +kernel)
set_option maxRecDepth 20000 in
theorem gX3_sizeOfHand_X1_kindAt : GoodIn wsX3_sizeOfHand (wsV RX3 149 RX1 yX1_kindAt wsX1_kindAt) := goodIn_app (goodIn_of _ (by decide +kernel)) ggX3_sizeOfHand_X1_kindAt
set_option maxRecDepth 20000 in
theorem ggX3_sizeOfHand_X2_typeAt : GoodIn wsX3_sizeOfHand wsX2_typeAt := goodIn_r _ [16, 17, 18, 10, 19, 30, 31, 32] (by decide +kernel) (by decide +kernel)
set_option maxRecDepth 20000 in
theorem gX3_sizeOfHand_X2_typeAt : GoodIn wsX3_sizeOfHand (wsV RX3 199 RX2 yX2_typeAt wsX2_typeAt) := goodIn_app (goodIn_of _ (by decide +kernel)) ggX3_sizeOfHand_X2_typeAt
set_option maxRecDepth 20000 in
theorem ggX3_sizeOfHand_X3_cellBytes : GoodIn wsX3_sizeOfHand wsX3_cellBytes := goodIn_r _ [23, 2, 24, 25, 26, 6, 27, 28, 29, 4, 5, 7, 8, 9, 10, 11, 33, 34, 35, 36, 37, 38, 39] (by decide +kernel) (by decide +kernel)
set_option maxRecDepth 20000 in
theorem gX3_sizeOfHand_X3_cellBytes : GoodIn wsX3_sizeOfHand (wsV RX3 202 RX3 yX3_cellBytes wsX3_cellBytes) := goodIn_app (goodIn_of _ (by decide +kernel)) ggX3_sizeOfHand_X3_cellBytes
theorem dX3_sizeOfHand_0 : decode cX3_sizeOfHand 0 = .ok (.bipush 16, 2) := by decide +kernel
theorem dX3_sizeOfHand_2 : decode cX3_sizeOfHand 2 = .ok (.istore_n 2, 1) := by decide +kernel
theorem dX3_sizeOfHand_3 : decode cX3_sizeOfHand 3 = .ok (.iconst 0, 1) := by decide +kernel
theorem dX3_sizeOfHand_4 : decode cX3_sizeOfHand 4 = .ok (.istore_n 3, 1) := by decide +kernel
theorem dX3_sizeOfHand_5 : decode cX3_sizeOfHand 5 = .ok (.iload_n 3, 1) := by decide +kernel
theorem dX3_sizeOfHand_6 : decode cX3_sizeOfHand 6 = .ok (.aload_n 1, 1) := by decide +kernel
theorem dX3_sizeOfHand_7 : decode cX3_sizeOfHand 7 = .ok (.getfield 196, 3) := by decide +kernel
theorem dX3_sizeOfHand_10 : decode cX3_sizeOfHand 10 = .ok (.if_icmp .ge 33, 3) := by decide +kernel
theorem dX3_sizeOfHand_13 : decode cX3_sizeOfHand 13 = .ok (.aload_n 0, 1) := by decide +kernel
theorem dX3_sizeOfHand_14 : decode cX3_sizeOfHand 14 = .ok (.getfield 12, 3) := by decide +kernel
theorem dX3_sizeOfHand_17 : decode cX3_sizeOfHand 17 = .ok (.iload_n 3, 1) := by decide +kernel
theorem dX3_sizeOfHand_18 : decode cX3_sizeOfHand 18 = .ok (.invokevirtual 149, 3) := by decide +kernel
theorem dX3_sizeOfHand_21 : decode cX3_sizeOfHand 21 = .ok (.ifCond .eq 16, 3) := by decide +kernel
theorem dX3_sizeOfHand_24 : decode cX3_sizeOfHand 24 = .ok (.iload_n 2, 1) := by decide +kernel
theorem dX3_sizeOfHand_25 : decode cX3_sizeOfHand 25 = .ok (.aload_n 0, 1) := by decide +kernel
theorem dX3_sizeOfHand_26 : decode cX3_sizeOfHand 26 = .ok (.aload_n 1, 1) := by decide +kernel
theorem dX3_sizeOfHand_27 : decode cX3_sizeOfHand 27 = .ok (.iload_n 3, 1) := by decide +kernel
theorem dX3_sizeOfHand_28 : decode cX3_sizeOfHand 28 = .ok (.invokevirtual 199, 3) := by decide +kernel
theorem dX3_sizeOfHand_31 : decode cX3_sizeOfHand 31 = .ok (.iload_n 3, 1) := by decide +kernel
theorem dX3_sizeOfHand_32 : decode cX3_sizeOfHand 32 = .ok (.invokevirtual 202, 3) := by decide +kernel
theorem dX3_sizeOfHand_35 : decode cX3_sizeOfHand 35 = .ok (.iadd, 1) := by decide +kernel
theorem dX3_sizeOfHand_36 : decode cX3_sizeOfHand 36 = .ok (.istore_n 2, 1) := by decide +kernel
theorem dX3_sizeOfHand_37 : decode cX3_sizeOfHand 37 = .ok (.iinc 3 1, 3) := by decide +kernel
theorem dX3_sizeOfHand_40 : decode cX3_sizeOfHand 40 = .ok (.goto (-35), 3) := by decide +kernel
theorem dX3_sizeOfHand_43 : decode cX3_sizeOfHand 43 = .ok (.iload_n 2, 1) := by decide +kernel
theorem dX3_sizeOfHand_44 : decode cX3_sizeOfHand 44 = .ok (.ireturn, 1) := by decide +kernel
set_option maxRecDepth 20000 in
theorem ggX3_cellBytes_X1_lengthAt : GoodIn wsX3_cellBytes wsX1_lengthAt := goodIn_r _ [6, 7, 8, 9, 10, 5, 11, 12, 13, 14, 15, 19, 20, 21, 22] (by decide +kernel) (by decide +kernel)
set_option maxRecDepth 20000 in
theorem gX3_cellBytes_X1_lengthAt : GoodIn wsX3_cellBytes (wsV RX3 66 RX1 yX1_lengthAt wsX1_lengthAt) := goodIn_app (goodIn_of _ (by decide +kernel)) ggX3_cellBytes_X1_lengthAt
theorem dX3_cellBytes_0 : decode cX3_cellBytes 0 = .ok (.iload_n 1, 1) := by decide +kernel
theorem dX3_cellBytes_1 : decode cX3_cellBytes 1 = .ok (.lookupswitch 41 #[(1, 27), (2, 30)], 27) := by decide +kernel
theorem dX3_cellBytes_28 : decode cX3_cellBytes 28 = .ok (.bipush 8, 2) := by decide +kernel
theorem dX3_cellBytes_30 : decode cX3_cellBytes 30 = .ok (.ireturn, 1) := by decide +kernel
theorem dX3_cellBytes_31 : decode cX3_cellBytes 31 = .ok (.iconst 1, 1) := by decide +kernel
theorem dX3_cellBytes_32 : decode cX3_cellBytes 32 = .ok (.aload_n 0, 1) := by decide +kernel
theorem dX3_cellBytes_33 : decode cX3_cellBytes 33 = .ok (.getfield 12, 3) := by decide +kernel
theorem dX3_cellBytes_36 : decode cX3_cellBytes 36 = .ok (.iload_n 2, 1) := by decide +kernel
theorem dX3_cellBytes_37 : decode cX3_cellBytes 37 = .ok (.invokevirtual 66, 3) := by decide +kernel
theorem dX3_cellBytes_40 : decode cX3_cellBytes 40 = .ok (.iadd, 1) := by decide +kernel
theorem dX3_cellBytes_41 : decode cX3_cellBytes 41 = .ok (.ireturn, 1) := by decide +kernel
theorem dX3_cellBytes_42 : decode cX3_cellBytes 42 = .ok (.iconst 1, 1) := by decide +kernel
theorem dX3_cellBytes_43 : decode cX3_cellBytes 43 = .ok (.ireturn, 1) := by decide +kernel
set_option maxRecDepth 20000 in
theorem ggX3_packHand_X1_kindAt : GoodIn wsX3_packHand wsX1_kindAt := goodIn_r _ [7, 8, 9, 10, 11, 56, 57, 58, 59] (by decide +kernel) (by decide +kernel)
set_option maxRecDepth 20000 in
theorem gX3_packHand_X1_kindAt : GoodIn wsX3_packHand (wsV RX3 149 RX1 yX1_kindAt wsX1_kindAt) := goodIn_app (goodIn_of _ (by decide +kernel)) ggX3_packHand_X1_kindAt
set_option maxRecDepth 20000 in
theorem ggX3_packHand_X2_typeAt : GoodIn wsX3_packHand wsX2_typeAt := goodIn_r _ [16, 17, 18, 10, 19, 50, 51, 52] (by decide +kernel) (by decide +kernel)
set_option maxRecDepth 20000 in
theorem gX3_packHand_X2_typeAt : GoodIn wsX3_packHand (wsV RX3 199 RX2 yX2_typeAt wsX2_typeAt) := goodIn_app (goodIn_of _ (by decide +kernel)) ggX3_packHand_X2_typeAt
set_option maxRecDepth 20000 in
theorem ggX3_packHand_X3_packCell : GoodIn wsX3_packHand wsX3_packCell := goodIn_r _ [23, 2, 24, 25, 26, 6, 27, 28, 29, 4, 5, 7, 8, 9, 10, 11, 30, 31, 32, 33, 34, 35, 36, 37, 38, 39, 40, 41, 42, 43, 44, 45, 46, 47, 48, 49, 53, 54, 55, 56, 57, 58, 59, 60, 61, 62, 63, 64, 65] (by decide +kernel) (by decide +kernel)
set_option maxRecDepth 20000 in
theorem gX3_packHand_X3_packCell : GoodIn wsX3_packHand (wsV RX3 205 RX3 yX3_packCell wsX3_packCell) := goodIn_app (goodIn_of _ (by decide +kernel)) ggX3_packHand_X3_packCell
set_option maxRecDepth 20000 in
theorem ggX3_packHand_X0_write : GoodIn wsX3_packHand wsX0_write := goodIn_r _ [34, 35, 60, 61, 62, 63, 64, 65] (by decide +kernel) (by decide +kernel)
set_option maxRecDepth 20000 in
theorem gX3_packHand_X0_write : GoodIn wsX3_packHand (wsV RX3 100 RX0 yX0_write wsX0_write) := goodIn_app (goodIn_of _ (by decide +kernel)) ggX3_packHand_X0_write
theorem dX3_packHand_0 : decode cX3_packHand 0 = .ok (.iload_n 3, 1) := by decide +kernel
theorem dX3_packHand_1 : decode cX3_packHand 1 = .ok (.bipush 16, 2) := by decide +kernel
theorem dX3_packHand_3 : decode cX3_packHand 3 = .ok (.iadd, 1) := by decide +kernel
theorem dX3_packHand_4 : decode cX3_packHand 4 = .ok (.istore 4, 2) := by decide +kernel
theorem dX3_packHand_6 : decode cX3_packHand 6 = .ok (.iconst 0, 1) := by decide +kernel
theorem dX3_packHand_7 : decode cX3_packHand 7 = .ok (.istore 5, 2) := by decide +kernel
theorem dX3_packHand_9 : decode cX3_packHand 9 = .ok (.iconst 0, 1) := by decide +kernel
theorem dX3_packHand_10 : decode cX3_packHand 10 = .ok (.istore 6, 2) := by decide +kernel
theorem dX3_packHand_12 : decode cX3_packHand 12 = .ok (.iload 6, 2) := by decide +kernel
theorem dX3_packHand_14 : decode cX3_packHand 14 = .ok (.aload_n 1, 1) := by decide +kernel
theorem dX3_packHand_15 : decode cX3_packHand 15 = .ok (.getfield 196, 3) := by decide +kernel
theorem dX3_packHand_18 : decode cX3_packHand 18 = .ok (.if_icmp .ge 47, 3) := by decide +kernel
theorem dX3_packHand_21 : decode cX3_packHand 21 = .ok (.aload_n 0, 1) := by decide +kernel
theorem dX3_packHand_22 : decode cX3_packHand 22 = .ok (.getfield 12, 3) := by decide +kernel
theorem dX3_packHand_25 : decode cX3_packHand 25 = .ok (.iload 6, 2) := by decide +kernel
theorem dX3_packHand_27 : decode cX3_packHand 27 = .ok (.invokevirtual 149, 3) := by decide +kernel
theorem dX3_packHand_30 : decode cX3_packHand 30 = .ok (.ifCond .eq 29, 3) := by decide +kernel
theorem dX3_packHand_33 : decode cX3_packHand 33 = .ok (.iload 5, 2) := by decide +kernel
theorem dX3_packHand_35 : decode cX3_packHand 35 = .ok (.iconst 1, 1) := by decide +kernel
theorem dX3_packHand_36 : decode cX3_packHand 36 = .ok (.iload 6, 2) := by decide +kernel
theorem dX3_packHand_38 : decode cX3_packHand 38 = .ok (.ishl, 1) := by decide +kernel
theorem dX3_packHand_39 : decode cX3_packHand 39 = .ok (.ior, 1) := by decide +kernel
theorem dX3_packHand_40 : decode cX3_packHand 40 = .ok (.istore 5, 2) := by decide +kernel
theorem dX3_packHand_42 : decode cX3_packHand 42 = .ok (.aload_n 0, 1) := by decide +kernel
theorem dX3_packHand_43 : decode cX3_packHand 43 = .ok (.aload_n 1, 1) := by decide +kernel
theorem dX3_packHand_44 : decode cX3_packHand 44 = .ok (.iload 6, 2) := by decide +kernel
theorem dX3_packHand_46 : decode cX3_packHand 46 = .ok (.invokevirtual 199, 3) := by decide +kernel
theorem dX3_packHand_49 : decode cX3_packHand 49 = .ok (.iload 6, 2) := by decide +kernel
theorem dX3_packHand_51 : decode cX3_packHand 51 = .ok (.aload_n 2, 1) := by decide +kernel
theorem dX3_packHand_52 : decode cX3_packHand 52 = .ok (.iload 4, 2) := by decide +kernel
theorem dX3_packHand_54 : decode cX3_packHand 54 = .ok (.invokevirtual 205, 3) := by decide +kernel
theorem dX3_packHand_57 : decode cX3_packHand 57 = .ok (.istore 4, 2) := by decide +kernel
theorem dX3_packHand_59 : decode cX3_packHand 59 = .ok (.iinc 6 1, 3) := by decide +kernel
theorem dX3_packHand_62 : decode cX3_packHand 62 = .ok (.goto (-50), 3) := by decide +kernel
theorem dX3_packHand_65 : decode cX3_packHand 65 = .ok (.aload_n 2, 1) := by decide +kernel
theorem dX3_packHand_66 : decode cX3_packHand 66 = .ok (.iload_n 3, 1) := by decide +kernel
theorem dX3_packHand_67 : decode cX3_packHand 67 = .ok (.bipush 14, 2) := by decide +kernel
theorem dX3_packHand_69 : decode cX3_packHand 69 = .ok (.iadd, 1) := by decide +kernel
theorem dX3_packHand_70 : decode cX3_packHand 70 = .ok (.iconst 1, 1) := by decide +kernel
theorem dX3_packHand_71 : decode cX3_packHand 71 = .ok (.iload 5, 2) := by decide +kernel
theorem dX3_packHand_73 : decode cX3_packHand 73 = .ok (.i2l, 1) := by decide +kernel
theorem dX3_packHand_74 : decode cX3_packHand 74 = .ok (.invokevirtual 100, 3) := by decide +kernel
theorem dX3_packHand_77 : decode cX3_packHand 77 = .ok (.return_, 1) := by decide +kernel
set_option maxRecDepth 20000 in
theorem ggX3_packCell_X1_numberAt : GoodIn wsX3_packCell wsX1_numberAt := goodIn_r _ [6, 7, 8, 9, 10, 5, 11, 12, 13, 14, 15, 39, 40, 41, 42] (by decide +kernel) (by decide +kernel)
set_option maxRecDepth 20000 in
theorem gX3_packCell_X1_numberAt : GoodIn wsX3_packCell (wsV RX3 152 RX1 yX1_numberAt wsX1_numberAt) := goodIn_app (goodIn_of _ (by decide +kernel)) ggX3_packCell_X1_numberAt
set_option maxRecDepth 20000 in
theorem ggX3_packCell_X0_write : GoodIn wsX3_packCell wsX0_write := goodIn_r _ [20, 21, 43, 44, 45, 46, 47, 48] (by decide +kernel) (by decide +kernel)
set_option maxRecDepth 20000 in
theorem gX3_packCell_X0_write : GoodIn wsX3_packCell (wsV RX3 100 RX0 yX0_write wsX0_write) := goodIn_app (goodIn_of _ (by decide +kernel)) ggX3_packCell_X0_write
set_option maxRecDepth 20000 in
theorem ggX3_packCell_X3_packText : GoodIn wsX3_packCell wsX3_packText := goodIn_r _ [25, 1, 26, 27, 28, 5, 29, 30, 8, 9, 10, 11, 12, 13, 14, 15, 16, 17, 18, 19, 20, 21, 31, 32, 33, 34, 35, 36, 37, 38, 39, 40, 41, 42, 43, 44, 45, 46, 47, 48] (by decide +kernel) (by decide +kernel)
set_option maxRecDepth 20000 in
theorem gX3_packCell_X3_packText : GoodIn wsX3_packCell (wsV RX3 209 RX3 yX3_packText wsX3_packText) := goodIn_app (goodIn_of _ (by decide +kernel)) ggX3_packCell_X3_packText
theorem dX3_packCell_0 : decode cX3_packCell 0 = .ok (.iload_n 1, 1) := by decide +kernel
theorem dX3_packCell_1 : decode cX3_packCell 1 = .ok (.lookupswitch 58 #[(1, 27), (2, 49)], 27) := by decide +kernel
theorem dX3_packCell_28 : decode cX3_packCell 28 = .ok (.aload_n 3, 1) := by decide +kernel
theorem dX3_packCell_29 : decode cX3_packCell 29 = .ok (.iload 4, 2) := by decide +kernel
theorem dX3_packCell_31 : decode cX3_packCell 31 = .ok (.bipush 8, 2) := by decide +kernel
theorem dX3_packCell_33 : decode cX3_packCell 33 = .ok (.aload_n 0, 1) := by decide +kernel
theorem dX3_packCell_34 : decode cX3_packCell 34 = .ok (.getfield 12, 3) := by decide +kernel
theorem dX3_packCell_37 : decode cX3_packCell 37 = .ok (.iload_n 2, 1) := by decide +kernel
theorem dX3_packCell_38 : decode cX3_packCell 38 = .ok (.invokevirtual 152, 3) := by decide +kernel
theorem dX3_packCell_41 : decode cX3_packCell 41 = .ok (.invokevirtual 100, 3) := by decide +kernel
theorem dX3_packCell_44 : decode cX3_packCell 44 = .ok (.iload 4, 2) := by decide +kernel
theorem dX3_packCell_46 : decode cX3_packCell 46 = .ok (.bipush 8, 2) := by decide +kernel
theorem dX3_packCell_48 : decode cX3_packCell 48 = .ok (.iadd, 1) := by decide +kernel
theorem dX3_packCell_49 : decode cX3_packCell 49 = .ok (.ireturn, 1) := by decide +kernel
theorem dX3_packCell_50 : decode cX3_packCell 50 = .ok (.aload_n 0, 1) := by decide +kernel
theorem dX3_packCell_51 : decode cX3_packCell 51 = .ok (.iload_n 2, 1) := by decide +kernel
theorem dX3_packCell_52 : decode cX3_packCell 52 = .ok (.aload_n 3, 1) := by decide +kernel
theorem dX3_packCell_53 : decode cX3_packCell 53 = .ok (.iload 4, 2) := by decide +kernel
theorem dX3_packCell_55 : decode cX3_packCell 55 = .ok (.invokevirtual 209, 3) := by decide +kernel
theorem dX3_packCell_58 : decode cX3_packCell 58 = .ok (.ireturn, 1) := by decide +kernel
theorem dX3_packCell_59 : decode cX3_packCell 59 = .ok (.aload_n 3, 1) := by decide +kernel
theorem dX3_packCell_60 : decode cX3_packCell 60 = .ok (.iload 4, 2) := by decide +kernel
theorem dX3_packCell_62 : decode cX3_packCell 62 = .ok (.iconst 1, 1) := by decide +kernel
theorem dX3_packCell_63 : decode cX3_packCell 63 = .ok (.aload_n 0, 1) := by decide +kernel
theorem dX3_packCell_64 : decode cX3_packCell 64 = .ok (.getfield 12, 3) := by decide +kernel
theorem dX3_packCell_67 : decode cX3_packCell 67 = .ok (.iload_n 2, 1) := by decide +kernel
theorem dX3_packCell_68 : decode cX3_packCell 68 = .ok (.invokevirtual 152, 3) := by decide +kernel
theorem dX3_packCell_71 : decode cX3_packCell 71 = .ok (.lconst 0, 1) := by decide +kernel
theorem dX3_packCell_72 : decode cX3_packCell 72 = .ok (.lcmp, 1) := by decide +kernel
theorem dX3_packCell_73 : decode cX3_packCell 73 = .ok (.ifCond .ne 7, 3) := by decide +kernel
theorem dX3_packCell_76 : decode cX3_packCell 76 = .ok (.lconst 0, 1) := by decide +kernel
theorem dX3_packCell_77 : decode cX3_packCell 77 = .ok (.goto 4, 3) := by decide +kernel
theorem dX3_packCell_80 : decode cX3_packCell 80 = .ok (.lconst 1, 1) := by decide +kernel
theorem dX3_packCell_81 : decode cX3_packCell 81 = .ok (.invokevirtual 100, 3) := by decide +kernel
theorem dX3_packCell_84 : decode cX3_packCell 84 = .ok (.iload 4, 2) := by decide +kernel
theorem dX3_packCell_86 : decode cX3_packCell 86 = .ok (.iconst 1, 1) := by decide +kernel
theorem dX3_packCell_87 : decode cX3_packCell 87 = .ok (.iadd, 1) := by decide +kernel
theorem dX3_packCell_88 : decode cX3_packCell 88 = .ok (.ireturn, 1) := by decide +kernel
set_option maxRecDepth 20000 in
theorem ggX3_packText_X1_lengthAt : GoodIn wsX3_packText wsX1_lengthAt := goodIn_r _ [6, 7, 8, 9, 10, 5, 11, 12, 13, 14, 15, 30, 31, 32, 33] (by decide +kernel) (by decide +kernel)
set_option maxRecDepth 20000 in
theorem gX3_packText_X1_lengthAt : GoodIn wsX3_packText (wsV RX3 66 RX1 yX1_lengthAt wsX1_lengthAt) := goodIn_app (goodIn_of _ (by decide +kernel)) ggX3_packText_X1_lengthAt
set_option maxRecDepth 20000 in
theorem ggX3_packText_X0_write : GoodIn wsX3_packText wsX0_write := goodIn_r _ [20, 21, 34, 35, 36, 37, 38, 39] (by decide +kernel) (by decide +kernel)
set_option maxRecDepth 20000 in
theorem gX3_packText_X0_write : GoodIn wsX3_packText (wsV RX3 100 RX0 yX0_write wsX0_write) := goodIn_app (goodIn_of _ (by decide +kernel)) ggX3_packText_X0_write
set_option maxRecDepth 20000 in
theorem ggX3_packText_X1_letterAt : GoodIn wsX3_packText wsX1_letterAt := goodIn_r _ [25, 7, 26, 8, 9, 10, 5, 11, 12, 13, 14, 15, 30, 31, 32, 33] (by decide +kernel) (by decide +kernel)
set_option maxRecDepth 20000 in
theorem gX3_packText_X1_letterAt : GoodIn wsX3_packText (wsV RX3 156 RX1 yX1_letterAt wsX1_letterAt) := goodIn_app (goodIn_of _ (by decide +kernel)) ggX3_packText_X1_letterAt
theorem dX3_packText_0 : decode cX3_packText 0 = .ok (.aload_n 0, 1) := by decide +kernel
theorem dX3_packText_1 : decode cX3_packText 1 = .ok (.getfield 12, 3) := by decide +kernel
theorem dX3_packText_4 : decode cX3_packText 4 = .ok (.iload_n 1, 1) := by decide +kernel
theorem dX3_packText_5 : decode cX3_packText 5 = .ok (.invokevirtual 66, 3) := by decide +kernel
theorem dX3_packText_8 : decode cX3_packText 8 = .ok (.istore 4, 2) := by decide +kernel
theorem dX3_packText_10 : decode cX3_packText 10 = .ok (.aload_n 2, 1) := by decide +kernel
theorem dX3_packText_11 : decode cX3_packText 11 = .ok (.iload_n 3, 1) := by decide +kernel
theorem dX3_packText_12 : decode cX3_packText 12 = .ok (.iconst 1, 1) := by decide +kernel
theorem dX3_packText_13 : decode cX3_packText 13 = .ok (.iload 4, 2) := by decide +kernel
theorem dX3_packText_15 : decode cX3_packText 15 = .ok (.i2l, 1) := by decide +kernel
theorem dX3_packText_16 : decode cX3_packText 16 = .ok (.invokevirtual 100, 3) := by decide +kernel
theorem dX3_packText_19 : decode cX3_packText 19 = .ok (.iconst 0, 1) := by decide +kernel
theorem dX3_packText_20 : decode cX3_packText 20 = .ok (.istore 5, 2) := by decide +kernel
theorem dX3_packText_22 : decode cX3_packText 22 = .ok (.iload 5, 2) := by decide +kernel
theorem dX3_packText_24 : decode cX3_packText 24 = .ok (.iload 4, 2) := by decide +kernel
theorem dX3_packText_26 : decode cX3_packText 26 = .ok (.if_icmp .ge 31, 3) := by decide +kernel
theorem dX3_packText_29 : decode cX3_packText 29 = .ok (.aload_n 2, 1) := by decide +kernel
theorem dX3_packText_30 : decode cX3_packText 30 = .ok (.iload_n 3, 1) := by decide +kernel
theorem dX3_packText_31 : decode cX3_packText 31 = .ok (.iconst 1, 1) := by decide +kernel
theorem dX3_packText_32 : decode cX3_packText 32 = .ok (.iadd, 1) := by decide +kernel
theorem dX3_packText_33 : decode cX3_packText 33 = .ok (.iload 5, 2) := by decide +kernel
theorem dX3_packText_35 : decode cX3_packText 35 = .ok (.iadd, 1) := by decide +kernel
theorem dX3_packText_36 : decode cX3_packText 36 = .ok (.iconst 1, 1) := by decide +kernel
theorem dX3_packText_37 : decode cX3_packText 37 = .ok (.aload_n 0, 1) := by decide +kernel
theorem dX3_packText_38 : decode cX3_packText 38 = .ok (.getfield 12, 3) := by decide +kernel
theorem dX3_packText_41 : decode cX3_packText 41 = .ok (.iload_n 1, 1) := by decide +kernel
theorem dX3_packText_42 : decode cX3_packText 42 = .ok (.iload 5, 2) := by decide +kernel
theorem dX3_packText_44 : decode cX3_packText 44 = .ok (.invokevirtual 156, 3) := by decide +kernel
theorem dX3_packText_47 : decode cX3_packText 47 = .ok (.i2l, 1) := by decide +kernel
theorem dX3_packText_48 : decode cX3_packText 48 = .ok (.invokevirtual 100, 3) := by decide +kernel
theorem dX3_packText_51 : decode cX3_packText 51 = .ok (.iinc 5 1, 3) := by decide +kernel
theorem dX3_packText_54 : decode cX3_packText 54 = .ok (.goto (-32), 3) := by decide +kernel
theorem dX3_packText_57 : decode cX3_packText 57 = .ok (.iload_n 3, 1) := by decide +kernel
theorem dX3_packText_58 : decode cX3_packText 58 = .ok (.iconst 1, 1) := by decide +kernel
theorem dX3_packText_59 : decode cX3_packText 59 = .ok (.iadd, 1) := by decide +kernel
theorem dX3_packText_60 : decode cX3_packText 60 = .ok (.iload 4, 2) := by decide +kernel
theorem dX3_packText_62 : decode cX3_packText 62 = .ok (.iadd, 1) := by decide +kernel
theorem dX3_packText_63 : decode cX3_packText 63 = .ok (.ireturn, 1) := by decide +kernel
set_option maxRecDepth 20000 in
theorem ggX3_unpackToHand_X0_read : GoodIn wsX3_unpackToHand wsX0_read := goodIn_r _ [6, 7, 52, 53, 54, 55, 56, 57] (by decide +kernel) (by decide +kernel)
set_option maxRecDepth 20000 in
theorem gX3_unpackToHand_X0_read : GoodIn wsX3_unpackToHand (wsV RX3 131 RX0 yX0_read wsX0_read) := goodIn_app (goodIn_of _ (by decide +kernel)) ggX3_unpackToHand_X0_read
set_option maxRecDepth 20000 in
theorem ggX3_unpackToHand_X2_typeAt : GoodIn wsX3_unpackToHand wsX2_typeAt := goodIn_r _ [12, 13, 14, 15, 16, 49, 50, 51] (by decide +kernel) (by decide +kernel)
set_option maxRecDepth 20000 in
theorem gX3_unpackToHand_X2_typeAt : GoodIn wsX3_unpackToHand (wsV RX3 199 RX2 yX2_typeAt wsX2_typeAt) := goodIn_app (goodIn_of _ (by decide +kernel)) ggX3_unpackToHand_X2_typeAt
set_option maxRecDepth 20000 in
theorem ggX3_unpackToHand_X3_unpackCell : GoodIn wsX3_unpackToHand wsX3_unpackCell := goodIn_r _ [20, 21, 2, 3, 4, 5, 6, 7, 22, 23, 24, 25, 26, 27, 28, 29, 15, 30, 31, 32, 33, 34, 35, 36, 37, 38, 39, 40, 41, 42, 43, 44, 45, 46, 47, 48, 58, 59, 60, 52, 53, 54, 55, 56, 57, 61, 62, 63, 64] (by decide +kernel) (by decide +kernel)
set_option maxRecDepth 20000 in
theorem gX3_unpackToHand_X3_unpackCell : GoodIn wsX3_unpackToHand (wsV RX3 213 RX3 yX3_unpackCell wsX3_unpackCell) := goodIn_app (goodIn_of _ (by decide +kernel)) ggX3_unpackToHand_X3_unpackCell
theorem dX3_unpackToHand_0 : decode cX3_unpackToHand 0 = .ok (.iload_n 3, 1) := by decide +kernel
theorem dX3_unpackToHand_1 : decode cX3_unpackToHand 1 = .ok (.bipush 16, 2) := by decide +kernel
theorem dX3_unpackToHand_3 : decode cX3_unpackToHand 3 = .ok (.iadd, 1) := by decide +kernel
theorem dX3_unpackToHand_4 : decode cX3_unpackToHand 4 = .ok (.istore 4, 2) := by decide +kernel
theorem dX3_unpackToHand_6 : decode cX3_unpackToHand 6 = .ok (.aload_n 2, 1) := by decide +kernel
theorem dX3_unpackToHand_7 : decode cX3_unpackToHand 7 = .ok (.iload_n 3, 1) := by decide +kernel
theorem dX3_unpackToHand_8 : decode cX3_unpackToHand 8 = .ok (.bipush 14, 2) := by decide +kernel
theorem dX3_unpackToHand_10 : decode cX3_unpackToHand 10 = .ok (.iadd, 1) := by decide +kernel
theorem dX3_unpackToHand_11 : decode cX3_unpackToHand 11 = .ok (.iconst 1, 1) := by decide +kernel
theorem dX3_unpackToHand_12 : decode cX3_unpackToHand 12 = .ok (.invokevirtual 131, 3) := by decide +kernel
theorem dX3_unpackToHand_15 : decode cX3_unpackToHand 15 = .ok (.l2i, 1) := by decide +kernel
theorem dX3_unpackToHand_16 : decode cX3_unpackToHand 16 = .ok (.istore 5, 2) := by decide +kernel
theorem dX3_unpackToHand_18 : decode cX3_unpackToHand 18 = .ok (.iconst 0, 1) := by decide +kernel
theorem dX3_unpackToHand_19 : decode cX3_unpackToHand 19 = .ok (.istore 6, 2) := by decide +kernel
theorem dX3_unpackToHand_21 : decode cX3_unpackToHand 21 = .ok (.iload 6, 2) := by decide +kernel
theorem dX3_unpackToHand_23 : decode cX3_unpackToHand 23 = .ok (.aload_n 1, 1) := by decide +kernel
theorem dX3_unpackToHand_24 : decode cX3_unpackToHand 24 = .ok (.getfield 196, 3) := by decide +kernel
theorem dX3_unpackToHand_27 : decode cX3_unpackToHand 27 = .ok (.if_icmp .ge 37, 3) := by decide +kernel
theorem dX3_unpackToHand_30 : decode cX3_unpackToHand 30 = .ok (.iload 5, 2) := by decide +kernel
theorem dX3_unpackToHand_32 : decode cX3_unpackToHand 32 = .ok (.iload 6, 2) := by decide +kernel
theorem dX3_unpackToHand_34 : decode cX3_unpackToHand 34 = .ok (.ishr, 1) := by decide +kernel
theorem dX3_unpackToHand_35 : decode cX3_unpackToHand 35 = .ok (.iconst 1, 1) := by decide +kernel
theorem dX3_unpackToHand_36 : decode cX3_unpackToHand 36 = .ok (.iand, 1) := by decide +kernel
theorem dX3_unpackToHand_37 : decode cX3_unpackToHand 37 = .ok (.iconst 1, 1) := by decide +kernel
theorem dX3_unpackToHand_38 : decode cX3_unpackToHand 38 = .ok (.if_icmp .ne 20, 3) := by decide +kernel
theorem dX3_unpackToHand_41 : decode cX3_unpackToHand 41 = .ok (.aload_n 0, 1) := by decide +kernel
theorem dX3_unpackToHand_42 : decode cX3_unpackToHand 42 = .ok (.aload_n 1, 1) := by decide +kernel
theorem dX3_unpackToHand_43 : decode cX3_unpackToHand 43 = .ok (.iload 6, 2) := by decide +kernel
theorem dX3_unpackToHand_45 : decode cX3_unpackToHand 45 = .ok (.invokevirtual 199, 3) := by decide +kernel
theorem dX3_unpackToHand_48 : decode cX3_unpackToHand 48 = .ok (.iload 6, 2) := by decide +kernel
theorem dX3_unpackToHand_50 : decode cX3_unpackToHand 50 = .ok (.aload_n 2, 1) := by decide +kernel
theorem dX3_unpackToHand_51 : decode cX3_unpackToHand 51 = .ok (.iload 4, 2) := by decide +kernel
theorem dX3_unpackToHand_53 : decode cX3_unpackToHand 53 = .ok (.invokevirtual 213, 3) := by decide +kernel
theorem dX3_unpackToHand_56 : decode cX3_unpackToHand 56 = .ok (.istore 4, 2) := by decide +kernel
theorem dX3_unpackToHand_58 : decode cX3_unpackToHand 58 = .ok (.iinc 6 1, 3) := by decide +kernel
theorem dX3_unpackToHand_61 : decode cX3_unpackToHand 61 = .ok (.goto (-40), 3) := by decide +kernel
theorem dX3_unpackToHand_64 : decode cX3_unpackToHand 64 = .ok (.return_, 1) := by decide +kernel
set_option maxRecDepth 20000 in
theorem ggX3_unpackCell_X0_read : GoodIn wsX3_unpackCell wsX0_read := goodIn_r _ [6, 7, 39, 40, 41, 42, 43, 44] (by decide +kernel) (by decide +kernel)
set_option maxRecDepth 20000 in
theorem gX3_unpackCell_X0_read : GoodIn wsX3_unpackCell (wsV RX3 131 RX0 yX0_read wsX0_read) := goodIn_app (goodIn_of _ (by decide +kernel)) ggX3_unpackCell_X0_read
set_option maxRecDepth 20000 in
theorem ggX3_unpackCell_X1_setNumber : GoodIn wsX3_unpackCell wsX1_setNumber := goodIn_r _ [12, 13, 14, 15, 16, 17, 45, 46, 47, 48] (by decide +kernel) (by decide +kernel)
set_option maxRecDepth 20000 in
theorem gX3_unpackCell_X1_setNumber : GoodIn wsX3_unpackCell (wsV RX3 62 RX1 yX1_setNumber wsX1_setNumber) := goodIn_app (goodIn_of _ (by decide +kernel)) ggX3_unpackCell_X1_setNumber
set_option maxRecDepth 20000 in
theorem ggX3_unpackCell_X3_unpackText : GoodIn wsX3_unpackCell wsX3_unpackText := goodIn_r _ [21, 1, 2, 3, 4, 5, 6, 7, 22, 23, 24, 11, 25, 13, 26, 15, 16, 17, 27, 28, 29, 30, 31, 32, 33, 34, 35, 36, 37, 38, 39, 40, 41, 42, 43, 44, 45, 46, 47, 48] (by decide +kernel) (by decide +kernel)
set_option maxRecDepth 20000 in
theorem gX3_unpackCell_X3_unpackText : GoodIn wsX3_unpackCell (wsV RX3 216 RX3 yX3_unpackText wsX3_unpackText) := goodIn_app (goodIn_of _ (by decide +kernel)) ggX3_unpackCell_X3_unpackText
theorem dX3_unpackCell_0 : decode cX3_unpackCell 0 = .ok (.iload_n 1, 1) := by decide +kernel
theorem dX3_unpackCell_1 : decode cX3_unpackCell 1 = .ok (.lookupswitch 58 #[(1, 27), (2, 49)], 27) := by decide +kernel
theorem dX3_unpackCell_28 : decode cX3_unpackCell 28 = .ok (.aload_n 0, 1) := by decide +kernel
theorem dX3_unpackCell_29 : decode cX3_unpackCell 29 = .ok (.getfield 12, 3) := by decide +kernel
theorem dX3_unpackCell_32 : decode cX3_unpackCell 32 = .ok (.iload_n 2, 1) := by decide +kernel
theorem dX3_unpackCell_33 : decode cX3_unpackCell 33 = .ok (.aload_n 3, 1) := by decide +kernel
theorem dX3_unpackCell_34 : decode cX3_unpackCell 34 = .ok (.iload 4, 2) := by decide +kernel
theorem dX3_unpackCell_36 : decode cX3_unpackCell 36 = .ok (.bipush 8, 2) := by decide +kernel
theorem dX3_unpackCell_38 : decode cX3_unpackCell 38 = .ok (.invokevirtual 131, 3) := by decide +kernel
theorem dX3_unpackCell_41 : decode cX3_unpackCell 41 = .ok (.invokevirtual 62, 3) := by decide +kernel
theorem dX3_unpackCell_44 : decode cX3_unpackCell 44 = .ok (.iload 4, 2) := by decide +kernel
theorem dX3_unpackCell_46 : decode cX3_unpackCell 46 = .ok (.bipush 8, 2) := by decide +kernel
theorem dX3_unpackCell_48 : decode cX3_unpackCell 48 = .ok (.iadd, 1) := by decide +kernel
theorem dX3_unpackCell_49 : decode cX3_unpackCell 49 = .ok (.ireturn, 1) := by decide +kernel
theorem dX3_unpackCell_50 : decode cX3_unpackCell 50 = .ok (.aload_n 0, 1) := by decide +kernel
theorem dX3_unpackCell_51 : decode cX3_unpackCell 51 = .ok (.iload_n 2, 1) := by decide +kernel
theorem dX3_unpackCell_52 : decode cX3_unpackCell 52 = .ok (.aload_n 3, 1) := by decide +kernel
theorem dX3_unpackCell_53 : decode cX3_unpackCell 53 = .ok (.iload 4, 2) := by decide +kernel
theorem dX3_unpackCell_55 : decode cX3_unpackCell 55 = .ok (.invokevirtual 216, 3) := by decide +kernel
theorem dX3_unpackCell_58 : decode cX3_unpackCell 58 = .ok (.ireturn, 1) := by decide +kernel
theorem dX3_unpackCell_59 : decode cX3_unpackCell 59 = .ok (.aload_n 0, 1) := by decide +kernel
theorem dX3_unpackCell_60 : decode cX3_unpackCell 60 = .ok (.getfield 12, 3) := by decide +kernel
theorem dX3_unpackCell_63 : decode cX3_unpackCell 63 = .ok (.iload_n 2, 1) := by decide +kernel
theorem dX3_unpackCell_64 : decode cX3_unpackCell 64 = .ok (.aload_n 3, 1) := by decide +kernel
theorem dX3_unpackCell_65 : decode cX3_unpackCell 65 = .ok (.iload 4, 2) := by decide +kernel
theorem dX3_unpackCell_67 : decode cX3_unpackCell 67 = .ok (.iconst 1, 1) := by decide +kernel
theorem dX3_unpackCell_68 : decode cX3_unpackCell 68 = .ok (.invokevirtual 131, 3) := by decide +kernel
theorem dX3_unpackCell_71 : decode cX3_unpackCell 71 = .ok (.invokevirtual 62, 3) := by decide +kernel
theorem dX3_unpackCell_74 : decode cX3_unpackCell 74 = .ok (.iload 4, 2) := by decide +kernel
theorem dX3_unpackCell_76 : decode cX3_unpackCell 76 = .ok (.iconst 1, 1) := by decide +kernel
theorem dX3_unpackCell_77 : decode cX3_unpackCell 77 = .ok (.iadd, 1) := by decide +kernel
theorem dX3_unpackCell_78 : decode cX3_unpackCell 78 = .ok (.ireturn, 1) := by decide +kernel
set_option maxRecDepth 20000 in
theorem ggX3_unpackText_X0_read : GoodIn wsX3_unpackText wsX0_read := goodIn_r _ [6, 7, 30, 31, 32, 33, 34, 35] (by decide +kernel) (by decide +kernel)
set_option maxRecDepth 20000 in
theorem gX3_unpackText_X0_read : GoodIn wsX3_unpackText (wsV RX3 131 RX0 yX0_read wsX0_read) := goodIn_app (goodIn_of _ (by decide +kernel)) ggX3_unpackText_X0_read
set_option maxRecDepth 20000 in
theorem ggX3_unpackText_X1_makeText : GoodIn wsX3_unpackText wsX1_makeText := goodIn_r _ [12, 13, 14, 15, 16, 17, 36, 37, 38, 39] (by decide +kernel) (by decide +kernel)
set_option maxRecDepth 20000 in
theorem gX3_unpackText_X1_makeText : GoodIn wsX3_unpackText (wsV RX3 69 RX1 yX1_makeText wsX1_makeText) := goodIn_app (goodIn_of _ (by decide +kernel)) ggX3_unpackText_X1_makeText
set_option maxRecDepth 20000 in
theorem ggX3_unpackText_X1_addLetter : GoodIn wsX3_unpackText wsX1_addLetter := goodIn_r _ [21, 14, 22, 23, 24, 25, 11, 26, 13, 15, 16, 17, 36, 37, 38, 39] (by decide +kernel) (by decide +kernel)
set_option maxRecDepth 20000 in
theorem gX3_unpackText_X1_addLetter : GoodIn wsX3_unpackText (wsV RX3 72 RX1 yX1_addLetter wsX1_addLetter) := goodIn_app (goodIn_of _ (by decide +kernel)) ggX3_unpackText_X1_addLetter
theorem dX3_unpackText_0 : decode cX3_unpackText 0 = .ok (.aload_n 2, 1) := by decide +kernel
theorem dX3_unpackText_1 : decode cX3_unpackText 1 = .ok (.iload_n 3, 1) := by decide +kernel
theorem dX3_unpackText_2 : decode cX3_unpackText 2 = .ok (.iconst 1, 1) := by decide +kernel
theorem dX3_unpackText_3 : decode cX3_unpackText 3 = .ok (.invokevirtual 131, 3) := by decide +kernel
theorem dX3_unpackText_6 : decode cX3_unpackText 6 = .ok (.l2i, 1) := by decide +kernel
theorem dX3_unpackText_7 : decode cX3_unpackText 7 = .ok (.istore 4, 2) := by decide +kernel
theorem dX3_unpackText_9 : decode cX3_unpackText 9 = .ok (.aload_n 0, 1) := by decide +kernel
theorem dX3_unpackText_10 : decode cX3_unpackText 10 = .ok (.getfield 12, 3) := by decide +kernel
theorem dX3_unpackText_13 : decode cX3_unpackText 13 = .ok (.iload_n 1, 1) := by decide +kernel
theorem dX3_unpackText_14 : decode cX3_unpackText 14 = .ok (.invokevirtual 69, 3) := by decide +kernel
theorem dX3_unpackText_17 : decode cX3_unpackText 17 = .ok (.iconst 0, 1) := by decide +kernel
theorem dX3_unpackText_18 : decode cX3_unpackText 18 = .ok (.istore 5, 2) := by decide +kernel
theorem dX3_unpackText_20 : decode cX3_unpackText 20 = .ok (.iload 5, 2) := by decide +kernel
theorem dX3_unpackText_22 : decode cX3_unpackText 22 = .ok (.iload 4, 2) := by decide +kernel
theorem dX3_unpackText_24 : decode cX3_unpackText 24 = .ok (.if_icmp .ge 29, 3) := by decide +kernel
theorem dX3_unpackText_27 : decode cX3_unpackText 27 = .ok (.aload_n 0, 1) := by decide +kernel
theorem dX3_unpackText_28 : decode cX3_unpackText 28 = .ok (.getfield 12, 3) := by decide +kernel
theorem dX3_unpackText_31 : decode cX3_unpackText 31 = .ok (.iload_n 1, 1) := by decide +kernel
theorem dX3_unpackText_32 : decode cX3_unpackText 32 = .ok (.aload_n 2, 1) := by decide +kernel
theorem dX3_unpackText_33 : decode cX3_unpackText 33 = .ok (.iload_n 3, 1) := by decide +kernel
theorem dX3_unpackText_34 : decode cX3_unpackText 34 = .ok (.iconst 1, 1) := by decide +kernel
theorem dX3_unpackText_35 : decode cX3_unpackText 35 = .ok (.iadd, 1) := by decide +kernel
theorem dX3_unpackText_36 : decode cX3_unpackText 36 = .ok (.iload 5, 2) := by decide +kernel
theorem dX3_unpackText_38 : decode cX3_unpackText 38 = .ok (.iadd, 1) := by decide +kernel
theorem dX3_unpackText_39 : decode cX3_unpackText 39 = .ok (.iconst 1, 1) := by decide +kernel
theorem dX3_unpackText_40 : decode cX3_unpackText 40 = .ok (.invokevirtual 131, 3) := by decide +kernel
theorem dX3_unpackText_43 : decode cX3_unpackText 43 = .ok (.l2i, 1) := by decide +kernel
theorem dX3_unpackText_44 : decode cX3_unpackText 44 = .ok (.invokevirtual 72, 3) := by decide +kernel
theorem dX3_unpackText_47 : decode cX3_unpackText 47 = .ok (.iinc 5 1, 3) := by decide +kernel
theorem dX3_unpackText_50 : decode cX3_unpackText 50 = .ok (.goto (-30), 3) := by decide +kernel
theorem dX3_unpackText_53 : decode cX3_unpackText 53 = .ok (.iload_n 3, 1) := by decide +kernel
theorem dX3_unpackText_54 : decode cX3_unpackText 54 = .ok (.iconst 1, 1) := by decide +kernel
theorem dX3_unpackText_55 : decode cX3_unpackText 55 = .ok (.iadd, 1) := by decide +kernel
theorem dX3_unpackText_56 : decode cX3_unpackText 56 = .ok (.iload 4, 2) := by decide +kernel
theorem dX3_unpackText_58 : decode cX3_unpackText 58 = .ok (.iadd, 1) := by decide +kernel
theorem dX3_unpackText_59 : decode cX3_unpackText 59 = .ok (.ireturn, 1) := by decide +kernel
