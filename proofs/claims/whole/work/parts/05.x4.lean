theorem dX4_init_0 : decode cX4_init 0 = .ok (.aload_n 0, 1) := by decide +kernel
theorem dX4_init_1 : decode cX4_init 1 = .ok (.invokespecial 1, 3) := by decide +kernel
theorem dX4_init_4 : decode cX4_init 4 = .ok (.aload_n 0, 1) := by decide +kernel
theorem dX4_init_5 : decode cX4_init 5 = .ok (.bipush 8, 2) := by decide +kernel
theorem dX4_init_7 : decode cX4_init 7 = .ok (.newarray .int, 2) := by decide +kernel
theorem dX4_init_9 : decode cX4_init 9 = .ok (.putfield 7, 3) := by decide +kernel
theorem dX4_init_12 : decode cX4_init 12 = .ok (.aload_n 0, 1) := by decide +kernel
theorem dX4_init_13 : decode cX4_init 13 = .ok (.bipush 64, 2) := by decide +kernel
theorem dX4_init_15 : decode cX4_init 15 = .ok (.newarray .int, 2) := by decide +kernel
theorem dX4_init_17 : decode cX4_init 17 = .ok (.putfield 13, 3) := by decide +kernel
theorem dX4_init_20 : decode cX4_init 20 = .ok (.aload_n 0, 1) := by decide +kernel
theorem dX4_init_21 : decode cX4_init 21 = .ok (.bipush 8, 2) := by decide +kernel
theorem dX4_init_23 : decode cX4_init 23 = .ok (.newarray .int, 2) := by decide +kernel
theorem dX4_init_25 : decode cX4_init 25 = .ok (.putfield 16, 3) := by decide +kernel
theorem dX4_init_28 : decode cX4_init 28 = .ok (.aload_n 0, 1) := by decide +kernel
theorem dX4_init_29 : decode cX4_init 29 = .ok (.bipush 60, 2) := by decide +kernel
theorem dX4_init_31 : decode cX4_init 31 = .ok (.newarray .int, 2) := by decide +kernel
theorem dX4_init_33 : decode cX4_init 33 = .ok (.putfield 19, 3) := by decide +kernel
theorem dX4_init_36 : decode cX4_init 36 = .ok (.aload_n 0, 1) := by decide +kernel
theorem dX4_init_37 : decode cX4_init 37 = .ok (.bipush 60, 2) := by decide +kernel
theorem dX4_init_39 : decode cX4_init 39 = .ok (.newarray .int, 2) := by decide +kernel
theorem dX4_init_41 : decode cX4_init 41 = .ok (.putfield 22, 3) := by decide +kernel
theorem dX4_init_44 : decode cX4_init 44 = .ok (.aload_n 0, 1) := by decide +kernel
theorem dX4_init_45 : decode cX4_init 45 = .ok (.bipush 60, 2) := by decide +kernel
theorem dX4_init_47 : decode cX4_init 47 = .ok (.newarray .int, 2) := by decide +kernel
theorem dX4_init_49 : decode cX4_init 49 = .ok (.putfield 25, 3) := by decide +kernel
theorem dX4_init_52 : decode cX4_init 52 = .ok (.aload_n 0, 1) := by decide +kernel
theorem dX4_init_53 : decode cX4_init 53 = .ok (.sipush 515, 3) := by decide +kernel
theorem dX4_init_56 : decode cX4_init 56 = .ok (.newarray .int, 2) := by decide +kernel
theorem dX4_init_58 : decode cX4_init 58 = .ok (.putfield 28, 3) := by decide +kernel
theorem dX4_init_61 : decode cX4_init 61 = .ok (.aload_n 0, 1) := by decide +kernel
theorem dX4_init_62 : decode cX4_init 62 = .ok (.sipush 515, 3) := by decide +kernel
theorem dX4_init_65 : decode cX4_init 65 = .ok (.newarray .int, 2) := by decide +kernel
theorem dX4_init_67 : decode cX4_init 67 = .ok (.putfield 31, 3) := by decide +kernel
theorem dX4_init_70 : decode cX4_init 70 = .ok (.aload_n 0, 1) := by decide +kernel
theorem dX4_init_71 : decode cX4_init 71 = .ok (.sipush 515, 3) := by decide +kernel
theorem dX4_init_74 : decode cX4_init 74 = .ok (.newarray .int, 2) := by decide +kernel
theorem dX4_init_76 : decode cX4_init 76 = .ok (.putfield 34, 3) := by decide +kernel
theorem dX4_init_79 : decode cX4_init 79 = .ok (.aload_n 0, 1) := by decide +kernel
theorem dX4_init_80 : decode cX4_init 80 = .ok (.sipush 515, 3) := by decide +kernel
theorem dX4_init_83 : decode cX4_init 83 = .ok (.newarray .int, 2) := by decide +kernel
theorem dX4_init_85 : decode cX4_init 85 = .ok (.putfield 37, 3) := by decide +kernel
theorem dX4_init_88 : decode cX4_init 88 = .ok (.aload_n 0, 1) := by decide +kernel
theorem dX4_init_89 : decode cX4_init 89 = .ok (.sipush 515, 3) := by decide +kernel
theorem dX4_init_92 : decode cX4_init 92 = .ok (.newarray .int, 2) := by decide +kernel
theorem dX4_init_94 : decode cX4_init 94 = .ok (.putfield 40, 3) := by decide +kernel
theorem dX4_init_97 : decode cX4_init 97 = .ok (.aload_n 0, 1) := by decide +kernel
theorem dX4_init_98 : decode cX4_init 98 = .ok (.sipush 515, 3) := by decide +kernel
theorem dX4_init_101 : decode cX4_init 101 = .ok (.newarray .int, 2) := by decide +kernel
theorem dX4_init_103 : decode cX4_init 103 = .ok (.putfield 43, 3) := by decide +kernel
theorem dX4_init_106 : decode cX4_init 106 = .ok (.aload_n 0, 1) := by decide +kernel
theorem dX4_init_107 : decode cX4_init 107 = .ok (.sipush 515, 3) := by decide +kernel
theorem dX4_init_110 : decode cX4_init 110 = .ok (.newarray .int, 2) := by decide +kernel
theorem dX4_init_112 : decode cX4_init 112 = .ok (.putfield 46, 3) := by decide +kernel
theorem dX4_init_115 : decode cX4_init 115 = .ok (.aload_n 0, 1) := by decide +kernel
theorem dX4_init_116 : decode cX4_init 116 = .ok (.sipush 515, 3) := by decide +kernel
theorem dX4_init_119 : decode cX4_init 119 = .ok (.newarray .int, 2) := by decide +kernel
theorem dX4_init_121 : decode cX4_init 121 = .ok (.putfield 49, 3) := by decide +kernel
theorem dX4_init_124 : decode cX4_init 124 = .ok (.aload_n 0, 1) := by decide +kernel
theorem dX4_init_125 : decode cX4_init 125 = .ok (.sipush 4120, 3) := by decide +kernel
theorem dX4_init_128 : decode cX4_init 128 = .ok (.newarray .short, 2) := by decide +kernel
theorem dX4_init_130 : decode cX4_init 130 = .ok (.putfield 52, 3) := by decide +kernel
theorem dX4_init_133 : decode cX4_init 133 = .ok (.aload_n 0, 1) := by decide +kernel
theorem dX4_init_134 : decode cX4_init 134 = .ok (.bipush 8, 2) := by decide +kernel
theorem dX4_init_136 : decode cX4_init 136 = .ok (.newarray .int, 2) := by decide +kernel
theorem dX4_init_138 : decode cX4_init 138 = .ok (.putfield 56, 3) := by decide +kernel
theorem dX4_init_141 : decode cX4_init 141 = .ok (.aload_n 0, 1) := by decide +kernel
theorem dX4_init_142 : decode cX4_init 142 = .ok (.sipush 515, 3) := by decide +kernel
theorem dX4_init_145 : decode cX4_init 145 = .ok (.newarray .long, 2) := by decide +kernel
theorem dX4_init_147 : decode cX4_init 147 = .ok (.putfield 59, 3) := by decide +kernel
theorem dX4_init_150 : decode cX4_init 150 = .ok (.aload_n 0, 1) := by decide +kernel
theorem dX4_init_151 : decode cX4_init 151 = .ok (.sipush 515, 3) := by decide +kernel
theorem dX4_init_154 : decode cX4_init 154 = .ok (.newarray .int, 2) := by decide +kernel
theorem dX4_init_156 : decode cX4_init 156 = .ok (.putfield 63, 3) := by decide +kernel
theorem dX4_init_159 : decode cX4_init 159 = .ok (.aload_n 0, 1) := by decide +kernel
theorem dX4_init_160 : decode cX4_init 160 = .ok (.sipush 515, 3) := by decide +kernel
theorem dX4_init_163 : decode cX4_init 163 = .ok (.newarray .int, 2) := by decide +kernel
theorem dX4_init_165 : decode cX4_init 165 = .ok (.putfield 66, 3) := by decide +kernel
theorem dX4_init_168 : decode cX4_init 168 = .ok (.aload_n 0, 1) := by decide +kernel
theorem dX4_init_169 : decode cX4_init 169 = .ok (.sipush 515, 3) := by decide +kernel
theorem dX4_init_172 : decode cX4_init 172 = .ok (.newarray .int, 2) := by decide +kernel
theorem dX4_init_174 : decode cX4_init 174 = .ok (.putfield 69, 3) := by decide +kernel
theorem dX4_init_177 : decode cX4_init 177 = .ok (.iconst 0, 1) := by decide +kernel
theorem dX4_init_178 : decode cX4_init 178 = .ok (.istore_n 1, 1) := by decide +kernel
theorem dX4_init_179 : decode cX4_init 179 = .ok (.iload_n 1, 1) := by decide +kernel
theorem dX4_init_180 : decode cX4_init 180 = .ok (.bipush 60, 2) := by decide +kernel
theorem dX4_init_182 : decode cX4_init 182 = .ok (.if_icmp .ge 23, 3) := by decide +kernel
theorem dX4_init_185 : decode cX4_init 185 = .ok (.aload_n 0, 1) := by decide +kernel
theorem dX4_init_186 : decode cX4_init 186 = .ok (.getfield 19, 3) := by decide +kernel
theorem dX4_init_189 : decode cX4_init 189 = .ok (.iload_n 1, 1) := by decide +kernel
theorem dX4_init_190 : decode cX4_init 190 = .ok (.iconst (-1), 1) := by decide +kernel
theorem dX4_init_191 : decode cX4_init 191 = .ok (.iastore, 1) := by decide +kernel
theorem dX4_init_192 : decode cX4_init 192 = .ok (.aload_n 0, 1) := by decide +kernel
theorem dX4_init_193 : decode cX4_init 193 = .ok (.getfield 25, 3) := by decide +kernel
theorem dX4_init_196 : decode cX4_init 196 = .ok (.iload_n 1, 1) := by decide +kernel
theorem dX4_init_197 : decode cX4_init 197 = .ok (.iconst (-1), 1) := by decide +kernel
theorem dX4_init_198 : decode cX4_init 198 = .ok (.iastore, 1) := by decide +kernel
theorem dX4_init_199 : decode cX4_init 199 = .ok (.iinc 1 1, 3) := by decide +kernel
theorem dX4_init_202 : decode cX4_init 202 = .ok (.goto (-23), 3) := by decide +kernel
theorem dX4_init_205 : decode cX4_init 205 = .ok (.return_, 1) := by decide +kernel
theorem dX4_in_0 : decode cX4_in 0 = .ok (.iload_n 0, 1) := by decide +kernel
theorem dX4_in_1 : decode cX4_in 1 = .ok (.iload_n 1, 1) := by decide +kernel
theorem dX4_in_2 : decode cX4_in 2 = .ok (.if_icmp .lt 12, 3) := by decide +kernel
theorem dX4_in_5 : decode cX4_in 5 = .ok (.iload_n 0, 1) := by decide +kernel
theorem dX4_in_6 : decode cX4_in 6 = .ok (.iload_n 2, 1) := by decide +kernel
theorem dX4_in_7 : decode cX4_in 7 = .ok (.if_icmp .gt 7, 3) := by decide +kernel
theorem dX4_in_10 : decode cX4_in 10 = .ok (.iconst 1, 1) := by decide +kernel
theorem dX4_in_11 : decode cX4_in 11 = .ok (.goto 4, 3) := by decide +kernel
theorem dX4_in_14 : decode cX4_in 14 = .ok (.iconst 0, 1) := by decide +kernel
theorem dX4_in_15 : decode cX4_in 15 = .ok (.ireturn, 1) := by decide +kernel
set_option maxRecDepth 20000 in
theorem ggX4_isColumn_X4_in : GoodIn wsX4_isColumn wsX4_in := goodIn_r _ [4] (by decide +kernel) (by decide +kernel)
set_option maxRecDepth 20000 in
theorem gX4_isColumn_X4_in : GoodIn wsX4_isColumn (va_wsS RX4 72 yX4_in wsX4_in) := goodIn_app (goodIn_of _ (by decide +kernel)) ggX4_isColumn_X4_in
theorem dX4_isColumn_0 : decode cX4_isColumn 0 = .ok (.iload_n 0, 1) := by decide +kernel
theorem dX4_isColumn_1 : decode cX4_isColumn 1 = .ok (.iconst 0, 1) := by decide +kernel
theorem dX4_isColumn_2 : decode cX4_isColumn 2 = .ok (.bipush 7, 2) := by decide +kernel
theorem dX4_isColumn_4 : decode cX4_isColumn 4 = .ok (.invokestatic 72, 3) := by decide +kernel
theorem dX4_isColumn_7 : decode cX4_isColumn 7 = .ok (.ireturn, 1) := by decide +kernel
set_option maxRecDepth 20000 in
theorem ggX4_isThere_X4_in : GoodIn wsX4_isThere wsX4_in := goodIn_r _ [5] (by decide +kernel) (by decide +kernel)
set_option maxRecDepth 20000 in
theorem gX4_isThere_X4_in : GoodIn wsX4_isThere (va_wsS RX4 72 yX4_in wsX4_in) := goodIn_app (goodIn_of _ (by decide +kernel)) ggX4_isThere_X4_in
theorem dX4_isThere_0 : decode cX4_isThere 0 = .ok (.iload_n 1, 1) := by decide +kernel
theorem dX4_isThere_1 : decode cX4_isThere 1 = .ok (.iconst 0, 1) := by decide +kernel
theorem dX4_isThere_2 : decode cX4_isThere 2 = .ok (.bipush 7, 2) := by decide +kernel
theorem dX4_isThere_4 : decode cX4_isThere 4 = .ok (.invokestatic 72, 3) := by decide +kernel
theorem dX4_isThere_7 : decode cX4_isThere 7 = .ok (.ifCond .eq 16, 3) := by decide +kernel
theorem dX4_isThere_10 : decode cX4_isThere 10 = .ok (.aload_n 0, 1) := by decide +kernel
theorem dX4_isThere_11 : decode cX4_isThere 11 = .ok (.getfield 7, 3) := by decide +kernel
theorem dX4_isThere_14 : decode cX4_isThere 14 = .ok (.iload_n 1, 1) := by decide +kernel
theorem dX4_isThere_15 : decode cX4_isThere 15 = .ok (.iaload, 1) := by decide +kernel
theorem dX4_isThere_16 : decode cX4_isThere 16 = .ok (.ifCond .le 7, 3) := by decide +kernel
theorem dX4_isThere_19 : decode cX4_isThere 19 = .ok (.iconst 1, 1) := by decide +kernel
theorem dX4_isThere_20 : decode cX4_isThere 20 = .ok (.goto 4, 3) := by decide +kernel
theorem dX4_isThere_23 : decode cX4_isThere 23 = .ok (.iconst 0, 1) := by decide +kernel
theorem dX4_isThere_24 : decode cX4_isThere 24 = .ok (.ireturn, 1) := by decide +kernel
theorem dX4_stepOf_0 : decode cX4_stepOf 0 = .ok (.iload_n 0, 1) := by decide +kernel
theorem dX4_stepOf_1 : decode cX4_stepOf 1 = .ok (.ifCond .ge 8, 3) := by decide +kernel
theorem dX4_stepOf_4 : decode cX4_stepOf 4 = .ok (.iload_n 0, 1) := by decide +kernel
theorem dX4_stepOf_5 : decode cX4_stepOf 5 = .ok (.ineg, 1) := by decide +kernel
theorem dX4_stepOf_6 : decode cX4_stepOf 6 = .ok (.goto 4, 3) := by decide +kernel
theorem dX4_stepOf_9 : decode cX4_stepOf 9 = .ok (.iload_n 0, 1) := by decide +kernel
theorem dX4_stepOf_10 : decode cX4_stepOf 10 = .ok (.ireturn, 1) := by decide +kernel
set_option maxRecDepth 20000 in
theorem ggX4_isText_X4_stepOf : GoodIn wsX4_isText wsX4_stepOf := goodIn_r _ [5] (by decide +kernel) (by decide +kernel)
set_option maxRecDepth 20000 in
theorem gX4_isText_X4_stepOf : GoodIn wsX4_isText (va_wsS RX4 76 yX4_stepOf wsX4_stepOf) := goodIn_app (goodIn_of _ (by decide +kernel)) ggX4_isText_X4_stepOf
theorem dX4_isText_0 : decode cX4_isText 0 = .ok (.iload_n 1, 1) := by decide +kernel
theorem dX4_isText_1 : decode cX4_isText 1 = .ok (.ifCond .eq 19, 3) := by decide +kernel
theorem dX4_isText_4 : decode cX4_isText 4 = .ok (.aload_n 0, 1) := by decide +kernel
theorem dX4_isText_5 : decode cX4_isText 5 = .ok (.getfield 63, 3) := by decide +kernel
theorem dX4_isText_8 : decode cX4_isText 8 = .ok (.iload_n 1, 1) := by decide +kernel
theorem dX4_isText_9 : decode cX4_isText 9 = .ok (.invokestatic 76, 3) := by decide +kernel
theorem dX4_isText_12 : decode cX4_isText 12 = .ok (.iaload, 1) := by decide +kernel
theorem dX4_isText_13 : decode cX4_isText 13 = .ok (.ifCond .lt 7, 3) := by decide +kernel
theorem dX4_isText_16 : decode cX4_isText 16 = .ok (.iconst 1, 1) := by decide +kernel
theorem dX4_isText_17 : decode cX4_isText 17 = .ok (.goto 4, 3) := by decide +kernel
theorem dX4_isText_20 : decode cX4_isText 20 = .ok (.iconst 0, 1) := by decide +kernel
theorem dX4_isText_21 : decode cX4_isText 21 = .ok (.ireturn, 1) := by decide +kernel
theorem dX4_clear_0 : decode cX4_clear 0 = .ok (.iconst 0, 1) := by decide +kernel
theorem dX4_clear_1 : decode cX4_clear 1 = .ok (.istore_n 1, 1) := by decide +kernel
theorem dX4_clear_2 : decode cX4_clear 2 = .ok (.iload_n 1, 1) := by decide +kernel
theorem dX4_clear_3 : decode cX4_clear 3 = .ok (.bipush 8, 2) := by decide +kernel
theorem dX4_clear_5 : decode cX4_clear 5 = .ok (.if_icmp .ge 16, 3) := by decide +kernel
theorem dX4_clear_8 : decode cX4_clear 8 = .ok (.aload_n 0, 1) := by decide +kernel
theorem dX4_clear_9 : decode cX4_clear 9 = .ok (.getfield 56, 3) := by decide +kernel
theorem dX4_clear_12 : decode cX4_clear 12 = .ok (.iload_n 1, 1) := by decide +kernel
theorem dX4_clear_13 : decode cX4_clear 13 = .ok (.iconst 0, 1) := by decide +kernel
theorem dX4_clear_14 : decode cX4_clear 14 = .ok (.iastore, 1) := by decide +kernel
theorem dX4_clear_15 : decode cX4_clear 15 = .ok (.iinc 1 1, 3) := by decide +kernel
theorem dX4_clear_18 : decode cX4_clear 18 = .ok (.goto (-16), 3) := by decide +kernel
theorem dX4_clear_21 : decode cX4_clear 21 = .ok (.return_, 1) := by decide +kernel
theorem dX4_step_0 : decode cX4_step 0 = .ok (.aload_n 0, 1) := by decide +kernel
theorem dX4_step_1 : decode cX4_step 1 = .ok (.dup, 1) := by decide +kernel
theorem dX4_step_2 : decode cX4_step 2 = .ok (.getfield 80, 3) := by decide +kernel
theorem dX4_step_5 : decode cX4_step 5 = .ok (.iconst 1, 1) := by decide +kernel
theorem dX4_step_6 : decode cX4_step 6 = .ok (.iadd, 1) := by decide +kernel
theorem dX4_step_7 : decode cX4_step 7 = .ok (.putfield 80, 3) := by decide +kernel
theorem dX4_step_10 : decode cX4_step 10 = .ok (.aload_n 0, 1) := by decide +kernel
theorem dX4_step_11 : decode cX4_step 11 = .ok (.getfield 59, 3) := by decide +kernel
theorem dX4_step_14 : decode cX4_step 14 = .ok (.aload_n 0, 1) := by decide +kernel
theorem dX4_step_15 : decode cX4_step 15 = .ok (.getfield 80, 3) := by decide +kernel
theorem dX4_step_18 : decode cX4_step 18 = .ok (.lload_n 1, 1) := by decide +kernel
theorem dX4_step_19 : decode cX4_step 19 = .ok (.lastore, 1) := by decide +kernel
theorem dX4_step_20 : decode cX4_step 20 = .ok (.aload_n 0, 1) := by decide +kernel
theorem dX4_step_21 : decode cX4_step 21 = .ok (.getfield 63, 3) := by decide +kernel
theorem dX4_step_24 : decode cX4_step 24 = .ok (.aload_n 0, 1) := by decide +kernel
theorem dX4_step_25 : decode cX4_step 25 = .ok (.getfield 80, 3) := by decide +kernel
theorem dX4_step_28 : decode cX4_step 28 = .ok (.iload_n 3, 1) := by decide +kernel
theorem dX4_step_29 : decode cX4_step 29 = .ok (.iastore, 1) := by decide +kernel
theorem dX4_step_30 : decode cX4_step 30 = .ok (.aload_n 0, 1) := by decide +kernel
theorem dX4_step_31 : decode cX4_step 31 = .ok (.getfield 66, 3) := by decide +kernel
theorem dX4_step_34 : decode cX4_step 34 = .ok (.aload_n 0, 1) := by decide +kernel
theorem dX4_step_35 : decode cX4_step 35 = .ok (.getfield 80, 3) := by decide +kernel
theorem dX4_step_38 : decode cX4_step 38 = .ok (.iload 4, 2) := by decide +kernel
theorem dX4_step_40 : decode cX4_step 40 = .ok (.iastore, 1) := by decide +kernel
theorem dX4_step_41 : decode cX4_step 41 = .ok (.aload_n 0, 1) := by decide +kernel
theorem dX4_step_42 : decode cX4_step 42 = .ok (.getfield 69, 3) := by decide +kernel
theorem dX4_step_45 : decode cX4_step 45 = .ok (.aload_n 0, 1) := by decide +kernel
theorem dX4_step_46 : decode cX4_step 46 = .ok (.getfield 80, 3) := by decide +kernel
theorem dX4_step_49 : decode cX4_step 49 = .ok (.iload_n 3, 1) := by decide +kernel
theorem dX4_step_50 : decode cX4_step 50 = .ok (.ifCond .ge 7, 3) := by decide +kernel
theorem dX4_step_53 : decode cX4_step 53 = .ok (.iconst 0, 1) := by decide +kernel
theorem dX4_step_54 : decode cX4_step 54 = .ok (.goto 12, 3) := by decide +kernel
theorem dX4_step_57 : decode cX4_step 57 = .ok (.aload_n 0, 1) := by decide +kernel
theorem dX4_step_58 : decode cX4_step 58 = .ok (.getfield 69, 3) := by decide +kernel
theorem dX4_step_61 : decode cX4_step 61 = .ok (.iload 4, 2) := by decide +kernel
theorem dX4_step_63 : decode cX4_step 63 = .ok (.iaload, 1) := by decide +kernel
theorem dX4_step_64 : decode cX4_step 64 = .ok (.iload_n 3, 1) := by decide +kernel
theorem dX4_step_65 : decode cX4_step 65 = .ok (.iadd, 1) := by decide +kernel
theorem dX4_step_66 : decode cX4_step 66 = .ok (.iastore, 1) := by decide +kernel
theorem dX4_step_67 : decode cX4_step 67 = .ok (.return_, 1) := by decide +kernel
set_option maxRecDepth 20000 in
theorem ggX4_cell_X4_isColumn : GoodIn wsX4_cell wsX4_isColumn := goodIn_r _ [6, 7, 8, 5, 9] (by decide +kernel) (by decide +kernel)
set_option maxRecDepth 20000 in
theorem gX4_cell_X4_isColumn : GoodIn wsX4_cell (va_wsS RX4 84 yX4_isColumn wsX4_isColumn) := goodIn_app (goodIn_of _ (by decide +kernel)) ggX4_cell_X4_isColumn
set_option maxRecDepth 20000 in
theorem ggX4_cell_X4_step : GoodIn wsX4_cell wsX4_step := goodIn_r _ [13, 2, 14, 15, 16, 17, 18, 19, 20, 21, 22, 23, 24, 25, 26, 27, 28, 29, 30, 31, 32, 33, 34, 35, 36, 37, 38, 39] (by decide +kernel) (by decide +kernel)
set_option maxRecDepth 20000 in
theorem gX4_cell_X4_step : GoodIn wsX4_cell (wsV RX4 88 RX4 yX4_step wsX4_step) := goodIn_app (goodIn_of _ (by decide +kernel)) ggX4_cell_X4_step
theorem dX4_cell_0 : decode cX4_cell 0 = .ok (.iload_n 1, 1) := by decide +kernel
theorem dX4_cell_1 : decode cX4_cell 1 = .ok (.invokestatic 84, 3) := by decide +kernel
theorem dX4_cell_4 : decode cX4_cell 4 = .ok (.ifCond .ne 5, 3) := by decide +kernel
theorem dX4_cell_7 : decode cX4_cell 7 = .ok (.iconst 0, 1) := by decide +kernel
theorem dX4_cell_8 : decode cX4_cell 8 = .ok (.ireturn, 1) := by decide +kernel
theorem dX4_cell_9 : decode cX4_cell 9 = .ok (.aload_n 0, 1) := by decide +kernel
theorem dX4_cell_10 : decode cX4_cell 10 = .ok (.lload_n 2, 1) := by decide +kernel
theorem dX4_cell_11 : decode cX4_cell 11 = .ok (.iconst (-1), 1) := by decide +kernel
theorem dX4_cell_12 : decode cX4_cell 12 = .ok (.iconst 0, 1) := by decide +kernel
theorem dX4_cell_13 : decode cX4_cell 13 = .ok (.invokevirtual 88, 3) := by decide +kernel
theorem dX4_cell_16 : decode cX4_cell 16 = .ok (.aload_n 0, 1) := by decide +kernel
theorem dX4_cell_17 : decode cX4_cell 17 = .ok (.getfield 56, 3) := by decide +kernel
theorem dX4_cell_20 : decode cX4_cell 20 = .ok (.iload_n 1, 1) := by decide +kernel
theorem dX4_cell_21 : decode cX4_cell 21 = .ok (.aload_n 0, 1) := by decide +kernel
theorem dX4_cell_22 : decode cX4_cell 22 = .ok (.getfield 80, 3) := by decide +kernel
theorem dX4_cell_25 : decode cX4_cell 25 = .ok (.iastore, 1) := by decide +kernel
theorem dX4_cell_26 : decode cX4_cell 26 = .ok (.iconst 1, 1) := by decide +kernel
theorem dX4_cell_27 : decode cX4_cell 27 = .ok (.ireturn, 1) := by decide +kernel
set_option maxRecDepth 20000 in
theorem ggX4_text_X4_isColumn : GoodIn wsX4_text wsX4_isColumn := goodIn_r _ [7, 8, 9, 6, 10] (by decide +kernel) (by decide +kernel)
set_option maxRecDepth 20000 in
theorem gX4_text_X4_isColumn : GoodIn wsX4_text (va_wsS RX4 84 yX4_isColumn wsX4_isColumn) := goodIn_app (goodIn_of _ (by decide +kernel)) ggX4_text_X4_isColumn
set_option maxRecDepth 20000 in
theorem ggX4_text_X4_isText : GoodIn wsX4_text wsX4_isText := goodIn_r _ [14, 15, 16, 17, 6, 18, 25, 26, 27, 28, 29, 30, 31, 32, 33, 34, 35, 36, 37, 38, 39, 40, 41, 42, 43, 44, 45, 46] (by decide +kernel) (by decide +kernel)
set_option maxRecDepth 20000 in
theorem gX4_text_X4_isText : GoodIn wsX4_text (wsV RX4 92 RX4 yX4_isText wsX4_isText) := goodIn_app (goodIn_of _ (by decide +kernel)) ggX4_text_X4_isText
set_option maxRecDepth 20000 in
theorem ggX4_text_X4_in : GoodIn wsX4_text wsX4_in := goodIn_r _ [10] (by decide +kernel) (by decide +kernel)
set_option maxRecDepth 20000 in
theorem gX4_text_X4_in : GoodIn wsX4_text (va_wsS RX4 72 yX4_in wsX4_in) := goodIn_app (goodIn_of _ (by decide +kernel)) ggX4_text_X4_in
set_option maxRecDepth 20000 in
theorem ggX4_text_X4_step : GoodIn wsX4_text wsX4_step := goodIn_r _ [22, 3, 23, 15, 24, 2, 25, 26, 27, 28, 29, 30, 31, 32, 33, 34, 35, 36, 37, 38, 39, 40, 41, 42, 43, 44, 45, 46] (by decide +kernel) (by decide +kernel)
set_option maxRecDepth 20000 in
theorem gX4_text_X4_step : GoodIn wsX4_text (wsV RX4 88 RX4 yX4_step wsX4_step) := goodIn_app (goodIn_of _ (by decide +kernel)) ggX4_text_X4_step
theorem dX4_text_0 : decode cX4_text 0 = .ok (.iload_n 1, 1) := by decide +kernel
theorem dX4_text_1 : decode cX4_text 1 = .ok (.invokestatic 84, 3) := by decide +kernel
theorem dX4_text_4 : decode cX4_text 4 = .ok (.ifCond .eq 25, 3) := by decide +kernel
theorem dX4_text_7 : decode cX4_text 7 = .ok (.aload_n 0, 1) := by decide +kernel
theorem dX4_text_8 : decode cX4_text 8 = .ok (.aload_n 0, 1) := by decide +kernel
theorem dX4_text_9 : decode cX4_text 9 = .ok (.getfield 56, 3) := by decide +kernel
theorem dX4_text_12 : decode cX4_text 12 = .ok (.iload_n 1, 1) := by decide +kernel
theorem dX4_text_13 : decode cX4_text 13 = .ok (.iaload, 1) := by decide +kernel
theorem dX4_text_14 : decode cX4_text 14 = .ok (.invokevirtual 92, 3) := by decide +kernel
theorem dX4_text_17 : decode cX4_text 17 = .ok (.ifCond .eq 12, 3) := by decide +kernel
theorem dX4_text_20 : decode cX4_text 20 = .ok (.aload_n 0, 1) := by decide +kernel
theorem dX4_text_21 : decode cX4_text 21 = .ok (.getfield 56, 3) := by decide +kernel
theorem dX4_text_24 : decode cX4_text 24 = .ok (.iload_n 1, 1) := by decide +kernel
theorem dX4_text_25 : decode cX4_text 25 = .ok (.iaload, 1) := by decide +kernel
theorem dX4_text_26 : decode cX4_text 26 = .ok (.goto 4, 3) := by decide +kernel
theorem dX4_text_29 : decode cX4_text 29 = .ok (.iconst 0, 1) := by decide +kernel
theorem dX4_text_30 : decode cX4_text 30 = .ok (.istore 5, 2) := by decide +kernel
theorem dX4_text_32 : decode cX4_text 32 = .ok (.iload_n 1, 1) := by decide +kernel
theorem dX4_text_33 : decode cX4_text 33 = .ok (.invokestatic 84, 3) := by decide +kernel
theorem dX4_text_36 : decode cX4_text 36 = .ok (.ifCond .eq 29, 3) := by decide +kernel
theorem dX4_text_39 : decode cX4_text 39 = .ok (.iload 4, 2) := by decide +kernel
theorem dX4_text_41 : decode cX4_text 41 = .ok (.iconst 0, 1) := by decide +kernel
theorem dX4_text_42 : decode cX4_text 42 = .ok (.bipush 8, 2) := by decide +kernel
theorem dX4_text_44 : decode cX4_text 44 = .ok (.invokestatic 72, 3) := by decide +kernel
theorem dX4_text_47 : decode cX4_text 47 = .ok (.ifCond .eq 18, 3) := by decide +kernel
theorem dX4_text_50 : decode cX4_text 50 = .ok (.aload_n 0, 1) := by decide +kernel
theorem dX4_text_51 : decode cX4_text 51 = .ok (.getfield 69, 3) := by decide +kernel
theorem dX4_text_54 : decode cX4_text 54 = .ok (.iload 5, 2) := by decide +kernel
theorem dX4_text_56 : decode cX4_text 56 = .ok (.iaload, 1) := by decide +kernel
theorem dX4_text_57 : decode cX4_text 57 = .ok (.iload 4, 2) := by decide +kernel
theorem dX4_text_59 : decode cX4_text 59 = .ok (.iadd, 1) := by decide +kernel
theorem dX4_text_60 : decode cX4_text 60 = .ok (.bipush 31, 2) := by decide +kernel
theorem dX4_text_62 : decode cX4_text 62 = .ok (.if_icmp .le 5, 3) := by decide +kernel
theorem dX4_text_65 : decode cX4_text 65 = .ok (.iconst 0, 1) := by decide +kernel
theorem dX4_text_66 : decode cX4_text 66 = .ok (.ireturn, 1) := by decide +kernel
theorem dX4_text_67 : decode cX4_text 67 = .ok (.aload_n 0, 1) := by decide +kernel
theorem dX4_text_68 : decode cX4_text 68 = .ok (.lload_n 2, 1) := by decide +kernel
theorem dX4_text_69 : decode cX4_text 69 = .ok (.iload 4, 2) := by decide +kernel
theorem dX4_text_71 : decode cX4_text 71 = .ok (.iload 5, 2) := by decide +kernel
theorem dX4_text_73 : decode cX4_text 73 = .ok (.invokevirtual 88, 3) := by decide +kernel
theorem dX4_text_76 : decode cX4_text 76 = .ok (.aload_n 0, 1) := by decide +kernel
theorem dX4_text_77 : decode cX4_text 77 = .ok (.getfield 56, 3) := by decide +kernel
theorem dX4_text_80 : decode cX4_text 80 = .ok (.iload_n 1, 1) := by decide +kernel
theorem dX4_text_81 : decode cX4_text 81 = .ok (.aload_n 0, 1) := by decide +kernel
theorem dX4_text_82 : decode cX4_text 82 = .ok (.getfield 80, 3) := by decide +kernel
theorem dX4_text_85 : decode cX4_text 85 = .ok (.iastore, 1) := by decide +kernel
theorem dX4_text_86 : decode cX4_text 86 = .ok (.iconst 1, 1) := by decide +kernel
theorem dX4_text_87 : decode cX4_text 87 = .ok (.ireturn, 1) := by decide +kernel
set_option maxRecDepth 20000 in
theorem ggX4_value_X4_isColumn : GoodIn wsX4_value wsX4_isColumn := goodIn_r _ [8, 9, 10, 7, 11] (by decide +kernel) (by decide +kernel)
set_option maxRecDepth 20000 in
theorem gX4_value_X4_isColumn : GoodIn wsX4_value (va_wsS RX4 84 yX4_isColumn wsX4_isColumn) := goodIn_app (goodIn_of _ (by decide +kernel)) ggX4_value_X4_isColumn
set_option maxRecDepth 20000 in
theorem ggX4_value_X4_stepOf : GoodIn wsX4_value wsX4_stepOf := goodIn_r _ [14] (by decide +kernel) (by decide +kernel)
set_option maxRecDepth 20000 in
theorem gX4_value_X4_stepOf : GoodIn wsX4_value (va_wsS RX4 76 yX4_stepOf wsX4_stepOf) := goodIn_app (goodIn_of _ (by decide +kernel)) ggX4_value_X4_stepOf
theorem dX4_value_0 : decode cX4_value 0 = .ok (.iload_n 1, 1) := by decide +kernel
theorem dX4_value_1 : decode cX4_value 1 = .ok (.invokestatic 84, 3) := by decide +kernel
theorem dX4_value_4 : decode cX4_value 4 = .ok (.ifCond .eq 12, 3) := by decide +kernel
theorem dX4_value_7 : decode cX4_value 7 = .ok (.aload_n 0, 1) := by decide +kernel
theorem dX4_value_8 : decode cX4_value 8 = .ok (.getfield 56, 3) := by decide +kernel
theorem dX4_value_11 : decode cX4_value 11 = .ok (.iload_n 1, 1) := by decide +kernel
theorem dX4_value_12 : decode cX4_value 12 = .ok (.iaload, 1) := by decide +kernel
theorem dX4_value_13 : decode cX4_value 13 = .ok (.ifCond .ne 5, 3) := by decide +kernel
theorem dX4_value_16 : decode cX4_value 16 = .ok (.lconst 0, 1) := by decide +kernel
theorem dX4_value_17 : decode cX4_value 17 = .ok (.lreturn, 1) := by decide +kernel
theorem dX4_value_18 : decode cX4_value 18 = .ok (.aload_n 0, 1) := by decide +kernel
theorem dX4_value_19 : decode cX4_value 19 = .ok (.getfield 56, 3) := by decide +kernel
theorem dX4_value_22 : decode cX4_value 22 = .ok (.iload_n 1, 1) := by decide +kernel
theorem dX4_value_23 : decode cX4_value 23 = .ok (.iaload, 1) := by decide +kernel
theorem dX4_value_24 : decode cX4_value 24 = .ok (.invokestatic 76, 3) := by decide +kernel
theorem dX4_value_27 : decode cX4_value 27 = .ok (.istore_n 2, 1) := by decide +kernel
theorem dX4_value_28 : decode cX4_value 28 = .ok (.aload_n 0, 1) := by decide +kernel
theorem dX4_value_29 : decode cX4_value 29 = .ok (.getfield 63, 3) := by decide +kernel
theorem dX4_value_32 : decode cX4_value 32 = .ok (.iload_n 2, 1) := by decide +kernel
theorem dX4_value_33 : decode cX4_value 33 = .ok (.iaload, 1) := by decide +kernel
theorem dX4_value_34 : decode cX4_value 34 = .ok (.ifCond .lt 13, 3) := by decide +kernel
theorem dX4_value_37 : decode cX4_value 37 = .ok (.aload_n 0, 1) := by decide +kernel
theorem dX4_value_38 : decode cX4_value 38 = .ok (.getfield 69, 3) := by decide +kernel
theorem dX4_value_41 : decode cX4_value 41 = .ok (.iload_n 2, 1) := by decide +kernel
theorem dX4_value_42 : decode cX4_value 42 = .ok (.iaload, 1) := by decide +kernel
theorem dX4_value_43 : decode cX4_value 43 = .ok (.i2l, 1) := by decide +kernel
theorem dX4_value_44 : decode cX4_value 44 = .ok (.goto 37, 3) := by decide +kernel
theorem dX4_value_47 : decode cX4_value 47 = .ok (.aload_n 0, 1) := by decide +kernel
theorem dX4_value_48 : decode cX4_value 48 = .ok (.getfield 56, 3) := by decide +kernel
theorem dX4_value_51 : decode cX4_value 51 = .ok (.iload_n 1, 1) := by decide +kernel
theorem dX4_value_52 : decode cX4_value 52 = .ok (.iaload, 1) := by decide +kernel
theorem dX4_value_53 : decode cX4_value 53 = .ok (.ifCond .le 12, 3) := by decide +kernel
theorem dX4_value_56 : decode cX4_value 56 = .ok (.aload_n 0, 1) := by decide +kernel
theorem dX4_value_57 : decode cX4_value 57 = .ok (.getfield 59, 3) := by decide +kernel
theorem dX4_value_60 : decode cX4_value 60 = .ok (.iload_n 2, 1) := by decide +kernel
theorem dX4_value_61 : decode cX4_value 61 = .ok (.laload, 1) := by decide +kernel
theorem dX4_value_62 : decode cX4_value 62 = .ok (.goto 19, 3) := by decide +kernel
theorem dX4_value_65 : decode cX4_value 65 = .ok (.aload_n 0, 1) := by decide +kernel
theorem dX4_value_66 : decode cX4_value 66 = .ok (.getfield 59, 3) := by decide +kernel
theorem dX4_value_69 : decode cX4_value 69 = .ok (.iload_n 2, 1) := by decide +kernel
theorem dX4_value_70 : decode cX4_value 70 = .ok (.laload, 1) := by decide +kernel
theorem dX4_value_71 : decode cX4_value 71 = .ok (.lconst 0, 1) := by decide +kernel
theorem dX4_value_72 : decode cX4_value 72 = .ok (.lcmp, 1) := by decide +kernel
theorem dX4_value_73 : decode cX4_value 73 = .ok (.ifCond .ne 7, 3) := by decide +kernel
theorem dX4_value_76 : decode cX4_value 76 = .ok (.lconst 0, 1) := by decide +kernel
theorem dX4_value_77 : decode cX4_value 77 = .ok (.goto 4, 3) := by decide +kernel
theorem dX4_value_80 : decode cX4_value 80 = .ok (.lconst 1, 1) := by decide +kernel
theorem dX4_value_81 : decode cX4_value 81 = .ok (.lreturn, 1) := by decide +kernel
set_option maxRecDepth 20000 in
theorem ggX4_letter_X4_isColumn : GoodIn wsX4_letter wsX4_isColumn := goodIn_r _ [10, 11, 12, 9, 13] (by decide +kernel) (by decide +kernel)
set_option maxRecDepth 20000 in
theorem gX4_letter_X4_isColumn : GoodIn wsX4_letter (va_wsS RX4 84 yX4_isColumn wsX4_isColumn) := goodIn_app (goodIn_of _ (by decide +kernel)) ggX4_letter_X4_isColumn
set_option maxRecDepth 20000 in
theorem ggX4_letter_X4_isText : GoodIn wsX4_letter wsX4_isText := goodIn_r _ [17, 3, 18, 19, 9, 20, 21, 22, 23, 24, 25, 26, 27, 28, 29, 30, 31, 32, 33, 34, 35, 36, 37, 38, 39, 40, 41, 42] (by decide +kernel) (by decide +kernel)
set_option maxRecDepth 20000 in
theorem gX4_letter_X4_isText : GoodIn wsX4_letter (wsV RX4 92 RX4 yX4_isText wsX4_isText) := goodIn_app (goodIn_of _ (by decide +kernel)) ggX4_letter_X4_isText
set_option maxRecDepth 20000 in
theorem ggX4_letter_X4_in : GoodIn wsX4_letter wsX4_in := goodIn_r _ [13] (by decide +kernel) (by decide +kernel)
set_option maxRecDepth 20000 in
theorem gX4_letter_X4_in : GoodIn wsX4_letter (va_wsS RX4 72 yX4_in wsX4_in) := goodIn_app (goodIn_of _ (by decide +kernel)) ggX4_letter_X4_in
theorem dX4_letter_0 : decode cX4_letter 0 = .ok (.iload_n 1, 1) := by decide +kernel
theorem dX4_letter_1 : decode cX4_letter 1 = .ok (.invokestatic 84, 3) := by decide +kernel
theorem dX4_letter_4 : decode cX4_letter 4 = .ok (.ifCond .eq 37, 3) := by decide +kernel
theorem dX4_letter_7 : decode cX4_letter 7 = .ok (.aload_n 0, 1) := by decide +kernel
theorem dX4_letter_8 : decode cX4_letter 8 = .ok (.aload_n 0, 1) := by decide +kernel
theorem dX4_letter_9 : decode cX4_letter 9 = .ok (.getfield 56, 3) := by decide +kernel
theorem dX4_letter_12 : decode cX4_letter 12 = .ok (.iload_n 1, 1) := by decide +kernel
theorem dX4_letter_13 : decode cX4_letter 13 = .ok (.iaload, 1) := by decide +kernel
theorem dX4_letter_14 : decode cX4_letter 14 = .ok (.invokevirtual 92, 3) := by decide +kernel
theorem dX4_letter_17 : decode cX4_letter 17 = .ok (.ifCond .eq 24, 3) := by decide +kernel
theorem dX4_letter_20 : decode cX4_letter 20 = .ok (.iload_n 2, 1) := by decide +kernel
theorem dX4_letter_21 : decode cX4_letter 21 = .ok (.iconst 0, 1) := by decide +kernel
theorem dX4_letter_22 : decode cX4_letter 22 = .ok (.aload_n 0, 1) := by decide +kernel
theorem dX4_letter_23 : decode cX4_letter 23 = .ok (.getfield 69, 3) := by decide +kernel
theorem dX4_letter_26 : decode cX4_letter 26 = .ok (.aload_n 0, 1) := by decide +kernel
theorem dX4_letter_27 : decode cX4_letter 27 = .ok (.getfield 56, 3) := by decide +kernel
theorem dX4_letter_30 : decode cX4_letter 30 = .ok (.iload_n 1, 1) := by decide +kernel
theorem dX4_letter_31 : decode cX4_letter 31 = .ok (.iaload, 1) := by decide +kernel
theorem dX4_letter_32 : decode cX4_letter 32 = .ok (.iaload, 1) := by decide +kernel
theorem dX4_letter_33 : decode cX4_letter 33 = .ok (.iconst 1, 1) := by decide +kernel
theorem dX4_letter_34 : decode cX4_letter 34 = .ok (.isub, 1) := by decide +kernel
theorem dX4_letter_35 : decode cX4_letter 35 = .ok (.invokestatic 72, 3) := by decide +kernel
theorem dX4_letter_38 : decode cX4_letter 38 = .ok (.ifCond .ne 5, 3) := by decide +kernel
theorem dX4_letter_41 : decode cX4_letter 41 = .ok (.iconst (-1), 1) := by decide +kernel
theorem dX4_letter_42 : decode cX4_letter 42 = .ok (.ireturn, 1) := by decide +kernel
theorem dX4_letter_43 : decode cX4_letter 43 = .ok (.aload_n 0, 1) := by decide +kernel
theorem dX4_letter_44 : decode cX4_letter 44 = .ok (.getfield 56, 3) := by decide +kernel
theorem dX4_letter_47 : decode cX4_letter 47 = .ok (.iload_n 1, 1) := by decide +kernel
theorem dX4_letter_48 : decode cX4_letter 48 = .ok (.iaload, 1) := by decide +kernel
theorem dX4_letter_49 : decode cX4_letter 49 = .ok (.istore_n 3, 1) := by decide +kernel
theorem dX4_letter_50 : decode cX4_letter 50 = .ok (.iconst 0, 1) := by decide +kernel
theorem dX4_letter_51 : decode cX4_letter 51 = .ok (.istore 4, 2) := by decide +kernel
theorem dX4_letter_53 : decode cX4_letter 53 = .ok (.iload 4, 2) := by decide +kernel
theorem dX4_letter_55 : decode cX4_letter 55 = .ok (.sipush 515, 3) := by decide +kernel
theorem dX4_letter_58 : decode cX4_letter 58 = .ok (.if_icmp .ge 33, 3) := by decide +kernel
theorem dX4_letter_61 : decode cX4_letter 61 = .ok (.iload_n 2, 1) := by decide +kernel
theorem dX4_letter_62 : decode cX4_letter 62 = .ok (.aload_n 0, 1) := by decide +kernel
theorem dX4_letter_63 : decode cX4_letter 63 = .ok (.getfield 69, 3) := by decide +kernel
theorem dX4_letter_66 : decode cX4_letter 66 = .ok (.iload_n 3, 1) := by decide +kernel
theorem dX4_letter_67 : decode cX4_letter 67 = .ok (.iaload, 1) := by decide +kernel
theorem dX4_letter_68 : decode cX4_letter 68 = .ok (.aload_n 0, 1) := by decide +kernel
theorem dX4_letter_69 : decode cX4_letter 69 = .ok (.getfield 63, 3) := by decide +kernel
theorem dX4_letter_72 : decode cX4_letter 72 = .ok (.iload_n 3, 1) := by decide +kernel
theorem dX4_letter_73 : decode cX4_letter 73 = .ok (.iaload, 1) := by decide +kernel
theorem dX4_letter_74 : decode cX4_letter 74 = .ok (.isub, 1) := by decide +kernel
theorem dX4_letter_75 : decode cX4_letter 75 = .ok (.if_icmp .ge 16, 3) := by decide +kernel
theorem dX4_letter_78 : decode cX4_letter 78 = .ok (.aload_n 0, 1) := by decide +kernel
theorem dX4_letter_79 : decode cX4_letter 79 = .ok (.getfield 66, 3) := by decide +kernel
theorem dX4_letter_82 : decode cX4_letter 82 = .ok (.iload_n 3, 1) := by decide +kernel
theorem dX4_letter_83 : decode cX4_letter 83 = .ok (.iaload, 1) := by decide +kernel
theorem dX4_letter_84 : decode cX4_letter 84 = .ok (.istore_n 3, 1) := by decide +kernel
theorem dX4_letter_85 : decode cX4_letter 85 = .ok (.iinc 4 1, 3) := by decide +kernel
theorem dX4_letter_88 : decode cX4_letter 88 = .ok (.goto (-35), 3) := by decide +kernel
theorem dX4_letter_91 : decode cX4_letter 91 = .ok (.aload_n 0, 1) := by decide +kernel
theorem dX4_letter_92 : decode cX4_letter 92 = .ok (.getfield 59, 3) := by decide +kernel
theorem dX4_letter_95 : decode cX4_letter 95 = .ok (.iload_n 3, 1) := by decide +kernel
theorem dX4_letter_96 : decode cX4_letter 96 = .ok (.laload, 1) := by decide +kernel
theorem dX4_letter_97 : decode cX4_letter 97 = .ok (.bipush 8, 2) := by decide +kernel
theorem dX4_letter_99 : decode cX4_letter 99 = .ok (.aload_n 0, 1) := by decide +kernel
theorem dX4_letter_100 : decode cX4_letter 100 = .ok (.getfield 69, 3) := by decide +kernel
theorem dX4_letter_103 : decode cX4_letter 103 = .ok (.iload_n 3, 1) := by decide +kernel
theorem dX4_letter_104 : decode cX4_letter 104 = .ok (.iaload, 1) := by decide +kernel
theorem dX4_letter_105 : decode cX4_letter 105 = .ok (.iconst 1, 1) := by decide +kernel
theorem dX4_letter_106 : decode cX4_letter 106 = .ok (.isub, 1) := by decide +kernel
theorem dX4_letter_107 : decode cX4_letter 107 = .ok (.iload_n 2, 1) := by decide +kernel
theorem dX4_letter_108 : decode cX4_letter 108 = .ok (.isub, 1) := by decide +kernel
theorem dX4_letter_109 : decode cX4_letter 109 = .ok (.imul, 1) := by decide +kernel
theorem dX4_letter_110 : decode cX4_letter 110 = .ok (.lshr, 1) := by decide +kernel
theorem dX4_letter_111 : decode cX4_letter 111 = .ok (.ldc2_w 95, 3) := by decide +kernel
theorem dX4_letter_114 : decode cX4_letter 114 = .ok (.land, 1) := by decide +kernel
theorem dX4_letter_115 : decode cX4_letter 115 = .ok (.l2i, 1) := by decide +kernel
theorem dX4_letter_116 : decode cX4_letter 116 = .ok (.ireturn, 1) := by decide +kernel
set_option maxRecDepth 20000 in
theorem ggX4_kind_X4_isColumn : GoodIn wsX4_kind wsX4_isColumn := goodIn_r _ [5, 6, 7, 4, 8] (by decide +kernel) (by decide +kernel)
set_option maxRecDepth 20000 in
theorem gX4_kind_X4_isColumn : GoodIn wsX4_kind (va_wsS RX4 84 yX4_isColumn wsX4_isColumn) := goodIn_app (goodIn_of _ (by decide +kernel)) ggX4_kind_X4_isColumn
set_option maxRecDepth 20000 in
theorem ggX4_kind_X4_isText : GoodIn wsX4_kind wsX4_isText := goodIn_r _ [12, 13, 14, 15, 4, 16, 17, 18, 19, 20, 21, 22, 23, 24, 25, 26, 27, 28, 29, 30, 31, 32, 33, 34, 35, 36, 37, 38] (by decide +kernel) (by decide +kernel)
set_option maxRecDepth 20000 in
theorem gX4_kind_X4_isText : GoodIn wsX4_kind (wsV RX4 92 RX4 yX4_isText wsX4_isText) := goodIn_app (goodIn_of _ (by decide +kernel)) ggX4_kind_X4_isText
theorem dX4_kind_0 : decode cX4_kind 0 = .ok (.iload_n 1, 1) := by decide +kernel
theorem dX4_kind_1 : decode cX4_kind 1 = .ok (.invokestatic 84, 3) := by decide +kernel
theorem dX4_kind_4 : decode cX4_kind 4 = .ok (.ifCond .ne 7, 3) := by decide +kernel
theorem dX4_kind_7 : decode cX4_kind 7 = .ok (.iconst (-1), 1) := by decide +kernel
theorem dX4_kind_8 : decode cX4_kind 8 = .ok (.goto 34, 3) := by decide +kernel
theorem dX4_kind_11 : decode cX4_kind 11 = .ok (.aload_n 0, 1) := by decide +kernel
theorem dX4_kind_12 : decode cX4_kind 12 = .ok (.getfield 56, 3) := by decide +kernel
theorem dX4_kind_15 : decode cX4_kind 15 = .ok (.iload_n 1, 1) := by decide +kernel
theorem dX4_kind_16 : decode cX4_kind 16 = .ok (.iaload, 1) := by decide +kernel
theorem dX4_kind_17 : decode cX4_kind 17 = .ok (.ifCond .ne 7, 3) := by decide +kernel
theorem dX4_kind_20 : decode cX4_kind 20 = .ok (.iconst 0, 1) := by decide +kernel
theorem dX4_kind_21 : decode cX4_kind 21 = .ok (.goto 21, 3) := by decide +kernel
theorem dX4_kind_24 : decode cX4_kind 24 = .ok (.aload_n 0, 1) := by decide +kernel
theorem dX4_kind_25 : decode cX4_kind 25 = .ok (.aload_n 0, 1) := by decide +kernel
theorem dX4_kind_26 : decode cX4_kind 26 = .ok (.getfield 56, 3) := by decide +kernel
theorem dX4_kind_29 : decode cX4_kind 29 = .ok (.iload_n 1, 1) := by decide +kernel
theorem dX4_kind_30 : decode cX4_kind 30 = .ok (.iaload, 1) := by decide +kernel
theorem dX4_kind_31 : decode cX4_kind 31 = .ok (.invokevirtual 92, 3) := by decide +kernel
theorem dX4_kind_34 : decode cX4_kind 34 = .ok (.ifCond .eq 7, 3) := by decide +kernel
theorem dX4_kind_37 : decode cX4_kind 37 = .ok (.iconst 2, 1) := by decide +kernel
theorem dX4_kind_38 : decode cX4_kind 38 = .ok (.goto 4, 3) := by decide +kernel
theorem dX4_kind_41 : decode cX4_kind 41 = .ok (.iconst 1, 1) := by decide +kernel
theorem dX4_kind_42 : decode cX4_kind 42 = .ok (.ireturn, 1) := by decide +kernel
theorem dX4_lowestFree_0 : decode cX4_lowestFree 0 = .ok (.iconst (-1), 1) := by decide +kernel
theorem dX4_lowestFree_1 : decode cX4_lowestFree 1 = .ok (.istore_n 1, 1) := by decide +kernel
theorem dX4_lowestFree_2 : decode cX4_lowestFree 2 = .ok (.bipush 59, 2) := by decide +kernel
theorem dX4_lowestFree_4 : decode cX4_lowestFree 4 = .ok (.istore_n 2, 1) := by decide +kernel
theorem dX4_lowestFree_5 : decode cX4_lowestFree 5 = .ok (.iload_n 2, 1) := by decide +kernel
theorem dX4_lowestFree_6 : decode cX4_lowestFree 6 = .ok (.ifCond .lt 24, 3) := by decide +kernel
theorem dX4_lowestFree_9 : decode cX4_lowestFree 9 = .ok (.aload_n 0, 1) := by decide +kernel
theorem dX4_lowestFree_10 : decode cX4_lowestFree 10 = .ok (.getfield 19, 3) := by decide +kernel
theorem dX4_lowestFree_13 : decode cX4_lowestFree 13 = .ok (.iload_n 2, 1) := by decide +kernel
theorem dX4_lowestFree_14 : decode cX4_lowestFree 14 = .ok (.iaload, 1) := by decide +kernel
theorem dX4_lowestFree_15 : decode cX4_lowestFree 15 = .ok (.ifCond .ge 7, 3) := by decide +kernel
theorem dX4_lowestFree_18 : decode cX4_lowestFree 18 = .ok (.iload_n 2, 1) := by decide +kernel
theorem dX4_lowestFree_19 : decode cX4_lowestFree 19 = .ok (.goto 4, 3) := by decide +kernel
theorem dX4_lowestFree_22 : decode cX4_lowestFree 22 = .ok (.iload_n 1, 1) := by decide +kernel
theorem dX4_lowestFree_23 : decode cX4_lowestFree 23 = .ok (.istore_n 1, 1) := by decide +kernel
theorem dX4_lowestFree_24 : decode cX4_lowestFree 24 = .ok (.iinc 2 (-1), 3) := by decide +kernel
theorem dX4_lowestFree_27 : decode cX4_lowestFree 27 = .ok (.goto (-22), 3) := by decide +kernel
theorem dX4_lowestFree_30 : decode cX4_lowestFree 30 = .ok (.iload_n 1, 1) := by decide +kernel
theorem dX4_lowestFree_31 : decode cX4_lowestFree 31 = .ok (.ireturn, 1) := by decide +kernel
theorem dX4_open_0 : decode cX4_open 0 = .ok (.aload_n 0, 1) := by decide +kernel
theorem dX4_open_1 : decode cX4_open 1 = .ok (.getfield 19, 3) := by decide +kernel
theorem dX4_open_4 : decode cX4_open 4 = .ok (.iload_n 1, 1) := by decide +kernel
theorem dX4_open_5 : decode cX4_open 5 = .ok (.iload_n 2, 1) := by decide +kernel
theorem dX4_open_6 : decode cX4_open 6 = .ok (.iastore, 1) := by decide +kernel
theorem dX4_open_7 : decode cX4_open 7 = .ok (.aload_n 0, 1) := by decide +kernel
theorem dX4_open_8 : decode cX4_open 8 = .ok (.getfield 22, 3) := by decide +kernel
theorem dX4_open_11 : decode cX4_open 11 = .ok (.iload_n 1, 1) := by decide +kernel
theorem dX4_open_12 : decode cX4_open 12 = .ok (.iconst 0, 1) := by decide +kernel
theorem dX4_open_13 : decode cX4_open 13 = .ok (.iastore, 1) := by decide +kernel
theorem dX4_open_14 : decode cX4_open 14 = .ok (.aload_n 0, 1) := by decide +kernel
theorem dX4_open_15 : decode cX4_open 15 = .ok (.getfield 25, 3) := by decide +kernel
theorem dX4_open_18 : decode cX4_open 18 = .ok (.iload_n 1, 1) := by decide +kernel
theorem dX4_open_19 : decode cX4_open 19 = .ok (.iconst (-1), 1) := by decide +kernel
theorem dX4_open_20 : decode cX4_open 20 = .ok (.iastore, 1) := by decide +kernel
theorem dX4_open_21 : decode cX4_open 21 = .ok (.return_, 1) := by decide +kernel
set_option maxRecDepth 20000 in
theorem ggX4_create_X4_in : GoodIn wsX4_create wsX4_in := goodIn_r _ [7] (by decide +kernel) (by decide +kernel)
set_option maxRecDepth 20000 in
theorem gX4_create_X4_in : GoodIn wsX4_create (va_wsS RX4 72 yX4_in wsX4_in) := goodIn_app (goodIn_of _ (by decide +kernel)) ggX4_create_X4_in
set_option maxRecDepth 20000 in
theorem ggX4_create_X4_lowestFree : GoodIn wsX4_create wsX4_lowestFree := goodIn_r _ [11, 12, 19, 20, 21, 22, 23, 24, 25, 26, 27, 28, 29, 30, 31, 32, 33, 34, 35, 36, 37, 38, 39, 40] (by decide +kernel) (by decide +kernel)
set_option maxRecDepth 20000 in
theorem gX4_create_X4_lowestFree : GoodIn wsX4_create (wsV RX4 97 RX4 yX4_lowestFree wsX4_lowestFree) := goodIn_app (goodIn_of _ (by decide +kernel)) ggX4_create_X4_lowestFree
set_option maxRecDepth 20000 in
theorem ggX4_create_X4_open : GoodIn wsX4_create wsX4_open := goodIn_r _ [16, 12, 17, 18, 19, 20, 21, 22, 23, 24, 25, 26, 27, 28, 29, 30, 31, 32, 33, 34, 35, 36, 37, 38, 39, 40] (by decide +kernel) (by decide +kernel)
set_option maxRecDepth 20000 in
theorem gX4_create_X4_open : GoodIn wsX4_create (wsV RX4 101 RX4 yX4_open wsX4_open) := goodIn_app (goodIn_of _ (by decide +kernel)) ggX4_create_X4_open
theorem dX4_create_0 : decode cX4_create 0 = .ok (.iload_n 1, 1) := by decide +kernel
theorem dX4_create_1 : decode cX4_create 1 = .ok (.iconst 0, 1) := by decide +kernel
theorem dX4_create_2 : decode cX4_create 2 = .ok (.bipush 7, 2) := by decide +kernel
theorem dX4_create_4 : decode cX4_create 4 = .ok (.invokestatic 72, 3) := by decide +kernel
theorem dX4_create_7 : decode cX4_create 7 = .ok (.ifCond .eq 22, 3) := by decide +kernel
theorem dX4_create_10 : decode cX4_create 10 = .ok (.aload_n 0, 1) := by decide +kernel
theorem dX4_create_11 : decode cX4_create 11 = .ok (.getfield 7, 3) := by decide +kernel
theorem dX4_create_14 : decode cX4_create 14 = .ok (.iload_n 1, 1) := by decide +kernel
theorem dX4_create_15 : decode cX4_create 15 = .ok (.iaload, 1) := by decide +kernel
theorem dX4_create_16 : decode cX4_create 16 = .ok (.ifCond .gt 13, 3) := by decide +kernel
theorem dX4_create_19 : decode cX4_create 19 = .ok (.iload_n 2, 1) := by decide +kernel
theorem dX4_create_20 : decode cX4_create 20 = .ok (.iconst 1, 1) := by decide +kernel
theorem dX4_create_21 : decode cX4_create 21 = .ok (.bipush 8, 2) := by decide +kernel
theorem dX4_create_23 : decode cX4_create 23 = .ok (.invokestatic 72, 3) := by decide +kernel
theorem dX4_create_26 : decode cX4_create 26 = .ok (.ifCond .ne 5, 3) := by decide +kernel
theorem dX4_create_29 : decode cX4_create 29 = .ok (.iconst 0, 1) := by decide +kernel
theorem dX4_create_30 : decode cX4_create 30 = .ok (.ireturn, 1) := by decide +kernel
theorem dX4_create_31 : decode cX4_create 31 = .ok (.iload_n 3, 1) := by decide +kernel
theorem dX4_create_32 : decode cX4_create 32 = .ok (.istore 4, 2) := by decide +kernel
theorem dX4_create_34 : decode cX4_create 34 = .ok (.aload_n 0, 1) := by decide +kernel
theorem dX4_create_35 : decode cX4_create 35 = .ok (.invokevirtual 97, 3) := by decide +kernel
theorem dX4_create_38 : decode cX4_create 38 = .ok (.ifCond .lt 7, 3) := by decide +kernel
theorem dX4_create_41 : decode cX4_create 41 = .ok (.iconst 1, 1) := by decide +kernel
theorem dX4_create_42 : decode cX4_create 42 = .ok (.goto 4, 3) := by decide +kernel
theorem dX4_create_45 : decode cX4_create 45 = .ok (.iconst 0, 1) := by decide +kernel
theorem dX4_create_46 : decode cX4_create 46 = .ok (.istore 5, 2) := by decide +kernel
theorem dX4_create_48 : decode cX4_create 48 = .ok (.iconst 0, 1) := by decide +kernel
theorem dX4_create_49 : decode cX4_create 49 = .ok (.istore 6, 2) := by decide +kernel
theorem dX4_create_51 : decode cX4_create 51 = .ok (.iload 6, 2) := by decide +kernel
theorem dX4_create_53 : decode cX4_create 53 = .ok (.iload_n 2, 1) := by decide +kernel
theorem dX4_create_54 : decode cX4_create 54 = .ok (.if_icmp .ge 58, 3) := by decide +kernel
theorem dX4_create_57 : decode cX4_create 57 = .ok (.aload_n 0, 1) := by decide +kernel
theorem dX4_create_58 : decode cX4_create 58 = .ok (.getfield 13, 3) := by decide +kernel
theorem dX4_create_61 : decode cX4_create 61 = .ok (.bipush 8, 2) := by decide +kernel
theorem dX4_create_63 : decode cX4_create 63 = .ok (.iload_n 1, 1) := by decide +kernel
theorem dX4_create_64 : decode cX4_create 64 = .ok (.imul, 1) := by decide +kernel
theorem dX4_create_65 : decode cX4_create 65 = .ok (.iload 6, 2) := by decide +kernel
theorem dX4_create_67 : decode cX4_create 67 = .ok (.iadd, 1) := by decide +kernel
theorem dX4_create_68 : decode cX4_create 68 = .ok (.iload 4, 2) := by decide +kernel
theorem dX4_create_70 : decode cX4_create 70 = .ok (.bipush 10, 2) := by decide +kernel
theorem dX4_create_72 : decode cX4_create 72 = .ok (.irem, 1) := by decide +kernel
theorem dX4_create_73 : decode cX4_create 73 = .ok (.iastore, 1) := by decide +kernel
theorem dX4_create_74 : decode cX4_create 74 = .ok (.iload 5, 2) := by decide +kernel
theorem dX4_create_76 : decode cX4_create 76 = .ok (.ifCond .eq 20, 3) := by decide +kernel
theorem dX4_create_79 : decode cX4_create 79 = .ok (.iload 4, 2) := by decide +kernel
theorem dX4_create_81 : decode cX4_create 81 = .ok (.bipush 10, 2) := by decide +kernel
theorem dX4_create_83 : decode cX4_create 83 = .ok (.irem, 1) := by decide +kernel
theorem dX4_create_84 : decode cX4_create 84 = .ok (.iconst 1, 1) := by decide +kernel
theorem dX4_create_85 : decode cX4_create 85 = .ok (.iconst 3, 1) := by decide +kernel
theorem dX4_create_86 : decode cX4_create 86 = .ok (.invokestatic 72, 3) := by decide +kernel
theorem dX4_create_89 : decode cX4_create 89 = .ok (.ifCond .eq 7, 3) := by decide +kernel
theorem dX4_create_92 : decode cX4_create 92 = .ok (.iconst 1, 1) := by decide +kernel
theorem dX4_create_93 : decode cX4_create 93 = .ok (.goto 4, 3) := by decide +kernel
theorem dX4_create_96 : decode cX4_create 96 = .ok (.iconst 0, 1) := by decide +kernel
theorem dX4_create_97 : decode cX4_create 97 = .ok (.istore 5, 2) := by decide +kernel
theorem dX4_create_99 : decode cX4_create 99 = .ok (.iload 4, 2) := by decide +kernel
theorem dX4_create_101 : decode cX4_create 101 = .ok (.bipush 10, 2) := by decide +kernel
theorem dX4_create_103 : decode cX4_create 103 = .ok (.idiv, 1) := by decide +kernel
theorem dX4_create_104 : decode cX4_create 104 = .ok (.istore 4, 2) := by decide +kernel
theorem dX4_create_106 : decode cX4_create 106 = .ok (.iinc 6 1, 3) := by decide +kernel
theorem dX4_create_109 : decode cX4_create 109 = .ok (.goto (-58), 3) := by decide +kernel
theorem dX4_create_112 : decode cX4_create 112 = .ok (.iload 5, 2) := by decide +kernel
theorem dX4_create_114 : decode cX4_create 114 = .ok (.ifCond .eq 31, 3) := by decide +kernel
theorem dX4_create_117 : decode cX4_create 117 = .ok (.aload_n 0, 1) := by decide +kernel
theorem dX4_create_118 : decode cX4_create 118 = .ok (.getfield 7, 3) := by decide +kernel
theorem dX4_create_121 : decode cX4_create 121 = .ok (.iload_n 1, 1) := by decide +kernel
theorem dX4_create_122 : decode cX4_create 122 = .ok (.iload_n 2, 1) := by decide +kernel
theorem dX4_create_123 : decode cX4_create 123 = .ok (.iastore, 1) := by decide +kernel
theorem dX4_create_124 : decode cX4_create 124 = .ok (.aload_n 0, 1) := by decide +kernel
theorem dX4_create_125 : decode cX4_create 125 = .ok (.getfield 16, 3) := by decide +kernel
theorem dX4_create_128 : decode cX4_create 128 = .ok (.iload_n 1, 1) := by decide +kernel
theorem dX4_create_129 : decode cX4_create 129 = .ok (.aload_n 0, 1) := by decide +kernel
theorem dX4_create_130 : decode cX4_create 130 = .ok (.invokevirtual 97, 3) := by decide +kernel
theorem dX4_create_133 : decode cX4_create 133 = .ok (.iastore, 1) := by decide +kernel
theorem dX4_create_134 : decode cX4_create 134 = .ok (.aload_n 0, 1) := by decide +kernel
theorem dX4_create_135 : decode cX4_create 135 = .ok (.aload_n 0, 1) := by decide +kernel
theorem dX4_create_136 : decode cX4_create 136 = .ok (.getfield 16, 3) := by decide +kernel
theorem dX4_create_139 : decode cX4_create 139 = .ok (.iload_n 1, 1) := by decide +kernel
theorem dX4_create_140 : decode cX4_create 140 = .ok (.iaload, 1) := by decide +kernel
theorem dX4_create_141 : decode cX4_create 141 = .ok (.iload_n 1, 1) := by decide +kernel
theorem dX4_create_142 : decode cX4_create 142 = .ok (.invokevirtual 101, 3) := by decide +kernel
theorem dX4_create_145 : decode cX4_create 145 = .ok (.iload 5, 2) := by decide +kernel
theorem dX4_create_147 : decode cX4_create 147 = .ok (.ireturn, 1) := by decide +kernel
theorem dX4_drop0_0 : decode cX4_drop0 0 = .ok (.aload_n 0, 1) := by decide +kernel
theorem dX4_drop0_1 : decode cX4_drop0 1 = .ok (.dup, 1) := by decide +kernel
theorem dX4_drop0_2 : decode cX4_drop0 2 = .ok (.getfield 105, 3) := by decide +kernel
theorem dX4_drop0_5 : decode cX4_drop0 5 = .ok (.iconst 1, 1) := by decide +kernel
theorem dX4_drop0_6 : decode cX4_drop0 6 = .ok (.isub, 1) := by decide +kernel
theorem dX4_drop0_7 : decode cX4_drop0 7 = .ok (.putfield 105, 3) := by decide +kernel
theorem dX4_drop0_10 : decode cX4_drop0 10 = .ok (.aload_n 0, 1) := by decide +kernel
theorem dX4_drop0_11 : decode cX4_drop0 11 = .ok (.getfield 28, 3) := by decide +kernel
theorem dX4_drop0_14 : decode cX4_drop0 14 = .ok (.iload_n 1, 1) := by decide +kernel
theorem dX4_drop0_15 : decode cX4_drop0 15 = .ok (.aload_n 0, 1) := by decide +kernel
theorem dX4_drop0_16 : decode cX4_drop0 16 = .ok (.getfield 28, 3) := by decide +kernel
theorem dX4_drop0_19 : decode cX4_drop0 19 = .ok (.aload_n 0, 1) := by decide +kernel
theorem dX4_drop0_20 : decode cX4_drop0 20 = .ok (.getfield 105, 3) := by decide +kernel
theorem dX4_drop0_23 : decode cX4_drop0 23 = .ok (.iaload, 1) := by decide +kernel
theorem dX4_drop0_24 : decode cX4_drop0 24 = .ok (.iastore, 1) := by decide +kernel
theorem dX4_drop0_25 : decode cX4_drop0 25 = .ok (.aload_n 0, 1) := by decide +kernel
theorem dX4_drop0_26 : decode cX4_drop0 26 = .ok (.getfield 31, 3) := by decide +kernel
theorem dX4_drop0_29 : decode cX4_drop0 29 = .ok (.iload_n 1, 1) := by decide +kernel
theorem dX4_drop0_30 : decode cX4_drop0 30 = .ok (.aload_n 0, 1) := by decide +kernel
theorem dX4_drop0_31 : decode cX4_drop0 31 = .ok (.getfield 31, 3) := by decide +kernel
theorem dX4_drop0_34 : decode cX4_drop0 34 = .ok (.aload_n 0, 1) := by decide +kernel
theorem dX4_drop0_35 : decode cX4_drop0 35 = .ok (.getfield 105, 3) := by decide +kernel
theorem dX4_drop0_38 : decode cX4_drop0 38 = .ok (.iaload, 1) := by decide +kernel
theorem dX4_drop0_39 : decode cX4_drop0 39 = .ok (.iastore, 1) := by decide +kernel
theorem dX4_drop0_40 : decode cX4_drop0 40 = .ok (.aload_n 0, 1) := by decide +kernel
theorem dX4_drop0_41 : decode cX4_drop0 41 = .ok (.getfield 34, 3) := by decide +kernel
theorem dX4_drop0_44 : decode cX4_drop0 44 = .ok (.iload_n 1, 1) := by decide +kernel
theorem dX4_drop0_45 : decode cX4_drop0 45 = .ok (.aload_n 0, 1) := by decide +kernel
theorem dX4_drop0_46 : decode cX4_drop0 46 = .ok (.getfield 34, 3) := by decide +kernel
theorem dX4_drop0_49 : decode cX4_drop0 49 = .ok (.aload_n 0, 1) := by decide +kernel
theorem dX4_drop0_50 : decode cX4_drop0 50 = .ok (.getfield 105, 3) := by decide +kernel
theorem dX4_drop0_53 : decode cX4_drop0 53 = .ok (.iaload, 1) := by decide +kernel
theorem dX4_drop0_54 : decode cX4_drop0 54 = .ok (.iastore, 1) := by decide +kernel
theorem dX4_drop0_55 : decode cX4_drop0 55 = .ok (.aload_n 0, 1) := by decide +kernel
theorem dX4_drop0_56 : decode cX4_drop0 56 = .ok (.getfield 37, 3) := by decide +kernel
theorem dX4_drop0_59 : decode cX4_drop0 59 = .ok (.iload_n 1, 1) := by decide +kernel
theorem dX4_drop0_60 : decode cX4_drop0 60 = .ok (.aload_n 0, 1) := by decide +kernel
theorem dX4_drop0_61 : decode cX4_drop0 61 = .ok (.getfield 37, 3) := by decide +kernel
theorem dX4_drop0_64 : decode cX4_drop0 64 = .ok (.aload_n 0, 1) := by decide +kernel
theorem dX4_drop0_65 : decode cX4_drop0 65 = .ok (.getfield 105, 3) := by decide +kernel
theorem dX4_drop0_68 : decode cX4_drop0 68 = .ok (.iaload, 1) := by decide +kernel
theorem dX4_drop0_69 : decode cX4_drop0 69 = .ok (.iastore, 1) := by decide +kernel
theorem dX4_drop0_70 : decode cX4_drop0 70 = .ok (.aload_n 0, 1) := by decide +kernel
theorem dX4_drop0_71 : decode cX4_drop0 71 = .ok (.getfield 40, 3) := by decide +kernel
theorem dX4_drop0_74 : decode cX4_drop0 74 = .ok (.iload_n 1, 1) := by decide +kernel
theorem dX4_drop0_75 : decode cX4_drop0 75 = .ok (.aload_n 0, 1) := by decide +kernel
theorem dX4_drop0_76 : decode cX4_drop0 76 = .ok (.getfield 40, 3) := by decide +kernel
theorem dX4_drop0_79 : decode cX4_drop0 79 = .ok (.aload_n 0, 1) := by decide +kernel
theorem dX4_drop0_80 : decode cX4_drop0 80 = .ok (.getfield 105, 3) := by decide +kernel
theorem dX4_drop0_83 : decode cX4_drop0 83 = .ok (.iaload, 1) := by decide +kernel
theorem dX4_drop0_84 : decode cX4_drop0 84 = .ok (.iastore, 1) := by decide +kernel
theorem dX4_drop0_85 : decode cX4_drop0 85 = .ok (.aload_n 0, 1) := by decide +kernel
theorem dX4_drop0_86 : decode cX4_drop0 86 = .ok (.getfield 43, 3) := by decide +kernel
theorem dX4_drop0_89 : decode cX4_drop0 89 = .ok (.iload_n 1, 1) := by decide +kernel
theorem dX4_drop0_90 : decode cX4_drop0 90 = .ok (.aload_n 0, 1) := by decide +kernel
theorem dX4_drop0_91 : decode cX4_drop0 91 = .ok (.getfield 43, 3) := by decide +kernel
theorem dX4_drop0_94 : decode cX4_drop0 94 = .ok (.aload_n 0, 1) := by decide +kernel
theorem dX4_drop0_95 : decode cX4_drop0 95 = .ok (.getfield 105, 3) := by decide +kernel
theorem dX4_drop0_98 : decode cX4_drop0 98 = .ok (.iaload, 1) := by decide +kernel
theorem dX4_drop0_99 : decode cX4_drop0 99 = .ok (.iastore, 1) := by decide +kernel
theorem dX4_drop0_100 : decode cX4_drop0 100 = .ok (.aload_n 0, 1) := by decide +kernel
theorem dX4_drop0_101 : decode cX4_drop0 101 = .ok (.getfield 46, 3) := by decide +kernel
theorem dX4_drop0_104 : decode cX4_drop0 104 = .ok (.iload_n 1, 1) := by decide +kernel
theorem dX4_drop0_105 : decode cX4_drop0 105 = .ok (.aload_n 0, 1) := by decide +kernel
theorem dX4_drop0_106 : decode cX4_drop0 106 = .ok (.getfield 46, 3) := by decide +kernel
theorem dX4_drop0_109 : decode cX4_drop0 109 = .ok (.aload_n 0, 1) := by decide +kernel
theorem dX4_drop0_110 : decode cX4_drop0 110 = .ok (.getfield 105, 3) := by decide +kernel
theorem dX4_drop0_113 : decode cX4_drop0 113 = .ok (.iaload, 1) := by decide +kernel
theorem dX4_drop0_114 : decode cX4_drop0 114 = .ok (.iastore, 1) := by decide +kernel
theorem dX4_drop0_115 : decode cX4_drop0 115 = .ok (.aload_n 0, 1) := by decide +kernel
theorem dX4_drop0_116 : decode cX4_drop0 116 = .ok (.getfield 49, 3) := by decide +kernel
theorem dX4_drop0_119 : decode cX4_drop0 119 = .ok (.iload_n 1, 1) := by decide +kernel
theorem dX4_drop0_120 : decode cX4_drop0 120 = .ok (.aload_n 0, 1) := by decide +kernel
theorem dX4_drop0_121 : decode cX4_drop0 121 = .ok (.getfield 49, 3) := by decide +kernel
theorem dX4_drop0_124 : decode cX4_drop0 124 = .ok (.aload_n 0, 1) := by decide +kernel
theorem dX4_drop0_125 : decode cX4_drop0 125 = .ok (.getfield 105, 3) := by decide +kernel
theorem dX4_drop0_128 : decode cX4_drop0 128 = .ok (.iaload, 1) := by decide +kernel
theorem dX4_drop0_129 : decode cX4_drop0 129 = .ok (.iastore, 1) := by decide +kernel
theorem dX4_drop0_130 : decode cX4_drop0 130 = .ok (.iconst 0, 1) := by decide +kernel
theorem dX4_drop0_131 : decode cX4_drop0 131 = .ok (.istore_n 2, 1) := by decide +kernel
theorem dX4_drop0_132 : decode cX4_drop0 132 = .ok (.iload_n 2, 1) := by decide +kernel
theorem dX4_drop0_133 : decode cX4_drop0 133 = .ok (.bipush 8, 2) := by decide +kernel
theorem dX4_drop0_135 : decode cX4_drop0 135 = .ok (.if_icmp .ge 34, 3) := by decide +kernel
theorem dX4_drop0_138 : decode cX4_drop0 138 = .ok (.aload_n 0, 1) := by decide +kernel
theorem dX4_drop0_139 : decode cX4_drop0 139 = .ok (.getfield 52, 3) := by decide +kernel
theorem dX4_drop0_142 : decode cX4_drop0 142 = .ok (.bipush 8, 2) := by decide +kernel
theorem dX4_drop0_144 : decode cX4_drop0 144 = .ok (.iload_n 1, 1) := by decide +kernel
theorem dX4_drop0_145 : decode cX4_drop0 145 = .ok (.imul, 1) := by decide +kernel
theorem dX4_drop0_146 : decode cX4_drop0 146 = .ok (.iload_n 2, 1) := by decide +kernel
theorem dX4_drop0_147 : decode cX4_drop0 147 = .ok (.iadd, 1) := by decide +kernel
theorem dX4_drop0_148 : decode cX4_drop0 148 = .ok (.aload_n 0, 1) := by decide +kernel
theorem dX4_drop0_149 : decode cX4_drop0 149 = .ok (.getfield 52, 3) := by decide +kernel
theorem dX4_drop0_152 : decode cX4_drop0 152 = .ok (.bipush 8, 2) := by decide +kernel
theorem dX4_drop0_154 : decode cX4_drop0 154 = .ok (.aload_n 0, 1) := by decide +kernel
theorem dX4_drop0_155 : decode cX4_drop0 155 = .ok (.getfield 105, 3) := by decide +kernel
theorem dX4_drop0_158 : decode cX4_drop0 158 = .ok (.imul, 1) := by decide +kernel
theorem dX4_drop0_159 : decode cX4_drop0 159 = .ok (.iload_n 2, 1) := by decide +kernel
theorem dX4_drop0_160 : decode cX4_drop0 160 = .ok (.iadd, 1) := by decide +kernel
theorem dX4_drop0_161 : decode cX4_drop0 161 = .ok (.saload, 1) := by decide +kernel
theorem dX4_drop0_162 : decode cX4_drop0 162 = .ok (.sastore, 1) := by decide +kernel
theorem dX4_drop0_163 : decode cX4_drop0 163 = .ok (.iinc 2 1, 3) := by decide +kernel
theorem dX4_drop0_166 : decode cX4_drop0 166 = .ok (.goto (-34), 3) := by decide +kernel
theorem dX4_drop0_169 : decode cX4_drop0 169 = .ok (.return_, 1) := by decide +kernel
set_option maxRecDepth 20000 in
theorem ggX4_drop_X4_isThere : GoodIn wsX4_drop wsX4_isThere := goodIn_r _ [9, 4, 10, 11, 8, 12, 25, 26, 27, 28, 29, 30, 31, 32, 33, 34, 35, 36, 37, 38, 39, 40, 41, 42, 43, 44, 45, 46] (by decide +kernel) (by decide +kernel)
set_option maxRecDepth 20000 in
theorem gX4_drop_X4_isThere : GoodIn wsX4_drop (wsV RX4 108 RX4 yX4_isThere wsX4_isThere) := goodIn_app (goodIn_of _ (by decide +kernel)) ggX4_drop_X4_isThere
set_option maxRecDepth 20000 in
theorem ggX4_drop_X4_drop0 : GoodIn wsX4_drop wsX4_drop0 := goodIn_r _ [16, 1, 3, 17, 18, 19, 20, 21, 22, 23, 24, 25, 26, 27, 28, 29, 30, 31, 32, 33, 34, 35, 36, 37, 38, 39, 40, 41, 42, 43, 44, 45, 46] (by decide +kernel) (by decide +kernel)
set_option maxRecDepth 20000 in
theorem gX4_drop_X4_drop0 : GoodIn wsX4_drop (wsV RX4 111 RX4 yX4_drop0 wsX4_drop0) := goodIn_app (goodIn_of _ (by decide +kernel)) ggX4_drop_X4_drop0
theorem dX4_drop_0 : decode cX4_drop 0 = .ok (.aload_n 0, 1) := by decide +kernel
theorem dX4_drop_1 : decode cX4_drop 1 = .ok (.iload_n 1, 1) := by decide +kernel
theorem dX4_drop_2 : decode cX4_drop 2 = .ok (.invokevirtual 108, 3) := by decide +kernel
theorem dX4_drop_5 : decode cX4_drop 5 = .ok (.ifCond .ne 5, 3) := by decide +kernel
theorem dX4_drop_8 : decode cX4_drop 8 = .ok (.iconst 0, 1) := by decide +kernel
theorem dX4_drop_9 : decode cX4_drop 9 = .ok (.ireturn, 1) := by decide +kernel
theorem dX4_drop_10 : decode cX4_drop 10 = .ok (.aload_n 0, 1) := by decide +kernel
theorem dX4_drop_11 : decode cX4_drop 11 = .ok (.getfield 105, 3) := by decide +kernel
theorem dX4_drop_14 : decode cX4_drop 14 = .ok (.iconst 1, 1) := by decide +kernel
theorem dX4_drop_15 : decode cX4_drop 15 = .ok (.isub, 1) := by decide +kernel
theorem dX4_drop_16 : decode cX4_drop 16 = .ok (.istore_n 2, 1) := by decide +kernel
theorem dX4_drop_17 : decode cX4_drop 17 = .ok (.iload_n 2, 1) := by decide +kernel
theorem dX4_drop_18 : decode cX4_drop 18 = .ok (.ifCond .lt 33, 3) := by decide +kernel
theorem dX4_drop_21 : decode cX4_drop 21 = .ok (.aload_n 0, 1) := by decide +kernel
theorem dX4_drop_22 : decode cX4_drop 22 = .ok (.getfield 19, 3) := by decide +kernel
theorem dX4_drop_25 : decode cX4_drop 25 = .ok (.aload_n 0, 1) := by decide +kernel
theorem dX4_drop_26 : decode cX4_drop 26 = .ok (.getfield 28, 3) := by decide +kernel
theorem dX4_drop_29 : decode cX4_drop 29 = .ok (.iload_n 2, 1) := by decide +kernel
theorem dX4_drop_30 : decode cX4_drop 30 = .ok (.iaload, 1) := by decide +kernel
theorem dX4_drop_31 : decode cX4_drop 31 = .ok (.sipush 256, 3) := by decide +kernel
theorem dX4_drop_34 : decode cX4_drop 34 = .ok (.idiv, 1) := by decide +kernel
theorem dX4_drop_35 : decode cX4_drop 35 = .ok (.iaload, 1) := by decide +kernel
theorem dX4_drop_36 : decode cX4_drop 36 = .ok (.iload_n 1, 1) := by decide +kernel
theorem dX4_drop_37 : decode cX4_drop 37 = .ok (.if_icmp .ne 8, 3) := by decide +kernel
theorem dX4_drop_40 : decode cX4_drop 40 = .ok (.aload_n 0, 1) := by decide +kernel
theorem dX4_drop_41 : decode cX4_drop 41 = .ok (.iload_n 2, 1) := by decide +kernel
theorem dX4_drop_42 : decode cX4_drop 42 = .ok (.invokevirtual 111, 3) := by decide +kernel
theorem dX4_drop_45 : decode cX4_drop 45 = .ok (.iinc 2 (-1), 3) := by decide +kernel
theorem dX4_drop_48 : decode cX4_drop 48 = .ok (.goto (-31), 3) := by decide +kernel
theorem dX4_drop_51 : decode cX4_drop 51 = .ok (.iconst 0, 1) := by decide +kernel
theorem dX4_drop_52 : decode cX4_drop 52 = .ok (.istore_n 2, 1) := by decide +kernel
theorem dX4_drop_53 : decode cX4_drop 53 = .ok (.iload_n 2, 1) := by decide +kernel
theorem dX4_drop_54 : decode cX4_drop 54 = .ok (.bipush 60, 2) := by decide +kernel
theorem dX4_drop_56 : decode cX4_drop 56 = .ok (.if_icmp .ge 35, 3) := by decide +kernel
theorem dX4_drop_59 : decode cX4_drop 59 = .ok (.aload_n 0, 1) := by decide +kernel
theorem dX4_drop_60 : decode cX4_drop 60 = .ok (.getfield 19, 3) := by decide +kernel
theorem dX4_drop_63 : decode cX4_drop 63 = .ok (.iload_n 2, 1) := by decide +kernel
theorem dX4_drop_64 : decode cX4_drop 64 = .ok (.aload_n 0, 1) := by decide +kernel
theorem dX4_drop_65 : decode cX4_drop 65 = .ok (.getfield 19, 3) := by decide +kernel
theorem dX4_drop_68 : decode cX4_drop 68 = .ok (.iload_n 2, 1) := by decide +kernel
theorem dX4_drop_69 : decode cX4_drop 69 = .ok (.iaload, 1) := by decide +kernel
theorem dX4_drop_70 : decode cX4_drop 70 = .ok (.iload_n 1, 1) := by decide +kernel
theorem dX4_drop_71 : decode cX4_drop 71 = .ok (.if_icmp .ne 7, 3) := by decide +kernel
theorem dX4_drop_74 : decode cX4_drop 74 = .ok (.iconst (-1), 1) := by decide +kernel
theorem dX4_drop_75 : decode cX4_drop 75 = .ok (.goto 9, 3) := by decide +kernel
theorem dX4_drop_78 : decode cX4_drop 78 = .ok (.aload_n 0, 1) := by decide +kernel
theorem dX4_drop_79 : decode cX4_drop 79 = .ok (.getfield 19, 3) := by decide +kernel
theorem dX4_drop_82 : decode cX4_drop 82 = .ok (.iload_n 2, 1) := by decide +kernel
theorem dX4_drop_83 : decode cX4_drop 83 = .ok (.iaload, 1) := by decide +kernel
theorem dX4_drop_84 : decode cX4_drop 84 = .ok (.iastore, 1) := by decide +kernel
theorem dX4_drop_85 : decode cX4_drop 85 = .ok (.iinc 2 1, 3) := by decide +kernel
theorem dX4_drop_88 : decode cX4_drop 88 = .ok (.goto (-35), 3) := by decide +kernel
theorem dX4_drop_91 : decode cX4_drop 91 = .ok (.aload_n 0, 1) := by decide +kernel
theorem dX4_drop_92 : decode cX4_drop 92 = .ok (.getfield 7, 3) := by decide +kernel
theorem dX4_drop_95 : decode cX4_drop 95 = .ok (.iload_n 1, 1) := by decide +kernel
theorem dX4_drop_96 : decode cX4_drop 96 = .ok (.iconst 0, 1) := by decide +kernel
theorem dX4_drop_97 : decode cX4_drop 97 = .ok (.iastore, 1) := by decide +kernel
theorem dX4_drop_98 : decode cX4_drop 98 = .ok (.iconst 1, 1) := by decide +kernel
theorem dX4_drop_99 : decode cX4_drop 99 = .ok (.ireturn, 1) := by decide +kernel
theorem dX4_versionsIn_0 : decode cX4_versionsIn 0 = .ok (.iconst 0, 1) := by decide +kernel
theorem dX4_versionsIn_1 : decode cX4_versionsIn 1 = .ok (.istore_n 2, 1) := by decide +kernel
theorem dX4_versionsIn_2 : decode cX4_versionsIn 2 = .ok (.iconst 0, 1) := by decide +kernel
theorem dX4_versionsIn_3 : decode cX4_versionsIn 3 = .ok (.istore_n 3, 1) := by decide +kernel
theorem dX4_versionsIn_4 : decode cX4_versionsIn 4 = .ok (.iload_n 3, 1) := by decide +kernel
theorem dX4_versionsIn_5 : decode cX4_versionsIn 5 = .ok (.aload_n 0, 1) := by decide +kernel
theorem dX4_versionsIn_6 : decode cX4_versionsIn 6 = .ok (.getfield 105, 3) := by decide +kernel
theorem dX4_versionsIn_9 : decode cX4_versionsIn 9 = .ok (.if_icmp .ge 31, 3) := by decide +kernel
theorem dX4_versionsIn_12 : decode cX4_versionsIn 12 = .ok (.aload_n 0, 1) := by decide +kernel
theorem dX4_versionsIn_13 : decode cX4_versionsIn 13 = .ok (.getfield 28, 3) := by decide +kernel
theorem dX4_versionsIn_16 : decode cX4_versionsIn 16 = .ok (.iload_n 3, 1) := by decide +kernel
theorem dX4_versionsIn_17 : decode cX4_versionsIn 17 = .ok (.iaload, 1) := by decide +kernel
theorem dX4_versionsIn_18 : decode cX4_versionsIn 18 = .ok (.sipush 256, 3) := by decide +kernel
theorem dX4_versionsIn_21 : decode cX4_versionsIn 21 = .ok (.idiv, 1) := by decide +kernel
theorem dX4_versionsIn_22 : decode cX4_versionsIn 22 = .ok (.iload_n 1, 1) := by decide +kernel
theorem dX4_versionsIn_23 : decode cX4_versionsIn 23 = .ok (.if_icmp .ne 9, 3) := by decide +kernel
theorem dX4_versionsIn_26 : decode cX4_versionsIn 26 = .ok (.iload_n 2, 1) := by decide +kernel
theorem dX4_versionsIn_27 : decode cX4_versionsIn 27 = .ok (.iconst 1, 1) := by decide +kernel
theorem dX4_versionsIn_28 : decode cX4_versionsIn 28 = .ok (.iadd, 1) := by decide +kernel
theorem dX4_versionsIn_29 : decode cX4_versionsIn 29 = .ok (.goto 4, 3) := by decide +kernel
theorem dX4_versionsIn_32 : decode cX4_versionsIn 32 = .ok (.iload_n 2, 1) := by decide +kernel
theorem dX4_versionsIn_33 : decode cX4_versionsIn 33 = .ok (.istore_n 2, 1) := by decide +kernel
theorem dX4_versionsIn_34 : decode cX4_versionsIn 34 = .ok (.iinc 3 1, 3) := by decide +kernel
theorem dX4_versionsIn_37 : decode cX4_versionsIn 37 = .ok (.goto (-33), 3) := by decide +kernel
theorem dX4_versionsIn_40 : decode cX4_versionsIn 40 = .ok (.iload_n 2, 1) := by decide +kernel
theorem dX4_versionsIn_41 : decode cX4_versionsIn 41 = .ok (.ireturn, 1) := by decide +kernel
theorem dX4_freeIn_0 : decode cX4_freeIn 0 = .ok (.sipush 496, 3) := by decide +kernel
theorem dX4_freeIn_3 : decode cX4_freeIn 3 = .ok (.iconst 4, 1) := by decide +kernel
theorem dX4_freeIn_4 : decode cX4_freeIn 4 = .ok (.aload_n 0, 1) := by decide +kernel
theorem dX4_freeIn_5 : decode cX4_freeIn 5 = .ok (.getfield 22, 3) := by decide +kernel
theorem dX4_freeIn_8 : decode cX4_freeIn 8 = .ok (.iload_n 1, 1) := by decide +kernel
theorem dX4_freeIn_9 : decode cX4_freeIn 9 = .ok (.iaload, 1) := by decide +kernel
theorem dX4_freeIn_10 : decode cX4_freeIn 10 = .ok (.imul, 1) := by decide +kernel
theorem dX4_freeIn_11 : decode cX4_freeIn 11 = .ok (.isub, 1) := by decide +kernel
theorem dX4_freeIn_12 : decode cX4_freeIn 12 = .ok (.istore_n 2, 1) := by decide +kernel
theorem dX4_freeIn_13 : decode cX4_freeIn 13 = .ok (.iconst 0, 1) := by decide +kernel
theorem dX4_freeIn_14 : decode cX4_freeIn 14 = .ok (.istore_n 3, 1) := by decide +kernel
theorem dX4_freeIn_15 : decode cX4_freeIn 15 = .ok (.iload_n 3, 1) := by decide +kernel
theorem dX4_freeIn_16 : decode cX4_freeIn 16 = .ok (.aload_n 0, 1) := by decide +kernel
theorem dX4_freeIn_17 : decode cX4_freeIn 17 = .ok (.getfield 105, 3) := by decide +kernel
theorem dX4_freeIn_20 : decode cX4_freeIn 20 = .ok (.if_icmp .ge 36, 3) := by decide +kernel
theorem dX4_freeIn_23 : decode cX4_freeIn 23 = .ok (.aload_n 0, 1) := by decide +kernel
theorem dX4_freeIn_24 : decode cX4_freeIn 24 = .ok (.getfield 28, 3) := by decide +kernel
theorem dX4_freeIn_27 : decode cX4_freeIn 27 = .ok (.iload_n 3, 1) := by decide +kernel
theorem dX4_freeIn_28 : decode cX4_freeIn 28 = .ok (.iaload, 1) := by decide +kernel
theorem dX4_freeIn_29 : decode cX4_freeIn 29 = .ok (.sipush 256, 3) := by decide +kernel
theorem dX4_freeIn_32 : decode cX4_freeIn 32 = .ok (.idiv, 1) := by decide +kernel
theorem dX4_freeIn_33 : decode cX4_freeIn 33 = .ok (.iload_n 1, 1) := by decide +kernel
theorem dX4_freeIn_34 : decode cX4_freeIn 34 = .ok (.if_icmp .ne 14, 3) := by decide +kernel
theorem dX4_freeIn_37 : decode cX4_freeIn 37 = .ok (.iload_n 2, 1) := by decide +kernel
theorem dX4_freeIn_38 : decode cX4_freeIn 38 = .ok (.aload_n 0, 1) := by decide +kernel
theorem dX4_freeIn_39 : decode cX4_freeIn 39 = .ok (.getfield 49, 3) := by decide +kernel
theorem dX4_freeIn_42 : decode cX4_freeIn 42 = .ok (.iload_n 3, 1) := by decide +kernel
theorem dX4_freeIn_43 : decode cX4_freeIn 43 = .ok (.iaload, 1) := by decide +kernel
theorem dX4_freeIn_44 : decode cX4_freeIn 44 = .ok (.isub, 1) := by decide +kernel
theorem dX4_freeIn_45 : decode cX4_freeIn 45 = .ok (.goto 4, 3) := by decide +kernel
theorem dX4_freeIn_48 : decode cX4_freeIn 48 = .ok (.iload_n 2, 1) := by decide +kernel
theorem dX4_freeIn_49 : decode cX4_freeIn 49 = .ok (.istore_n 2, 1) := by decide +kernel
theorem dX4_freeIn_50 : decode cX4_freeIn 50 = .ok (.iinc 3 1, 3) := by decide +kernel
theorem dX4_freeIn_53 : decode cX4_freeIn 53 = .ok (.goto (-38), 3) := by decide +kernel
theorem dX4_freeIn_56 : decode cX4_freeIn 56 = .ok (.iload_n 2, 1) := by decide +kernel
theorem dX4_freeIn_57 : decode cX4_freeIn 57 = .ok (.ireturn, 1) := by decide +kernel
theorem dX4_find_0 : decode cX4_find 0 = .ok (.iconst (-1), 1) := by decide +kernel
theorem dX4_find_1 : decode cX4_find 1 = .ok (.istore_n 2, 1) := by decide +kernel
theorem dX4_find_2 : decode cX4_find 2 = .ok (.iconst 0, 1) := by decide +kernel
theorem dX4_find_3 : decode cX4_find 3 = .ok (.istore_n 3, 1) := by decide +kernel
theorem dX4_find_4 : decode cX4_find 4 = .ok (.iload_n 3, 1) := by decide +kernel
theorem dX4_find_5 : decode cX4_find 5 = .ok (.aload_n 0, 1) := by decide +kernel
theorem dX4_find_6 : decode cX4_find 6 = .ok (.getfield 105, 3) := by decide +kernel
theorem dX4_find_9 : decode cX4_find 9 = .ok (.if_icmp .ge 25, 3) := by decide +kernel
theorem dX4_find_12 : decode cX4_find 12 = .ok (.aload_n 0, 1) := by decide +kernel
theorem dX4_find_13 : decode cX4_find 13 = .ok (.getfield 28, 3) := by decide +kernel
theorem dX4_find_16 : decode cX4_find 16 = .ok (.iload_n 3, 1) := by decide +kernel
theorem dX4_find_17 : decode cX4_find 17 = .ok (.iaload, 1) := by decide +kernel
theorem dX4_find_18 : decode cX4_find 18 = .ok (.iload_n 1, 1) := by decide +kernel
theorem dX4_find_19 : decode cX4_find 19 = .ok (.if_icmp .ne 7, 3) := by decide +kernel
theorem dX4_find_22 : decode cX4_find 22 = .ok (.iload_n 3, 1) := by decide +kernel
theorem dX4_find_23 : decode cX4_find 23 = .ok (.goto 4, 3) := by decide +kernel
theorem dX4_find_26 : decode cX4_find 26 = .ok (.iload_n 2, 1) := by decide +kernel
theorem dX4_find_27 : decode cX4_find 27 = .ok (.istore_n 2, 1) := by decide +kernel
theorem dX4_find_28 : decode cX4_find 28 = .ok (.iinc 3 1, 3) := by decide +kernel
theorem dX4_find_31 : decode cX4_find 31 = .ok (.goto (-27), 3) := by decide +kernel
theorem dX4_find_34 : decode cX4_find 34 = .ok (.iload_n 2, 1) := by decide +kernel
theorem dX4_find_35 : decode cX4_find 35 = .ok (.ireturn, 1) := by decide +kernel
set_option maxRecDepth 20000 in
theorem ggX4_lowestSlot_X4_find : GoodIn wsX4_lowestSlot wsX4_find := goodIn_r _ [6, 7, 8, 9, 10, 11, 12, 13, 14, 15, 16, 17, 18, 19, 20, 21, 22, 23, 24, 25, 26, 27, 28, 29, 30] (by decide +kernel) (by decide +kernel)
set_option maxRecDepth 20000 in
theorem gX4_lowestSlot_X4_find : GoodIn wsX4_lowestSlot (wsV RX4 115 RX4 yX4_find wsX4_find) := goodIn_app (goodIn_of _ (by decide +kernel)) ggX4_lowestSlot_X4_find
theorem dX4_lowestSlot_0 : decode cX4_lowestSlot 0 = .ok (.iconst 0, 1) := by decide +kernel
theorem dX4_lowestSlot_1 : decode cX4_lowestSlot 1 = .ok (.istore_n 2, 1) := by decide +kernel
theorem dX4_lowestSlot_2 : decode cX4_lowestSlot 2 = .ok (.iload_n 2, 1) := by decide +kernel
theorem dX4_lowestSlot_3 : decode cX4_lowestSlot 3 = .ok (.aload_n 0, 1) := by decide +kernel
theorem dX4_lowestSlot_4 : decode cX4_lowestSlot 4 = .ok (.getfield 22, 3) := by decide +kernel
theorem dX4_lowestSlot_7 : decode cX4_lowestSlot 7 = .ok (.iload_n 1, 1) := by decide +kernel
theorem dX4_lowestSlot_8 : decode cX4_lowestSlot 8 = .ok (.iaload, 1) := by decide +kernel
theorem dX4_lowestSlot_9 : decode cX4_lowestSlot 9 = .ok (.if_icmp .ge 25, 3) := by decide +kernel
theorem dX4_lowestSlot_12 : decode cX4_lowestSlot 12 = .ok (.aload_n 0, 1) := by decide +kernel
theorem dX4_lowestSlot_13 : decode cX4_lowestSlot 13 = .ok (.sipush 256, 3) := by decide +kernel
theorem dX4_lowestSlot_16 : decode cX4_lowestSlot 16 = .ok (.iload_n 1, 1) := by decide +kernel
theorem dX4_lowestSlot_17 : decode cX4_lowestSlot 17 = .ok (.imul, 1) := by decide +kernel
theorem dX4_lowestSlot_18 : decode cX4_lowestSlot 18 = .ok (.iload_n 2, 1) := by decide +kernel
theorem dX4_lowestSlot_19 : decode cX4_lowestSlot 19 = .ok (.iadd, 1) := by decide +kernel
theorem dX4_lowestSlot_20 : decode cX4_lowestSlot 20 = .ok (.invokevirtual 115, 3) := by decide +kernel
theorem dX4_lowestSlot_23 : decode cX4_lowestSlot 23 = .ok (.ifCond .ge 5, 3) := by decide +kernel
theorem dX4_lowestSlot_26 : decode cX4_lowestSlot 26 = .ok (.iload_n 2, 1) := by decide +kernel
theorem dX4_lowestSlot_27 : decode cX4_lowestSlot 27 = .ok (.ireturn, 1) := by decide +kernel
theorem dX4_lowestSlot_28 : decode cX4_lowestSlot 28 = .ok (.iinc 2 1, 3) := by decide +kernel
theorem dX4_lowestSlot_31 : decode cX4_lowestSlot 31 = .ok (.goto (-29), 3) := by decide +kernel
theorem dX4_lowestSlot_34 : decode cX4_lowestSlot 34 = .ok (.aload_n 0, 1) := by decide +kernel
theorem dX4_lowestSlot_35 : decode cX4_lowestSlot 35 = .ok (.getfield 22, 3) := by decide +kernel
theorem dX4_lowestSlot_38 : decode cX4_lowestSlot 38 = .ok (.iload_n 1, 1) := by decide +kernel
theorem dX4_lowestSlot_39 : decode cX4_lowestSlot 39 = .ok (.iaload, 1) := by decide +kernel
theorem dX4_lowestSlot_40 : decode cX4_lowestSlot 40 = .ok (.ireturn, 1) := by decide +kernel
set_option maxRecDepth 20000 in
theorem ggX4_roomIn_X4_lowestSlot : GoodIn wsX4_roomIn wsX4_lowestSlot := goodIn_r _ [6, 1, 7, 8, 9, 5, 10, 11, 12, 18, 19, 20, 21, 22, 23, 24, 25, 26, 27, 28, 29, 30, 31, 32, 33, 34, 35, 36, 37, 38, 39] (by decide +kernel) (by decide +kernel)
set_option maxRecDepth 20000 in
theorem gX4_roomIn_X4_lowestSlot : GoodIn wsX4_roomIn (wsV RX4 118 RX4 yX4_lowestSlot wsX4_lowestSlot) := goodIn_app (goodIn_of _ (by decide +kernel)) ggX4_roomIn_X4_lowestSlot
set_option maxRecDepth 20000 in
theorem ggX4_roomIn_X4_freeIn : GoodIn wsX4_roomIn wsX4_freeIn := goodIn_r _ [16, 1, 11, 12, 17, 18, 19, 20, 21, 22, 23, 24, 25, 26, 27, 28, 29, 30, 31, 32, 33, 34, 35, 36, 37, 38, 39] (by decide +kernel) (by decide +kernel)
set_option maxRecDepth 20000 in
theorem gX4_roomIn_X4_freeIn : GoodIn wsX4_roomIn (wsV RX4 121 RX4 yX4_freeIn wsX4_freeIn) := goodIn_app (goodIn_of _ (by decide +kernel)) ggX4_roomIn_X4_freeIn
theorem dX4_roomIn_0 : decode cX4_roomIn 0 = .ok (.aload_n 0, 1) := by decide +kernel
theorem dX4_roomIn_1 : decode cX4_roomIn 1 = .ok (.iload_n 1, 1) := by decide +kernel
theorem dX4_roomIn_2 : decode cX4_roomIn 2 = .ok (.invokevirtual 118, 3) := by decide +kernel
theorem dX4_roomIn_5 : decode cX4_roomIn 5 = .ok (.istore_n 3, 1) := by decide +kernel
theorem dX4_roomIn_6 : decode cX4_roomIn 6 = .ok (.iload_n 3, 1) := by decide +kernel
theorem dX4_roomIn_7 : decode cX4_roomIn 7 = .ok (.aload_n 0, 1) := by decide +kernel
theorem dX4_roomIn_8 : decode cX4_roomIn 8 = .ok (.getfield 22, 3) := by decide +kernel
theorem dX4_roomIn_11 : decode cX4_roomIn 11 = .ok (.iload_n 1, 1) := by decide +kernel
theorem dX4_roomIn_12 : decode cX4_roomIn 12 = .ok (.iaload, 1) := by decide +kernel
theorem dX4_roomIn_13 : decode cX4_roomIn 13 = .ok (.if_icmp .ge 20, 3) := by decide +kernel
theorem dX4_roomIn_16 : decode cX4_roomIn 16 = .ok (.iload_n 2, 1) := by decide +kernel
theorem dX4_roomIn_17 : decode cX4_roomIn 17 = .ok (.aload_n 0, 1) := by decide +kernel
theorem dX4_roomIn_18 : decode cX4_roomIn 18 = .ok (.iload_n 1, 1) := by decide +kernel
theorem dX4_roomIn_19 : decode cX4_roomIn 19 = .ok (.invokevirtual 121, 3) := by decide +kernel
theorem dX4_roomIn_22 : decode cX4_roomIn 22 = .ok (.if_icmp .gt 7, 3) := by decide +kernel
theorem dX4_roomIn_25 : decode cX4_roomIn 25 = .ok (.iconst 1, 1) := by decide +kernel
theorem dX4_roomIn_26 : decode cX4_roomIn 26 = .ok (.goto 29, 3) := by decide +kernel
theorem dX4_roomIn_29 : decode cX4_roomIn 29 = .ok (.iconst 0, 1) := by decide +kernel
theorem dX4_roomIn_30 : decode cX4_roomIn 30 = .ok (.goto 25, 3) := by decide +kernel
theorem dX4_roomIn_33 : decode cX4_roomIn 33 = .ok (.iload_n 3, 1) := by decide +kernel
theorem dX4_roomIn_34 : decode cX4_roomIn 34 = .ok (.bipush 120, 2) := by decide +kernel
theorem dX4_roomIn_36 : decode cX4_roomIn 36 = .ok (.if_icmp .ge 18, 3) := by decide +kernel
theorem dX4_roomIn_39 : decode cX4_roomIn 39 = .ok (.iload_n 2, 1) := by decide +kernel
theorem dX4_roomIn_40 : decode cX4_roomIn 40 = .ok (.iconst 4, 1) := by decide +kernel
theorem dX4_roomIn_41 : decode cX4_roomIn 41 = .ok (.iadd, 1) := by decide +kernel
theorem dX4_roomIn_42 : decode cX4_roomIn 42 = .ok (.aload_n 0, 1) := by decide +kernel
theorem dX4_roomIn_43 : decode cX4_roomIn 43 = .ok (.iload_n 1, 1) := by decide +kernel
theorem dX4_roomIn_44 : decode cX4_roomIn 44 = .ok (.invokevirtual 121, 3) := by decide +kernel
theorem dX4_roomIn_47 : decode cX4_roomIn 47 = .ok (.if_icmp .gt 7, 3) := by decide +kernel
theorem dX4_roomIn_50 : decode cX4_roomIn 50 = .ok (.iconst 1, 1) := by decide +kernel
theorem dX4_roomIn_51 : decode cX4_roomIn 51 = .ok (.goto 4, 3) := by decide +kernel
theorem dX4_roomIn_54 : decode cX4_roomIn 54 = .ok (.iconst 0, 1) := by decide +kernel
theorem dX4_roomIn_55 : decode cX4_roomIn 55 = .ok (.istore 4, 2) := by decide +kernel
theorem dX4_roomIn_57 : decode cX4_roomIn 57 = .ok (.iload 4, 2) := by decide +kernel
theorem dX4_roomIn_59 : decode cX4_roomIn 59 = .ok (.ifCond .eq 7, 3) := by decide +kernel
theorem dX4_roomIn_62 : decode cX4_roomIn 62 = .ok (.iload_n 3, 1) := by decide +kernel
theorem dX4_roomIn_63 : decode cX4_roomIn 63 = .ok (.goto 4, 3) := by decide +kernel
theorem dX4_roomIn_66 : decode cX4_roomIn 66 = .ok (.iconst (-1), 1) := by decide +kernel
theorem dX4_roomIn_67 : decode cX4_roomIn 67 = .ok (.ireturn, 1) := by decide +kernel
set_option maxRecDepth 20000 in
theorem ggX4_fits_X4_isText : GoodIn wsX4_fits wsX4_isText := goodIn_r _ [8, 9, 10, 11, 7, 12, 13, 14, 15, 16, 17, 18, 19, 20, 21, 22, 23, 24, 25, 26, 27, 28, 29, 30, 31, 32, 33, 34] (by decide +kernel) (by decide +kernel)
set_option maxRecDepth 20000 in
theorem gX4_fits_X4_isText : GoodIn wsX4_fits (wsV RX4 92 RX4 yX4_isText wsX4_isText) := goodIn_app (goodIn_of _ (by decide +kernel)) ggX4_fits_X4_isText
theorem dX4_fits_0 : decode cX4_fits 0 = .ok (.iconst 1, 1) := by decide +kernel
theorem dX4_fits_1 : decode cX4_fits 1 = .ok (.istore_n 2, 1) := by decide +kernel
theorem dX4_fits_2 : decode cX4_fits 2 = .ok (.iconst 0, 1) := by decide +kernel
theorem dX4_fits_3 : decode cX4_fits 3 = .ok (.istore_n 3, 1) := by decide +kernel
theorem dX4_fits_4 : decode cX4_fits 4 = .ok (.iload_n 3, 1) := by decide +kernel
theorem dX4_fits_5 : decode cX4_fits 5 = .ok (.aload_n 0, 1) := by decide +kernel
theorem dX4_fits_6 : decode cX4_fits 6 = .ok (.getfield 7, 3) := by decide +kernel
theorem dX4_fits_9 : decode cX4_fits 9 = .ok (.iload_n 1, 1) := by decide +kernel
theorem dX4_fits_10 : decode cX4_fits 10 = .ok (.iaload, 1) := by decide +kernel
theorem dX4_fits_11 : decode cX4_fits 11 = .ok (.if_icmp .ge 61, 3) := by decide +kernel
theorem dX4_fits_14 : decode cX4_fits 14 = .ok (.iload_n 2, 1) := by decide +kernel
theorem dX4_fits_15 : decode cX4_fits 15 = .ok (.ifCond .eq 49, 3) := by decide +kernel
theorem dX4_fits_18 : decode cX4_fits 18 = .ok (.aload_n 0, 1) := by decide +kernel
theorem dX4_fits_19 : decode cX4_fits 19 = .ok (.getfield 56, 3) := by decide +kernel
theorem dX4_fits_22 : decode cX4_fits 22 = .ok (.iload_n 3, 1) := by decide +kernel
theorem dX4_fits_23 : decode cX4_fits 23 = .ok (.iaload, 1) := by decide +kernel
theorem dX4_fits_24 : decode cX4_fits 24 = .ok (.ifCond .eq 36, 3) := by decide +kernel
theorem dX4_fits_27 : decode cX4_fits 27 = .ok (.aload_n 0, 1) := by decide +kernel
theorem dX4_fits_28 : decode cX4_fits 28 = .ok (.aload_n 0, 1) := by decide +kernel
theorem dX4_fits_29 : decode cX4_fits 29 = .ok (.getfield 56, 3) := by decide +kernel
theorem dX4_fits_32 : decode cX4_fits 32 = .ok (.iload_n 3, 1) := by decide +kernel
theorem dX4_fits_33 : decode cX4_fits 33 = .ok (.iaload, 1) := by decide +kernel
theorem dX4_fits_34 : decode cX4_fits 34 = .ok (.invokevirtual 92, 3) := by decide +kernel
theorem dX4_fits_37 : decode cX4_fits 37 = .ok (.aload_n 0, 1) := by decide +kernel
theorem dX4_fits_38 : decode cX4_fits 38 = .ok (.getfield 13, 3) := by decide +kernel
theorem dX4_fits_41 : decode cX4_fits 41 = .ok (.bipush 8, 2) := by decide +kernel
theorem dX4_fits_43 : decode cX4_fits 43 = .ok (.iload_n 1, 1) := by decide +kernel
theorem dX4_fits_44 : decode cX4_fits 44 = .ok (.imul, 1) := by decide +kernel
theorem dX4_fits_45 : decode cX4_fits 45 = .ok (.iload_n 3, 1) := by decide +kernel
theorem dX4_fits_46 : decode cX4_fits 46 = .ok (.iadd, 1) := by decide +kernel
theorem dX4_fits_47 : decode cX4_fits 47 = .ok (.iaload, 1) := by decide +kernel
theorem dX4_fits_48 : decode cX4_fits 48 = .ok (.iconst 2, 1) := by decide +kernel
theorem dX4_fits_49 : decode cX4_fits 49 = .ok (.if_icmp .ne 7, 3) := by decide +kernel
theorem dX4_fits_52 : decode cX4_fits 52 = .ok (.iconst 1, 1) := by decide +kernel
theorem dX4_fits_53 : decode cX4_fits 53 = .ok (.goto 4, 3) := by decide +kernel
theorem dX4_fits_56 : decode cX4_fits 56 = .ok (.iconst 0, 1) := by decide +kernel
theorem dX4_fits_57 : decode cX4_fits 57 = .ok (.if_icmp .ne 7, 3) := by decide +kernel
theorem dX4_fits_60 : decode cX4_fits 60 = .ok (.iconst 1, 1) := by decide +kernel
theorem dX4_fits_61 : decode cX4_fits 61 = .ok (.goto 4, 3) := by decide +kernel
theorem dX4_fits_64 : decode cX4_fits 64 = .ok (.iconst 0, 1) := by decide +kernel
theorem dX4_fits_65 : decode cX4_fits 65 = .ok (.istore_n 2, 1) := by decide +kernel
theorem dX4_fits_66 : decode cX4_fits 66 = .ok (.iinc 3 1, 3) := by decide +kernel
theorem dX4_fits_69 : decode cX4_fits 69 = .ok (.goto (-65), 3) := by decide +kernel
theorem dX4_fits_72 : decode cX4_fits 72 = .ok (.iload_n 2, 1) := by decide +kernel
theorem dX4_fits_73 : decode cX4_fits 73 = .ok (.ireturn, 1) := by decide +kernel
theorem dX4_sizeOf_0 : decode cX4_sizeOf 0 = .ok (.bipush 16, 2) := by decide +kernel
theorem dX4_sizeOf_2 : decode cX4_sizeOf 2 = .ok (.istore_n 2, 1) := by decide +kernel
theorem dX4_sizeOf_3 : decode cX4_sizeOf 3 = .ok (.iconst 0, 1) := by decide +kernel
theorem dX4_sizeOf_4 : decode cX4_sizeOf 4 = .ok (.istore_n 3, 1) := by decide +kernel
theorem dX4_sizeOf_5 : decode cX4_sizeOf 5 = .ok (.iload_n 3, 1) := by decide +kernel
theorem dX4_sizeOf_6 : decode cX4_sizeOf 6 = .ok (.aload_n 0, 1) := by decide +kernel
theorem dX4_sizeOf_7 : decode cX4_sizeOf 7 = .ok (.getfield 7, 3) := by decide +kernel
theorem dX4_sizeOf_10 : decode cX4_sizeOf 10 = .ok (.iload_n 1, 1) := by decide +kernel
theorem dX4_sizeOf_11 : decode cX4_sizeOf 11 = .ok (.iaload, 1) := by decide +kernel
theorem dX4_sizeOf_12 : decode cX4_sizeOf 12 = .ok (.if_icmp .ge 76, 3) := by decide +kernel
theorem dX4_sizeOf_15 : decode cX4_sizeOf 15 = .ok (.aload_n 0, 1) := by decide +kernel
theorem dX4_sizeOf_16 : decode cX4_sizeOf 16 = .ok (.getfield 13, 3) := by decide +kernel
theorem dX4_sizeOf_19 : decode cX4_sizeOf 19 = .ok (.bipush 8, 2) := by decide +kernel
theorem dX4_sizeOf_21 : decode cX4_sizeOf 21 = .ok (.iload_n 1, 1) := by decide +kernel
theorem dX4_sizeOf_22 : decode cX4_sizeOf 22 = .ok (.imul, 1) := by decide +kernel
theorem dX4_sizeOf_23 : decode cX4_sizeOf 23 = .ok (.iload_n 3, 1) := by decide +kernel
theorem dX4_sizeOf_24 : decode cX4_sizeOf 24 = .ok (.iadd, 1) := by decide +kernel
theorem dX4_sizeOf_25 : decode cX4_sizeOf 25 = .ok (.iaload, 1) := by decide +kernel
theorem dX4_sizeOf_26 : decode cX4_sizeOf 26 = .ok (.istore 4, 2) := by decide +kernel
theorem dX4_sizeOf_28 : decode cX4_sizeOf 28 = .ok (.aload_n 0, 1) := by decide +kernel
theorem dX4_sizeOf_29 : decode cX4_sizeOf 29 = .ok (.getfield 56, 3) := by decide +kernel
theorem dX4_sizeOf_32 : decode cX4_sizeOf 32 = .ok (.iload_n 3, 1) := by decide +kernel
theorem dX4_sizeOf_33 : decode cX4_sizeOf 33 = .ok (.iaload, 1) := by decide +kernel
theorem dX4_sizeOf_34 : decode cX4_sizeOf 34 = .ok (.ifCond .ne 7, 3) := by decide +kernel
theorem dX4_sizeOf_37 : decode cX4_sizeOf 37 = .ok (.iload_n 2, 1) := by decide +kernel
theorem dX4_sizeOf_38 : decode cX4_sizeOf 38 = .ok (.goto 43, 3) := by decide +kernel
theorem dX4_sizeOf_41 : decode cX4_sizeOf 41 = .ok (.iload 4, 2) := by decide +kernel
theorem dX4_sizeOf_43 : decode cX4_sizeOf 43 = .ok (.iconst 1, 1) := by decide +kernel
theorem dX4_sizeOf_44 : decode cX4_sizeOf 44 = .ok (.if_icmp .ne 10, 3) := by decide +kernel
theorem dX4_sizeOf_47 : decode cX4_sizeOf 47 = .ok (.iload_n 2, 1) := by decide +kernel
theorem dX4_sizeOf_48 : decode cX4_sizeOf 48 = .ok (.bipush 8, 2) := by decide +kernel
theorem dX4_sizeOf_50 : decode cX4_sizeOf 50 = .ok (.iadd, 1) := by decide +kernel
theorem dX4_sizeOf_51 : decode cX4_sizeOf 51 = .ok (.goto 30, 3) := by decide +kernel
theorem dX4_sizeOf_54 : decode cX4_sizeOf 54 = .ok (.iload 4, 2) := by decide +kernel
theorem dX4_sizeOf_56 : decode cX4_sizeOf 56 = .ok (.iconst 3, 1) := by decide +kernel
theorem dX4_sizeOf_57 : decode cX4_sizeOf 57 = .ok (.if_icmp .ne 9, 3) := by decide +kernel
theorem dX4_sizeOf_60 : decode cX4_sizeOf 60 = .ok (.iload_n 2, 1) := by decide +kernel
theorem dX4_sizeOf_61 : decode cX4_sizeOf 61 = .ok (.iconst 1, 1) := by decide +kernel
theorem dX4_sizeOf_62 : decode cX4_sizeOf 62 = .ok (.iadd, 1) := by decide +kernel
theorem dX4_sizeOf_63 : decode cX4_sizeOf 63 = .ok (.goto 18, 3) := by decide +kernel
theorem dX4_sizeOf_66 : decode cX4_sizeOf 66 = .ok (.iload_n 2, 1) := by decide +kernel
theorem dX4_sizeOf_67 : decode cX4_sizeOf 67 = .ok (.iconst 1, 1) := by decide +kernel
theorem dX4_sizeOf_68 : decode cX4_sizeOf 68 = .ok (.iadd, 1) := by decide +kernel
theorem dX4_sizeOf_69 : decode cX4_sizeOf 69 = .ok (.aload_n 0, 1) := by decide +kernel
theorem dX4_sizeOf_70 : decode cX4_sizeOf 70 = .ok (.getfield 69, 3) := by decide +kernel
theorem dX4_sizeOf_73 : decode cX4_sizeOf 73 = .ok (.aload_n 0, 1) := by decide +kernel
theorem dX4_sizeOf_74 : decode cX4_sizeOf 74 = .ok (.getfield 56, 3) := by decide +kernel
theorem dX4_sizeOf_77 : decode cX4_sizeOf 77 = .ok (.iload_n 3, 1) := by decide +kernel
theorem dX4_sizeOf_78 : decode cX4_sizeOf 78 = .ok (.iaload, 1) := by decide +kernel
theorem dX4_sizeOf_79 : decode cX4_sizeOf 79 = .ok (.iaload, 1) := by decide +kernel
theorem dX4_sizeOf_80 : decode cX4_sizeOf 80 = .ok (.iadd, 1) := by decide +kernel
theorem dX4_sizeOf_81 : decode cX4_sizeOf 81 = .ok (.istore_n 2, 1) := by decide +kernel
theorem dX4_sizeOf_82 : decode cX4_sizeOf 82 = .ok (.iinc 3 1, 3) := by decide +kernel
theorem dX4_sizeOf_85 : decode cX4_sizeOf 85 = .ok (.goto (-80), 3) := by decide +kernel
theorem dX4_sizeOf_88 : decode cX4_sizeOf 88 = .ok (.iload_n 2, 1) := by decide +kernel
theorem dX4_sizeOf_89 : decode cX4_sizeOf 89 = .ok (.ireturn, 1) := by decide +kernel
set_option maxRecDepth 20000 in
theorem ggX4_put_X4_isThere : GoodIn wsX4_put wsX4_isThere := goodIn_r _ [22, 14, 23, 24, 21, 25, 68, 69, 70, 71, 72, 73, 74, 75, 76, 77, 78, 79, 80, 81, 82, 83, 84, 85, 86, 87, 88, 89] (by decide +kernel) (by decide +kernel)
set_option maxRecDepth 20000 in
theorem gX4_put_X4_isThere : GoodIn wsX4_put (wsV RX4 108 RX4 yX4_isThere wsX4_isThere) := goodIn_app (goodIn_of _ (by decide +kernel)) ggX4_put_X4_isThere
set_option maxRecDepth 20000 in
theorem ggX4_put_X4_in : GoodIn wsX4_put wsX4_in := goodIn_r _ [25] (by decide +kernel) (by decide +kernel)
set_option maxRecDepth 20000 in
theorem gX4_put_X4_in : GoodIn wsX4_put (va_wsS RX4 72 yX4_in wsX4_in) := goodIn_app (goodIn_of _ (by decide +kernel)) ggX4_put_X4_in
set_option maxRecDepth 20000 in
theorem ggX4_put_X4_fits : GoodIn wsX4_put wsX4_fits := goodIn_r _ [29, 14, 15, 17, 30, 31, 32, 21, 33, 34, 35, 36, 37, 68, 69, 70, 71, 72, 73, 74, 75, 76, 77, 78, 79, 80, 81, 82, 83, 84, 85, 86, 87, 88, 89] (by decide +kernel) (by decide +kernel)
set_option maxRecDepth 20000 in
theorem gX4_put_X4_fits : GoodIn wsX4_put (wsV RX4 125 RX4 yX4_fits wsX4_fits) := goodIn_app (goodIn_of _ (by decide +kernel)) ggX4_put_X4_fits
set_option maxRecDepth 20000 in
theorem ggX4_put_X4_sizeOf : GoodIn wsX4_put wsX4_sizeOf := goodIn_r _ [41, 14, 17, 15, 42, 68, 69, 70, 71, 72, 73, 74, 75, 76, 77, 78, 79, 80, 81, 82, 83, 84, 85, 86, 87, 88, 89] (by decide +kernel) (by decide +kernel)
set_option maxRecDepth 20000 in
theorem gX4_put_X4_sizeOf : GoodIn wsX4_put (wsV RX4 128 RX4 yX4_sizeOf wsX4_sizeOf) := goodIn_app (goodIn_of _ (by decide +kernel)) ggX4_put_X4_sizeOf
set_option maxRecDepth 20000 in
theorem ggX4_put_X4_roomIn : GoodIn wsX4_put wsX4_roomIn := goodIn_r _ [46, 4, 47, 48, 49, 21, 50, 51, 52, 53, 54, 6, 5, 55, 56, 57, 58, 13, 68, 69, 70, 71, 72, 73, 74, 75, 76, 77, 78, 79, 80, 81, 82, 83, 84, 85, 86, 87, 88, 89] (by decide +kernel) (by decide +kernel)
set_option maxRecDepth 20000 in
theorem gX4_put_X4_roomIn : GoodIn wsX4_put (wsV RX4 131 RX4 yX4_roomIn wsX4_roomIn) := goodIn_app (goodIn_of _ (by decide +kernel)) ggX4_put_X4_roomIn
set_option maxRecDepth 20000 in
theorem ggX4_put_X4_lowestFree : GoodIn wsX4_put wsX4_lowestFree := goodIn_r _ [62, 63, 68, 69, 70, 71, 72, 73, 74, 75, 76, 77, 78, 79, 80, 81, 82, 83, 84, 85, 86, 87, 88, 89] (by decide +kernel) (by decide +kernel)
set_option maxRecDepth 20000 in
theorem gX4_put_X4_lowestFree : GoodIn wsX4_put (wsV RX4 97 RX4 yX4_lowestFree wsX4_lowestFree) := goodIn_app (goodIn_of _ (by decide +kernel)) ggX4_put_X4_lowestFree
set_option maxRecDepth 20000 in
theorem ggX4_put_X4_open : GoodIn wsX4_put wsX4_open := goodIn_r _ [67, 63, 4, 3, 68, 69, 70, 71, 72, 73, 74, 75, 76, 77, 78, 79, 80, 81, 82, 83, 84, 85, 86, 87, 88, 89] (by decide +kernel) (by decide +kernel)
set_option maxRecDepth 20000 in
theorem gX4_put_X4_open : GoodIn wsX4_put (wsV RX4 101 RX4 yX4_open wsX4_open) := goodIn_app (goodIn_of _ (by decide +kernel)) ggX4_put_X4_open
set_option maxRecDepth 20000 in
theorem ggX4_put_X4_stepOf : GoodIn wsX4_put wsX4_stepOf := goodIn_r _ [37] (by decide +kernel) (by decide +kernel)
set_option maxRecDepth 20000 in
theorem gX4_put_X4_stepOf : GoodIn wsX4_put (va_wsS RX4 76 yX4_stepOf wsX4_stepOf) := goodIn_app (goodIn_of _ (by decide +kernel)) ggX4_put_X4_stepOf
theorem dX4_put_0 : decode cX4_put 0 = .ok (.aload_n 0, 1) := by decide +kernel
theorem dX4_put_1 : decode cX4_put 1 = .ok (.iload_n 1, 1) := by decide +kernel
theorem dX4_put_2 : decode cX4_put 2 = .ok (.invokevirtual 108, 3) := by decide +kernel
theorem dX4_put_5 : decode cX4_put 5 = .ok (.ifCond .eq 36, 3) := by decide +kernel
theorem dX4_put_8 : decode cX4_put 8 = .ok (.iload_n 2, 1) := by decide +kernel
theorem dX4_put_9 : decode cX4_put 9 = .ok (.ifCond .lt 32, 3) := by decide +kernel
theorem dX4_put_12 : decode cX4_put 12 = .ok (.iload_n 3, 1) := by decide +kernel
theorem dX4_put_13 : decode cX4_put 13 = .ok (.iconst 0, 1) := by decide +kernel
theorem dX4_put_14 : decode cX4_put 14 = .ok (.ldc 124, 2) := by decide +kernel
theorem dX4_put_16 : decode cX4_put 16 = .ok (.invokestatic 72, 3) := by decide +kernel
theorem dX4_put_19 : decode cX4_put 19 = .ok (.ifCond .eq 22, 3) := by decide +kernel
theorem dX4_put_22 : decode cX4_put 22 = .ok (.iload 4, 2) := by decide +kernel
theorem dX4_put_24 : decode cX4_put 24 = .ok (.iconst 0, 1) := by decide +kernel
theorem dX4_put_25 : decode cX4_put 25 = .ok (.ldc 124, 2) := by decide +kernel
theorem dX4_put_27 : decode cX4_put 27 = .ok (.invokestatic 72, 3) := by decide +kernel
theorem dX4_put_30 : decode cX4_put 30 = .ok (.ifCond .eq 11, 3) := by decide +kernel
theorem dX4_put_33 : decode cX4_put 33 = .ok (.aload_n 0, 1) := by decide +kernel
theorem dX4_put_34 : decode cX4_put 34 = .ok (.iload_n 1, 1) := by decide +kernel
theorem dX4_put_35 : decode cX4_put 35 = .ok (.invokevirtual 125, 3) := by decide +kernel
theorem dX4_put_38 : decode cX4_put 38 = .ok (.ifCond .ne 6, 3) := by decide +kernel
theorem dX4_put_41 : decode cX4_put 41 = .ok (.bipush (-2), 2) := by decide +kernel
theorem dX4_put_43 : decode cX4_put 43 = .ok (.ireturn, 1) := by decide +kernel
theorem dX4_put_44 : decode cX4_put 44 = .ok (.aload_n 0, 1) := by decide +kernel
theorem dX4_put_45 : decode cX4_put 45 = .ok (.iload_n 1, 1) := by decide +kernel
theorem dX4_put_46 : decode cX4_put 46 = .ok (.invokevirtual 128, 3) := by decide +kernel
theorem dX4_put_49 : decode cX4_put 49 = .ok (.istore 5, 2) := by decide +kernel
theorem dX4_put_51 : decode cX4_put 51 = .ok (.aload_n 0, 1) := by decide +kernel
theorem dX4_put_52 : decode cX4_put 52 = .ok (.getfield 16, 3) := by decide +kernel
theorem dX4_put_55 : decode cX4_put 55 = .ok (.iload_n 1, 1) := by decide +kernel
theorem dX4_put_56 : decode cX4_put 56 = .ok (.iaload, 1) := by decide +kernel
theorem dX4_put_57 : decode cX4_put 57 = .ok (.istore 6, 2) := by decide +kernel
theorem dX4_put_59 : decode cX4_put 59 = .ok (.iload 6, 2) := by decide +kernel
theorem dX4_put_61 : decode cX4_put 61 = .ok (.istore 7, 2) := by decide +kernel
theorem dX4_put_63 : decode cX4_put 63 = .ok (.iconst 0, 1) := by decide +kernel
theorem dX4_put_64 : decode cX4_put 64 = .ok (.istore 8, 2) := by decide +kernel
theorem dX4_put_66 : decode cX4_put 66 = .ok (.iload 8, 2) := by decide +kernel
theorem dX4_put_68 : decode cX4_put 68 = .ok (.bipush 60, 2) := by decide +kernel
theorem dX4_put_70 : decode cX4_put 70 = .ok (.if_icmp .ge 38, 3) := by decide +kernel
theorem dX4_put_73 : decode cX4_put 73 = .ok (.iload 6, 2) := by decide +kernel
theorem dX4_put_75 : decode cX4_put 75 = .ok (.ifCond .lt 33, 3) := by decide +kernel
theorem dX4_put_78 : decode cX4_put 78 = .ok (.aload_n 0, 1) := by decide +kernel
theorem dX4_put_79 : decode cX4_put 79 = .ok (.iload 6, 2) := by decide +kernel
theorem dX4_put_81 : decode cX4_put 81 = .ok (.iload 5, 2) := by decide +kernel
theorem dX4_put_83 : decode cX4_put 83 = .ok (.invokevirtual 131, 3) := by decide +kernel
theorem dX4_put_86 : decode cX4_put 86 = .ok (.ifCond .ge 22, 3) := by decide +kernel
theorem dX4_put_89 : decode cX4_put 89 = .ok (.iload 6, 2) := by decide +kernel
theorem dX4_put_91 : decode cX4_put 91 = .ok (.istore 7, 2) := by decide +kernel
theorem dX4_put_93 : decode cX4_put 93 = .ok (.aload_n 0, 1) := by decide +kernel
theorem dX4_put_94 : decode cX4_put 94 = .ok (.getfield 25, 3) := by decide +kernel
theorem dX4_put_97 : decode cX4_put 97 = .ok (.iload 6, 2) := by decide +kernel
theorem dX4_put_99 : decode cX4_put 99 = .ok (.iaload, 1) := by decide +kernel
theorem dX4_put_100 : decode cX4_put 100 = .ok (.istore 6, 2) := by decide +kernel
theorem dX4_put_102 : decode cX4_put 102 = .ok (.iinc 8 1, 3) := by decide +kernel
theorem dX4_put_105 : decode cX4_put 105 = .ok (.goto (-39), 3) := by decide +kernel
theorem dX4_put_108 : decode cX4_put 108 = .ok (.iload 6, 2) := by decide +kernel
theorem dX4_put_110 : decode cX4_put 110 = .ok (.ifCond .ge 32, 3) := by decide +kernel
theorem dX4_put_113 : decode cX4_put 113 = .ok (.aload_n 0, 1) := by decide +kernel
theorem dX4_put_114 : decode cX4_put 114 = .ok (.invokevirtual 97, 3) := by decide +kernel
theorem dX4_put_117 : decode cX4_put 117 = .ok (.istore 6, 2) := by decide +kernel
theorem dX4_put_119 : decode cX4_put 119 = .ok (.iload 6, 2) := by decide +kernel
theorem dX4_put_121 : decode cX4_put 121 = .ok (.ifCond .ge 5, 3) := by decide +kernel
theorem dX4_put_124 : decode cX4_put 124 = .ok (.iconst (-1), 1) := by decide +kernel
theorem dX4_put_125 : decode cX4_put 125 = .ok (.ireturn, 1) := by decide +kernel
theorem dX4_put_126 : decode cX4_put 126 = .ok (.aload_n 0, 1) := by decide +kernel
theorem dX4_put_127 : decode cX4_put 127 = .ok (.iload 6, 2) := by decide +kernel
theorem dX4_put_129 : decode cX4_put 129 = .ok (.iload_n 1, 1) := by decide +kernel
theorem dX4_put_130 : decode cX4_put 130 = .ok (.invokevirtual 101, 3) := by decide +kernel
theorem dX4_put_133 : decode cX4_put 133 = .ok (.aload_n 0, 1) := by decide +kernel
theorem dX4_put_134 : decode cX4_put 134 = .ok (.getfield 25, 3) := by decide +kernel
theorem dX4_put_137 : decode cX4_put 137 = .ok (.iload 7, 2) := by decide +kernel
theorem dX4_put_139 : decode cX4_put 139 = .ok (.iload 6, 2) := by decide +kernel
theorem dX4_put_141 : decode cX4_put 141 = .ok (.iastore, 1) := by decide +kernel
theorem dX4_put_142 : decode cX4_put 142 = .ok (.aload_n 0, 1) := by decide +kernel
theorem dX4_put_143 : decode cX4_put 143 = .ok (.iload 6, 2) := by decide +kernel
theorem dX4_put_145 : decode cX4_put 145 = .ok (.iload 5, 2) := by decide +kernel
theorem dX4_put_147 : decode cX4_put 147 = .ok (.invokevirtual 131, 3) := by decide +kernel
theorem dX4_put_150 : decode cX4_put 150 = .ok (.istore 8, 2) := by decide +kernel
theorem dX4_put_152 : decode cX4_put 152 = .ok (.aload_n 0, 1) := by decide +kernel
theorem dX4_put_153 : decode cX4_put 153 = .ok (.getfield 22, 3) := by decide +kernel
theorem dX4_put_156 : decode cX4_put 156 = .ok (.iload 6, 2) := by decide +kernel
theorem dX4_put_158 : decode cX4_put 158 = .ok (.iload 8, 2) := by decide +kernel
theorem dX4_put_160 : decode cX4_put 160 = .ok (.aload_n 0, 1) := by decide +kernel
theorem dX4_put_161 : decode cX4_put 161 = .ok (.getfield 22, 3) := by decide +kernel
theorem dX4_put_164 : decode cX4_put 164 = .ok (.iload 6, 2) := by decide +kernel
theorem dX4_put_166 : decode cX4_put 166 = .ok (.iaload, 1) := by decide +kernel
theorem dX4_put_167 : decode cX4_put 167 = .ok (.if_icmp .ne 10, 3) := by decide +kernel
theorem dX4_put_170 : decode cX4_put 170 = .ok (.iload 8, 2) := by decide +kernel
theorem dX4_put_172 : decode cX4_put 172 = .ok (.iconst 1, 1) := by decide +kernel
theorem dX4_put_173 : decode cX4_put 173 = .ok (.iadd, 1) := by decide +kernel
theorem dX4_put_174 : decode cX4_put 174 = .ok (.goto 10, 3) := by decide +kernel
theorem dX4_put_177 : decode cX4_put 177 = .ok (.aload_n 0, 1) := by decide +kernel
theorem dX4_put_178 : decode cX4_put 178 = .ok (.getfield 22, 3) := by decide +kernel
theorem dX4_put_181 : decode cX4_put 181 = .ok (.iload 6, 2) := by decide +kernel
theorem dX4_put_183 : decode cX4_put 183 = .ok (.iaload, 1) := by decide +kernel
theorem dX4_put_184 : decode cX4_put 184 = .ok (.iastore, 1) := by decide +kernel
theorem dX4_put_185 : decode cX4_put 185 = .ok (.aload_n 0, 1) := by decide +kernel
theorem dX4_put_186 : decode cX4_put 186 = .ok (.getfield 28, 3) := by decide +kernel
theorem dX4_put_189 : decode cX4_put 189 = .ok (.aload_n 0, 1) := by decide +kernel
theorem dX4_put_190 : decode cX4_put 190 = .ok (.getfield 105, 3) := by decide +kernel
theorem dX4_put_193 : decode cX4_put 193 = .ok (.sipush 256, 3) := by decide +kernel
theorem dX4_put_196 : decode cX4_put 196 = .ok (.iload 6, 2) := by decide +kernel
theorem dX4_put_198 : decode cX4_put 198 = .ok (.imul, 1) := by decide +kernel
theorem dX4_put_199 : decode cX4_put 199 = .ok (.iload 8, 2) := by decide +kernel
theorem dX4_put_201 : decode cX4_put 201 = .ok (.iadd, 1) := by decide +kernel
theorem dX4_put_202 : decode cX4_put 202 = .ok (.iastore, 1) := by decide +kernel
theorem dX4_put_203 : decode cX4_put 203 = .ok (.aload_n 0, 1) := by decide +kernel
theorem dX4_put_204 : decode cX4_put 204 = .ok (.getfield 31, 3) := by decide +kernel
theorem dX4_put_207 : decode cX4_put 207 = .ok (.aload_n 0, 1) := by decide +kernel
theorem dX4_put_208 : decode cX4_put 208 = .ok (.getfield 105, 3) := by decide +kernel
theorem dX4_put_211 : decode cX4_put 211 = .ok (.iload_n 2, 1) := by decide +kernel
theorem dX4_put_212 : decode cX4_put 212 = .ok (.iastore, 1) := by decide +kernel
theorem dX4_put_213 : decode cX4_put 213 = .ok (.aload_n 0, 1) := by decide +kernel
theorem dX4_put_214 : decode cX4_put 214 = .ok (.getfield 34, 3) := by decide +kernel
theorem dX4_put_217 : decode cX4_put 217 = .ok (.aload_n 0, 1) := by decide +kernel
theorem dX4_put_218 : decode cX4_put 218 = .ok (.getfield 105, 3) := by decide +kernel
theorem dX4_put_221 : decode cX4_put 221 = .ok (.iload_n 3, 1) := by decide +kernel
theorem dX4_put_222 : decode cX4_put 222 = .ok (.iastore, 1) := by decide +kernel
theorem dX4_put_223 : decode cX4_put 223 = .ok (.aload_n 0, 1) := by decide +kernel
theorem dX4_put_224 : decode cX4_put 224 = .ok (.getfield 37, 3) := by decide +kernel
theorem dX4_put_227 : decode cX4_put 227 = .ok (.aload_n 0, 1) := by decide +kernel
theorem dX4_put_228 : decode cX4_put 228 = .ok (.getfield 105, 3) := by decide +kernel
theorem dX4_put_231 : decode cX4_put 231 = .ok (.iload 4, 2) := by decide +kernel
theorem dX4_put_233 : decode cX4_put 233 = .ok (.iastore, 1) := by decide +kernel
theorem dX4_put_234 : decode cX4_put 234 = .ok (.aload_n 0, 1) := by decide +kernel
theorem dX4_put_235 : decode cX4_put 235 = .ok (.getfield 40, 3) := by decide +kernel
theorem dX4_put_238 : decode cX4_put 238 = .ok (.aload_n 0, 1) := by decide +kernel
theorem dX4_put_239 : decode cX4_put 239 = .ok (.getfield 105, 3) := by decide +kernel
theorem dX4_put_242 : decode cX4_put 242 = .ok (.iconst 0, 1) := by decide +kernel
theorem dX4_put_243 : decode cX4_put 243 = .ok (.iastore, 1) := by decide +kernel
theorem dX4_put_244 : decode cX4_put 244 = .ok (.aload_n 0, 1) := by decide +kernel
theorem dX4_put_245 : decode cX4_put 245 = .ok (.getfield 43, 3) := by decide +kernel
theorem dX4_put_248 : decode cX4_put 248 = .ok (.aload_n 0, 1) := by decide +kernel
theorem dX4_put_249 : decode cX4_put 249 = .ok (.getfield 105, 3) := by decide +kernel
theorem dX4_put_252 : decode cX4_put 252 = .ok (.iconst 0, 1) := by decide +kernel
theorem dX4_put_253 : decode cX4_put 253 = .ok (.iastore, 1) := by decide +kernel
theorem dX4_put_254 : decode cX4_put 254 = .ok (.aload_n 0, 1) := by decide +kernel
theorem dX4_put_255 : decode cX4_put 255 = .ok (.getfield 46, 3) := by decide +kernel
theorem dX4_put_258 : decode cX4_put 258 = .ok (.aload_n 0, 1) := by decide +kernel
theorem dX4_put_259 : decode cX4_put 259 = .ok (.getfield 105, 3) := by decide +kernel
theorem dX4_put_262 : decode cX4_put 262 = .ok (.iconst (-1), 1) := by decide +kernel
theorem dX4_put_263 : decode cX4_put 263 = .ok (.iastore, 1) := by decide +kernel
theorem dX4_put_264 : decode cX4_put 264 = .ok (.aload_n 0, 1) := by decide +kernel
theorem dX4_put_265 : decode cX4_put 265 = .ok (.getfield 49, 3) := by decide +kernel
theorem dX4_put_268 : decode cX4_put 268 = .ok (.aload_n 0, 1) := by decide +kernel
theorem dX4_put_269 : decode cX4_put 269 = .ok (.getfield 105, 3) := by decide +kernel
theorem dX4_put_272 : decode cX4_put 272 = .ok (.iload 5, 2) := by decide +kernel
theorem dX4_put_274 : decode cX4_put 274 = .ok (.iastore, 1) := by decide +kernel
theorem dX4_put_275 : decode cX4_put 275 = .ok (.iconst 0, 1) := by decide +kernel
theorem dX4_put_276 : decode cX4_put 276 = .ok (.istore 9, 2) := by decide +kernel
theorem dX4_put_278 : decode cX4_put 278 = .ok (.iload 9, 2) := by decide +kernel
theorem dX4_put_280 : decode cX4_put 280 = .ok (.bipush 8, 2) := by decide +kernel
theorem dX4_put_282 : decode cX4_put 282 = .ok (.if_icmp .ge 99, 3) := by decide +kernel
theorem dX4_put_285 : decode cX4_put 285 = .ok (.iload 9, 2) := by decide +kernel
theorem dX4_put_287 : decode cX4_put 287 = .ok (.aload_n 0, 1) := by decide +kernel
theorem dX4_put_288 : decode cX4_put 288 = .ok (.getfield 7, 3) := by decide +kernel
theorem dX4_put_291 : decode cX4_put 291 = .ok (.iload_n 1, 1) := by decide +kernel
theorem dX4_put_292 : decode cX4_put 292 = .ok (.iaload, 1) := by decide +kernel
theorem dX4_put_293 : decode cX4_put 293 = .ok (.if_icmp .ge 17, 3) := by decide +kernel
theorem dX4_put_296 : decode cX4_put 296 = .ok (.aload_n 0, 1) := by decide +kernel
theorem dX4_put_297 : decode cX4_put 297 = .ok (.getfield 56, 3) := by decide +kernel
theorem dX4_put_300 : decode cX4_put 300 = .ok (.iload 9, 2) := by decide +kernel
theorem dX4_put_302 : decode cX4_put 302 = .ok (.iaload, 1) := by decide +kernel
theorem dX4_put_303 : decode cX4_put 303 = .ok (.ifCond .eq 7, 3) := by decide +kernel
theorem dX4_put_306 : decode cX4_put 306 = .ok (.iconst 1, 1) := by decide +kernel
theorem dX4_put_307 : decode cX4_put 307 = .ok (.goto 4, 3) := by decide +kernel
theorem dX4_put_310 : decode cX4_put 310 = .ok (.iconst 0, 1) := by decide +kernel
theorem dX4_put_311 : decode cX4_put 311 = .ok (.istore 10, 2) := by decide +kernel
theorem dX4_put_313 : decode cX4_put 313 = .ok (.aload_n 0, 1) := by decide +kernel
theorem dX4_put_314 : decode cX4_put 314 = .ok (.getfield 52, 3) := by decide +kernel
theorem dX4_put_317 : decode cX4_put 317 = .ok (.bipush 8, 2) := by decide +kernel
theorem dX4_put_319 : decode cX4_put 319 = .ok (.aload_n 0, 1) := by decide +kernel
theorem dX4_put_320 : decode cX4_put 320 = .ok (.getfield 105, 3) := by decide +kernel
theorem dX4_put_323 : decode cX4_put 323 = .ok (.imul, 1) := by decide +kernel
theorem dX4_put_324 : decode cX4_put 324 = .ok (.iload 9, 2) := by decide +kernel
theorem dX4_put_326 : decode cX4_put 326 = .ok (.iadd, 1) := by decide +kernel
theorem dX4_put_327 : decode cX4_put 327 = .ok (.iload 10, 2) := by decide +kernel
theorem dX4_put_329 : decode cX4_put 329 = .ok (.ifCond .ne 7, 3) := by decide +kernel
theorem dX4_put_332 : decode cX4_put 332 = .ok (.iconst 0, 1) := by decide +kernel
theorem dX4_put_333 : decode cX4_put 333 = .ok (.goto 40, 3) := by decide +kernel
theorem dX4_put_336 : decode cX4_put 336 = .ok (.aload_n 0, 1) := by decide +kernel
theorem dX4_put_337 : decode cX4_put 337 = .ok (.getfield 13, 3) := by decide +kernel
theorem dX4_put_340 : decode cX4_put 340 = .ok (.bipush 8, 2) := by decide +kernel
theorem dX4_put_342 : decode cX4_put 342 = .ok (.iload_n 1, 1) := by decide +kernel
theorem dX4_put_343 : decode cX4_put 343 = .ok (.imul, 1) := by decide +kernel
theorem dX4_put_344 : decode cX4_put 344 = .ok (.iload 9, 2) := by decide +kernel
theorem dX4_put_346 : decode cX4_put 346 = .ok (.iadd, 1) := by decide +kernel
theorem dX4_put_347 : decode cX4_put 347 = .ok (.iaload, 1) := by decide +kernel
theorem dX4_put_348 : decode cX4_put 348 = .ok (.iconst 3, 1) := by decide +kernel
theorem dX4_put_349 : decode cX4_put 349 = .ok (.if_icmp .ne 17, 3) := by decide +kernel
theorem dX4_put_352 : decode cX4_put 352 = .ok (.aload_n 0, 1) := by decide +kernel
theorem dX4_put_353 : decode cX4_put 353 = .ok (.getfield 56, 3) := by decide +kernel
theorem dX4_put_356 : decode cX4_put 356 = .ok (.iload 9, 2) := by decide +kernel
theorem dX4_put_358 : decode cX4_put 358 = .ok (.iaload, 1) := by decide +kernel
theorem dX4_put_359 : decode cX4_put 359 = .ok (.invokestatic 76, 3) := by decide +kernel
theorem dX4_put_362 : decode cX4_put 362 = .ok (.ineg, 1) := by decide +kernel
theorem dX4_put_363 : decode cX4_put 363 = .ok (.goto 10, 3) := by decide +kernel
theorem dX4_put_366 : decode cX4_put 366 = .ok (.aload_n 0, 1) := by decide +kernel
theorem dX4_put_367 : decode cX4_put 367 = .ok (.getfield 56, 3) := by decide +kernel
theorem dX4_put_370 : decode cX4_put 370 = .ok (.iload 9, 2) := by decide +kernel
theorem dX4_put_372 : decode cX4_put 372 = .ok (.iaload, 1) := by decide +kernel
theorem dX4_put_373 : decode cX4_put 373 = .ok (.i2s, 1) := by decide +kernel
theorem dX4_put_374 : decode cX4_put 374 = .ok (.sastore, 1) := by decide +kernel
theorem dX4_put_375 : decode cX4_put 375 = .ok (.iinc 9 1, 3) := by decide +kernel
theorem dX4_put_378 : decode cX4_put 378 = .ok (.goto (-100), 3) := by decide +kernel
theorem dX4_put_381 : decode cX4_put 381 = .ok (.aload_n 0, 1) := by decide +kernel
theorem dX4_put_382 : decode cX4_put 382 = .ok (.dup, 1) := by decide +kernel
theorem dX4_put_383 : decode cX4_put 383 = .ok (.getfield 105, 3) := by decide +kernel
theorem dX4_put_386 : decode cX4_put 386 = .ok (.iconst 1, 1) := by decide +kernel
theorem dX4_put_387 : decode cX4_put 387 = .ok (.iadd, 1) := by decide +kernel
theorem dX4_put_388 : decode cX4_put 388 = .ok (.putfield 105, 3) := by decide +kernel
theorem dX4_put_391 : decode cX4_put 391 = .ok (.aload_n 0, 1) := by decide +kernel
theorem dX4_put_392 : decode cX4_put 392 = .ok (.getfield 28, 3) := by decide +kernel
theorem dX4_put_395 : decode cX4_put 395 = .ok (.aload_n 0, 1) := by decide +kernel
theorem dX4_put_396 : decode cX4_put 396 = .ok (.getfield 105, 3) := by decide +kernel
theorem dX4_put_399 : decode cX4_put 399 = .ok (.iconst 1, 1) := by decide +kernel
theorem dX4_put_400 : decode cX4_put 400 = .ok (.isub, 1) := by decide +kernel
theorem dX4_put_401 : decode cX4_put 401 = .ok (.iaload, 1) := by decide +kernel
theorem dX4_put_402 : decode cX4_put 402 = .ok (.ireturn, 1) := by decide +kernel
set_option maxRecDepth 20000 in
theorem ggX4_get_X4_find : GoodIn wsX4_get wsX4_find := goodIn_r _ [7, 8, 9, 10, 11, 12, 13, 14, 15, 16, 17, 18, 19, 20, 21, 22, 23, 24, 25, 26, 27, 28, 29, 30, 31] (by decide +kernel) (by decide +kernel)
set_option maxRecDepth 20000 in
theorem gX4_get_X4_find : GoodIn wsX4_get (wsV RX4 115 RX4 yX4_find wsX4_find) := goodIn_app (goodIn_of _ (by decide +kernel)) ggX4_get_X4_find
theorem dX4_get_0 : decode cX4_get 0 = .ok (.aload_n 0, 1) := by decide +kernel
theorem dX4_get_1 : decode cX4_get 1 = .ok (.iload_n 1, 1) := by decide +kernel
theorem dX4_get_2 : decode cX4_get 2 = .ok (.invokevirtual 115, 3) := by decide +kernel
theorem dX4_get_5 : decode cX4_get 5 = .ok (.istore_n 2, 1) := by decide +kernel
theorem dX4_get_6 : decode cX4_get 6 = .ok (.iconst 0, 1) := by decide +kernel
theorem dX4_get_7 : decode cX4_get 7 = .ok (.istore_n 3, 1) := by decide +kernel
theorem dX4_get_8 : decode cX4_get 8 = .ok (.iload_n 3, 1) := by decide +kernel
theorem dX4_get_9 : decode cX4_get 9 = .ok (.bipush 8, 2) := by decide +kernel
theorem dX4_get_11 : decode cX4_get 11 = .ok (.if_icmp .ge 30, 3) := by decide +kernel
theorem dX4_get_14 : decode cX4_get 14 = .ok (.iload_n 2, 1) := by decide +kernel
theorem dX4_get_15 : decode cX4_get 15 = .ok (.ifCond .lt 26, 3) := by decide +kernel
theorem dX4_get_18 : decode cX4_get 18 = .ok (.aload_n 0, 1) := by decide +kernel
theorem dX4_get_19 : decode cX4_get 19 = .ok (.getfield 56, 3) := by decide +kernel
theorem dX4_get_22 : decode cX4_get 22 = .ok (.iload_n 3, 1) := by decide +kernel
theorem dX4_get_23 : decode cX4_get 23 = .ok (.aload_n 0, 1) := by decide +kernel
theorem dX4_get_24 : decode cX4_get 24 = .ok (.getfield 52, 3) := by decide +kernel
theorem dX4_get_27 : decode cX4_get 27 = .ok (.bipush 8, 2) := by decide +kernel
theorem dX4_get_29 : decode cX4_get 29 = .ok (.iload_n 2, 1) := by decide +kernel
theorem dX4_get_30 : decode cX4_get 30 = .ok (.imul, 1) := by decide +kernel
theorem dX4_get_31 : decode cX4_get 31 = .ok (.iload_n 3, 1) := by decide +kernel
theorem dX4_get_32 : decode cX4_get 32 = .ok (.iadd, 1) := by decide +kernel
theorem dX4_get_33 : decode cX4_get 33 = .ok (.saload, 1) := by decide +kernel
theorem dX4_get_34 : decode cX4_get 34 = .ok (.iastore, 1) := by decide +kernel
theorem dX4_get_35 : decode cX4_get 35 = .ok (.iinc 3 1, 3) := by decide +kernel
theorem dX4_get_38 : decode cX4_get 38 = .ok (.goto (-30), 3) := by decide +kernel
theorem dX4_get_41 : decode cX4_get 41 = .ok (.iload_n 2, 1) := by decide +kernel
theorem dX4_get_42 : decode cX4_get 42 = .ok (.ifCond .lt 7, 3) := by decide +kernel
theorem dX4_get_45 : decode cX4_get 45 = .ok (.iconst 1, 1) := by decide +kernel
theorem dX4_get_46 : decode cX4_get 46 = .ok (.goto 4, 3) := by decide +kernel
theorem dX4_get_49 : decode cX4_get 49 = .ok (.iconst 0, 1) := by decide +kernel
theorem dX4_get_50 : decode cX4_get 50 = .ok (.ireturn, 1) := by decide +kernel
set_option maxRecDepth 20000 in
theorem ggX4_end_X4_find : GoodIn wsX4_end wsX4_find := goodIn_r _ [8, 9, 10, 14, 15, 16, 17, 18, 19, 20, 21, 22, 23, 24, 25, 26, 27, 28, 29, 30, 31, 32, 33, 34, 35] (by decide +kernel) (by decide +kernel)
set_option maxRecDepth 20000 in
theorem gX4_end_X4_find : GoodIn wsX4_end (wsV RX4 115 RX4 yX4_find wsX4_find) := goodIn_app (goodIn_of _ (by decide +kernel)) ggX4_end_X4_find
set_option maxRecDepth 20000 in
theorem ggX4_end_X4_in : GoodIn wsX4_end wsX4_in := goodIn_r _ [13] (by decide +kernel) (by decide +kernel)
set_option maxRecDepth 20000 in
theorem gX4_end_X4_in : GoodIn wsX4_end (va_wsS RX4 72 yX4_in wsX4_in) := goodIn_app (goodIn_of _ (by decide +kernel)) ggX4_end_X4_in
theorem dX4_end_0 : decode cX4_end 0 = .ok (.aload_n 0, 1) := by decide +kernel
theorem dX4_end_1 : decode cX4_end 1 = .ok (.iload_n 1, 1) := by decide +kernel
theorem dX4_end_2 : decode cX4_end 2 = .ok (.invokevirtual 115, 3) := by decide +kernel
theorem dX4_end_5 : decode cX4_end 5 = .ok (.istore 4, 2) := by decide +kernel
theorem dX4_end_7 : decode cX4_end 7 = .ok (.iload 4, 2) := by decide +kernel
theorem dX4_end_9 : decode cX4_end 9 = .ok (.ifCond .lt 23, 3) := by decide +kernel
theorem dX4_end_12 : decode cX4_end 12 = .ok (.iload_n 2, 1) := by decide +kernel
theorem dX4_end_13 : decode cX4_end 13 = .ok (.iconst 0, 1) := by decide +kernel
theorem dX4_end_14 : decode cX4_end 14 = .ok (.ldc 124, 2) := by decide +kernel
theorem dX4_end_16 : decode cX4_end 16 = .ok (.invokestatic 72, 3) := by decide +kernel
theorem dX4_end_19 : decode cX4_end 19 = .ok (.ifCond .eq 13, 3) := by decide +kernel
theorem dX4_end_22 : decode cX4_end 22 = .ok (.iload_n 3, 1) := by decide +kernel
theorem dX4_end_23 : decode cX4_end 23 = .ok (.iconst 0, 1) := by decide +kernel
theorem dX4_end_24 : decode cX4_end 24 = .ok (.ldc 124, 2) := by decide +kernel
theorem dX4_end_26 : decode cX4_end 26 = .ok (.invokestatic 72, 3) := by decide +kernel
theorem dX4_end_29 : decode cX4_end 29 = .ok (.ifCond .ne 5, 3) := by decide +kernel
theorem dX4_end_32 : decode cX4_end 32 = .ok (.iconst 0, 1) := by decide +kernel
theorem dX4_end_33 : decode cX4_end 33 = .ok (.ireturn, 1) := by decide +kernel
theorem dX4_end_34 : decode cX4_end 34 = .ok (.aload_n 0, 1) := by decide +kernel
theorem dX4_end_35 : decode cX4_end 35 = .ok (.getfield 40, 3) := by decide +kernel
theorem dX4_end_38 : decode cX4_end 38 = .ok (.iload 4, 2) := by decide +kernel
theorem dX4_end_40 : decode cX4_end 40 = .ok (.iload_n 2, 1) := by decide +kernel
theorem dX4_end_41 : decode cX4_end 41 = .ok (.iastore, 1) := by decide +kernel
theorem dX4_end_42 : decode cX4_end 42 = .ok (.aload_n 0, 1) := by decide +kernel
theorem dX4_end_43 : decode cX4_end 43 = .ok (.getfield 43, 3) := by decide +kernel
theorem dX4_end_46 : decode cX4_end 46 = .ok (.iload 4, 2) := by decide +kernel
theorem dX4_end_48 : decode cX4_end 48 = .ok (.iload_n 3, 1) := by decide +kernel
theorem dX4_end_49 : decode cX4_end 49 = .ok (.iastore, 1) := by decide +kernel
theorem dX4_end_50 : decode cX4_end 50 = .ok (.iconst 1, 1) := by decide +kernel
theorem dX4_end_51 : decode cX4_end 51 = .ok (.ireturn, 1) := by decide +kernel
set_option maxRecDepth 20000 in
theorem ggX4_behind_X4_find : GoodIn wsX4_behind wsX4_find := goodIn_r _ [6, 7, 8, 12, 13, 14, 15, 16, 17, 18, 19, 20, 21, 22, 23, 24, 25, 26, 27, 28, 29, 30, 31, 32, 33] (by decide +kernel) (by decide +kernel)
set_option maxRecDepth 20000 in
theorem gX4_behind_X4_find : GoodIn wsX4_behind (wsV RX4 115 RX4 yX4_find wsX4_find) := goodIn_app (goodIn_of _ (by decide +kernel)) ggX4_behind_X4_find
set_option maxRecDepth 20000 in
theorem ggX4_behind_X4_in : GoodIn wsX4_behind wsX4_in := goodIn_r _ [11] (by decide +kernel) (by decide +kernel)
set_option maxRecDepth 20000 in
theorem gX4_behind_X4_in : GoodIn wsX4_behind (va_wsS RX4 72 yX4_in wsX4_in) := goodIn_app (goodIn_of _ (by decide +kernel)) ggX4_behind_X4_in
theorem dX4_behind_0 : decode cX4_behind 0 = .ok (.aload_n 0, 1) := by decide +kernel
theorem dX4_behind_1 : decode cX4_behind 1 = .ok (.iload_n 1, 1) := by decide +kernel
theorem dX4_behind_2 : decode cX4_behind 2 = .ok (.invokevirtual 115, 3) := by decide +kernel
theorem dX4_behind_5 : decode cX4_behind 5 = .ok (.istore_n 3, 1) := by decide +kernel
theorem dX4_behind_6 : decode cX4_behind 6 = .ok (.iload_n 3, 1) := by decide +kernel
theorem dX4_behind_7 : decode cX4_behind 7 = .ok (.ifCond .lt 14, 3) := by decide +kernel
theorem dX4_behind_10 : decode cX4_behind 10 = .ok (.iload_n 2, 1) := by decide +kernel
theorem dX4_behind_11 : decode cX4_behind 11 = .ok (.iconst (-1), 1) := by decide +kernel
theorem dX4_behind_12 : decode cX4_behind 12 = .ok (.sipush 15359, 3) := by decide +kernel
theorem dX4_behind_15 : decode cX4_behind 15 = .ok (.invokestatic 72, 3) := by decide +kernel
theorem dX4_behind_18 : decode cX4_behind 18 = .ok (.ifCond .ne 5, 3) := by decide +kernel
theorem dX4_behind_21 : decode cX4_behind 21 = .ok (.iconst 0, 1) := by decide +kernel
theorem dX4_behind_22 : decode cX4_behind 22 = .ok (.ireturn, 1) := by decide +kernel
theorem dX4_behind_23 : decode cX4_behind 23 = .ok (.aload_n 0, 1) := by decide +kernel
theorem dX4_behind_24 : decode cX4_behind 24 = .ok (.getfield 46, 3) := by decide +kernel
theorem dX4_behind_27 : decode cX4_behind 27 = .ok (.iload_n 3, 1) := by decide +kernel
theorem dX4_behind_28 : decode cX4_behind 28 = .ok (.iload_n 2, 1) := by decide +kernel
theorem dX4_behind_29 : decode cX4_behind 29 = .ok (.iastore, 1) := by decide +kernel
theorem dX4_behind_30 : decode cX4_behind 30 = .ok (.iconst 1, 1) := by decide +kernel
theorem dX4_behind_31 : decode cX4_behind 31 = .ok (.ireturn, 1) := by decide +kernel
set_option maxRecDepth 20000 in
theorem ggX4_take_X4_find : GoodIn wsX4_take wsX4_find := goodIn_r _ [8, 9, 10, 27, 28, 29, 30, 31, 32, 33, 34, 35, 36, 37, 38, 39, 40, 41, 42, 43, 44, 45, 46, 47, 48] (by decide +kernel) (by decide +kernel)
set_option maxRecDepth 20000 in
theorem gX4_take_X4_find : GoodIn wsX4_take (wsV RX4 115 RX4 yX4_find wsX4_find) := goodIn_app (goodIn_of _ (by decide +kernel)) ggX4_take_X4_find
set_option maxRecDepth 20000 in
theorem ggX4_take_X4_drop0 : GoodIn wsX4_take wsX4_drop0 := goodIn_r _ [14, 9, 10, 15, 16, 17, 18, 19, 20, 21, 22, 27, 28, 29, 30, 31, 32, 33, 34, 35, 36, 37, 38, 39, 40, 41, 42, 43, 44, 45, 46, 47, 48] (by decide +kernel) (by decide +kernel)
set_option maxRecDepth 20000 in
theorem gX4_take_X4_drop0 : GoodIn wsX4_take (wsV RX4 111 RX4 yX4_drop0 wsX4_drop0) := goodIn_app (goodIn_of _ (by decide +kernel)) ggX4_take_X4_drop0
set_option maxRecDepth 20000 in
theorem ggX4_take_X4_versionsIn : GoodIn wsX4_take wsX4_versionsIn := goodIn_r _ [26, 9, 10, 27, 28, 29, 30, 31, 32, 33, 34, 35, 36, 37, 38, 39, 40, 41, 42, 43, 44, 45, 46, 47, 48] (by decide +kernel) (by decide +kernel)
set_option maxRecDepth 20000 in
theorem gX4_take_X4_versionsIn : GoodIn wsX4_take (wsV RX4 135 RX4 yX4_versionsIn wsX4_versionsIn) := goodIn_app (goodIn_of _ (by decide +kernel)) ggX4_take_X4_versionsIn
theorem dX4_take_0 : decode cX4_take 0 = .ok (.aload_n 0, 1) := by decide +kernel
theorem dX4_take_1 : decode cX4_take 1 = .ok (.iload_n 1, 1) := by decide +kernel
theorem dX4_take_2 : decode cX4_take 2 = .ok (.invokevirtual 115, 3) := by decide +kernel
theorem dX4_take_5 : decode cX4_take 5 = .ok (.istore_n 2, 1) := by decide +kernel
theorem dX4_take_6 : decode cX4_take 6 = .ok (.iload_n 2, 1) := by decide +kernel
theorem dX4_take_7 : decode cX4_take 7 = .ok (.ifCond .ge 5, 3) := by decide +kernel
theorem dX4_take_10 : decode cX4_take 10 = .ok (.iconst 0, 1) := by decide +kernel
theorem dX4_take_11 : decode cX4_take 11 = .ok (.ireturn, 1) := by decide +kernel
theorem dX4_take_12 : decode cX4_take 12 = .ok (.iload_n 1, 1) := by decide +kernel
theorem dX4_take_13 : decode cX4_take 13 = .ok (.sipush 256, 3) := by decide +kernel
theorem dX4_take_16 : decode cX4_take 16 = .ok (.idiv, 1) := by decide +kernel
theorem dX4_take_17 : decode cX4_take 17 = .ok (.istore_n 3, 1) := by decide +kernel
theorem dX4_take_18 : decode cX4_take 18 = .ok (.aload_n 0, 1) := by decide +kernel
theorem dX4_take_19 : decode cX4_take 19 = .ok (.iload_n 2, 1) := by decide +kernel
theorem dX4_take_20 : decode cX4_take 20 = .ok (.invokevirtual 111, 3) := by decide +kernel
theorem dX4_take_23 : decode cX4_take 23 = .ok (.aload_n 0, 1) := by decide +kernel
theorem dX4_take_24 : decode cX4_take 24 = .ok (.getfield 19, 3) := by decide +kernel
theorem dX4_take_27 : decode cX4_take 27 = .ok (.iload_n 3, 1) := by decide +kernel
theorem dX4_take_28 : decode cX4_take 28 = .ok (.iaload, 1) := by decide +kernel
theorem dX4_take_29 : decode cX4_take 29 = .ok (.istore 4, 2) := by decide +kernel
theorem dX4_take_31 : decode cX4_take 31 = .ok (.aload_n 0, 1) := by decide +kernel
theorem dX4_take_32 : decode cX4_take 32 = .ok (.iload_n 3, 1) := by decide +kernel
theorem dX4_take_33 : decode cX4_take 33 = .ok (.invokevirtual 135, 3) := by decide +kernel
theorem dX4_take_36 : decode cX4_take 36 = .ok (.ifCond .ne 83, 3) := by decide +kernel
theorem dX4_take_39 : decode cX4_take 39 = .ok (.aload_n 0, 1) := by decide +kernel
theorem dX4_take_40 : decode cX4_take 40 = .ok (.getfield 16, 3) := by decide +kernel
theorem dX4_take_43 : decode cX4_take 43 = .ok (.iload 4, 2) := by decide +kernel
theorem dX4_take_45 : decode cX4_take 45 = .ok (.iaload, 1) := by decide +kernel
theorem dX4_take_46 : decode cX4_take 46 = .ok (.iload_n 3, 1) := by decide +kernel
theorem dX4_take_47 : decode cX4_take 47 = .ok (.if_icmp .eq 72, 3) := by decide +kernel
theorem dX4_take_50 : decode cX4_take 50 = .ok (.iconst 0, 1) := by decide +kernel
theorem dX4_take_51 : decode cX4_take 51 = .ok (.istore 5, 2) := by decide +kernel
theorem dX4_take_53 : decode cX4_take 53 = .ok (.iload 5, 2) := by decide +kernel
theorem dX4_take_55 : decode cX4_take 55 = .ok (.bipush 60, 2) := by decide +kernel
theorem dX4_take_57 : decode cX4_take 57 = .ok (.if_icmp .ge 55, 3) := by decide +kernel
theorem dX4_take_60 : decode cX4_take 60 = .ok (.aload_n 0, 1) := by decide +kernel
theorem dX4_take_61 : decode cX4_take 61 = .ok (.getfield 25, 3) := by decide +kernel
theorem dX4_take_64 : decode cX4_take 64 = .ok (.iload 5, 2) := by decide +kernel
theorem dX4_take_66 : decode cX4_take 66 = .ok (.aload_n 0, 1) := by decide +kernel
theorem dX4_take_67 : decode cX4_take 67 = .ok (.getfield 19, 3) := by decide +kernel
theorem dX4_take_70 : decode cX4_take 70 = .ok (.iload 5, 2) := by decide +kernel
theorem dX4_take_72 : decode cX4_take 72 = .ok (.iaload, 1) := by decide +kernel
theorem dX4_take_73 : decode cX4_take 73 = .ok (.iload 4, 2) := by decide +kernel
theorem dX4_take_75 : decode cX4_take 75 = .ok (.if_icmp .ne 23, 3) := by decide +kernel
theorem dX4_take_78 : decode cX4_take 78 = .ok (.aload_n 0, 1) := by decide +kernel
theorem dX4_take_79 : decode cX4_take 79 = .ok (.getfield 25, 3) := by decide +kernel
theorem dX4_take_82 : decode cX4_take 82 = .ok (.iload 5, 2) := by decide +kernel
theorem dX4_take_84 : decode cX4_take 84 = .ok (.iaload, 1) := by decide +kernel
theorem dX4_take_85 : decode cX4_take 85 = .ok (.iload_n 3, 1) := by decide +kernel
theorem dX4_take_86 : decode cX4_take 86 = .ok (.if_icmp .ne 12, 3) := by decide +kernel
theorem dX4_take_89 : decode cX4_take 89 = .ok (.aload_n 0, 1) := by decide +kernel
theorem dX4_take_90 : decode cX4_take 90 = .ok (.getfield 25, 3) := by decide +kernel
theorem dX4_take_93 : decode cX4_take 93 = .ok (.iload_n 3, 1) := by decide +kernel
theorem dX4_take_94 : decode cX4_take 94 = .ok (.iaload, 1) := by decide +kernel
theorem dX4_take_95 : decode cX4_take 95 = .ok (.goto 10, 3) := by decide +kernel
theorem dX4_take_98 : decode cX4_take 98 = .ok (.aload_n 0, 1) := by decide +kernel
theorem dX4_take_99 : decode cX4_take 99 = .ok (.getfield 25, 3) := by decide +kernel
theorem dX4_take_102 : decode cX4_take 102 = .ok (.iload 5, 2) := by decide +kernel
theorem dX4_take_104 : decode cX4_take 104 = .ok (.iaload, 1) := by decide +kernel
theorem dX4_take_105 : decode cX4_take 105 = .ok (.iastore, 1) := by decide +kernel
theorem dX4_take_106 : decode cX4_take 106 = .ok (.iinc 5 1, 3) := by decide +kernel
theorem dX4_take_109 : decode cX4_take 109 = .ok (.goto (-56), 3) := by decide +kernel
theorem dX4_take_112 : decode cX4_take 112 = .ok (.aload_n 0, 1) := by decide +kernel
theorem dX4_take_113 : decode cX4_take 113 = .ok (.getfield 19, 3) := by decide +kernel
theorem dX4_take_116 : decode cX4_take 116 = .ok (.iload_n 3, 1) := by decide +kernel
theorem dX4_take_117 : decode cX4_take 117 = .ok (.iconst (-1), 1) := by decide +kernel
theorem dX4_take_118 : decode cX4_take 118 = .ok (.iastore, 1) := by decide +kernel
theorem dX4_take_119 : decode cX4_take 119 = .ok (.iconst 1, 1) := by decide +kernel
theorem dX4_take_120 : decode cX4_take 120 = .ok (.ireturn, 1) := by decide +kernel
set_option maxRecDepth 20000 in
theorem ggX4_look_X4_find : GoodIn wsX4_look wsX4_find := goodIn_r _ [13, 14, 15, 16, 17, 18, 19, 20, 21, 22, 23, 24, 25, 26, 27, 28, 29, 30, 31, 32, 33, 34, 35, 36, 37] (by decide +kernel) (by decide +kernel)
set_option maxRecDepth 20000 in
theorem gX4_look_X4_find : GoodIn wsX4_look (wsV RX4 115 RX4 yX4_find wsX4_find) := goodIn_app (goodIn_of _ (by decide +kernel)) ggX4_look_X4_find
theorem dX4_look_0 : decode cX4_look 0 = .ok (.aload_n 0, 1) := by decide +kernel
theorem dX4_look_1 : decode cX4_look 1 = .ok (.iload_n 1, 1) := by decide +kernel
theorem dX4_look_2 : decode cX4_look 2 = .ok (.invokevirtual 115, 3) := by decide +kernel
theorem dX4_look_5 : decode cX4_look 5 = .ok (.istore_n 3, 1) := by decide +kernel
theorem dX4_look_6 : decode cX4_look 6 = .ok (.iload_n 3, 1) := by decide +kernel
theorem dX4_look_7 : decode cX4_look 7 = .ok (.ifCond .ge 5, 3) := by decide +kernel
theorem dX4_look_10 : decode cX4_look 10 = .ok (.iconst (-1), 1) := by decide +kernel
theorem dX4_look_11 : decode cX4_look 11 = .ok (.ireturn, 1) := by decide +kernel
theorem dX4_look_12 : decode cX4_look 12 = .ok (.iload_n 2, 1) := by decide +kernel
theorem dX4_look_13 : decode cX4_look 13 = .ok (.ifCond .ne 12, 3) := by decide +kernel
theorem dX4_look_16 : decode cX4_look 16 = .ok (.aload_n 0, 1) := by decide +kernel
theorem dX4_look_17 : decode cX4_look 17 = .ok (.getfield 31, 3) := by decide +kernel
theorem dX4_look_20 : decode cX4_look 20 = .ok (.iload_n 3, 1) := by decide +kernel
theorem dX4_look_21 : decode cX4_look 21 = .ok (.iaload, 1) := by decide +kernel
theorem dX4_look_22 : decode cX4_look 22 = .ok (.goto 108, 3) := by decide +kernel
theorem dX4_look_25 : decode cX4_look 25 = .ok (.iload_n 2, 1) := by decide +kernel
theorem dX4_look_26 : decode cX4_look 26 = .ok (.iconst 1, 1) := by decide +kernel
theorem dX4_look_27 : decode cX4_look 27 = .ok (.if_icmp .ne 12, 3) := by decide +kernel
theorem dX4_look_30 : decode cX4_look 30 = .ok (.aload_n 0, 1) := by decide +kernel
theorem dX4_look_31 : decode cX4_look 31 = .ok (.getfield 34, 3) := by decide +kernel
theorem dX4_look_34 : decode cX4_look 34 = .ok (.iload_n 3, 1) := by decide +kernel
theorem dX4_look_35 : decode cX4_look 35 = .ok (.iaload, 1) := by decide +kernel
theorem dX4_look_36 : decode cX4_look 36 = .ok (.goto 94, 3) := by decide +kernel
theorem dX4_look_39 : decode cX4_look 39 = .ok (.iload_n 2, 1) := by decide +kernel
theorem dX4_look_40 : decode cX4_look 40 = .ok (.iconst 2, 1) := by decide +kernel
theorem dX4_look_41 : decode cX4_look 41 = .ok (.if_icmp .ne 12, 3) := by decide +kernel
theorem dX4_look_44 : decode cX4_look 44 = .ok (.aload_n 0, 1) := by decide +kernel
theorem dX4_look_45 : decode cX4_look 45 = .ok (.getfield 37, 3) := by decide +kernel
theorem dX4_look_48 : decode cX4_look 48 = .ok (.iload_n 3, 1) := by decide +kernel
theorem dX4_look_49 : decode cX4_look 49 = .ok (.iaload, 1) := by decide +kernel
theorem dX4_look_50 : decode cX4_look 50 = .ok (.goto 80, 3) := by decide +kernel
theorem dX4_look_53 : decode cX4_look 53 = .ok (.iload_n 2, 1) := by decide +kernel
theorem dX4_look_54 : decode cX4_look 54 = .ok (.iconst 3, 1) := by decide +kernel
theorem dX4_look_55 : decode cX4_look 55 = .ok (.if_icmp .ne 12, 3) := by decide +kernel
theorem dX4_look_58 : decode cX4_look 58 = .ok (.aload_n 0, 1) := by decide +kernel
theorem dX4_look_59 : decode cX4_look 59 = .ok (.getfield 40, 3) := by decide +kernel
theorem dX4_look_62 : decode cX4_look 62 = .ok (.iload_n 3, 1) := by decide +kernel
theorem dX4_look_63 : decode cX4_look 63 = .ok (.iaload, 1) := by decide +kernel
theorem dX4_look_64 : decode cX4_look 64 = .ok (.goto 66, 3) := by decide +kernel
theorem dX4_look_67 : decode cX4_look 67 = .ok (.iload_n 2, 1) := by decide +kernel
theorem dX4_look_68 : decode cX4_look 68 = .ok (.iconst 4, 1) := by decide +kernel
theorem dX4_look_69 : decode cX4_look 69 = .ok (.if_icmp .ne 12, 3) := by decide +kernel
theorem dX4_look_72 : decode cX4_look 72 = .ok (.aload_n 0, 1) := by decide +kernel
theorem dX4_look_73 : decode cX4_look 73 = .ok (.getfield 43, 3) := by decide +kernel
theorem dX4_look_76 : decode cX4_look 76 = .ok (.iload_n 3, 1) := by decide +kernel
theorem dX4_look_77 : decode cX4_look 77 = .ok (.iaload, 1) := by decide +kernel
theorem dX4_look_78 : decode cX4_look 78 = .ok (.goto 52, 3) := by decide +kernel
theorem dX4_look_81 : decode cX4_look 81 = .ok (.iload_n 2, 1) := by decide +kernel
theorem dX4_look_82 : decode cX4_look 82 = .ok (.iconst 5, 1) := by decide +kernel
theorem dX4_look_83 : decode cX4_look 83 = .ok (.if_icmp .ne 12, 3) := by decide +kernel
theorem dX4_look_86 : decode cX4_look 86 = .ok (.aload_n 0, 1) := by decide +kernel
theorem dX4_look_87 : decode cX4_look 87 = .ok (.getfield 46, 3) := by decide +kernel
theorem dX4_look_90 : decode cX4_look 90 = .ok (.iload_n 3, 1) := by decide +kernel
theorem dX4_look_91 : decode cX4_look 91 = .ok (.iaload, 1) := by decide +kernel
theorem dX4_look_92 : decode cX4_look 92 = .ok (.goto 38, 3) := by decide +kernel
theorem dX4_look_95 : decode cX4_look 95 = .ok (.iload_n 2, 1) := by decide +kernel
theorem dX4_look_96 : decode cX4_look 96 = .ok (.bipush 6, 2) := by decide +kernel
theorem dX4_look_98 : decode cX4_look 98 = .ok (.if_icmp .ne 12, 3) := by decide +kernel
theorem dX4_look_101 : decode cX4_look 101 = .ok (.aload_n 0, 1) := by decide +kernel
theorem dX4_look_102 : decode cX4_look 102 = .ok (.getfield 49, 3) := by decide +kernel
theorem dX4_look_105 : decode cX4_look 105 = .ok (.iload_n 3, 1) := by decide +kernel
theorem dX4_look_106 : decode cX4_look 106 = .ok (.iaload, 1) := by decide +kernel
theorem dX4_look_107 : decode cX4_look 107 = .ok (.goto 23, 3) := by decide +kernel
theorem dX4_look_110 : decode cX4_look 110 = .ok (.iload_n 2, 1) := by decide +kernel
theorem dX4_look_111 : decode cX4_look 111 = .ok (.bipush 7, 2) := by decide +kernel
theorem dX4_look_113 : decode cX4_look 113 = .ok (.if_icmp .ne 16, 3) := by decide +kernel
theorem dX4_look_116 : decode cX4_look 116 = .ok (.aload_n 0, 1) := by decide +kernel
theorem dX4_look_117 : decode cX4_look 117 = .ok (.getfield 19, 3) := by decide +kernel
theorem dX4_look_120 : decode cX4_look 120 = .ok (.iload_n 1, 1) := by decide +kernel
theorem dX4_look_121 : decode cX4_look 121 = .ok (.sipush 256, 3) := by decide +kernel
theorem dX4_look_124 : decode cX4_look 124 = .ok (.idiv, 1) := by decide +kernel
theorem dX4_look_125 : decode cX4_look 125 = .ok (.iaload, 1) := by decide +kernel
theorem dX4_look_126 : decode cX4_look 126 = .ok (.goto 4, 3) := by decide +kernel
theorem dX4_look_129 : decode cX4_look 129 = .ok (.iconst (-1), 1) := by decide +kernel
theorem dX4_look_130 : decode cX4_look 130 = .ok (.ireturn, 1) := by decide +kernel
theorem dX4_nextIn_0 : decode cX4_nextIn 0 = .ok (.iconst (-1), 1) := by decide +kernel
theorem dX4_nextIn_1 : decode cX4_nextIn 1 = .ok (.istore_n 3, 1) := by decide +kernel
theorem dX4_nextIn_2 : decode cX4_nextIn 2 = .ok (.iconst 0, 1) := by decide +kernel
theorem dX4_nextIn_3 : decode cX4_nextIn 3 = .ok (.istore 4, 2) := by decide +kernel
theorem dX4_nextIn_5 : decode cX4_nextIn 5 = .ok (.iload 4, 2) := by decide +kernel
theorem dX4_nextIn_7 : decode cX4_nextIn 7 = .ok (.aload_n 0, 1) := by decide +kernel
theorem dX4_nextIn_8 : decode cX4_nextIn 8 = .ok (.getfield 105, 3) := by decide +kernel
theorem dX4_nextIn_11 : decode cX4_nextIn 11 = .ok (.if_icmp .ge 78, 3) := by decide +kernel
theorem dX4_nextIn_14 : decode cX4_nextIn 14 = .ok (.aload_n 0, 1) := by decide +kernel
theorem dX4_nextIn_15 : decode cX4_nextIn 15 = .ok (.getfield 28, 3) := by decide +kernel
theorem dX4_nextIn_18 : decode cX4_nextIn 18 = .ok (.iload 4, 2) := by decide +kernel
theorem dX4_nextIn_20 : decode cX4_nextIn 20 = .ok (.iaload, 1) := by decide +kernel
theorem dX4_nextIn_21 : decode cX4_nextIn 21 = .ok (.sipush 256, 3) := by decide +kernel
theorem dX4_nextIn_24 : decode cX4_nextIn 24 = .ok (.idiv, 1) := by decide +kernel
theorem dX4_nextIn_25 : decode cX4_nextIn 25 = .ok (.iload_n 1, 1) := by decide +kernel
theorem dX4_nextIn_26 : decode cX4_nextIn 26 = .ok (.if_icmp .ne 22, 3) := by decide +kernel
theorem dX4_nextIn_29 : decode cX4_nextIn 29 = .ok (.aload_n 0, 1) := by decide +kernel
theorem dX4_nextIn_30 : decode cX4_nextIn 30 = .ok (.getfield 28, 3) := by decide +kernel
theorem dX4_nextIn_33 : decode cX4_nextIn 33 = .ok (.iload 4, 2) := by decide +kernel
theorem dX4_nextIn_35 : decode cX4_nextIn 35 = .ok (.iaload, 1) := by decide +kernel
theorem dX4_nextIn_36 : decode cX4_nextIn 36 = .ok (.sipush 256, 3) := by decide +kernel
theorem dX4_nextIn_39 : decode cX4_nextIn 39 = .ok (.irem, 1) := by decide +kernel
theorem dX4_nextIn_40 : decode cX4_nextIn 40 = .ok (.iload_n 2, 1) := by decide +kernel
theorem dX4_nextIn_41 : decode cX4_nextIn 41 = .ok (.if_icmp .le 7, 3) := by decide +kernel
theorem dX4_nextIn_44 : decode cX4_nextIn 44 = .ok (.iconst 1, 1) := by decide +kernel
theorem dX4_nextIn_45 : decode cX4_nextIn 45 = .ok (.goto 4, 3) := by decide +kernel
theorem dX4_nextIn_48 : decode cX4_nextIn 48 = .ok (.iconst 0, 1) := by decide +kernel
theorem dX4_nextIn_49 : decode cX4_nextIn 49 = .ok (.istore 5, 2) := by decide +kernel
theorem dX4_nextIn_51 : decode cX4_nextIn 51 = .ok (.iload 5, 2) := by decide +kernel
theorem dX4_nextIn_53 : decode cX4_nextIn 53 = .ok (.ifCond .eq 28, 3) := by decide +kernel
theorem dX4_nextIn_56 : decode cX4_nextIn 56 = .ok (.iload_n 3, 1) := by decide +kernel
theorem dX4_nextIn_57 : decode cX4_nextIn 57 = .ok (.ifCond .lt 14, 3) := by decide +kernel
theorem dX4_nextIn_60 : decode cX4_nextIn 60 = .ok (.aload_n 0, 1) := by decide +kernel
theorem dX4_nextIn_61 : decode cX4_nextIn 61 = .ok (.getfield 28, 3) := by decide +kernel
theorem dX4_nextIn_64 : decode cX4_nextIn 64 = .ok (.iload 4, 2) := by decide +kernel
theorem dX4_nextIn_66 : decode cX4_nextIn 66 = .ok (.iaload, 1) := by decide +kernel
theorem dX4_nextIn_67 : decode cX4_nextIn 67 = .ok (.iload_n 3, 1) := by decide +kernel
theorem dX4_nextIn_68 : decode cX4_nextIn 68 = .ok (.if_icmp .ge 13, 3) := by decide +kernel
theorem dX4_nextIn_71 : decode cX4_nextIn 71 = .ok (.aload_n 0, 1) := by decide +kernel
theorem dX4_nextIn_72 : decode cX4_nextIn 72 = .ok (.getfield 28, 3) := by decide +kernel
theorem dX4_nextIn_75 : decode cX4_nextIn 75 = .ok (.iload 4, 2) := by decide +kernel
theorem dX4_nextIn_77 : decode cX4_nextIn 77 = .ok (.iaload, 1) := by decide +kernel
theorem dX4_nextIn_78 : decode cX4_nextIn 78 = .ok (.goto 4, 3) := by decide +kernel
theorem dX4_nextIn_81 : decode cX4_nextIn 81 = .ok (.iload_n 3, 1) := by decide +kernel
theorem dX4_nextIn_82 : decode cX4_nextIn 82 = .ok (.istore_n 3, 1) := by decide +kernel
theorem dX4_nextIn_83 : decode cX4_nextIn 83 = .ok (.iinc 4 1, 3) := by decide +kernel
theorem dX4_nextIn_86 : decode cX4_nextIn 86 = .ok (.goto (-81), 3) := by decide +kernel
theorem dX4_nextIn_89 : decode cX4_nextIn 89 = .ok (.iload_n 3, 1) := by decide +kernel
theorem dX4_nextIn_90 : decode cX4_nextIn 90 = .ok (.ireturn, 1) := by decide +kernel
set_option maxRecDepth 20000 in
theorem ggX4_next_X4_isThere : GoodIn wsX4_next wsX4_isThere := goodIn_r _ [8, 9, 10, 11, 7, 12, 19, 20, 21, 22, 23, 24, 25, 26, 27, 28, 29, 30, 31, 32, 33, 34, 35, 36, 37, 38, 39, 40] (by decide +kernel) (by decide +kernel)
set_option maxRecDepth 20000 in
theorem gX4_next_X4_isThere : GoodIn wsX4_next (wsV RX4 108 RX4 yX4_isThere wsX4_isThere) := goodIn_app (goodIn_of _ (by decide +kernel)) ggX4_next_X4_isThere
set_option maxRecDepth 20000 in
theorem ggX4_next_X4_in : GoodIn wsX4_next wsX4_in := goodIn_r _ [12] (by decide +kernel) (by decide +kernel)
set_option maxRecDepth 20000 in
theorem gX4_next_X4_in : GoodIn wsX4_next (va_wsS RX4 72 yX4_in wsX4_in) := goodIn_app (goodIn_of _ (by decide +kernel)) ggX4_next_X4_in
set_option maxRecDepth 20000 in
theorem ggX4_next_X4_nextIn : GoodIn wsX4_next wsX4_nextIn := goodIn_r _ [16, 17, 18, 19, 20, 21, 22, 23, 24, 25, 26, 27, 28, 29, 30, 31, 32, 33, 34, 35, 36, 37, 38, 39, 40] (by decide +kernel) (by decide +kernel)
set_option maxRecDepth 20000 in
theorem gX4_next_X4_nextIn : GoodIn wsX4_next (wsV RX4 138 RX4 yX4_nextIn wsX4_nextIn) := goodIn_app (goodIn_of _ (by decide +kernel)) ggX4_next_X4_nextIn
theorem dX4_next_0 : decode cX4_next 0 = .ok (.aload_n 0, 1) := by decide +kernel
theorem dX4_next_1 : decode cX4_next 1 = .ok (.iload_n 1, 1) := by decide +kernel
theorem dX4_next_2 : decode cX4_next 2 = .ok (.invokevirtual 108, 3) := by decide +kernel
theorem dX4_next_5 : decode cX4_next 5 = .ok (.ifCond .eq 32, 3) := by decide +kernel
theorem dX4_next_8 : decode cX4_next 8 = .ok (.iload_n 2, 1) := by decide +kernel
theorem dX4_next_9 : decode cX4_next 9 = .ok (.iconst (-1), 1) := by decide +kernel
theorem dX4_next_10 : decode cX4_next 10 = .ok (.sipush 15359, 3) := by decide +kernel
theorem dX4_next_13 : decode cX4_next 13 = .ok (.invokestatic 72, 3) := by decide +kernel
theorem dX4_next_16 : decode cX4_next 16 = .ok (.ifCond .eq 21, 3) := by decide +kernel
theorem dX4_next_19 : decode cX4_next 19 = .ok (.iload_n 2, 1) := by decide +kernel
theorem dX4_next_20 : decode cX4_next 20 = .ok (.ifCond .lt 19, 3) := by decide +kernel
theorem dX4_next_23 : decode cX4_next 23 = .ok (.aload_n 0, 1) := by decide +kernel
theorem dX4_next_24 : decode cX4_next 24 = .ok (.getfield 19, 3) := by decide +kernel
theorem dX4_next_27 : decode cX4_next 27 = .ok (.iload_n 2, 1) := by decide +kernel
theorem dX4_next_28 : decode cX4_next 28 = .ok (.sipush 256, 3) := by decide +kernel
theorem dX4_next_31 : decode cX4_next 31 = .ok (.idiv, 1) := by decide +kernel
theorem dX4_next_32 : decode cX4_next 32 = .ok (.iaload, 1) := by decide +kernel
theorem dX4_next_33 : decode cX4_next 33 = .ok (.iload_n 1, 1) := by decide +kernel
theorem dX4_next_34 : decode cX4_next 34 = .ok (.if_icmp .eq 5, 3) := by decide +kernel
theorem dX4_next_37 : decode cX4_next 37 = .ok (.iconst (-1), 1) := by decide +kernel
theorem dX4_next_38 : decode cX4_next 38 = .ok (.ireturn, 1) := by decide +kernel
theorem dX4_next_39 : decode cX4_next 39 = .ok (.iload_n 2, 1) := by decide +kernel
theorem dX4_next_40 : decode cX4_next 40 = .ok (.ifCond .ge 12, 3) := by decide +kernel
theorem dX4_next_43 : decode cX4_next 43 = .ok (.aload_n 0, 1) := by decide +kernel
theorem dX4_next_44 : decode cX4_next 44 = .ok (.getfield 16, 3) := by decide +kernel
theorem dX4_next_47 : decode cX4_next 47 = .ok (.iload_n 1, 1) := by decide +kernel
theorem dX4_next_48 : decode cX4_next 48 = .ok (.iaload, 1) := by decide +kernel
theorem dX4_next_49 : decode cX4_next 49 = .ok (.goto 8, 3) := by decide +kernel
theorem dX4_next_52 : decode cX4_next 52 = .ok (.iload_n 2, 1) := by decide +kernel
theorem dX4_next_53 : decode cX4_next 53 = .ok (.sipush 256, 3) := by decide +kernel
theorem dX4_next_56 : decode cX4_next 56 = .ok (.idiv, 1) := by decide +kernel
theorem dX4_next_57 : decode cX4_next 57 = .ok (.istore_n 3, 1) := by decide +kernel
theorem dX4_next_58 : decode cX4_next 58 = .ok (.aload_n 0, 1) := by decide +kernel
theorem dX4_next_59 : decode cX4_next 59 = .ok (.iload_n 3, 1) := by decide +kernel
theorem dX4_next_60 : decode cX4_next 60 = .ok (.iload_n 2, 1) := by decide +kernel
theorem dX4_next_61 : decode cX4_next 61 = .ok (.ifCond .ge 7, 3) := by decide +kernel
theorem dX4_next_64 : decode cX4_next 64 = .ok (.iconst (-1), 1) := by decide +kernel
theorem dX4_next_65 : decode cX4_next 65 = .ok (.goto 8, 3) := by decide +kernel
theorem dX4_next_68 : decode cX4_next 68 = .ok (.iload_n 2, 1) := by decide +kernel
theorem dX4_next_69 : decode cX4_next 69 = .ok (.sipush 256, 3) := by decide +kernel
theorem dX4_next_72 : decode cX4_next 72 = .ok (.irem, 1) := by decide +kernel
theorem dX4_next_73 : decode cX4_next 73 = .ok (.invokevirtual 138, 3) := by decide +kernel
theorem dX4_next_76 : decode cX4_next 76 = .ok (.istore 4, 2) := by decide +kernel
theorem dX4_next_78 : decode cX4_next 78 = .ok (.iconst 0, 1) := by decide +kernel
theorem dX4_next_79 : decode cX4_next 79 = .ok (.istore 5, 2) := by decide +kernel
theorem dX4_next_81 : decode cX4_next 81 = .ok (.iload 5, 2) := by decide +kernel
theorem dX4_next_83 : decode cX4_next 83 = .ok (.bipush 60, 2) := by decide +kernel
theorem dX4_next_85 : decode cX4_next 85 = .ok (.if_icmp .ge 38, 3) := by decide +kernel
theorem dX4_next_88 : decode cX4_next 88 = .ok (.iload 4, 2) := by decide +kernel
theorem dX4_next_90 : decode cX4_next 90 = .ok (.ifCond .ge 33, 3) := by decide +kernel
theorem dX4_next_93 : decode cX4_next 93 = .ok (.aload_n 0, 1) := by decide +kernel
theorem dX4_next_94 : decode cX4_next 94 = .ok (.getfield 25, 3) := by decide +kernel
theorem dX4_next_97 : decode cX4_next 97 = .ok (.iload_n 3, 1) := by decide +kernel
theorem dX4_next_98 : decode cX4_next 98 = .ok (.iaload, 1) := by decide +kernel
theorem dX4_next_99 : decode cX4_next 99 = .ok (.ifCond .lt 24, 3) := by decide +kernel
theorem dX4_next_102 : decode cX4_next 102 = .ok (.aload_n 0, 1) := by decide +kernel
theorem dX4_next_103 : decode cX4_next 103 = .ok (.getfield 25, 3) := by decide +kernel
theorem dX4_next_106 : decode cX4_next 106 = .ok (.iload_n 3, 1) := by decide +kernel
theorem dX4_next_107 : decode cX4_next 107 = .ok (.iaload, 1) := by decide +kernel
theorem dX4_next_108 : decode cX4_next 108 = .ok (.istore_n 3, 1) := by decide +kernel
theorem dX4_next_109 : decode cX4_next 109 = .ok (.aload_n 0, 1) := by decide +kernel
theorem dX4_next_110 : decode cX4_next 110 = .ok (.iload_n 3, 1) := by decide +kernel
theorem dX4_next_111 : decode cX4_next 111 = .ok (.iconst (-1), 1) := by decide +kernel
theorem dX4_next_112 : decode cX4_next 112 = .ok (.invokevirtual 138, 3) := by decide +kernel
theorem dX4_next_115 : decode cX4_next 115 = .ok (.istore 4, 2) := by decide +kernel
theorem dX4_next_117 : decode cX4_next 117 = .ok (.iinc 5 1, 3) := by decide +kernel
theorem dX4_next_120 : decode cX4_next 120 = .ok (.goto (-39), 3) := by decide +kernel
theorem dX4_next_123 : decode cX4_next 123 = .ok (.iload 4, 2) := by decide +kernel
theorem dX4_next_125 : decode cX4_next 125 = .ok (.ireturn, 1) := by decide +kernel
set_option maxRecDepth 20000 in
theorem ggX4_page_X4_in : GoodIn wsX4_page wsX4_in := goodIn_r _ [7] (by decide +kernel) (by decide +kernel)
set_option maxRecDepth 20000 in
theorem gX4_page_X4_in : GoodIn wsX4_page (va_wsS RX4 72 yX4_in wsX4_in) := goodIn_app (goodIn_of _ (by decide +kernel)) ggX4_page_X4_in
set_option maxRecDepth 20000 in
theorem ggX4_page_X4_versionsIn : GoodIn wsX4_page wsX4_versionsIn := goodIn_r _ [11, 12, 13, 19, 20, 21, 22, 23, 24, 25, 26, 27, 28, 29, 30, 31, 32, 33, 34, 35, 36, 37, 38, 39, 40] (by decide +kernel) (by decide +kernel)
set_option maxRecDepth 20000 in
theorem gX4_page_X4_versionsIn : GoodIn wsX4_page (wsV RX4 135 RX4 yX4_versionsIn wsX4_versionsIn) := goodIn_app (goodIn_of _ (by decide +kernel)) ggX4_page_X4_versionsIn
set_option maxRecDepth 20000 in
theorem ggX4_page_X4_freeIn : GoodIn wsX4_page wsX4_freeIn := goodIn_r _ [17, 2, 12, 13, 18, 19, 20, 21, 22, 23, 24, 25, 26, 27, 28, 29, 30, 31, 32, 33, 34, 35, 36, 37, 38, 39, 40] (by decide +kernel) (by decide +kernel)
set_option maxRecDepth 20000 in
theorem gX4_page_X4_freeIn : GoodIn wsX4_page (wsV RX4 121 RX4 yX4_freeIn wsX4_freeIn) := goodIn_app (goodIn_of _ (by decide +kernel)) ggX4_page_X4_freeIn
theorem dX4_page_0 : decode cX4_page 0 = .ok (.iload_n 1, 1) := by decide +kernel
theorem dX4_page_1 : decode cX4_page 1 = .ok (.iconst 0, 1) := by decide +kernel
theorem dX4_page_2 : decode cX4_page 2 = .ok (.bipush 59, 2) := by decide +kernel
theorem dX4_page_4 : decode cX4_page 4 = .ok (.invokestatic 72, 3) := by decide +kernel
theorem dX4_page_7 : decode cX4_page 7 = .ok (.ifCond .eq 12, 3) := by decide +kernel
theorem dX4_page_10 : decode cX4_page 10 = .ok (.iload_n 2, 1) := by decide +kernel
theorem dX4_page_11 : decode cX4_page 11 = .ok (.iconst 0, 1) := by decide +kernel
theorem dX4_page_12 : decode cX4_page 12 = .ok (.iconst 4, 1) := by decide +kernel
theorem dX4_page_13 : decode cX4_page 13 = .ok (.invokestatic 72, 3) := by decide +kernel
theorem dX4_page_16 : decode cX4_page 16 = .ok (.ifCond .ne 5, 3) := by decide +kernel
theorem dX4_page_19 : decode cX4_page 19 = .ok (.iconst (-1), 1) := by decide +kernel
theorem dX4_page_20 : decode cX4_page 20 = .ok (.ireturn, 1) := by decide +kernel
theorem dX4_page_21 : decode cX4_page 21 = .ok (.aload_n 0, 1) := by decide +kernel
theorem dX4_page_22 : decode cX4_page 22 = .ok (.getfield 19, 3) := by decide +kernel
theorem dX4_page_25 : decode cX4_page 25 = .ok (.iload_n 1, 1) := by decide +kernel
theorem dX4_page_26 : decode cX4_page 26 = .ok (.iaload, 1) := by decide +kernel
theorem dX4_page_27 : decode cX4_page 27 = .ok (.ifCond .ge 7, 3) := by decide +kernel
theorem dX4_page_30 : decode cX4_page 30 = .ok (.iconst 1, 1) := by decide +kernel
theorem dX4_page_31 : decode cX4_page 31 = .ok (.goto 4, 3) := by decide +kernel
theorem dX4_page_34 : decode cX4_page 34 = .ok (.iconst 0, 1) := by decide +kernel
theorem dX4_page_35 : decode cX4_page 35 = .ok (.istore_n 3, 1) := by decide +kernel
theorem dX4_page_36 : decode cX4_page 36 = .ok (.iload_n 2, 1) := by decide +kernel
theorem dX4_page_37 : decode cX4_page 37 = .ok (.ifCond .ne 12, 3) := by decide +kernel
theorem dX4_page_40 : decode cX4_page 40 = .ok (.aload_n 0, 1) := by decide +kernel
theorem dX4_page_41 : decode cX4_page 41 = .ok (.getfield 19, 3) := by decide +kernel
theorem dX4_page_44 : decode cX4_page 44 = .ok (.iload_n 1, 1) := by decide +kernel
theorem dX4_page_45 : decode cX4_page 45 = .ok (.iaload, 1) := by decide +kernel
theorem dX4_page_46 : decode cX4_page 46 = .ok (.goto 83, 3) := by decide +kernel
theorem dX4_page_49 : decode cX4_page 49 = .ok (.iload_n 2, 1) := by decide +kernel
theorem dX4_page_50 : decode cX4_page 50 = .ok (.iconst 1, 1) := by decide +kernel
theorem dX4_page_51 : decode cX4_page 51 = .ok (.if_icmp .ne 20, 3) := by decide +kernel
theorem dX4_page_54 : decode cX4_page 54 = .ok (.iload_n 3, 1) := by decide +kernel
theorem dX4_page_55 : decode cX4_page 55 = .ok (.ifCond .eq 7, 3) := by decide +kernel
theorem dX4_page_58 : decode cX4_page 58 = .ok (.iconst 0, 1) := by decide +kernel
theorem dX4_page_59 : decode cX4_page 59 = .ok (.goto 70, 3) := by decide +kernel
theorem dX4_page_62 : decode cX4_page 62 = .ok (.aload_n 0, 1) := by decide +kernel
theorem dX4_page_63 : decode cX4_page 63 = .ok (.getfield 22, 3) := by decide +kernel
theorem dX4_page_66 : decode cX4_page 66 = .ok (.iload_n 1, 1) := by decide +kernel
theorem dX4_page_67 : decode cX4_page 67 = .ok (.iaload, 1) := by decide +kernel
theorem dX4_page_68 : decode cX4_page 68 = .ok (.goto 61, 3) := by decide +kernel
theorem dX4_page_71 : decode cX4_page 71 = .ok (.iload_n 2, 1) := by decide +kernel
theorem dX4_page_72 : decode cX4_page 72 = .ok (.iconst 2, 1) := by decide +kernel
theorem dX4_page_73 : decode cX4_page 73 = .ok (.if_icmp .ne 19, 3) := by decide +kernel
theorem dX4_page_76 : decode cX4_page 76 = .ok (.iload_n 3, 1) := by decide +kernel
theorem dX4_page_77 : decode cX4_page 77 = .ok (.ifCond .eq 7, 3) := by decide +kernel
theorem dX4_page_80 : decode cX4_page 80 = .ok (.iconst 0, 1) := by decide +kernel
theorem dX4_page_81 : decode cX4_page 81 = .ok (.goto 48, 3) := by decide +kernel
theorem dX4_page_84 : decode cX4_page 84 = .ok (.aload_n 0, 1) := by decide +kernel
theorem dX4_page_85 : decode cX4_page 85 = .ok (.iload_n 1, 1) := by decide +kernel
theorem dX4_page_86 : decode cX4_page 86 = .ok (.invokevirtual 135, 3) := by decide +kernel
theorem dX4_page_89 : decode cX4_page 89 = .ok (.goto 40, 3) := by decide +kernel
theorem dX4_page_92 : decode cX4_page 92 = .ok (.iload_n 2, 1) := by decide +kernel
theorem dX4_page_93 : decode cX4_page 93 = .ok (.iconst 3, 1) := by decide +kernel
theorem dX4_page_94 : decode cX4_page 94 = .ok (.if_icmp .ne 21, 3) := by decide +kernel
theorem dX4_page_97 : decode cX4_page 97 = .ok (.iload_n 3, 1) := by decide +kernel
theorem dX4_page_98 : decode cX4_page 98 = .ok (.ifCond .eq 9, 3) := by decide +kernel
theorem dX4_page_101 : decode cX4_page 101 = .ok (.sipush 496, 3) := by decide +kernel
theorem dX4_page_104 : decode cX4_page 104 = .ok (.goto 25, 3) := by decide +kernel
theorem dX4_page_107 : decode cX4_page 107 = .ok (.aload_n 0, 1) := by decide +kernel
theorem dX4_page_108 : decode cX4_page 108 = .ok (.iload_n 1, 1) := by decide +kernel
theorem dX4_page_109 : decode cX4_page 109 = .ok (.invokevirtual 121, 3) := by decide +kernel
theorem dX4_page_112 : decode cX4_page 112 = .ok (.goto 17, 3) := by decide +kernel
theorem dX4_page_115 : decode cX4_page 115 = .ok (.iload_n 3, 1) := by decide +kernel
theorem dX4_page_116 : decode cX4_page 116 = .ok (.ifCond .eq 7, 3) := by decide +kernel
theorem dX4_page_119 : decode cX4_page 119 = .ok (.iconst (-1), 1) := by decide +kernel
theorem dX4_page_120 : decode cX4_page 120 = .ok (.goto 9, 3) := by decide +kernel
theorem dX4_page_123 : decode cX4_page 123 = .ok (.aload_n 0, 1) := by decide +kernel
theorem dX4_page_124 : decode cX4_page 124 = .ok (.getfield 25, 3) := by decide +kernel
theorem dX4_page_127 : decode cX4_page 127 = .ok (.iload_n 1, 1) := by decide +kernel
theorem dX4_page_128 : decode cX4_page 128 = .ok (.iaload, 1) := by decide +kernel
theorem dX4_page_129 : decode cX4_page 129 = .ok (.ireturn, 1) := by decide +kernel
