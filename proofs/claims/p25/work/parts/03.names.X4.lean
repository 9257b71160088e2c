theorem dX4_init_0 : decode cX4_init 0 = .ok (.aload_n 0, 1) := by decide +kernel
theorem dX4_init_1 : decode cX4_init 1 = .ok (.invokespecial 1, 3) := by decide +kernel
theorem dX4_init_4 : decode cX4_init 4 = .ok (.aload_n 0, 1) := by decide +kernel
theorem dX4_init_5 : decode cX4_init 5 = .ok (.bipush 64, 2) := by decide +kernel
theorem dX4_init_7 : decode cX4_init 7 = .ok (.newarray .int, 2) := by decide +kernel
theorem dX4_init_9 : decode cX4_init 9 = .ok (.putfield 9, 3) := by decide +kernel
theorem dX4_init_12 : decode cX4_init 12 = .ok (.return_, 1) := by decide +kernel
set_option maxRecDepth 20000 in
theorem ggX4_holds_X4_reckon : GoodIn wsX4_holds wsX4_reckon := goodIn_r _ [9, 10, 11, 12, 13, 8, 14, 1, 15, 16, 17, 18, 19, 20, 21, 22, 23, 24, 25, 26, 27, 28, 29, 30, 31, 32, 33, 34, 35, 36, 37, 38, 39, 40, 41, 42, 43, 44, 45, 46, 47, 48, 49, 50, 51, 52, 53, 54, 55, 56, 57, 58, 59, 60, 61, 62, 63, 64, 65, 66, 67, 68, 69, 70, 71, 72, 73, 74, 75, 76, 77, 78, 79, 80, 81, 95, 96, 97, 98, 99, 100, 101, 102, 103, 82, 83, 104, 105, 106, 107, 108, 109, 110, 111, 112] (by decide +kernel) (by decide +kernel)
set_option maxRecDepth 20000 in
theorem gX4_holds_X4_reckon : GoodIn wsX4_holds (wsV RX4 28 RX4 yX4_reckon wsX4_reckon) := goodIn_app (goodIn_of _ (by decide +kernel)) ggX4_holds_X4_reckon
set_option maxRecDepth 20000 in
theorem ggX4_holds_X4_pop : GoodIn wsX4_holds wsX4_pop := goodIn_r _ [25, 1, 15, 82, 83] (by decide +kernel) (by decide +kernel)
set_option maxRecDepth 20000 in
theorem gX4_holds_X4_pop : GoodIn wsX4_holds (wsV RX4 32 RX4 yX4_pop wsX4_pop) := goodIn_app (goodIn_of _ (by decide +kernel)) ggX4_holds_X4_pop
theorem dX4_holds_0 : decode cX4_holds 0 = .ok (.aload_n 0, 1) := by decide +kernel
theorem dX4_holds_1 : decode cX4_holds 1 = .ok (.iconst 0, 1) := by decide +kernel
theorem dX4_holds_2 : decode cX4_holds 2 = .ok (.putfield 13, 3) := by decide +kernel
theorem dX4_holds_5 : decode cX4_holds 5 = .ok (.iload_n 2, 1) := by decide +kernel
theorem dX4_holds_6 : decode cX4_holds 6 = .ok (.ifCond .le 14, 3) := by decide +kernel
theorem dX4_holds_9 : decode cX4_holds 9 = .ok (.aload_n 1, 1) := by decide +kernel
theorem dX4_holds_10 : decode cX4_holds 10 = .ok (.getfield 17, 3) := by decide +kernel
theorem dX4_holds_13 : decode cX4_holds 13 = .ok (.iload_n 2, 1) := by decide +kernel
theorem dX4_holds_14 : decode cX4_holds 14 = .ok (.iconst 1, 1) := by decide +kernel
theorem dX4_holds_15 : decode cX4_holds 15 = .ok (.isub, 1) := by decide +kernel
theorem dX4_holds_16 : decode cX4_holds 16 = .ok (.iaload, 1) := by decide +kernel
theorem dX4_holds_17 : decode cX4_holds 17 = .ok (.goto 4, 3) := by decide +kernel
theorem dX4_holds_20 : decode cX4_holds 20 = .ok (.iconst 0, 1) := by decide +kernel
theorem dX4_holds_21 : decode cX4_holds 21 = .ok (.istore 4, 2) := by decide +kernel
theorem dX4_holds_23 : decode cX4_holds 23 = .ok (.aload_n 1, 1) := by decide +kernel
theorem dX4_holds_24 : decode cX4_holds 24 = .ok (.getfield 17, 3) := by decide +kernel
theorem dX4_holds_27 : decode cX4_holds 27 = .ok (.iload_n 2, 1) := by decide +kernel
theorem dX4_holds_28 : decode cX4_holds 28 = .ok (.iaload, 1) := by decide +kernel
theorem dX4_holds_29 : decode cX4_holds 29 = .ok (.istore 5, 2) := by decide +kernel
theorem dX4_holds_31 : decode cX4_holds 31 = .ok (.iload 4, 2) := by decide +kernel
theorem dX4_holds_33 : decode cX4_holds 33 = .ok (.istore 6, 2) := by decide +kernel
theorem dX4_holds_35 : decode cX4_holds 35 = .ok (.iload 6, 2) := by decide +kernel
theorem dX4_holds_37 : decode cX4_holds 37 = .ok (.iload 5, 2) := by decide +kernel
theorem dX4_holds_39 : decode cX4_holds 39 = .ok (.if_icmp .ge 36, 3) := by decide +kernel
theorem dX4_holds_42 : decode cX4_holds 42 = .ok (.iload 6, 2) := by decide +kernel
theorem dX4_holds_44 : decode cX4_holds 44 = .ok (.sipush 400, 3) := by decide +kernel
theorem dX4_holds_47 : decode cX4_holds 47 = .ok (.if_icmp .ge 28, 3) := by decide +kernel
theorem dX4_holds_50 : decode cX4_holds 50 = .ok (.aload_n 0, 1) := by decide +kernel
theorem dX4_holds_51 : decode cX4_holds 51 = .ok (.aload_n 1, 1) := by decide +kernel
theorem dX4_holds_52 : decode cX4_holds 52 = .ok (.getfield 22, 3) := by decide +kernel
theorem dX4_holds_55 : decode cX4_holds 55 = .ok (.iload 6, 2) := by decide +kernel
theorem dX4_holds_57 : decode cX4_holds 57 = .ok (.iaload, 1) := by decide +kernel
theorem dX4_holds_58 : decode cX4_holds 58 = .ok (.aload_n 1, 1) := by decide +kernel
theorem dX4_holds_59 : decode cX4_holds 59 = .ok (.getfield 25, 3) := by decide +kernel
theorem dX4_holds_62 : decode cX4_holds 62 = .ok (.iload 6, 2) := by decide +kernel
theorem dX4_holds_64 : decode cX4_holds 64 = .ok (.iaload, 1) := by decide +kernel
theorem dX4_holds_65 : decode cX4_holds 65 = .ok (.aload_n 3, 1) := by decide +kernel
theorem dX4_holds_66 : decode cX4_holds 66 = .ok (.invokevirtual 28, 3) := by decide +kernel
theorem dX4_holds_69 : decode cX4_holds 69 = .ok (.iinc 6 1, 3) := by decide +kernel
theorem dX4_holds_72 : decode cX4_holds 72 = .ok (.goto (-37), 3) := by decide +kernel
theorem dX4_holds_75 : decode cX4_holds 75 = .ok (.aload_n 0, 1) := by decide +kernel
theorem dX4_holds_76 : decode cX4_holds 76 = .ok (.invokevirtual 32, 3) := by decide +kernel
theorem dX4_holds_79 : decode cX4_holds 79 = .ok (.ifCond .eq 7, 3) := by decide +kernel
theorem dX4_holds_82 : decode cX4_holds 82 = .ok (.iconst 1, 1) := by decide +kernel
theorem dX4_holds_83 : decode cX4_holds 83 = .ok (.goto 4, 3) := by decide +kernel
theorem dX4_holds_86 : decode cX4_holds 86 = .ok (.iconst 0, 1) := by decide +kernel
theorem dX4_holds_87 : decode cX4_holds 87 = .ok (.ireturn, 1) := by decide +kernel
theorem dX4_push_0 : decode cX4_push 0 = .ok (.aload_n 0, 1) := by decide +kernel
theorem dX4_push_1 : decode cX4_push 1 = .ok (.getfield 13, 3) := by decide +kernel
theorem dX4_push_4 : decode cX4_push 4 = .ok (.bipush 64, 2) := by decide +kernel
theorem dX4_push_6 : decode cX4_push 6 = .ok (.if_icmp .ge 23, 3) := by decide +kernel
theorem dX4_push_9 : decode cX4_push 9 = .ok (.aload_n 0, 1) := by decide +kernel
theorem dX4_push_10 : decode cX4_push 10 = .ok (.getfield 9, 3) := by decide +kernel
theorem dX4_push_13 : decode cX4_push 13 = .ok (.aload_n 0, 1) := by decide +kernel
theorem dX4_push_14 : decode cX4_push 14 = .ok (.getfield 13, 3) := by decide +kernel
theorem dX4_push_17 : decode cX4_push 17 = .ok (.iload_n 1, 1) := by decide +kernel
theorem dX4_push_18 : decode cX4_push 18 = .ok (.iastore, 1) := by decide +kernel
theorem dX4_push_19 : decode cX4_push 19 = .ok (.aload_n 0, 1) := by decide +kernel
theorem dX4_push_20 : decode cX4_push 20 = .ok (.dup, 1) := by decide +kernel
theorem dX4_push_21 : decode cX4_push 21 = .ok (.getfield 13, 3) := by decide +kernel
theorem dX4_push_24 : decode cX4_push 24 = .ok (.iconst 1, 1) := by decide +kernel
theorem dX4_push_25 : decode cX4_push 25 = .ok (.iadd, 1) := by decide +kernel
theorem dX4_push_26 : decode cX4_push 26 = .ok (.putfield 13, 3) := by decide +kernel
theorem dX4_push_29 : decode cX4_push 29 = .ok (.return_, 1) := by decide +kernel
theorem dX4_pop_0 : decode cX4_pop 0 = .ok (.aload_n 0, 1) := by decide +kernel
theorem dX4_pop_1 : decode cX4_pop 1 = .ok (.getfield 13, 3) := by decide +kernel
theorem dX4_pop_4 : decode cX4_pop 4 = .ok (.ifCond .gt 5, 3) := by decide +kernel
theorem dX4_pop_7 : decode cX4_pop 7 = .ok (.iconst 0, 1) := by decide +kernel
theorem dX4_pop_8 : decode cX4_pop 8 = .ok (.ireturn, 1) := by decide +kernel
theorem dX4_pop_9 : decode cX4_pop 9 = .ok (.aload_n 0, 1) := by decide +kernel
theorem dX4_pop_10 : decode cX4_pop 10 = .ok (.dup, 1) := by decide +kernel
theorem dX4_pop_11 : decode cX4_pop 11 = .ok (.getfield 13, 3) := by decide +kernel
theorem dX4_pop_14 : decode cX4_pop 14 = .ok (.iconst 1, 1) := by decide +kernel
theorem dX4_pop_15 : decode cX4_pop 15 = .ok (.isub, 1) := by decide +kernel
theorem dX4_pop_16 : decode cX4_pop 16 = .ok (.putfield 13, 3) := by decide +kernel
theorem dX4_pop_19 : decode cX4_pop 19 = .ok (.aload_n 0, 1) := by decide +kernel
theorem dX4_pop_20 : decode cX4_pop 20 = .ok (.getfield 9, 3) := by decide +kernel
theorem dX4_pop_23 : decode cX4_pop 23 = .ok (.aload_n 0, 1) := by decide +kernel
theorem dX4_pop_24 : decode cX4_pop 24 = .ok (.getfield 13, 3) := by decide +kernel
theorem dX4_pop_27 : decode cX4_pop 27 = .ok (.iaload, 1) := by decide +kernel
theorem dX4_pop_28 : decode cX4_pop 28 = .ok (.ireturn, 1) := by decide +kernel
set_option maxRecDepth 20000 in
theorem ggX4_reckon_X4_push : GoodIn wsX4_reckon wsX4_push := goodIn_r _ [6, 7, 8, 84, 85] (by decide +kernel) (by decide +kernel)
set_option maxRecDepth 20000 in
theorem gX4_reckon_X4_push : GoodIn wsX4_reckon (wsV RX4 36 RX4 yX4_push wsX4_push) := goodIn_app (goodIn_of _ (by decide +kernel)) ggX4_reckon_X4_push
set_option maxRecDepth 20000 in
theorem ggX4_reckon_X8_darkStones : GoodIn wsX4_reckon wsX8_darkStones := goodIn_r _ [13, 14, 75, 76, 77, 78, 79, 80, 81, 82, 83] (by decide +kernel) (by decide +kernel)
set_option maxRecDepth 20000 in
theorem gX4_reckon_X8_darkStones : GoodIn wsX4_reckon (wsV RX4 45 RX8 yX8_darkStones wsX8_darkStones) := goodIn_app (goodIn_of _ (by decide +kernel)) ggX4_reckon_X8_darkStones
set_option maxRecDepth 20000 in
theorem ggX4_reckon_X4_pop : GoodIn wsX4_reckon wsX4_pop := goodIn_r _ [18, 7, 8, 84, 85] (by decide +kernel) (by decide +kernel)
set_option maxRecDepth 20000 in
theorem gX4_reckon_X4_pop : GoodIn wsX4_reckon (wsV RX4 32 RX4 yX4_pop wsX4_pop) := goodIn_app (goodIn_of _ (by decide +kernel)) ggX4_reckon_X4_pop
set_option maxRecDepth 20000 in
theorem ggX4_reckon_X8_darkInRow : GoodIn wsX4_reckon wsX8_darkInRow := goodIn_r _ [22, 23, 75, 76, 77, 78, 79, 80, 81, 82, 83] (by decide +kernel) (by decide +kernel)
set_option maxRecDepth 20000 in
theorem gX4_reckon_X8_darkInRow : GoodIn wsX4_reckon (wsV RX4 48 RX8 yX8_darkInRow wsX8_darkInRow) := goodIn_app (goodIn_of _ (by decide +kernel)) ggX4_reckon_X8_darkInRow
set_option maxRecDepth 20000 in
theorem ggX4_reckon_X8_hasAnt : GoodIn wsX4_reckon wsX8_hasAnt := goodIn_r _ [27, 28, 75, 76, 77, 78, 79, 80, 81, 82, 83] (by decide +kernel) (by decide +kernel)
set_option maxRecDepth 20000 in
theorem gX4_reckon_X8_hasAnt : GoodIn wsX4_reckon (wsV RX4 52 RX8 yX8_hasAnt wsX8_hasAnt) := goodIn_app (goodIn_of _ (by decide +kernel)) ggX4_reckon_X8_hasAnt
set_option maxRecDepth 20000 in
theorem ggX4_reckon_X4_ofAnt : GoodIn wsX4_reckon wsX4_ofAnt := goodIn_r _ [31, 32, 33, 34, 35, 36, 37, 38, 39, 40, 41, 42, 43, 44, 45, 46, 47, 48, 49, 50, 51, 52, 53, 54, 55, 56, 12, 57, 28, 58, 59, 60, 61, 62, 63, 64, 75, 76, 77, 78, 79, 80, 81, 82, 83, 86, 87, 88, 89, 90, 91, 92, 93, 94] (by decide +kernel) (by decide +kernel)
set_option maxRecDepth 20000 in
theorem gX4_reckon_X4_ofAnt : GoodIn wsX4_reckon (va_wsS RX4 56 yX4_ofAnt wsX4_ofAnt) := goodIn_app (goodIn_of _ (by decide +kernel)) ggX4_reckon_X4_ofAnt
set_option maxRecDepth 20000 in
theorem ggX4_reckon_X4_ofTwo : GoodIn wsX4_reckon wsX4_ofTwo := goodIn_r _ [67, 68, 69, 70, 71, 72, 73, 74] (by decide +kernel) (by decide +kernel)
set_option maxRecDepth 20000 in
theorem gX4_reckon_X4_ofTwo : GoodIn wsX4_reckon (va_wsS RX4 60 yX4_ofTwo wsX4_ofTwo) := goodIn_app (goodIn_of _ (by decide +kernel)) ggX4_reckon_X4_ofTwo
theorem dX4_reckon_0 : decode cX4_reckon 0 = .ok (.iload_n 1, 1) := by decide +kernel
theorem dX4_reckon_1 : decode cX4_reckon 1 = .ok (.lookupswitch 200 #[(3, 99), (4, 144), (220, 107), (221, 118), (222, 175), (223, 175), (224, 175), (225, 129), (226, 175), (227, 175), (228, 156)], 99) := by decide +kernel
theorem dX4_reckon_100 : decode cX4_reckon 100 = .ok (.aload_n 0, 1) := by decide +kernel
theorem dX4_reckon_101 : decode cX4_reckon 101 = .ok (.iload_n 2, 1) := by decide +kernel
theorem dX4_reckon_102 : decode cX4_reckon 102 = .ok (.invokevirtual 36, 3) := by decide +kernel
theorem dX4_reckon_105 : decode cX4_reckon 105 = .ok (.goto 120, 3) := by decide +kernel
theorem dX4_reckon_108 : decode cX4_reckon 108 = .ok (.aload_n 0, 1) := by decide +kernel
theorem dX4_reckon_109 : decode cX4_reckon 109 = .ok (.aload_n 3, 1) := by decide +kernel
theorem dX4_reckon_110 : decode cX4_reckon 110 = .ok (.getfield 40, 3) := by decide +kernel
theorem dX4_reckon_113 : decode cX4_reckon 113 = .ok (.invokevirtual 36, 3) := by decide +kernel
theorem dX4_reckon_116 : decode cX4_reckon 116 = .ok (.goto 109, 3) := by decide +kernel
theorem dX4_reckon_119 : decode cX4_reckon 119 = .ok (.aload_n 0, 1) := by decide +kernel
theorem dX4_reckon_120 : decode cX4_reckon 120 = .ok (.aload_n 3, 1) := by decide +kernel
theorem dX4_reckon_121 : decode cX4_reckon 121 = .ok (.invokevirtual 45, 3) := by decide +kernel
theorem dX4_reckon_124 : decode cX4_reckon 124 = .ok (.invokevirtual 36, 3) := by decide +kernel
theorem dX4_reckon_127 : decode cX4_reckon 127 = .ok (.goto 98, 3) := by decide +kernel
theorem dX4_reckon_130 : decode cX4_reckon 130 = .ok (.aload_n 0, 1) := by decide +kernel
theorem dX4_reckon_131 : decode cX4_reckon 131 = .ok (.aload_n 3, 1) := by decide +kernel
theorem dX4_reckon_132 : decode cX4_reckon 132 = .ok (.aload_n 0, 1) := by decide +kernel
theorem dX4_reckon_133 : decode cX4_reckon 133 = .ok (.invokevirtual 32, 3) := by decide +kernel
theorem dX4_reckon_136 : decode cX4_reckon 136 = .ok (.invokevirtual 48, 3) := by decide +kernel
theorem dX4_reckon_139 : decode cX4_reckon 139 = .ok (.invokevirtual 36, 3) := by decide +kernel
theorem dX4_reckon_142 : decode cX4_reckon 142 = .ok (.goto 83, 3) := by decide +kernel
theorem dX4_reckon_145 : decode cX4_reckon 145 = .ok (.aload_n 0, 1) := by decide +kernel
theorem dX4_reckon_146 : decode cX4_reckon 146 = .ok (.aload_n 0, 1) := by decide +kernel
theorem dX4_reckon_147 : decode cX4_reckon 147 = .ok (.invokevirtual 32, 3) := by decide +kernel
theorem dX4_reckon_150 : decode cX4_reckon 150 = .ok (.ineg, 1) := by decide +kernel
theorem dX4_reckon_151 : decode cX4_reckon 151 = .ok (.invokevirtual 36, 3) := by decide +kernel
theorem dX4_reckon_154 : decode cX4_reckon 154 = .ok (.goto 71, 3) := by decide +kernel
theorem dX4_reckon_157 : decode cX4_reckon 157 = .ok (.aload_n 0, 1) := by decide +kernel
theorem dX4_reckon_158 : decode cX4_reckon 158 = .ok (.aload_n 0, 1) := by decide +kernel
theorem dX4_reckon_159 : decode cX4_reckon 159 = .ok (.invokevirtual 32, 3) := by decide +kernel
theorem dX4_reckon_162 : decode cX4_reckon 162 = .ok (.ifCond .ne 7, 3) := by decide +kernel
theorem dX4_reckon_165 : decode cX4_reckon 165 = .ok (.iconst 1, 1) := by decide +kernel
theorem dX4_reckon_166 : decode cX4_reckon 166 = .ok (.goto 4, 3) := by decide +kernel
theorem dX4_reckon_169 : decode cX4_reckon 169 = .ok (.iconst 0, 1) := by decide +kernel
theorem dX4_reckon_170 : decode cX4_reckon 170 = .ok (.invokevirtual 36, 3) := by decide +kernel
theorem dX4_reckon_173 : decode cX4_reckon 173 = .ok (.goto 52, 3) := by decide +kernel
theorem dX4_reckon_176 : decode cX4_reckon 176 = .ok (.aload_n 0, 1) := by decide +kernel
theorem dX4_reckon_177 : decode cX4_reckon 177 = .ok (.aload_n 3, 1) := by decide +kernel
theorem dX4_reckon_178 : decode cX4_reckon 178 = .ok (.iload_n 2, 1) := by decide +kernel
theorem dX4_reckon_179 : decode cX4_reckon 179 = .ok (.invokevirtual 52, 3) := by decide +kernel
theorem dX4_reckon_182 : decode cX4_reckon 182 = .ok (.ifCond .eq 12, 3) := by decide +kernel
theorem dX4_reckon_185 : decode cX4_reckon 185 = .ok (.iload_n 1, 1) := by decide +kernel
theorem dX4_reckon_186 : decode cX4_reckon 186 = .ok (.iload_n 2, 1) := by decide +kernel
theorem dX4_reckon_187 : decode cX4_reckon 187 = .ok (.aload_n 3, 1) := by decide +kernel
theorem dX4_reckon_188 : decode cX4_reckon 188 = .ok (.invokestatic 56, 3) := by decide +kernel
theorem dX4_reckon_191 : decode cX4_reckon 191 = .ok (.goto 4, 3) := by decide +kernel
theorem dX4_reckon_194 : decode cX4_reckon 194 = .ok (.iconst 0, 1) := by decide +kernel
theorem dX4_reckon_195 : decode cX4_reckon 195 = .ok (.invokevirtual 36, 3) := by decide +kernel
theorem dX4_reckon_198 : decode cX4_reckon 198 = .ok (.goto 27, 3) := by decide +kernel
theorem dX4_reckon_201 : decode cX4_reckon 201 = .ok (.aload_n 0, 1) := by decide +kernel
theorem dX4_reckon_202 : decode cX4_reckon 202 = .ok (.invokevirtual 32, 3) := by decide +kernel
theorem dX4_reckon_205 : decode cX4_reckon 205 = .ok (.istore 4, 2) := by decide +kernel
theorem dX4_reckon_207 : decode cX4_reckon 207 = .ok (.aload_n 0, 1) := by decide +kernel
theorem dX4_reckon_208 : decode cX4_reckon 208 = .ok (.invokevirtual 32, 3) := by decide +kernel
theorem dX4_reckon_211 : decode cX4_reckon 211 = .ok (.istore 5, 2) := by decide +kernel
theorem dX4_reckon_213 : decode cX4_reckon 213 = .ok (.aload_n 0, 1) := by decide +kernel
theorem dX4_reckon_214 : decode cX4_reckon 214 = .ok (.iload_n 1, 1) := by decide +kernel
theorem dX4_reckon_215 : decode cX4_reckon 215 = .ok (.iload 5, 2) := by decide +kernel
theorem dX4_reckon_217 : decode cX4_reckon 217 = .ok (.iload 4, 2) := by decide +kernel
theorem dX4_reckon_219 : decode cX4_reckon 219 = .ok (.invokestatic 60, 3) := by decide +kernel
theorem dX4_reckon_222 : decode cX4_reckon 222 = .ok (.invokevirtual 36, 3) := by decide +kernel
theorem dX4_reckon_225 : decode cX4_reckon 225 = .ok (.return_, 1) := by decide +kernel
set_option maxRecDepth 20000 in
theorem ggX4_ofAnt_X0_period : GoodIn wsX4_ofAnt wsX0_period := goodIn_r _ [9, 10, 11, 12, 13, 14, 15, 16, 8, 17, 18, 19, 20, 21, 22, 45, 46, 47, 48, 49, 50, 51, 52, 53] (by decide +kernel) (by decide +kernel)
set_option maxRecDepth 20000 in
theorem gX4_ofAnt_X0_period : GoodIn wsX4_ofAnt (wsV RX4 76 RX0 yX0_period wsX0_period) := goodIn_app (goodIn_of _ (by decide +kernel)) ggX4_ofAnt_X0_period
set_option maxRecDepth 20000 in
theorem ggX4_ofAnt_X8_meetsAnother : GoodIn wsX4_ofAnt wsX8_meetsAnother := goodIn_r _ [27, 28, 29, 30, 31, 32, 8, 33, 34, 35, 36, 37, 38, 39, 40, 41, 42, 43, 44, 45, 46, 47, 48, 49, 50, 51, 52, 53] (by decide +kernel) (by decide +kernel)
set_option maxRecDepth 20000 in
theorem gX4_ofAnt_X8_meetsAnother : GoodIn wsX4_ofAnt (wsV RX4 79 RX8 yX8_meetsAnother wsX8_meetsAnother) := goodIn_app (goodIn_of _ (by decide +kernel)) ggX4_ofAnt_X8_meetsAnother
theorem dX4_ofAnt_0 : decode cX4_ofAnt 0 = .ok (.iload_n 0, 1) := by decide +kernel
theorem dX4_ofAnt_1 : decode cX4_ofAnt 1 = .ok (.tableswitch 101 222 227 #[39, 49, 59, 101, 69, 83], 39) := by decide +kernel
theorem dX4_ofAnt_40 : decode cX4_ofAnt 40 = .ok (.aload_n 2, 1) := by decide +kernel
theorem dX4_ofAnt_41 : decode cX4_ofAnt 41 = .ok (.getfield 64, 3) := by decide +kernel
theorem dX4_ofAnt_44 : decode cX4_ofAnt 44 = .ok (.iload_n 1, 1) := by decide +kernel
theorem dX4_ofAnt_45 : decode cX4_ofAnt 45 = .ok (.aaload, 1) := by decide +kernel
theorem dX4_ofAnt_46 : decode cX4_ofAnt 46 = .ok (.getfield 68, 3) := by decide +kernel
theorem dX4_ofAnt_49 : decode cX4_ofAnt 49 = .ok (.ireturn, 1) := by decide +kernel
theorem dX4_ofAnt_50 : decode cX4_ofAnt 50 = .ok (.aload_n 2, 1) := by decide +kernel
theorem dX4_ofAnt_51 : decode cX4_ofAnt 51 = .ok (.getfield 64, 3) := by decide +kernel
theorem dX4_ofAnt_54 : decode cX4_ofAnt 54 = .ok (.iload_n 1, 1) := by decide +kernel
theorem dX4_ofAnt_55 : decode cX4_ofAnt 55 = .ok (.aaload, 1) := by decide +kernel
theorem dX4_ofAnt_56 : decode cX4_ofAnt 56 = .ok (.getfield 73, 3) := by decide +kernel
theorem dX4_ofAnt_59 : decode cX4_ofAnt 59 = .ok (.ireturn, 1) := by decide +kernel
theorem dX4_ofAnt_60 : decode cX4_ofAnt 60 = .ok (.aload_n 2, 1) := by decide +kernel
theorem dX4_ofAnt_61 : decode cX4_ofAnt 61 = .ok (.getfield 64, 3) := by decide +kernel
theorem dX4_ofAnt_64 : decode cX4_ofAnt 64 = .ok (.iload_n 1, 1) := by decide +kernel
theorem dX4_ofAnt_65 : decode cX4_ofAnt 65 = .ok (.aaload, 1) := by decide +kernel
theorem dX4_ofAnt_66 : decode cX4_ofAnt 66 = .ok (.invokevirtual 76, 3) := by decide +kernel
theorem dX4_ofAnt_69 : decode cX4_ofAnt 69 = .ok (.ireturn, 1) := by decide +kernel
theorem dX4_ofAnt_70 : decode cX4_ofAnt 70 = .ok (.aload_n 2, 1) := by decide +kernel
theorem dX4_ofAnt_71 : decode cX4_ofAnt 71 = .ok (.iload_n 1, 1) := by decide +kernel
theorem dX4_ofAnt_72 : decode cX4_ofAnt 72 = .ok (.invokevirtual 79, 3) := by decide +kernel
theorem dX4_ofAnt_75 : decode cX4_ofAnt 75 = .ok (.ifCond .eq 7, 3) := by decide +kernel
theorem dX4_ofAnt_78 : decode cX4_ofAnt 78 = .ok (.iconst 1, 1) := by decide +kernel
theorem dX4_ofAnt_79 : decode cX4_ofAnt 79 = .ok (.goto 4, 3) := by decide +kernel
theorem dX4_ofAnt_82 : decode cX4_ofAnt 82 = .ok (.iconst 0, 1) := by decide +kernel
theorem dX4_ofAnt_83 : decode cX4_ofAnt 83 = .ok (.ireturn, 1) := by decide +kernel
theorem dX4_ofAnt_84 : decode cX4_ofAnt 84 = .ok (.aload_n 2, 1) := by decide +kernel
theorem dX4_ofAnt_85 : decode cX4_ofAnt 85 = .ok (.getfield 64, 3) := by decide +kernel
theorem dX4_ofAnt_88 : decode cX4_ofAnt 88 = .ok (.iload_n 1, 1) := by decide +kernel
theorem dX4_ofAnt_89 : decode cX4_ofAnt 89 = .ok (.aaload, 1) := by decide +kernel
theorem dX4_ofAnt_90 : decode cX4_ofAnt 90 = .ok (.getfield 82, 3) := by decide +kernel
theorem dX4_ofAnt_93 : decode cX4_ofAnt 93 = .ok (.ifCond .eq 7, 3) := by decide +kernel
theorem dX4_ofAnt_96 : decode cX4_ofAnt 96 = .ok (.iconst 0, 1) := by decide +kernel
theorem dX4_ofAnt_97 : decode cX4_ofAnt 97 = .ok (.goto 4, 3) := by decide +kernel
theorem dX4_ofAnt_100 : decode cX4_ofAnt 100 = .ok (.iconst 1, 1) := by decide +kernel
theorem dX4_ofAnt_101 : decode cX4_ofAnt 101 = .ok (.ireturn, 1) := by decide +kernel
theorem dX4_ofAnt_102 : decode cX4_ofAnt 102 = .ok (.iconst 0, 1) := by decide +kernel
theorem dX4_ofAnt_103 : decode cX4_ofAnt 103 = .ok (.ireturn, 1) := by decide +kernel
theorem dX4_ofTwo_0 : decode cX4_ofTwo 0 = .ok (.iload_n 0, 1) := by decide +kernel
theorem dX4_ofTwo_1 : decode cX4_ofTwo 1 = .ok (.lookupswitch 214 #[(42, 123), (43, 115), (45, 119), (47, 127), (60, 139), (61, 161), (62, 150), (128, 172), (129, 183), (229, 206), (230, 210), (231, 194), (232, 200)], 115) := by decide +kernel
theorem dX4_ofTwo_116 : decode cX4_ofTwo 116 = .ok (.iload_n 1, 1) := by decide +kernel
theorem dX4_ofTwo_117 : decode cX4_ofTwo 117 = .ok (.iload_n 2, 1) := by decide +kernel
theorem dX4_ofTwo_118 : decode cX4_ofTwo 118 = .ok (.iadd, 1) := by decide +kernel
theorem dX4_ofTwo_119 : decode cX4_ofTwo 119 = .ok (.ireturn, 1) := by decide +kernel
theorem dX4_ofTwo_120 : decode cX4_ofTwo 120 = .ok (.iload_n 1, 1) := by decide +kernel
theorem dX4_ofTwo_121 : decode cX4_ofTwo 121 = .ok (.iload_n 2, 1) := by decide +kernel
theorem dX4_ofTwo_122 : decode cX4_ofTwo 122 = .ok (.isub, 1) := by decide +kernel
theorem dX4_ofTwo_123 : decode cX4_ofTwo 123 = .ok (.ireturn, 1) := by decide +kernel
theorem dX4_ofTwo_124 : decode cX4_ofTwo 124 = .ok (.iload_n 1, 1) := by decide +kernel
theorem dX4_ofTwo_125 : decode cX4_ofTwo 125 = .ok (.iload_n 2, 1) := by decide +kernel
theorem dX4_ofTwo_126 : decode cX4_ofTwo 126 = .ok (.imul, 1) := by decide +kernel
theorem dX4_ofTwo_127 : decode cX4_ofTwo 127 = .ok (.ireturn, 1) := by decide +kernel
theorem dX4_ofTwo_128 : decode cX4_ofTwo 128 = .ok (.iload_n 2, 1) := by decide +kernel
theorem dX4_ofTwo_129 : decode cX4_ofTwo 129 = .ok (.ifCond .ne 7, 3) := by decide +kernel
theorem dX4_ofTwo_132 : decode cX4_ofTwo 132 = .ok (.iconst 0, 1) := by decide +kernel
theorem dX4_ofTwo_133 : decode cX4_ofTwo 133 = .ok (.goto 6, 3) := by decide +kernel
theorem dX4_ofTwo_136 : decode cX4_ofTwo 136 = .ok (.iload_n 1, 1) := by decide +kernel
theorem dX4_ofTwo_137 : decode cX4_ofTwo 137 = .ok (.iload_n 2, 1) := by decide +kernel
theorem dX4_ofTwo_138 : decode cX4_ofTwo 138 = .ok (.idiv, 1) := by decide +kernel
theorem dX4_ofTwo_139 : decode cX4_ofTwo 139 = .ok (.ireturn, 1) := by decide +kernel
theorem dX4_ofTwo_140 : decode cX4_ofTwo 140 = .ok (.iload_n 1, 1) := by decide +kernel
theorem dX4_ofTwo_141 : decode cX4_ofTwo 141 = .ok (.iload_n 2, 1) := by decide +kernel
theorem dX4_ofTwo_142 : decode cX4_ofTwo 142 = .ok (.if_icmp .ge 7, 3) := by decide +kernel
theorem dX4_ofTwo_145 : decode cX4_ofTwo 145 = .ok (.iconst 1, 1) := by decide +kernel
theorem dX4_ofTwo_146 : decode cX4_ofTwo 146 = .ok (.goto 4, 3) := by decide +kernel
theorem dX4_ofTwo_149 : decode cX4_ofTwo 149 = .ok (.iconst 0, 1) := by decide +kernel
theorem dX4_ofTwo_150 : decode cX4_ofTwo 150 = .ok (.ireturn, 1) := by decide +kernel
theorem dX4_ofTwo_151 : decode cX4_ofTwo 151 = .ok (.iload_n 1, 1) := by decide +kernel
theorem dX4_ofTwo_152 : decode cX4_ofTwo 152 = .ok (.iload_n 2, 1) := by decide +kernel
theorem dX4_ofTwo_153 : decode cX4_ofTwo 153 = .ok (.if_icmp .le 7, 3) := by decide +kernel
theorem dX4_ofTwo_156 : decode cX4_ofTwo 156 = .ok (.iconst 1, 1) := by decide +kernel
theorem dX4_ofTwo_157 : decode cX4_ofTwo 157 = .ok (.goto 4, 3) := by decide +kernel
theorem dX4_ofTwo_160 : decode cX4_ofTwo 160 = .ok (.iconst 0, 1) := by decide +kernel
theorem dX4_ofTwo_161 : decode cX4_ofTwo 161 = .ok (.ireturn, 1) := by decide +kernel
theorem dX4_ofTwo_162 : decode cX4_ofTwo 162 = .ok (.iload_n 1, 1) := by decide +kernel
theorem dX4_ofTwo_163 : decode cX4_ofTwo 163 = .ok (.iload_n 2, 1) := by decide +kernel
theorem dX4_ofTwo_164 : decode cX4_ofTwo 164 = .ok (.if_icmp .ne 7, 3) := by decide +kernel
theorem dX4_ofTwo_167 : decode cX4_ofTwo 167 = .ok (.iconst 1, 1) := by decide +kernel
theorem dX4_ofTwo_168 : decode cX4_ofTwo 168 = .ok (.goto 4, 3) := by decide +kernel
theorem dX4_ofTwo_171 : decode cX4_ofTwo 171 = .ok (.iconst 0, 1) := by decide +kernel
theorem dX4_ofTwo_172 : decode cX4_ofTwo 172 = .ok (.ireturn, 1) := by decide +kernel
theorem dX4_ofTwo_173 : decode cX4_ofTwo 173 = .ok (.iload_n 1, 1) := by decide +kernel
theorem dX4_ofTwo_174 : decode cX4_ofTwo 174 = .ok (.iload_n 2, 1) := by decide +kernel
theorem dX4_ofTwo_175 : decode cX4_ofTwo 175 = .ok (.if_icmp .gt 7, 3) := by decide +kernel
theorem dX4_ofTwo_178 : decode cX4_ofTwo 178 = .ok (.iconst 1, 1) := by decide +kernel
theorem dX4_ofTwo_179 : decode cX4_ofTwo 179 = .ok (.goto 4, 3) := by decide +kernel
theorem dX4_ofTwo_182 : decode cX4_ofTwo 182 = .ok (.iconst 0, 1) := by decide +kernel
theorem dX4_ofTwo_183 : decode cX4_ofTwo 183 = .ok (.ireturn, 1) := by decide +kernel
theorem dX4_ofTwo_184 : decode cX4_ofTwo 184 = .ok (.iload_n 1, 1) := by decide +kernel
theorem dX4_ofTwo_185 : decode cX4_ofTwo 185 = .ok (.iload_n 2, 1) := by decide +kernel
theorem dX4_ofTwo_186 : decode cX4_ofTwo 186 = .ok (.if_icmp .lt 7, 3) := by decide +kernel
theorem dX4_ofTwo_189 : decode cX4_ofTwo 189 = .ok (.iconst 1, 1) := by decide +kernel
theorem dX4_ofTwo_190 : decode cX4_ofTwo 190 = .ok (.goto 4, 3) := by decide +kernel
theorem dX4_ofTwo_193 : decode cX4_ofTwo 193 = .ok (.iconst 0, 1) := by decide +kernel
theorem dX4_ofTwo_194 : decode cX4_ofTwo 194 = .ok (.ireturn, 1) := by decide +kernel
theorem dX4_ofTwo_195 : decode cX4_ofTwo 195 = .ok (.iload_n 1, 1) := by decide +kernel
theorem dX4_ofTwo_196 : decode cX4_ofTwo 196 = .ok (.iload_n 2, 1) := by decide +kernel
theorem dX4_ofTwo_197 : decode cX4_ofTwo 197 = .ok (.invokestatic 86, 3) := by decide +kernel
theorem dX4_ofTwo_200 : decode cX4_ofTwo 200 = .ok (.ireturn, 1) := by decide +kernel
theorem dX4_ofTwo_201 : decode cX4_ofTwo 201 = .ok (.iload_n 1, 1) := by decide +kernel
theorem dX4_ofTwo_202 : decode cX4_ofTwo 202 = .ok (.iload_n 2, 1) := by decide +kernel
theorem dX4_ofTwo_203 : decode cX4_ofTwo 203 = .ok (.invokestatic 92, 3) := by decide +kernel
theorem dX4_ofTwo_206 : decode cX4_ofTwo 206 = .ok (.ireturn, 1) := by decide +kernel
theorem dX4_ofTwo_207 : decode cX4_ofTwo 207 = .ok (.iload_n 1, 1) := by decide +kernel
theorem dX4_ofTwo_208 : decode cX4_ofTwo 208 = .ok (.iload_n 2, 1) := by decide +kernel
theorem dX4_ofTwo_209 : decode cX4_ofTwo 209 = .ok (.iand, 1) := by decide +kernel
theorem dX4_ofTwo_210 : decode cX4_ofTwo 210 = .ok (.ireturn, 1) := by decide +kernel
theorem dX4_ofTwo_211 : decode cX4_ofTwo 211 = .ok (.iload_n 1, 1) := by decide +kernel
theorem dX4_ofTwo_212 : decode cX4_ofTwo 212 = .ok (.iload_n 2, 1) := by decide +kernel
theorem dX4_ofTwo_213 : decode cX4_ofTwo 213 = .ok (.ior, 1) := by decide +kernel
theorem dX4_ofTwo_214 : decode cX4_ofTwo 214 = .ok (.ireturn, 1) := by decide +kernel
theorem dX4_ofTwo_215 : decode cX4_ofTwo 215 = .ok (.iconst 0, 1) := by decide +kernel
theorem dX4_ofTwo_216 : decode cX4_ofTwo 216 = .ok (.ireturn, 1) := by decide +kernel
