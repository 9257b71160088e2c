set_option maxRecDepth 20000 in
theorem ggX12_init_X10_init : GoodIn wsX12_init wsX10_init := goodIn_r _ [23, 24, 2, 3, 4, 25, 26, 27, 28, 29, 30, 31, 32, 33, 34, 35, 36, 37, 38, 39, 90, 91, 92, 93, 94, 95, 96, 97, 98, 99, 100, 101, 102, 103, 104, 105, 106, 107, 108, 109, 110, 111] (by decide +kernel) (by decide +kernel)
set_option maxRecDepth 20000 in
theorem gX12_init_X10_init_n34 : GoodIn wsX12_init (wsX10_init) := ggX12_init_X10_init
set_option maxRecDepth 20000 in
theorem ggX12_init_X11_init : GoodIn wsX12_init wsX11_init := goodIn_r _ [41, 42, 43, 2, 3, 4, 44, 45, 46, 47, 48, 49, 50, 51, 52, 53, 54, 112, 113, 114, 115, 116, 117, 118, 119, 120, 121, 122, 123, 124, 125, 126, 127] (by decide +kernel) (by decide +kernel)
set_option maxRecDepth 20000 in
theorem gX12_init_X11_init_n44 : GoodIn wsX12_init (wsX11_init) := ggX12_init_X11_init
set_option maxRecDepth 20000 in
theorem ggX12_init_X11_begin_c1 : GoodIn wsX12_init (.code yX11_begin cX11_begin 3 none :: wsX11_begin_r1) := goodIn_r _ [58, 59, 60, 61, 62, 42, 44, 45, 46, 47, 48, 49, 50, 63, 64, 65, 19, 66, 67, 68, 69, 70, 71, 72, 73] (by decide +kernel) (by decide +kernel)
set_option maxRecDepth 20000 in
theorem ggX12_init_X11_begin_c2 : GoodIn wsX12_init wsX11_begin_r2 := goodIn_r _ [74, 51, 53] (by decide +kernel) (by decide +kernel)
set_option maxRecDepth 20000 in
theorem ggX12_init_X11_begin_c3 : GoodIn wsX12_init wsX110 := goodIn_r _ [112, 113, 114, 115, 116, 117, 118, 119, 120, 121, 122, 123, 124, 125, 126, 127] (by decide +kernel) (by decide +kernel)
set_option maxRecDepth 20000 in
theorem ggX12_init_X11_begin_c4 : GoodIn wsX12_init wsX120 := goodIn_r _ [75, 76, 77, 78, 79, 80, 81, 82, 83, 84, 85, 86, 87, 88, 89] (by decide +kernel) (by decide +kernel)
set_option maxRecDepth 20000 in
theorem ggX12_init_X11_begin_c5 : GoodIn wsX12_init wsX100 := goodIn_r _ [90, 91, 92, 93, 94, 95, 96, 97, 98, 99, 100, 101, 102, 103, 104, 105, 106, 107, 108, 109, 110, 111] (by decide +kernel) (by decide +kernel)
set_option maxRecDepth 20000 in
theorem ggX12_init_X11_begin : GoodIn wsX12_init wsX11_begin := (goodIn_ca (goodIn_ca (goodIn_ca (goodIn_ca ggX12_init_X11_begin_c1 ggX12_init_X11_begin_c2) ggX12_init_X11_begin_c3) ggX12_init_X11_begin_c4) ggX12_init_X11_begin_c5)
set_option maxRecDepth 20000 in
theorem gX12_init_X11_begin : GoodIn wsX12_init (wsV RX12 54 RX11 yX11_begin wsX11_begin) := goodIn_app (goodIn_of _ (by decide +kernel)) ggX12_init_X11_begin
theorem dX12_init_0 : decode cX12_init 0 = .ok (.aload_n 0, 1) := by decide +kernel
theorem dX12_init_1 : decode cX12_init 1 = .ok (.invokespecial 1, 3) := by decide +kernel
theorem dX12_init_4 : decode cX12_init 4 = .ok (.aload_n 0, 1) := by decide +kernel
theorem dX12_init_5 : decode cX12_init 5 = .ok (.sipush 2000, 3) := by decide +kernel
theorem dX12_init_8 : decode cX12_init 8 = .ok (.newarray .int, 2) := by decide +kernel
theorem dX12_init_10 : decode cX12_init 10 = .ok (.putfield 9, 3) := by decide +kernel
theorem dX12_init_13 : decode cX12_init 13 = .ok (.aload_n 0, 1) := by decide +kernel
theorem dX12_init_14 : decode cX12_init 14 = .ok (.iconst (-1), 1) := by decide +kernel
theorem dX12_init_15 : decode cX12_init 15 = .ok (.putfield 13, 3) := by decide +kernel
theorem dX12_init_18 : decode cX12_init 18 = .ok (.aload_n 0, 1) := by decide +kernel
theorem dX12_init_19 : decode cX12_init 19 = .ok (.sipush 401, 3) := by decide +kernel
theorem dX12_init_22 : decode cX12_init 22 = .ok (.newarray .int, 2) := by decide +kernel
theorem dX12_init_24 : decode cX12_init 24 = .ok (.putfield 17, 3) := by decide +kernel
theorem dX12_init_27 : decode cX12_init 27 = .ok (.aload_n 0, 1) := by decide +kernel
theorem dX12_init_28 : decode cX12_init 28 = .ok (.sipush 401, 3) := by decide +kernel
theorem dX12_init_31 : decode cX12_init 31 = .ok (.newarray .int, 2) := by decide +kernel
theorem dX12_init_33 : decode cX12_init 33 = .ok (.putfield 20, 3) := by decide +kernel
theorem dX12_init_36 : decode cX12_init 36 = .ok (.aload_n 0, 1) := by decide +kernel
theorem dX12_init_37 : decode cX12_init 37 = .ok (.sipush 401, 3) := by decide +kernel
theorem dX12_init_40 : decode cX12_init 40 = .ok (.newarray .int, 2) := by decide +kernel
theorem dX12_init_42 : decode cX12_init 42 = .ok (.putfield 23, 3) := by decide +kernel
theorem dX12_init_45 : decode cX12_init 45 = .ok (.aload_n 0, 1) := by decide +kernel
theorem dX12_init_46 : decode cX12_init 46 = .ok (.sipush 401, 3) := by decide +kernel
theorem dX12_init_49 : decode cX12_init 49 = .ok (.newarray .int, 2) := by decide +kernel
theorem dX12_init_51 : decode cX12_init 51 = .ok (.putfield 26, 3) := by decide +kernel
theorem dX12_init_54 : decode cX12_init 54 = .ok (.aload_n 0, 1) := by decide +kernel
theorem dX12_init_55 : decode cX12_init 55 = .ok (.sipush 401, 3) := by decide +kernel
theorem dX12_init_58 : decode cX12_init 58 = .ok (.newarray .int, 2) := by decide +kernel
theorem dX12_init_60 : decode cX12_init 60 = .ok (.putfield 29, 3) := by decide +kernel
theorem dX12_init_63 : decode cX12_init 63 = .ok (.aload_n 0, 1) := by decide +kernel
theorem dX12_init_64 : decode cX12_init 64 = .ok (.new 32, 3) := by decide +kernel
theorem dX12_init_67 : decode cX12_init 67 = .ok (.dup, 1) := by decide +kernel
theorem dX12_init_68 : decode cX12_init 68 = .ok (.invokespecial 34, 3) := by decide +kernel
theorem dX12_init_71 : decode cX12_init 71 = .ok (.putfield 35, 3) := by decide +kernel
theorem dX12_init_74 : decode cX12_init 74 = .ok (.aload_n 0, 1) := by decide +kernel
theorem dX12_init_75 : decode cX12_init 75 = .ok (.aload_n 0, 1) := by decide +kernel
theorem dX12_init_76 : decode cX12_init 76 = .ok (.getfield 35, 3) := by decide +kernel
theorem dX12_init_79 : decode cX12_init 79 = .ok (.putfield 39, 3) := by decide +kernel
theorem dX12_init_82 : decode cX12_init 82 = .ok (.aload_n 0, 1) := by decide +kernel
theorem dX12_init_83 : decode cX12_init 83 = .ok (.new 42, 3) := by decide +kernel
theorem dX12_init_86 : decode cX12_init 86 = .ok (.dup, 1) := by decide +kernel
theorem dX12_init_87 : decode cX12_init 87 = .ok (.aload_n 0, 1) := by decide +kernel
theorem dX12_init_88 : decode cX12_init 88 = .ok (.invokespecial 44, 3) := by decide +kernel
theorem dX12_init_91 : decode cX12_init 91 = .ok (.putfield 47, 3) := by decide +kernel
theorem dX12_init_94 : decode cX12_init 94 = .ok (.aload_n 0, 1) := by decide +kernel
theorem dX12_init_95 : decode cX12_init 95 = .ok (.new 42, 3) := by decide +kernel
theorem dX12_init_98 : decode cX12_init 98 = .ok (.dup, 1) := by decide +kernel
theorem dX12_init_99 : decode cX12_init 99 = .ok (.aload_n 0, 1) := by decide +kernel
theorem dX12_init_100 : decode cX12_init 100 = .ok (.invokespecial 44, 3) := by decide +kernel
theorem dX12_init_103 : decode cX12_init 103 = .ok (.putfield 51, 3) := by decide +kernel
theorem dX12_init_106 : decode cX12_init 106 = .ok (.aload_n 0, 1) := by decide +kernel
theorem dX12_init_107 : decode cX12_init 107 = .ok (.getfield 47, 3) := by decide +kernel
theorem dX12_init_110 : decode cX12_init 110 = .ok (.invokevirtual 54, 3) := by decide +kernel
theorem dX12_init_113 : decode cX12_init 113 = .ok (.return_, 1) := by decide +kernel
theorem dX12_thrown_0 : decode cX12_thrown 0 = .ok (.aload_n 0, 1) := by decide +kernel
theorem dX12_thrown_1 : decode cX12_thrown 1 = .ok (.getfield 57, 3) := by decide +kernel
theorem dX12_thrown_4 : decode cX12_thrown 4 = .ok (.ireturn, 1) := by decide +kernel
theorem dX12_no_0 : decode cX12_no 0 = .ok (.aload_n 0, 1) := by decide +kernel
theorem dX12_no_1 : decode cX12_no 1 = .ok (.iload_n 1, 1) := by decide +kernel
theorem dX12_no_2 : decode cX12_no 2 = .ok (.putfield 57, 3) := by decide +kernel
theorem dX12_no_5 : decode cX12_no 5 = .ok (.iconst 0, 1) := by decide +kernel
theorem dX12_no_6 : decode cX12_no 6 = .ok (.ireturn, 1) := by decide +kernel
theorem dX12_isIn_0 : decode cX12_isIn 0 = .ok (.iload_n 0, 1) := by decide +kernel
theorem dX12_isIn_1 : decode cX12_isIn 1 = .ok (.iload_n 1, 1) := by decide +kernel
theorem dX12_isIn_2 : decode cX12_isIn 2 = .ok (.if_icmp .lt 12, 3) := by decide +kernel
theorem dX12_isIn_5 : decode cX12_isIn 5 = .ok (.iload_n 0, 1) := by decide +kernel
theorem dX12_isIn_6 : decode cX12_isIn 6 = .ok (.iload_n 2, 1) := by decide +kernel
theorem dX12_isIn_7 : decode cX12_isIn 7 = .ok (.if_icmp .gt 7, 3) := by decide +kernel
theorem dX12_isIn_10 : decode cX12_isIn 10 = .ok (.iconst 1, 1) := by decide +kernel
theorem dX12_isIn_11 : decode cX12_isIn 11 = .ok (.goto 4, 3) := by decide +kernel
theorem dX12_isIn_14 : decode cX12_isIn 14 = .ok (.iconst 0, 1) := by decide +kernel
theorem dX12_isIn_15 : decode cX12_isIn 15 = .ok (.ireturn, 1) := by decide +kernel
set_option maxRecDepth 20000 in
theorem ggX12_isStone_X12_isIn : GoodIn wsX12_isStone wsX12_isIn := goodIn_r _ [4] (by decide +kernel) (by decide +kernel)
set_option maxRecDepth 20000 in
theorem gX12_isStone_X12_isIn : GoodIn wsX12_isStone (va_wsS RX12 60 yX12_isIn wsX12_isIn) := goodIn_app (goodIn_of _ (by decide +kernel)) ggX12_isStone_X12_isIn
theorem dX12_isStone_0 : decode cX12_isStone 0 = .ok (.iload_n 0, 1) := by decide +kernel
theorem dX12_isStone_1 : decode cX12_isStone 1 = .ok (.iconst 0, 1) := by decide +kernel
theorem dX12_isStone_2 : decode cX12_isStone 2 = .ok (.bipush 63, 2) := by decide +kernel
theorem dX12_isStone_4 : decode cX12_isStone 4 = .ok (.invokestatic 60, 3) := by decide +kernel
theorem dX12_isStone_7 : decode cX12_isStone 7 = .ok (.ifCond .eq 17, 3) := by decide +kernel
theorem dX12_isStone_10 : decode cX12_isStone 10 = .ok (.iload_n 1, 1) := by decide +kernel
theorem dX12_isStone_11 : decode cX12_isStone 11 = .ok (.iconst 0, 1) := by decide +kernel
theorem dX12_isStone_12 : decode cX12_isStone 12 = .ok (.bipush 63, 2) := by decide +kernel
theorem dX12_isStone_14 : decode cX12_isStone 14 = .ok (.invokestatic 60, 3) := by decide +kernel
theorem dX12_isStone_17 : decode cX12_isStone 17 = .ok (.ifCond .eq 7, 3) := by decide +kernel
theorem dX12_isStone_20 : decode cX12_isStone 20 = .ok (.iconst 1, 1) := by decide +kernel
theorem dX12_isStone_21 : decode cX12_isStone 21 = .ok (.goto 4, 3) := by decide +kernel
theorem dX12_isStone_24 : decode cX12_isStone 24 = .ok (.iconst 0, 1) := by decide +kernel
theorem dX12_isStone_25 : decode cX12_isStone 25 = .ok (.ireturn, 1) := by decide +kernel
set_option maxRecDepth 20000 in
theorem ggX12_isAnt_X12_isIn : GoodIn wsX12_isAnt wsX12_isIn := goodIn_r _ [5] (by decide +kernel) (by decide +kernel)
set_option maxRecDepth 20000 in
theorem gX12_isAnt_X12_isIn : GoodIn wsX12_isAnt (va_wsS RX12 60 yX12_isIn wsX12_isIn) := goodIn_app (goodIn_of _ (by decide +kernel)) ggX12_isAnt_X12_isIn
theorem dX12_isAnt_0 : decode cX12_isAnt 0 = .ok (.iload_n 1, 1) := by decide +kernel
theorem dX12_isAnt_1 : decode cX12_isAnt 1 = .ok (.iconst 0, 1) := by decide +kernel
theorem dX12_isAnt_2 : decode cX12_isAnt 2 = .ok (.aload_n 0, 1) := by decide +kernel
theorem dX12_isAnt_3 : decode cX12_isAnt 3 = .ok (.getfield 35, 3) := by decide +kernel
theorem dX12_isAnt_6 : decode cX12_isAnt 6 = .ok (.getfield 64, 3) := by decide +kernel
theorem dX12_isAnt_9 : decode cX12_isAnt 9 = .ok (.iconst 1, 1) := by decide +kernel
theorem dX12_isAnt_10 : decode cX12_isAnt 10 = .ok (.isub, 1) := by decide +kernel
theorem dX12_isAnt_11 : decode cX12_isAnt 11 = .ok (.invokestatic 60, 3) := by decide +kernel
theorem dX12_isAnt_14 : decode cX12_isAnt 14 = .ok (.ireturn, 1) := by decide +kernel
set_option maxRecDepth 20000 in
theorem ggX12_isPushed_X12_isIn : GoodIn wsX12_isPushed wsX12_isIn := goodIn_r _ [4] (by decide +kernel) (by decide +kernel)
set_option maxRecDepth 20000 in
theorem gX12_isPushed_X12_isIn : GoodIn wsX12_isPushed (va_wsS RX12 60 yX12_isIn wsX12_isIn) := goodIn_app (goodIn_of _ (by decide +kernel)) ggX12_isPushed_X12_isIn
theorem dX12_isPushed_0 : decode cX12_isPushed 0 = .ok (.iload_n 0, 1) := by decide +kernel
theorem dX12_isPushed_1 : decode cX12_isPushed 1 = .ok (.bipush 42, 2) := by decide +kernel
theorem dX12_isPushed_3 : decode cX12_isPushed 3 = .ok (.if_icmp .eq 26, 3) := by decide +kernel
theorem dX12_isPushed_6 : decode cX12_isPushed 6 = .ok (.iload_n 0, 1) := by decide +kernel
theorem dX12_isPushed_7 : decode cX12_isPushed 7 = .ok (.bipush 22, 2) := by decide +kernel
theorem dX12_isPushed_9 : decode cX12_isPushed 9 = .ok (.bipush 24, 2) := by decide +kernel
theorem dX12_isPushed_11 : decode cX12_isPushed 11 = .ok (.invokestatic 60, 3) := by decide +kernel
theorem dX12_isPushed_14 : decode cX12_isPushed 14 = .ok (.ifCond .ne 15, 3) := by decide +kernel
theorem dX12_isPushed_17 : decode cX12_isPushed 17 = .ok (.iload_n 0, 1) := by decide +kernel
theorem dX12_isPushed_18 : decode cX12_isPushed 18 = .ok (.bipush 26, 2) := by decide +kernel
theorem dX12_isPushed_20 : decode cX12_isPushed 20 = .ok (.if_icmp .eq 9, 3) := by decide +kernel
theorem dX12_isPushed_23 : decode cX12_isPushed 23 = .ok (.iload_n 0, 1) := by decide +kernel
theorem dX12_isPushed_24 : decode cX12_isPushed 24 = .ok (.bipush 27, 2) := by decide +kernel
theorem dX12_isPushed_26 : decode cX12_isPushed 26 = .ok (.if_icmp .ne 7, 3) := by decide +kernel
theorem dX12_isPushed_29 : decode cX12_isPushed 29 = .ok (.iconst 1, 1) := by decide +kernel
theorem dX12_isPushed_30 : decode cX12_isPushed 30 = .ok (.goto 4, 3) := by decide +kernel
theorem dX12_isPushed_33 : decode cX12_isPushed 33 = .ok (.iconst 0, 1) := by decide +kernel
theorem dX12_isPushed_34 : decode cX12_isPushed 34 = .ok (.ireturn, 1) := by decide +kernel
theorem dX12_both_0 : decode cX12_both 0 = .ok (.iload_n 0, 1) := by decide +kernel
theorem dX12_both_1 : decode cX12_both 1 = .ok (.tableswitch 210 29 53 #[206, 210, 139, 145, 210, 210, 210, 210, 210, 210, 210, 210, 210, 210, 210, 115, 119, 123, 127, 151, 162, 210, 173, 184, 195], 115) := by decide +kernel
theorem dX12_both_116 : decode cX12_both 116 = .ok (.iload_n 1, 1) := by decide +kernel
theorem dX12_both_117 : decode cX12_both 117 = .ok (.iload_n 2, 1) := by decide +kernel
theorem dX12_both_118 : decode cX12_both 118 = .ok (.iadd, 1) := by decide +kernel
theorem dX12_both_119 : decode cX12_both 119 = .ok (.ireturn, 1) := by decide +kernel
theorem dX12_both_120 : decode cX12_both 120 = .ok (.iload_n 1, 1) := by decide +kernel
theorem dX12_both_121 : decode cX12_both 121 = .ok (.iload_n 2, 1) := by decide +kernel
theorem dX12_both_122 : decode cX12_both 122 = .ok (.isub, 1) := by decide +kernel
theorem dX12_both_123 : decode cX12_both 123 = .ok (.ireturn, 1) := by decide +kernel
theorem dX12_both_124 : decode cX12_both 124 = .ok (.iload_n 1, 1) := by decide +kernel
theorem dX12_both_125 : decode cX12_both 125 = .ok (.iload_n 2, 1) := by decide +kernel
theorem dX12_both_126 : decode cX12_both 126 = .ok (.imul, 1) := by decide +kernel
theorem dX12_both_127 : decode cX12_both 127 = .ok (.ireturn, 1) := by decide +kernel
theorem dX12_both_128 : decode cX12_both 128 = .ok (.iload_n 2, 1) := by decide +kernel
theorem dX12_both_129 : decode cX12_both 129 = .ok (.ifCond .ne 7, 3) := by decide +kernel
theorem dX12_both_132 : decode cX12_both 132 = .ok (.iconst 0, 1) := by decide +kernel
theorem dX12_both_133 : decode cX12_both 133 = .ok (.goto 6, 3) := by decide +kernel
theorem dX12_both_136 : decode cX12_both 136 = .ok (.iload_n 1, 1) := by decide +kernel
theorem dX12_both_137 : decode cX12_both 137 = .ok (.iload_n 2, 1) := by decide +kernel
theorem dX12_both_138 : decode cX12_both 138 = .ok (.idiv, 1) := by decide +kernel
theorem dX12_both_139 : decode cX12_both 139 = .ok (.ireturn, 1) := by decide +kernel
theorem dX12_both_140 : decode cX12_both 140 = .ok (.iload_n 1, 1) := by decide +kernel
theorem dX12_both_141 : decode cX12_both 141 = .ok (.iload_n 2, 1) := by decide +kernel
theorem dX12_both_142 : decode cX12_both 142 = .ok (.invokestatic 67, 3) := by decide +kernel
theorem dX12_both_145 : decode cX12_both 145 = .ok (.ireturn, 1) := by decide +kernel
theorem dX12_both_146 : decode cX12_both 146 = .ok (.iload_n 1, 1) := by decide +kernel
theorem dX12_both_147 : decode cX12_both 147 = .ok (.iload_n 2, 1) := by decide +kernel
theorem dX12_both_148 : decode cX12_both 148 = .ok (.invokestatic 73, 3) := by decide +kernel
theorem dX12_both_151 : decode cX12_both 151 = .ok (.ireturn, 1) := by decide +kernel
theorem dX12_both_152 : decode cX12_both 152 = .ok (.iload_n 1, 1) := by decide +kernel
theorem dX12_both_153 : decode cX12_both 153 = .ok (.iload_n 2, 1) := by decide +kernel
theorem dX12_both_154 : decode cX12_both 154 = .ok (.if_icmp .ge 7, 3) := by decide +kernel
theorem dX12_both_157 : decode cX12_both 157 = .ok (.iconst 1, 1) := by decide +kernel
theorem dX12_both_158 : decode cX12_both 158 = .ok (.goto 4, 3) := by decide +kernel
theorem dX12_both_161 : decode cX12_both 161 = .ok (.iconst 0, 1) := by decide +kernel
theorem dX12_both_162 : decode cX12_both 162 = .ok (.ireturn, 1) := by decide +kernel
theorem dX12_both_163 : decode cX12_both 163 = .ok (.iload_n 1, 1) := by decide +kernel
theorem dX12_both_164 : decode cX12_both 164 = .ok (.iload_n 2, 1) := by decide +kernel
theorem dX12_both_165 : decode cX12_both 165 = .ok (.if_icmp .le 7, 3) := by decide +kernel
theorem dX12_both_168 : decode cX12_both 168 = .ok (.iconst 1, 1) := by decide +kernel
theorem dX12_both_169 : decode cX12_both 169 = .ok (.goto 4, 3) := by decide +kernel
theorem dX12_both_172 : decode cX12_both 172 = .ok (.iconst 0, 1) := by decide +kernel
theorem dX12_both_173 : decode cX12_both 173 = .ok (.ireturn, 1) := by decide +kernel
theorem dX12_both_174 : decode cX12_both 174 = .ok (.iload_n 1, 1) := by decide +kernel
theorem dX12_both_175 : decode cX12_both 175 = .ok (.iload_n 2, 1) := by decide +kernel
theorem dX12_both_176 : decode cX12_both 176 = .ok (.if_icmp .ne 7, 3) := by decide +kernel
theorem dX12_both_179 : decode cX12_both 179 = .ok (.iconst 1, 1) := by decide +kernel
theorem dX12_both_180 : decode cX12_both 180 = .ok (.goto 4, 3) := by decide +kernel
theorem dX12_both_183 : decode cX12_both 183 = .ok (.iconst 0, 1) := by decide +kernel
theorem dX12_both_184 : decode cX12_both 184 = .ok (.ireturn, 1) := by decide +kernel
theorem dX12_both_185 : decode cX12_both 185 = .ok (.iload_n 1, 1) := by decide +kernel
theorem dX12_both_186 : decode cX12_both 186 = .ok (.iload_n 2, 1) := by decide +kernel
theorem dX12_both_187 : decode cX12_both 187 = .ok (.if_icmp .gt 7, 3) := by decide +kernel
theorem dX12_both_190 : decode cX12_both 190 = .ok (.iconst 1, 1) := by decide +kernel
theorem dX12_both_191 : decode cX12_both 191 = .ok (.goto 4, 3) := by decide +kernel
theorem dX12_both_194 : decode cX12_both 194 = .ok (.iconst 0, 1) := by decide +kernel
theorem dX12_both_195 : decode cX12_both 195 = .ok (.ireturn, 1) := by decide +kernel
theorem dX12_both_196 : decode cX12_both 196 = .ok (.iload_n 1, 1) := by decide +kernel
theorem dX12_both_197 : decode cX12_both 197 = .ok (.iload_n 2, 1) := by decide +kernel
theorem dX12_both_198 : decode cX12_both 198 = .ok (.if_icmp .lt 7, 3) := by decide +kernel
theorem dX12_both_201 : decode cX12_both 201 = .ok (.iconst 1, 1) := by decide +kernel
theorem dX12_both_202 : decode cX12_both 202 = .ok (.goto 4, 3) := by decide +kernel
theorem dX12_both_205 : decode cX12_both 205 = .ok (.iconst 0, 1) := by decide +kernel
theorem dX12_both_206 : decode cX12_both 206 = .ok (.ireturn, 1) := by decide +kernel
theorem dX12_both_207 : decode cX12_both 207 = .ok (.iload_n 1, 1) := by decide +kernel
theorem dX12_both_208 : decode cX12_both 208 = .ok (.iload_n 2, 1) := by decide +kernel
theorem dX12_both_209 : decode cX12_both 209 = .ok (.iand, 1) := by decide +kernel
theorem dX12_both_210 : decode cX12_both 210 = .ok (.ireturn, 1) := by decide +kernel
theorem dX12_both_211 : decode cX12_both 211 = .ok (.iload_n 1, 1) := by decide +kernel
theorem dX12_both_212 : decode cX12_both 212 = .ok (.iload_n 2, 1) := by decide +kernel
theorem dX12_both_213 : decode cX12_both 213 = .ok (.ior, 1) := by decide +kernel
theorem dX12_both_214 : decode cX12_both 214 = .ok (.ireturn, 1) := by decide +kernel
theorem dX12_isLetter_0 : decode cX12_isLetter 0 = .ok (.iload_n 0, 1) := by decide +kernel
theorem dX12_isLetter_1 : decode cX12_isLetter 1 = .ok (.bipush 97, 2) := by decide +kernel
theorem dX12_isLetter_3 : decode cX12_isLetter 3 = .ok (.if_icmp .lt 13, 3) := by decide +kernel
theorem dX12_isLetter_6 : decode cX12_isLetter 6 = .ok (.iload_n 0, 1) := by decide +kernel
theorem dX12_isLetter_7 : decode cX12_isLetter 7 = .ok (.bipush 122, 2) := by decide +kernel
theorem dX12_isLetter_9 : decode cX12_isLetter 9 = .ok (.if_icmp .gt 7, 3) := by decide +kernel
theorem dX12_isLetter_12 : decode cX12_isLetter 12 = .ok (.iconst 1, 1) := by decide +kernel
theorem dX12_isLetter_13 : decode cX12_isLetter 13 = .ok (.goto 4, 3) := by decide +kernel
theorem dX12_isLetter_16 : decode cX12_isLetter 16 = .ok (.iconst 0, 1) := by decide +kernel
theorem dX12_isLetter_17 : decode cX12_isLetter 17 = .ok (.ireturn, 1) := by decide +kernel
theorem dX12_isDigit_0 : decode cX12_isDigit 0 = .ok (.iload_n 0, 1) := by decide +kernel
theorem dX12_isDigit_1 : decode cX12_isDigit 1 = .ok (.bipush 48, 2) := by decide +kernel
theorem dX12_isDigit_3 : decode cX12_isDigit 3 = .ok (.if_icmp .lt 13, 3) := by decide +kernel
theorem dX12_isDigit_6 : decode cX12_isDigit 6 = .ok (.iload_n 0, 1) := by decide +kernel
theorem dX12_isDigit_7 : decode cX12_isDigit 7 = .ok (.bipush 57, 2) := by decide +kernel
theorem dX12_isDigit_9 : decode cX12_isDigit 9 = .ok (.if_icmp .gt 7, 3) := by decide +kernel
theorem dX12_isDigit_12 : decode cX12_isDigit 12 = .ok (.iconst 1, 1) := by decide +kernel
theorem dX12_isDigit_13 : decode cX12_isDigit 13 = .ok (.goto 4, 3) := by decide +kernel
theorem dX12_isDigit_16 : decode cX12_isDigit 16 = .ok (.iconst 0, 1) := by decide +kernel
theorem dX12_isDigit_17 : decode cX12_isDigit 17 = .ok (.ireturn, 1) := by decide +kernel
theorem dX12_byteOf_0 : decode cX12_byteOf 0 = .ok (.iload_n 1, 1) := by decide +kernel
theorem dX12_byteOf_1 : decode cX12_byteOf 1 = .ok (.aload_n 0, 1) := by decide +kernel
theorem dX12_byteOf_2 : decode cX12_byteOf 2 = .ok (.getfield 76, 3) := by decide +kernel
theorem dX12_byteOf_5 : decode cX12_byteOf 5 = .ok (.if_icmp .ge 12, 3) := by decide +kernel
theorem dX12_byteOf_8 : decode cX12_byteOf 8 = .ok (.aload_n 0, 1) := by decide +kernel
theorem dX12_byteOf_9 : decode cX12_byteOf 9 = .ok (.getfield 9, 3) := by decide +kernel
theorem dX12_byteOf_12 : decode cX12_byteOf 12 = .ok (.iload_n 1, 1) := by decide +kernel
theorem dX12_byteOf_13 : decode cX12_byteOf 13 = .ok (.iaload, 1) := by decide +kernel
theorem dX12_byteOf_14 : decode cX12_byteOf 14 = .ok (.goto 4, 3) := by decide +kernel
theorem dX12_byteOf_17 : decode cX12_byteOf 17 = .ok (.iconst (-1), 1) := by decide +kernel
theorem dX12_byteOf_18 : decode cX12_byteOf 18 = .ok (.ireturn, 1) := by decide +kernel
set_option maxRecDepth 20000 in
theorem ggX12_kindAt_X12_byteOf : GoodIn wsX12_kindAt wsX12_byteOf := goodIn_r _ [6, 7, 8, 130, 131, 132, 133, 134, 135, 136, 137, 138, 139, 140, 141, 142, 143, 144] (by decide +kernel) (by decide +kernel)
set_option maxRecDepth 20000 in
theorem gX12_kindAt_X12_byteOf : GoodIn wsX12_kindAt (wsV RX12 79 RX12 yX12_byteOf wsX12_byteOf) := goodIn_app (goodIn_of _ (by decide +kernel)) ggX12_kindAt_X12_byteOf
set_option maxRecDepth 20000 in
theorem ggX12_kindAt_X12_isLetter : GoodIn wsX12_kindAt wsX12_isLetter := goodIn_r _ [11] (by decide +kernel) (by decide +kernel)
set_option maxRecDepth 20000 in
theorem gX12_kindAt_X12_isLetter : GoodIn wsX12_kindAt (va_wsS RX12 83 yX12_isLetter wsX12_isLetter) := goodIn_app (goodIn_of _ (by decide +kernel)) ggX12_kindAt_X12_isLetter
set_option maxRecDepth 20000 in
theorem ggX12_kindAt_X12_isDigit : GoodIn wsX12_kindAt wsX12_isDigit := goodIn_r _ [14] (by decide +kernel) (by decide +kernel)
set_option maxRecDepth 20000 in
theorem gX12_kindAt_X12_isDigit : GoodIn wsX12_kindAt (va_wsS RX12 87 yX12_isDigit wsX12_isDigit) := goodIn_app (goodIn_of _ (by decide +kernel)) ggX12_kindAt_X12_isDigit
set_option maxRecDepth 20000 in
theorem ggX12_kindAt_X12_word_c1 : GoodIn wsX12_kindAt (.code yX12_word cX12_word 6 (some .int) :: wsX12_word_r1) := goodIn_r _ [18, 19, 8, 20, 21, 22, 23, 24, 25, 26, 27, 28, 29, 30, 31, 32, 33, 34, 35, 36, 37, 38, 39, 40, 41] (by decide +kernel) (by decide +kernel)
set_option maxRecDepth 20000 in
theorem ggX12_kindAt_X12_word_c2 : GoodIn wsX12_kindAt wsX12_word_r2 := goodIn_r _ [42, 43, 44, 45, 46, 47, 48, 49, 50, 51, 52, 53, 54, 55, 56, 57, 58, 59, 60, 61, 62, 63, 64, 65] (by decide +kernel) (by decide +kernel)
set_option maxRecDepth 20000 in
theorem ggX12_kindAt_X12_word_c3 : GoodIn wsX12_kindAt wsX12_word_r3 := goodIn_r _ [66, 67, 68] (by decide +kernel) (by decide +kernel)
set_option maxRecDepth 20000 in
theorem ggX12_kindAt_X12_word_c4 : GoodIn wsX12_kindAt wsX120 := goodIn_r _ [130, 131, 132, 133, 134, 135, 136, 137, 138, 139, 140, 141, 142, 143, 144] (by decide +kernel) (by decide +kernel)
set_option maxRecDepth 20000 in
theorem ggX12_kindAt_X12_word : GoodIn wsX12_kindAt wsX12_word := (goodIn_ca (goodIn_ca ggX12_kindAt_X12_word_c1 (goodIn_app ggX12_kindAt_X12_word_c2 ggX12_kindAt_X12_word_c3)) ggX12_kindAt_X12_word_c4)
set_option maxRecDepth 20000 in
theorem gX12_kindAt_X12_word : GoodIn wsX12_kindAt (wsV RX12 90 RX12 yX12_word wsX12_word) := goodIn_app (goodIn_of _ (by decide +kernel)) ggX12_kindAt_X12_word
set_option maxRecDepth 20000 in
theorem ggX12_kindAt_J0_indexOf_0f7a4_c1 : GoodIn wsX12_kindAt (.code yJ0_indexOf_0f7a4 cJ0_indexOf_0f7a4 2 (some .int) :: wsJ0_indexOf_0f7a4_r1) := goodIn_r _ [72, 73, 74, 75, 23, 76, 25, 36, 37, 38, 39, 30, 31, 77, 21, 22, 24, 26, 27, 28, 29, 78, 79, 42, 80] (by decide +kernel) (by decide +kernel)
set_option maxRecDepth 20000 in
theorem ggX12_kindAt_J0_indexOf_0f7a4_c2 : GoodIn wsX12_kindAt wsJ0_indexOf_0f7a4_r2 := goodIn_r _ [81, 82, 83, 84, 85, 86, 87, 88, 89, 90, 91, 92, 93, 94, 95, 54, 96, 97, 98, 99, 100, 101, 102, 103] (by decide +kernel) (by decide +kernel)
set_option maxRecDepth 20000 in
theorem ggX12_kindAt_J0_indexOf_0f7a4_c3 : GoodIn wsX12_kindAt wsJ0_indexOf_0f7a4_r3 := goodIn_r _ [104, 105, 59, 60, 61, 106, 107, 108, 47, 109, 110, 50, 111, 112, 113, 114, 63, 64, 65, 66, 67, 68, 115, 116] (by decide +kernel) (by decide +kernel)
set_option maxRecDepth 20000 in
theorem ggX12_kindAt_J0_indexOf_0f7a4_c4 : GoodIn wsX12_kindAt wsJ0_indexOf_0f7a4_r4 := goodIn_r _ [117, 118, 119, 120, 121, 122, 123, 124, 125, 126, 127, 128, 129] (by decide +kernel) (by decide +kernel)
set_option maxRecDepth 20000 in
theorem ggX12_kindAt_J0_indexOf_0f7a4 : GoodIn wsX12_kindAt wsJ0_indexOf_0f7a4 := (goodIn_ca ggX12_kindAt_J0_indexOf_0f7a4_c1 (goodIn_app ggX12_kindAt_J0_indexOf_0f7a4_c2 (goodIn_app ggX12_kindAt_J0_indexOf_0f7a4_c3 ggX12_kindAt_J0_indexOf_0f7a4_c4)))
set_option maxRecDepth 20000 in
theorem gX12_kindAt_J0_indexOf_0f7a4 : GoodIn wsX12_kindAt (wsV RX12 95 RJ0 yJ0_indexOf_0f7a4 wsJ0_indexOf_0f7a4) := goodIn_app (goodIn_of _ (by decide +kernel)) ggX12_kindAt_J0_indexOf_0f7a4
theorem dX12_kindAt_0 : decode cX12_kindAt 0 = .ok (.aload_n 0, 1) := by decide +kernel
theorem dX12_kindAt_1 : decode cX12_kindAt 1 = .ok (.iload_n 1, 1) := by decide +kernel
theorem dX12_kindAt_2 : decode cX12_kindAt 2 = .ok (.invokevirtual 79, 3) := by decide +kernel
theorem dX12_kindAt_5 : decode cX12_kindAt 5 = .ok (.istore_n 3, 1) := by decide +kernel
theorem dX12_kindAt_6 : decode cX12_kindAt 6 = .ok (.iload_n 1, 1) := by decide +kernel
theorem dX12_kindAt_7 : decode cX12_kindAt 7 = .ok (.iconst 1, 1) := by decide +kernel
theorem dX12_kindAt_8 : decode cX12_kindAt 8 = .ok (.iadd, 1) := by decide +kernel
theorem dX12_kindAt_9 : decode cX12_kindAt 9 = .ok (.istore 4, 2) := by decide +kernel
theorem dX12_kindAt_11 : decode cX12_kindAt 11 = .ok (.iload_n 3, 1) := by decide +kernel
theorem dX12_kindAt_12 : decode cX12_kindAt 12 = .ok (.iconst (-1), 1) := by decide +kernel
theorem dX12_kindAt_13 : decode cX12_kindAt 13 = .ok (.if_icmp .ne 7, 3) := by decide +kernel
theorem dX12_kindAt_16 : decode cX12_kindAt 16 = .ok (.sipush 900, 3) := by decide +kernel
theorem dX12_kindAt_19 : decode cX12_kindAt 19 = .ok (.ireturn, 1) := by decide +kernel
theorem dX12_kindAt_20 : decode cX12_kindAt 20 = .ok (.iload_n 3, 1) := by decide +kernel
theorem dX12_kindAt_21 : decode cX12_kindAt 21 = .ok (.invokestatic 83, 3) := by decide +kernel
theorem dX12_kindAt_24 : decode cX12_kindAt 24 = .ok (.ifCond .ne 10, 3) := by decide +kernel
theorem dX12_kindAt_27 : decode cX12_kindAt 27 = .ok (.iload_n 3, 1) := by decide +kernel
theorem dX12_kindAt_28 : decode cX12_kindAt 28 = .ok (.invokestatic 87, 3) := by decide +kernel
theorem dX12_kindAt_31 : decode cX12_kindAt 31 = .ok (.ifCond .eq 97, 3) := by decide +kernel
theorem dX12_kindAt_34 : decode cX12_kindAt 34 = .ok (.aload_n 0, 1) := by decide +kernel
theorem dX12_kindAt_35 : decode cX12_kindAt 35 = .ok (.iload 4, 2) := by decide +kernel
theorem dX12_kindAt_37 : decode cX12_kindAt 37 = .ok (.invokevirtual 79, 3) := by decide +kernel
theorem dX12_kindAt_40 : decode cX12_kindAt 40 = .ok (.invokestatic 87, 3) := by decide +kernel
theorem dX12_kindAt_43 : decode cX12_kindAt 43 = .ok (.ifCond .ne 22, 3) := by decide +kernel
theorem dX12_kindAt_46 : decode cX12_kindAt 46 = .ok (.iload_n 3, 1) := by decide +kernel
theorem dX12_kindAt_47 : decode cX12_kindAt 47 = .ok (.invokestatic 83, 3) := by decide +kernel
theorem dX12_kindAt_50 : decode cX12_kindAt 50 = .ok (.ifCond .eq 21, 3) := by decide +kernel
theorem dX12_kindAt_53 : decode cX12_kindAt 53 = .ok (.aload_n 0, 1) := by decide +kernel
theorem dX12_kindAt_54 : decode cX12_kindAt 54 = .ok (.iload 4, 2) := by decide +kernel
theorem dX12_kindAt_56 : decode cX12_kindAt 56 = .ok (.invokevirtual 79, 3) := by decide +kernel
theorem dX12_kindAt_59 : decode cX12_kindAt 59 = .ok (.invokestatic 83, 3) := by decide +kernel
theorem dX12_kindAt_62 : decode cX12_kindAt 62 = .ok (.ifCond .eq 9, 3) := by decide +kernel
theorem dX12_kindAt_65 : decode cX12_kindAt 65 = .ok (.iinc 4 1, 3) := by decide +kernel
theorem dX12_kindAt_68 : decode cX12_kindAt 68 = .ok (.goto (-34), 3) := by decide +kernel
theorem dX12_kindAt_71 : decode cX12_kindAt 71 = .ok (.aload_n 0, 1) := by decide +kernel
theorem dX12_kindAt_72 : decode cX12_kindAt 72 = .ok (.getfield 23, 3) := by decide +kernel
theorem dX12_kindAt_75 : decode cX12_kindAt 75 = .ok (.iload_n 2, 1) := by decide +kernel
theorem dX12_kindAt_76 : decode cX12_kindAt 76 = .ok (.iload 4, 2) := by decide +kernel
theorem dX12_kindAt_78 : decode cX12_kindAt 78 = .ok (.iload_n 1, 1) := by decide +kernel
theorem dX12_kindAt_79 : decode cX12_kindAt 79 = .ok (.isub, 1) := by decide +kernel
theorem dX12_kindAt_80 : decode cX12_kindAt 80 = .ok (.iastore, 1) := by decide +kernel
theorem dX12_kindAt_81 : decode cX12_kindAt 81 = .ok (.iload 4, 2) := by decide +kernel
theorem dX12_kindAt_83 : decode cX12_kindAt 83 = .ok (.iload_n 1, 1) := by decide +kernel
theorem dX12_kindAt_84 : decode cX12_kindAt 84 = .ok (.isub, 1) := by decide +kernel
theorem dX12_kindAt_85 : decode cX12_kindAt 85 = .ok (.iload_n 3, 1) := by decide +kernel
theorem dX12_kindAt_86 : decode cX12_kindAt 86 = .ok (.invokestatic 83, 3) := by decide +kernel
theorem dX12_kindAt_89 : decode cX12_kindAt 89 = .ok (.ifCond .eq 8, 3) := by decide +kernel
theorem dX12_kindAt_92 : decode cX12_kindAt 92 = .ok (.bipush 10, 2) := by decide +kernel
theorem dX12_kindAt_94 : decode cX12_kindAt 94 = .ok (.goto 5, 3) := by decide +kernel
theorem dX12_kindAt_97 : decode cX12_kindAt 97 = .ok (.bipush 6, 2) := by decide +kernel
theorem dX12_kindAt_99 : decode cX12_kindAt 99 = .ok (.if_icmp .le 7, 3) := by decide +kernel
theorem dX12_kindAt_102 : decode cX12_kindAt 102 = .ok (.sipush 901, 3) := by decide +kernel
theorem dX12_kindAt_105 : decode cX12_kindAt 105 = .ok (.ireturn, 1) := by decide +kernel
theorem dX12_kindAt_106 : decode cX12_kindAt 106 = .ok (.iload_n 3, 1) := by decide +kernel
theorem dX12_kindAt_107 : decode cX12_kindAt 107 = .ok (.invokestatic 83, 3) := by decide +kernel
theorem dX12_kindAt_110 : decode cX12_kindAt 110 = .ok (.ifCond .eq 15, 3) := by decide +kernel
theorem dX12_kindAt_113 : decode cX12_kindAt 113 = .ok (.aload_n 0, 1) := by decide +kernel
theorem dX12_kindAt_114 : decode cX12_kindAt 114 = .ok (.iload_n 1, 1) := by decide +kernel
theorem dX12_kindAt_115 : decode cX12_kindAt 115 = .ok (.iload 4, 2) := by decide +kernel
theorem dX12_kindAt_117 : decode cX12_kindAt 117 = .ok (.iload_n 1, 1) := by decide +kernel
theorem dX12_kindAt_118 : decode cX12_kindAt 118 = .ok (.isub, 1) := by decide +kernel
theorem dX12_kindAt_119 : decode cX12_kindAt 119 = .ok (.invokevirtual 90, 3) := by decide +kernel
theorem dX12_kindAt_122 : decode cX12_kindAt 122 = .ok (.goto 5, 3) := by decide +kernel
theorem dX12_kindAt_125 : decode cX12_kindAt 125 = .ok (.bipush 41, 2) := by decide +kernel
theorem dX12_kindAt_127 : decode cX12_kindAt 127 = .ok (.ireturn, 1) := by decide +kernel
theorem dX12_kindAt_128 : decode cX12_kindAt 128 = .ok (.iload_n 3, 1) := by decide +kernel
theorem dX12_kindAt_129 : decode cX12_kindAt 129 = .ok (.bipush 60, 2) := by decide +kernel
theorem dX12_kindAt_131 : decode cX12_kindAt 131 = .ok (.if_icmp .eq 9, 3) := by decide +kernel
theorem dX12_kindAt_134 : decode cX12_kindAt 134 = .ok (.iload_n 3, 1) := by decide +kernel
theorem dX12_kindAt_135 : decode cX12_kindAt 135 = .ok (.bipush 62, 2) := by decide +kernel
theorem dX12_kindAt_137 : decode cX12_kindAt 137 = .ok (.if_icmp .ne 18, 3) := by decide +kernel
theorem dX12_kindAt_140 : decode cX12_kindAt 140 = .ok (.aload_n 0, 1) := by decide +kernel
theorem dX12_kindAt_141 : decode cX12_kindAt 141 = .ok (.iload 4, 2) := by decide +kernel
theorem dX12_kindAt_143 : decode cX12_kindAt 143 = .ok (.invokevirtual 79, 3) := by decide +kernel
theorem dX12_kindAt_146 : decode cX12_kindAt 146 = .ok (.bipush 61, 2) := by decide +kernel
theorem dX12_kindAt_148 : decode cX12_kindAt 148 = .ok (.if_icmp .ne 7, 3) := by decide +kernel
theorem dX12_kindAt_151 : decode cX12_kindAt 151 = .ok (.iconst 1, 1) := by decide +kernel
theorem dX12_kindAt_152 : decode cX12_kindAt 152 = .ok (.goto 4, 3) := by decide +kernel
theorem dX12_kindAt_155 : decode cX12_kindAt 155 = .ok (.iconst 0, 1) := by decide +kernel
theorem dX12_kindAt_156 : decode cX12_kindAt 156 = .ok (.istore 5, 2) := by decide +kernel
theorem dX12_kindAt_158 : decode cX12_kindAt 158 = .ok (.aload_n 0, 1) := by decide +kernel
theorem dX12_kindAt_159 : decode cX12_kindAt 159 = .ok (.getfield 23, 3) := by decide +kernel
theorem dX12_kindAt_162 : decode cX12_kindAt 162 = .ok (.iload_n 2, 1) := by decide +kernel
theorem dX12_kindAt_163 : decode cX12_kindAt 163 = .ok (.iload 5, 2) := by decide +kernel
theorem dX12_kindAt_165 : decode cX12_kindAt 165 = .ok (.ifCond .eq 7, 3) := by decide +kernel
theorem dX12_kindAt_168 : decode cX12_kindAt 168 = .ok (.iconst 2, 1) := by decide +kernel
theorem dX12_kindAt_169 : decode cX12_kindAt 169 = .ok (.goto 4, 3) := by decide +kernel
theorem dX12_kindAt_172 : decode cX12_kindAt 172 = .ok (.iconst 1, 1) := by decide +kernel
theorem dX12_kindAt_173 : decode cX12_kindAt 173 = .ok (.iastore, 1) := by decide +kernel
theorem dX12_kindAt_174 : decode cX12_kindAt 174 = .ok (.iload 5, 2) := by decide +kernel
theorem dX12_kindAt_176 : decode cX12_kindAt 176 = .ok (.ifCond .eq 19, 3) := by decide +kernel
theorem dX12_kindAt_179 : decode cX12_kindAt 179 = .ok (.iload_n 3, 1) := by decide +kernel
theorem dX12_kindAt_180 : decode cX12_kindAt 180 = .ok (.bipush 60, 2) := by decide +kernel
theorem dX12_kindAt_182 : decode cX12_kindAt 182 = .ok (.if_icmp .ne 9, 3) := by decide +kernel
theorem dX12_kindAt_185 : decode cX12_kindAt 185 = .ok (.sipush 300, 3) := by decide +kernel
theorem dX12_kindAt_188 : decode cX12_kindAt 188 = .ok (.goto 6, 3) := by decide +kernel
theorem dX12_kindAt_191 : decode cX12_kindAt 191 = .ok (.sipush 301, 3) := by decide +kernel
theorem dX12_kindAt_194 : decode cX12_kindAt 194 = .ok (.ireturn, 1) := by decide +kernel
theorem dX12_kindAt_195 : decode cX12_kindAt 195 = .ok (.iload_n 3, 1) := by decide +kernel
theorem dX12_kindAt_196 : decode cX12_kindAt 196 = .ok (.ifCond .le 27, 3) := by decide +kernel
theorem dX12_kindAt_199 : decode cX12_kindAt 199 = .ok (.iload_n 3, 1) := by decide +kernel
theorem dX12_kindAt_200 : decode cX12_kindAt 200 = .ok (.sipush 128, 3) := by decide +kernel
theorem dX12_kindAt_203 : decode cX12_kindAt 203 = .ok (.if_icmp .ge 20, 3) := by decide +kernel
theorem dX12_kindAt_206 : decode cX12_kindAt 206 = .ok (.ldc 93, 2) := by decide +kernel
theorem dX12_kindAt_208 : decode cX12_kindAt 208 = .ok (.iload_n 3, 1) := by decide +kernel
theorem dX12_kindAt_209 : decode cX12_kindAt 209 = .ok (.i2c, 1) := by decide +kernel
theorem dX12_kindAt_210 : decode cX12_kindAt 210 = .ok (.invokevirtual 95, 3) := by decide +kernel
theorem dX12_kindAt_213 : decode cX12_kindAt 213 = .ok (.ifCond .lt 10, 3) := by decide +kernel
theorem dX12_kindAt_216 : decode cX12_kindAt 216 = .ok (.bipush 50, 2) := by decide +kernel
theorem dX12_kindAt_218 : decode cX12_kindAt 218 = .ok (.iload_n 3, 1) := by decide +kernel
theorem dX12_kindAt_219 : decode cX12_kindAt 219 = .ok (.iadd, 1) := by decide +kernel
theorem dX12_kindAt_220 : decode cX12_kindAt 220 = .ok (.goto 6, 3) := by decide +kernel
theorem dX12_kindAt_223 : decode cX12_kindAt 223 = .ok (.sipush 901, 3) := by decide +kernel
theorem dX12_kindAt_226 : decode cX12_kindAt 226 = .ok (.ireturn, 1) := by decide +kernel
set_option maxRecDepth 20000 in
theorem ggX12_word_J0_length_8abf5 : GoodIn wsX12_word wsJ0_length_8abf5 := goodIn_r _ [7, 8, 9, 10, 11, 6, 12, 13, 14] (by decide +kernel) (by decide +kernel)
set_option maxRecDepth 20000 in
theorem gX12_word_J0_length_8abf5 : GoodIn wsX12_word (wsV RX12 104 RJ0 yJ0_length_8abf5 wsJ0_length_8abf5) := goodIn_app (goodIn_of _ (by decide +kernel)) ggX12_word_J0_length_8abf5
set_option maxRecDepth 20000 in
theorem ggX12_word_J0_charAt_5068e : GoodIn wsX12_word wsJ0_charAt_5068e := goodIn_r _ [18, 8, 19, 20, 21, 6, 22, 13, 14, 23, 24, 25, 26, 27, 28, 29, 30, 31, 32, 33, 34, 35, 36, 37, 38, 39, 40, 41, 42, 43, 44, 45, 46, 47, 48, 49, 50, 51] (by decide +kernel) (by decide +kernel)
set_option maxRecDepth 20000 in
theorem gX12_word_J0_charAt_5068e : GoodIn wsX12_word (wsV RX12 108 RJ0 yJ0_charAt_5068e wsJ0_charAt_5068e) := goodIn_app (goodIn_of _ (by decide +kernel)) ggX12_word_J0_charAt_5068e
theorem dX12_word_0 : decode cX12_word 0 = .ok (.iconst 0, 1) := by decide +kernel
theorem dX12_word_1 : decode cX12_word 1 = .ok (.istore_n 3, 1) := by decide +kernel
theorem dX12_word_2 : decode cX12_word 2 = .ok (.iload_n 3, 1) := by decide +kernel
theorem dX12_word_3 : decode cX12_word 3 = .ok (.getstatic 100, 3) := by decide +kernel
theorem dX12_word_6 : decode cX12_word 6 = .ok (.arraylength, 1) := by decide +kernel
theorem dX12_word_7 : decode cX12_word 7 = .ok (.if_icmp .ge 84, 3) := by decide +kernel
theorem dX12_word_10 : decode cX12_word 10 = .ok (.getstatic 100, 3) := by decide +kernel
theorem dX12_word_13 : decode cX12_word 13 = .ok (.iload_n 3, 1) := by decide +kernel
theorem dX12_word_14 : decode cX12_word 14 = .ok (.aaload, 1) := by decide +kernel
theorem dX12_word_15 : decode cX12_word 15 = .ok (.invokevirtual 104, 3) := by decide +kernel
theorem dX12_word_18 : decode cX12_word 18 = .ok (.iload_n 2, 1) := by decide +kernel
theorem dX12_word_19 : decode cX12_word 19 = .ok (.if_icmp .ne 7, 3) := by decide +kernel
theorem dX12_word_22 : decode cX12_word 22 = .ok (.iconst 1, 1) := by decide +kernel
theorem dX12_word_23 : decode cX12_word 23 = .ok (.goto 4, 3) := by decide +kernel
theorem dX12_word_26 : decode cX12_word 26 = .ok (.iconst 0, 1) := by decide +kernel
theorem dX12_word_27 : decode cX12_word 27 = .ok (.istore 4, 2) := by decide +kernel
theorem dX12_word_29 : decode cX12_word 29 = .ok (.iconst 0, 1) := by decide +kernel
theorem dX12_word_30 : decode cX12_word 30 = .ok (.istore 5, 2) := by decide +kernel
theorem dX12_word_32 : decode cX12_word 32 = .ok (.iload 4, 2) := by decide +kernel
theorem dX12_word_34 : decode cX12_word 34 = .ok (.ifCond .eq 44, 3) := by decide +kernel
theorem dX12_word_37 : decode cX12_word 37 = .ok (.iload 5, 2) := by decide +kernel
theorem dX12_word_39 : decode cX12_word 39 = .ok (.iload_n 2, 1) := by decide +kernel
theorem dX12_word_40 : decode cX12_word 40 = .ok (.if_icmp .ge 38, 3) := by decide +kernel
theorem dX12_word_43 : decode cX12_word 43 = .ok (.getstatic 100, 3) := by decide +kernel
theorem dX12_word_46 : decode cX12_word 46 = .ok (.iload_n 3, 1) := by decide +kernel
theorem dX12_word_47 : decode cX12_word 47 = .ok (.aaload, 1) := by decide +kernel
theorem dX12_word_48 : decode cX12_word 48 = .ok (.iload 5, 2) := by decide +kernel
theorem dX12_word_50 : decode cX12_word 50 = .ok (.invokevirtual 108, 3) := by decide +kernel
theorem dX12_word_53 : decode cX12_word 53 = .ok (.aload_n 0, 1) := by decide +kernel
theorem dX12_word_54 : decode cX12_word 54 = .ok (.getfield 9, 3) := by decide +kernel
theorem dX12_word_57 : decode cX12_word 57 = .ok (.iload_n 1, 1) := by decide +kernel
theorem dX12_word_58 : decode cX12_word 58 = .ok (.iload 5, 2) := by decide +kernel
theorem dX12_word_60 : decode cX12_word 60 = .ok (.iadd, 1) := by decide +kernel
theorem dX12_word_61 : decode cX12_word 61 = .ok (.iaload, 1) := by decide +kernel
theorem dX12_word_62 : decode cX12_word 62 = .ok (.if_icmp .ne 7, 3) := by decide +kernel
theorem dX12_word_65 : decode cX12_word 65 = .ok (.iconst 1, 1) := by decide +kernel
theorem dX12_word_66 : decode cX12_word 66 = .ok (.goto 4, 3) := by decide +kernel
theorem dX12_word_69 : decode cX12_word 69 = .ok (.iconst 0, 1) := by decide +kernel
theorem dX12_word_70 : decode cX12_word 70 = .ok (.istore 4, 2) := by decide +kernel
theorem dX12_word_72 : decode cX12_word 72 = .ok (.iinc 5 1, 3) := by decide +kernel
theorem dX12_word_75 : decode cX12_word 75 = .ok (.goto (-43), 3) := by decide +kernel
theorem dX12_word_78 : decode cX12_word 78 = .ok (.iload 4, 2) := by decide +kernel
theorem dX12_word_80 : decode cX12_word 80 = .ok (.ifCond .eq 5, 3) := by decide +kernel
theorem dX12_word_83 : decode cX12_word 83 = .ok (.iload_n 3, 1) := by decide +kernel
theorem dX12_word_84 : decode cX12_word 84 = .ok (.ireturn, 1) := by decide +kernel
theorem dX12_word_85 : decode cX12_word 85 = .ok (.iinc 3 1, 3) := by decide +kernel
theorem dX12_word_88 : decode cX12_word 88 = .ok (.goto (-86), 3) := by decide +kernel
theorem dX12_word_91 : decode cX12_word 91 = .ok (.bipush 40, 2) := by decide +kernel
theorem dX12_word_93 : decode cX12_word 93 = .ok (.ireturn, 1) := by decide +kernel
set_option maxRecDepth 20000 in
theorem ggX12_cut_X12_byteOf : GoodIn wsX12_cut wsX12_byteOf := goodIn_r _ [10, 11, 12, 138, 139, 140, 141, 142, 143, 144, 145, 146, 147, 148, 149, 150, 151, 152] (by decide +kernel) (by decide +kernel)
set_option maxRecDepth 20000 in
theorem gX12_cut_X12_byteOf : GoodIn wsX12_cut (wsV RX12 79 RX12 yX12_byteOf wsX12_byteOf) := goodIn_app (goodIn_of _ (by decide +kernel)) ggX12_cut_X12_byteOf
set_option maxRecDepth 20000 in
theorem ggX12_cut_X12_kindAt_c1 : GoodIn wsX12_cut (.code yX12_kindAt cX12_kindAt 6 (some .int) :: wsX12_kindAt_r1) := goodIn_r _ [16, 5, 6, 7, 8, 9, 10, 11, 12, 17, 18, 19, 20, 21, 22, 23, 24, 25, 26, 27, 28, 29, 30, 31, 32] (by decide +kernel) (by decide +kernel)
set_option maxRecDepth 20000 in
theorem ggX12_cut_X12_kindAt_c2 : GoodIn wsX12_cut wsX12_kindAt_r2 := goodIn_r _ [33, 34, 35, 36, 37, 38, 39, 40, 41, 42, 43, 44, 45, 46, 47, 48, 49, 50, 51, 52, 53, 54, 55, 56] (by decide +kernel) (by decide +kernel)
set_option maxRecDepth 20000 in
theorem ggX12_cut_X12_kindAt_c3 : GoodIn wsX12_cut wsX12_kindAt_r3 := goodIn_r _ [57, 58, 59, 60, 61, 62, 63, 64, 65, 66, 67, 68, 69, 70, 71, 72, 73, 74, 75, 76, 77, 78, 79, 80] (by decide +kernel) (by decide +kernel)
set_option maxRecDepth 20000 in
theorem ggX12_cut_X12_kindAt_c4 : GoodIn wsX12_cut wsX12_kindAt_r4 := goodIn_r _ [81, 82, 83, 84, 85, 86, 87, 88, 89, 90, 91, 92, 93, 94, 95, 96, 97, 98, 99, 100, 101, 102, 103, 104] (by decide +kernel) (by decide +kernel)
set_option maxRecDepth 20000 in
theorem ggX12_cut_X12_kindAt_c5 : GoodIn wsX12_cut wsX12_kindAt_r5 := goodIn_r _ [105, 106, 107, 108, 109, 110, 111, 112, 113, 114, 115, 116, 117, 118, 119, 120, 121, 122, 123, 124, 125, 126, 127, 128] (by decide +kernel) (by decide +kernel)
set_option maxRecDepth 20000 in
theorem ggX12_cut_X12_kindAt_c6 : GoodIn wsX12_cut wsX12_kindAt_r6 := goodIn_r _ [129, 130, 131, 132, 133, 134, 135, 136, 137] (by decide +kernel) (by decide +kernel)
set_option maxRecDepth 20000 in
theorem ggX12_cut_X12_kindAt_c7 : GoodIn wsX12_cut wsX120 := goodIn_r _ [138, 139, 140, 141, 142, 143, 144, 145, 146, 147, 148, 149, 150, 151, 152] (by decide +kernel) (by decide +kernel)
set_option maxRecDepth 20000 in
theorem ggX12_cut_X12_kindAt : GoodIn wsX12_cut wsX12_kindAt := (goodIn_ca (goodIn_ca ggX12_cut_X12_kindAt_c1 (goodIn_app ggX12_cut_X12_kindAt_c2 (goodIn_app ggX12_cut_X12_kindAt_c3 (goodIn_app ggX12_cut_X12_kindAt_c4 (goodIn_app ggX12_cut_X12_kindAt_c5 ggX12_cut_X12_kindAt_c6))))) ggX12_cut_X12_kindAt_c7)
set_option maxRecDepth 20000 in
theorem gX12_cut_X12_kindAt : GoodIn wsX12_cut (wsV RX12 112 RX12 yX12_kindAt wsX12_kindAt) := goodIn_app (goodIn_of _ (by decide +kernel)) ggX12_cut_X12_kindAt
theorem dX12_cut_0 : decode cX12_cut 0 = .ok (.iconst 0, 1) := by decide +kernel
theorem dX12_cut_1 : decode cX12_cut 1 = .ok (.istore_n 1, 1) := by decide +kernel
theorem dX12_cut_2 : decode cX12_cut 2 = .ok (.iconst 0, 1) := by decide +kernel
theorem dX12_cut_3 : decode cX12_cut 3 = .ok (.istore_n 2, 1) := by decide +kernel
theorem dX12_cut_4 : decode cX12_cut 4 = .ok (.iload_n 2, 1) := by decide +kernel
theorem dX12_cut_5 : decode cX12_cut 5 = .ok (.sipush 400, 3) := by decide +kernel
theorem dX12_cut_8 : decode cX12_cut 8 = .ok (.if_icmp .gt 118, 3) := by decide +kernel
theorem dX12_cut_11 : decode cX12_cut 11 = .ok (.aload_n 0, 1) := by decide +kernel
theorem dX12_cut_12 : decode cX12_cut 12 = .ok (.iload_n 1, 1) := by decide +kernel
theorem dX12_cut_13 : decode cX12_cut 13 = .ok (.invokevirtual 79, 3) := by decide +kernel
theorem dX12_cut_16 : decode cX12_cut 16 = .ok (.bipush 32, 2) := by decide +kernel
theorem dX12_cut_18 : decode cX12_cut 18 = .ok (.if_icmp .eq 13, 3) := by decide +kernel
theorem dX12_cut_21 : decode cX12_cut 21 = .ok (.aload_n 0, 1) := by decide +kernel
theorem dX12_cut_22 : decode cX12_cut 22 = .ok (.iload_n 1, 1) := by decide +kernel
theorem dX12_cut_23 : decode cX12_cut 23 = .ok (.invokevirtual 79, 3) := by decide +kernel
theorem dX12_cut_26 : decode cX12_cut 26 = .ok (.bipush 10, 2) := by decide +kernel
theorem dX12_cut_28 : decode cX12_cut 28 = .ok (.if_icmp .ne 9, 3) := by decide +kernel
theorem dX12_cut_31 : decode cX12_cut 31 = .ok (.iinc 1 1, 3) := by decide +kernel
theorem dX12_cut_34 : decode cX12_cut 34 = .ok (.goto (-23), 3) := by decide +kernel
theorem dX12_cut_37 : decode cX12_cut 37 = .ok (.aload_n 0, 1) := by decide +kernel
theorem dX12_cut_38 : decode cX12_cut 38 = .ok (.getfield 20, 3) := by decide +kernel
theorem dX12_cut_41 : decode cX12_cut 41 = .ok (.iload_n 2, 1) := by decide +kernel
theorem dX12_cut_42 : decode cX12_cut 42 = .ok (.iload_n 1, 1) := by decide +kernel
theorem dX12_cut_43 : decode cX12_cut 43 = .ok (.iastore, 1) := by decide +kernel
theorem dX12_cut_44 : decode cX12_cut 44 = .ok (.aload_n 0, 1) := by decide +kernel
theorem dX12_cut_45 : decode cX12_cut 45 = .ok (.getfield 26, 3) := by decide +kernel
theorem dX12_cut_48 : decode cX12_cut 48 = .ok (.iload_n 2, 1) := by decide +kernel
theorem dX12_cut_49 : decode cX12_cut 49 = .ok (.iconst 0, 1) := by decide +kernel
theorem dX12_cut_50 : decode cX12_cut 50 = .ok (.iastore, 1) := by decide +kernel
theorem dX12_cut_51 : decode cX12_cut 51 = .ok (.aload_n 0, 1) := by decide +kernel
theorem dX12_cut_52 : decode cX12_cut 52 = .ok (.getfield 29, 3) := by decide +kernel
theorem dX12_cut_55 : decode cX12_cut 55 = .ok (.iload_n 2, 1) := by decide +kernel
theorem dX12_cut_56 : decode cX12_cut 56 = .ok (.iconst 0, 1) := by decide +kernel
theorem dX12_cut_57 : decode cX12_cut 57 = .ok (.iastore, 1) := by decide +kernel
theorem dX12_cut_58 : decode cX12_cut 58 = .ok (.aload_n 0, 1) := by decide +kernel
theorem dX12_cut_59 : decode cX12_cut 59 = .ok (.getfield 17, 3) := by decide +kernel
theorem dX12_cut_62 : decode cX12_cut 62 = .ok (.iload_n 2, 1) := by decide +kernel
theorem dX12_cut_63 : decode cX12_cut 63 = .ok (.aload_n 0, 1) := by decide +kernel
theorem dX12_cut_64 : decode cX12_cut 64 = .ok (.iload_n 1, 1) := by decide +kernel
theorem dX12_cut_65 : decode cX12_cut 65 = .ok (.iload_n 2, 1) := by decide +kernel
theorem dX12_cut_66 : decode cX12_cut 66 = .ok (.invokevirtual 112, 3) := by decide +kernel
theorem dX12_cut_69 : decode cX12_cut 69 = .ok (.iastore, 1) := by decide +kernel
theorem dX12_cut_70 : decode cX12_cut 70 = .ok (.iload_n 2, 1) := by decide +kernel
theorem dX12_cut_71 : decode cX12_cut 71 = .ok (.sipush 400, 3) := by decide +kernel
theorem dX12_cut_74 : decode cX12_cut 74 = .ok (.if_icmp .ne 24, 3) := by decide +kernel
theorem dX12_cut_77 : decode cX12_cut 77 = .ok (.aload_n 0, 1) := by decide +kernel
theorem dX12_cut_78 : decode cX12_cut 78 = .ok (.getfield 17, 3) := by decide +kernel
theorem dX12_cut_81 : decode cX12_cut 81 = .ok (.iload_n 2, 1) := by decide +kernel
theorem dX12_cut_82 : decode cX12_cut 82 = .ok (.iaload, 1) := by decide +kernel
theorem dX12_cut_83 : decode cX12_cut 83 = .ok (.sipush 900, 3) := by decide +kernel
theorem dX12_cut_86 : decode cX12_cut 86 = .ok (.if_icmp .eq 12, 3) := by decide +kernel
theorem dX12_cut_89 : decode cX12_cut 89 = .ok (.aload_n 0, 1) := by decide +kernel
theorem dX12_cut_90 : decode cX12_cut 90 = .ok (.getfield 17, 3) := by decide +kernel
theorem dX12_cut_93 : decode cX12_cut 93 = .ok (.iload_n 2, 1) := by decide +kernel
theorem dX12_cut_94 : decode cX12_cut 94 = .ok (.sipush 901, 3) := by decide +kernel
theorem dX12_cut_97 : decode cX12_cut 97 = .ok (.iastore, 1) := by decide +kernel
theorem dX12_cut_98 : decode cX12_cut 98 = .ok (.aload_n 0, 1) := by decide +kernel
theorem dX12_cut_99 : decode cX12_cut 99 = .ok (.getfield 17, 3) := by decide +kernel
theorem dX12_cut_102 : decode cX12_cut 102 = .ok (.iload_n 2, 1) := by decide +kernel
theorem dX12_cut_103 : decode cX12_cut 103 = .ok (.iaload, 1) := by decide +kernel
theorem dX12_cut_104 : decode cX12_cut 104 = .ok (.sipush 900, 3) := by decide +kernel
theorem dX12_cut_107 : decode cX12_cut 107 = .ok (.if_icmp .lt 4, 3) := by decide +kernel
theorem dX12_cut_110 : decode cX12_cut 110 = .ok (.return_, 1) := by decide +kernel
theorem dX12_cut_111 : decode cX12_cut 111 = .ok (.iload_n 1, 1) := by decide +kernel
theorem dX12_cut_112 : decode cX12_cut 112 = .ok (.aload_n 0, 1) := by decide +kernel
theorem dX12_cut_113 : decode cX12_cut 113 = .ok (.getfield 23, 3) := by decide +kernel
theorem dX12_cut_116 : decode cX12_cut 116 = .ok (.iload_n 2, 1) := by decide +kernel
theorem dX12_cut_117 : decode cX12_cut 117 = .ok (.iaload, 1) := by decide +kernel
theorem dX12_cut_118 : decode cX12_cut 118 = .ok (.iadd, 1) := by decide +kernel
theorem dX12_cut_119 : decode cX12_cut 119 = .ok (.istore_n 1, 1) := by decide +kernel
theorem dX12_cut_120 : decode cX12_cut 120 = .ok (.iinc 2 1, 3) := by decide +kernel
theorem dX12_cut_123 : decode cX12_cut 123 = .ok (.goto (-119), 3) := by decide +kernel
theorem dX12_cut_126 : decode cX12_cut 126 = .ok (.return_, 1) := by decide +kernel
theorem dX12_is_0 : decode cX12_is 0 = .ok (.aload_n 0, 1) := by decide +kernel
theorem dX12_is_1 : decode cX12_is 1 = .ok (.getfield 17, 3) := by decide +kernel
theorem dX12_is_4 : decode cX12_is 4 = .ok (.aload_n 0, 1) := by decide +kernel
theorem dX12_is_5 : decode cX12_is 5 = .ok (.getfield 115, 3) := by decide +kernel
theorem dX12_is_8 : decode cX12_is 8 = .ok (.iaload, 1) := by decide +kernel
theorem dX12_is_9 : decode cX12_is 9 = .ok (.iload_n 1, 1) := by decide +kernel
theorem dX12_is_10 : decode cX12_is 10 = .ok (.if_icmp .ne 7, 3) := by decide +kernel
theorem dX12_is_13 : decode cX12_is 13 = .ok (.iconst 1, 1) := by decide +kernel
theorem dX12_is_14 : decode cX12_is 14 = .ok (.goto 4, 3) := by decide +kernel
theorem dX12_is_17 : decode cX12_is 17 = .ok (.iconst 0, 1) := by decide +kernel
theorem dX12_is_18 : decode cX12_is 18 = .ok (.ireturn, 1) := by decide +kernel
theorem dX12_isSign_0 : decode cX12_isSign 0 = .ok (.aload_n 0, 1) := by decide +kernel
theorem dX12_isSign_1 : decode cX12_isSign 1 = .ok (.getfield 17, 3) := by decide +kernel
theorem dX12_isSign_4 : decode cX12_isSign 4 = .ok (.aload_n 0, 1) := by decide +kernel
theorem dX12_isSign_5 : decode cX12_isSign 5 = .ok (.getfield 115, 3) := by decide +kernel
theorem dX12_isSign_8 : decode cX12_isSign 8 = .ok (.iaload, 1) := by decide +kernel
theorem dX12_isSign_9 : decode cX12_isSign 9 = .ok (.bipush 50, 2) := by decide +kernel
theorem dX12_isSign_11 : decode cX12_isSign 11 = .ok (.iload_n 1, 1) := by decide +kernel
theorem dX12_isSign_12 : decode cX12_isSign 12 = .ok (.iadd, 1) := by decide +kernel
theorem dX12_isSign_13 : decode cX12_isSign 13 = .ok (.if_icmp .ne 7, 3) := by decide +kernel
theorem dX12_isSign_16 : decode cX12_isSign 16 = .ok (.iconst 1, 1) := by decide +kernel
theorem dX12_isSign_17 : decode cX12_isSign 17 = .ok (.goto 4, 3) := by decide +kernel
theorem dX12_isSign_20 : decode cX12_isSign 20 = .ok (.iconst 0, 1) := by decide +kernel
theorem dX12_isSign_21 : decode cX12_isSign 21 = .ok (.ireturn, 1) := by decide +kernel
set_option maxRecDepth 20000 in
theorem ggX12_eat_X12_is : GoodIn wsX12_eat wsX12_is := goodIn_r _ [6, 7, 1, 8, 9, 10, 11, 12, 13, 14, 15, 16, 17, 18, 19, 20, 21, 22] (by decide +kernel) (by decide +kernel)
set_option maxRecDepth 20000 in
theorem gX12_eat_X12_is : GoodIn wsX12_eat (wsV RX12 118 RX12 yX12_is wsX12_is) := goodIn_app (goodIn_of _ (by decide +kernel)) ggX12_eat_X12_is
theorem dX12_eat_0 : decode cX12_eat 0 = .ok (.aload_n 0, 1) := by decide +kernel
theorem dX12_eat_1 : decode cX12_eat 1 = .ok (.iload_n 1, 1) := by decide +kernel
theorem dX12_eat_2 : decode cX12_eat 2 = .ok (.invokevirtual 118, 3) := by decide +kernel
theorem dX12_eat_5 : decode cX12_eat 5 = .ok (.ifCond .ne 5, 3) := by decide +kernel
theorem dX12_eat_8 : decode cX12_eat 8 = .ok (.iconst 0, 1) := by decide +kernel
theorem dX12_eat_9 : decode cX12_eat 9 = .ok (.ireturn, 1) := by decide +kernel
theorem dX12_eat_10 : decode cX12_eat 10 = .ok (.aload_n 0, 1) := by decide +kernel
theorem dX12_eat_11 : decode cX12_eat 11 = .ok (.dup, 1) := by decide +kernel
theorem dX12_eat_12 : decode cX12_eat 12 = .ok (.getfield 115, 3) := by decide +kernel
theorem dX12_eat_15 : decode cX12_eat 15 = .ok (.iconst 1, 1) := by decide +kernel
theorem dX12_eat_16 : decode cX12_eat 16 = .ok (.iadd, 1) := by decide +kernel
theorem dX12_eat_17 : decode cX12_eat 17 = .ok (.putfield 115, 3) := by decide +kernel
theorem dX12_eat_20 : decode cX12_eat 20 = .ok (.iconst 1, 1) := by decide +kernel
theorem dX12_eat_21 : decode cX12_eat 21 = .ok (.ireturn, 1) := by decide +kernel
set_option maxRecDepth 20000 in
theorem ggX12_eatSign_X12_eat : GoodIn wsX12_eatSign wsX12_eat := goodIn_r _ [5, 6, 7, 8, 9, 4, 10, 11, 12, 13, 14, 15, 16, 17, 18, 19, 20, 21, 22, 23, 24, 25, 26] (by decide +kernel) (by decide +kernel)
set_option maxRecDepth 20000 in
theorem gX12_eatSign_X12_eat : GoodIn wsX12_eatSign (wsV RX12 121 RX12 yX12_eat wsX12_eat) := goodIn_app (goodIn_of _ (by decide +kernel)) ggX12_eatSign_X12_eat
theorem dX12_eatSign_0 : decode cX12_eatSign 0 = .ok (.aload_n 0, 1) := by decide +kernel
theorem dX12_eatSign_1 : decode cX12_eatSign 1 = .ok (.bipush 50, 2) := by decide +kernel
theorem dX12_eatSign_3 : decode cX12_eatSign 3 = .ok (.iload_n 1, 1) := by decide +kernel
theorem dX12_eatSign_4 : decode cX12_eatSign 4 = .ok (.iadd, 1) := by decide +kernel
theorem dX12_eatSign_5 : decode cX12_eatSign 5 = .ok (.invokevirtual 121, 3) := by decide +kernel
theorem dX12_eatSign_8 : decode cX12_eatSign 8 = .ok (.ireturn, 1) := by decide +kernel
set_option maxRecDepth 20000 in
theorem ggX12_eatAs_X12_eat : GoodIn wsX12_eatAs wsX12_eat := goodIn_r _ [7, 2, 8, 9, 10, 6, 11, 12, 13, 14, 15, 16, 17, 18, 19, 20, 21, 22, 23, 24, 25, 26, 27] (by decide +kernel) (by decide +kernel)
set_option maxRecDepth 20000 in
theorem gX12_eatAs_X12_eat : GoodIn wsX12_eatAs (wsV RX12 121 RX12 yX12_eat wsX12_eat) := goodIn_app (goodIn_of _ (by decide +kernel)) ggX12_eatAs_X12_eat
theorem dX12_eatAs_0 : decode cX12_eatAs 0 = .ok (.aload_n 0, 1) := by decide +kernel
theorem dX12_eatAs_1 : decode cX12_eatAs 1 = .ok (.getfield 26, 3) := by decide +kernel
theorem dX12_eatAs_4 : decode cX12_eatAs 4 = .ok (.aload_n 0, 1) := by decide +kernel
theorem dX12_eatAs_5 : decode cX12_eatAs 5 = .ok (.getfield 115, 3) := by decide +kernel
theorem dX12_eatAs_8 : decode cX12_eatAs 8 = .ok (.iload_n 2, 1) := by decide +kernel
theorem dX12_eatAs_9 : decode cX12_eatAs 9 = .ok (.iastore, 1) := by decide +kernel
theorem dX12_eatAs_10 : decode cX12_eatAs 10 = .ok (.aload_n 0, 1) := by decide +kernel
theorem dX12_eatAs_11 : decode cX12_eatAs 11 = .ok (.iload_n 1, 1) := by decide +kernel
theorem dX12_eatAs_12 : decode cX12_eatAs 12 = .ok (.invokevirtual 121, 3) := by decide +kernel
theorem dX12_eatAs_15 : decode cX12_eatAs 15 = .ok (.ireturn, 1) := by decide +kernel
theorem dX12_put_0 : decode cX12_put 0 = .ok (.aload_n 0, 1) := by decide +kernel
theorem dX12_put_1 : decode cX12_put 1 = .ok (.getfield 39, 3) := by decide +kernel
theorem dX12_put_4 : decode cX12_put 4 = .ok (.getfield 124, 3) := by decide +kernel
theorem dX12_put_7 : decode cX12_put 7 = .ok (.aload_n 0, 1) := by decide +kernel
theorem dX12_put_8 : decode cX12_put 8 = .ok (.getfield 39, 3) := by decide +kernel
theorem dX12_put_11 : decode cX12_put 11 = .ok (.getfield 127, 3) := by decide +kernel
theorem dX12_put_14 : decode cX12_put 14 = .ok (.iload_n 1, 1) := by decide +kernel
theorem dX12_put_15 : decode cX12_put 15 = .ok (.iastore, 1) := by decide +kernel
theorem dX12_put_16 : decode cX12_put 16 = .ok (.aload_n 0, 1) := by decide +kernel
theorem dX12_put_17 : decode cX12_put 17 = .ok (.getfield 39, 3) := by decide +kernel
theorem dX12_put_20 : decode cX12_put 20 = .ok (.dup, 1) := by decide +kernel
theorem dX12_put_21 : decode cX12_put 21 = .ok (.getfield 127, 3) := by decide +kernel
theorem dX12_put_24 : decode cX12_put 24 = .ok (.iconst 1, 1) := by decide +kernel
theorem dX12_put_25 : decode cX12_put 25 = .ok (.iadd, 1) := by decide +kernel
theorem dX12_put_26 : decode cX12_put 26 = .ok (.putfield 127, 3) := by decide +kernel
theorem dX12_put_29 : decode cX12_put 29 = .ok (.return_, 1) := by decide +kernel
set_option maxRecDepth 20000 in
theorem ggX12_isPlan_X12_is : GoodIn wsX12_isPlan wsX12_is := goodIn_r _ [5, 6, 7, 109, 110, 111, 112, 113, 114, 115, 116, 117, 118, 119, 120, 121, 122, 123] (by decide +kernel) (by decide +kernel)
set_option maxRecDepth 20000 in
theorem gX12_isPlan_X12_is : GoodIn wsX12_isPlan (wsV RX12 118 RX12 yX12_is wsX12_is) := goodIn_app (goodIn_of _ (by decide +kernel)) ggX12_isPlan_X12_is
set_option maxRecDepth 20000 in
theorem ggX12_isPlan_X12_isRuleLine : GoodIn wsX12_isPlan wsX12_isRuleLine := goodIn_r _ [11, 7, 12, 13, 14, 4, 15, 16, 17, 18, 19, 20, 1, 2, 3, 5, 6, 21, 22, 23, 24, 25, 26, 27, 28, 29, 30, 31, 109, 110, 111, 112, 113, 114, 115, 116, 117, 118, 119, 120, 121, 122, 123] (by decide +kernel) (by decide +kernel)
set_option maxRecDepth 20000 in
theorem gX12_isPlan_X12_isRuleLine : GoodIn wsX12_isPlan (wsV RX12 128 RX12 yX12_isRuleLine wsX12_isRuleLine) := goodIn_app (goodIn_of _ (by decide +kernel)) ggX12_isPlan_X12_isRuleLine
set_option maxRecDepth 20000 in
theorem ggX12_isPlan_X12_isAntLine : GoodIn wsX12_isPlan wsX12_isAntLine := goodIn_r _ [35, 7, 12, 13, 14, 4, 15, 16, 17, 18, 19, 20, 1, 2, 3, 5, 6, 21, 22, 23, 24, 25, 26, 27, 28, 29, 30, 31, 109, 110, 111, 112, 113, 114, 115, 116, 117, 118, 119, 120, 121, 122, 123] (by decide +kernel) (by decide +kernel)
set_option maxRecDepth 20000 in
theorem gX12_isPlan_X12_isAntLine : GoodIn wsX12_isPlan (wsV RX12 132 RX12 yX12_isAntLine wsX12_isAntLine) := goodIn_app (goodIn_of _ (by decide +kernel)) ggX12_isPlan_X12_isAntLine
set_option maxRecDepth 20000 in
theorem ggX12_isPlan_X12_isPaintLine : GoodIn wsX12_isPlan wsX12_isPaintLine := goodIn_r _ [39, 7, 12, 13, 14, 4, 15, 16, 17, 18, 19, 20, 1, 2, 3, 5, 6, 109, 110, 111, 112, 113, 114, 115, 116, 117, 118, 119, 120, 121, 122, 123] (by decide +kernel) (by decide +kernel)
set_option maxRecDepth 20000 in
theorem gX12_isPlan_X12_isPaintLine : GoodIn wsX12_isPlan (wsV RX12 135 RX12 yX12_isPaintLine wsX12_isPaintLine) := goodIn_app (goodIn_of _ (by decide +kernel)) ggX12_isPlan_X12_isPaintLine
set_option maxRecDepth 20000 in
theorem ggX12_isPlan_X12_isOrderLine_c1 : GoodIn wsX12_isPlan (.code yX12_isOrderLine cX12_isOrderLine 5 (some .boolean) :: wsX12_isOrderLine_r1) := goodIn_r _ [43, 16, 7, 44, 45, 46, 47, 48, 1, 2, 3, 4, 5, 6, 12, 13, 14, 15, 17, 18, 19, 20, 21, 22, 23] (by decide +kernel) (by decide +kernel)
set_option maxRecDepth 20000 in
theorem ggX12_isPlan_X12_isOrderLine_c2 : GoodIn wsX12_isPlan wsX12_isOrderLine_r2 := goodIn_r _ [24, 25, 26, 27, 28, 29, 30, 31, 49, 50, 51, 52, 53, 54, 55, 56, 57, 58, 59, 60, 61, 62, 63, 64] (by decide +kernel) (by decide +kernel)
set_option maxRecDepth 20000 in
theorem ggX12_isPlan_X12_isOrderLine_c3 : GoodIn wsX12_isPlan wsX12_isOrderLine_r3 := goodIn_r _ [65, 66, 67, 68, 69, 70, 71, 72, 73, 74, 75, 76, 77, 78, 79, 80, 81, 82, 83, 84, 85, 86, 87, 88] (by decide +kernel) (by decide +kernel)
set_option maxRecDepth 20000 in
theorem ggX12_isPlan_X12_isOrderLine_c4 : GoodIn wsX12_isPlan wsX12_isOrderLine_r4 := goodIn_r _ [89, 90, 91, 92, 93, 94, 95, 96, 97, 98, 99, 100, 101, 102, 103, 104, 105, 106, 107, 108] (by decide +kernel) (by decide +kernel)
set_option maxRecDepth 20000 in
theorem ggX12_isPlan_X12_isOrderLine_c5 : GoodIn wsX12_isPlan wsX120 := goodIn_r _ [109, 110, 111, 112, 113, 114, 115, 116, 117, 118, 119, 120, 121, 122, 123] (by decide +kernel) (by decide +kernel)
set_option maxRecDepth 20000 in
theorem ggX12_isPlan_X12_isOrderLine_c6 : GoodIn wsX12_isPlan wsX100 := goodIn_r _ [124, 125, 126, 127, 128, 129, 130, 131, 132, 133, 134, 135, 136, 137, 138, 139, 140, 141, 142, 143, 144, 145] (by decide +kernel) (by decide +kernel)
set_option maxRecDepth 20000 in
theorem ggX12_isPlan_X12_isOrderLine : GoodIn wsX12_isPlan wsX12_isOrderLine := (goodIn_ca (goodIn_ca (goodIn_ca ggX12_isPlan_X12_isOrderLine_c1 (goodIn_app ggX12_isPlan_X12_isOrderLine_c2 (goodIn_app ggX12_isPlan_X12_isOrderLine_c3 ggX12_isPlan_X12_isOrderLine_c4))) ggX12_isPlan_X12_isOrderLine_c5) ggX12_isPlan_X12_isOrderLine_c6)
set_option maxRecDepth 20000 in
theorem gX12_isPlan_X12_isOrderLine : GoodIn wsX12_isPlan (wsV RX12 138 RX12 yX12_isOrderLine wsX12_isOrderLine) := goodIn_app (goodIn_of _ (by decide +kernel)) ggX12_isPlan_X12_isOrderLine
set_option maxRecDepth 20000 in
theorem ggX12_isPlan_X12_eatSign : GoodIn wsX12_isPlan wsX12_eatSign := goodIn_r _ [77, 17, 18, 19, 4, 20, 7, 1, 2, 3, 5, 6, 109, 110, 111, 112, 113, 114, 115, 116, 117, 118, 119, 120, 121, 122, 123] (by decide +kernel) (by decide +kernel)
set_option maxRecDepth 20000 in
theorem gX12_isPlan_X12_eatSign : GoodIn wsX12_isPlan (wsV RX12 141 RX12 yX12_eatSign wsX12_eatSign) := goodIn_app (goodIn_of _ (by decide +kernel)) ggX12_isPlan_X12_eatSign
theorem dX12_isPlan_0 : decode cX12_isPlan 0 = .ok (.aload_n 0, 1) := by decide +kernel
theorem dX12_isPlan_1 : decode cX12_isPlan 1 = .ok (.sipush 900, 3) := by decide +kernel
theorem dX12_isPlan_4 : decode cX12_isPlan 4 = .ok (.invokevirtual 118, 3) := by decide +kernel
theorem dX12_isPlan_7 : decode cX12_isPlan 7 = .ok (.ifCond .ne 72, 3) := by decide +kernel
theorem dX12_isPlan_10 : decode cX12_isPlan 10 = .ok (.aload_n 0, 1) := by decide +kernel
theorem dX12_isPlan_11 : decode cX12_isPlan 11 = .ok (.iconst 0, 1) := by decide +kernel
theorem dX12_isPlan_12 : decode cX12_isPlan 12 = .ok (.invokevirtual 118, 3) := by decide +kernel
theorem dX12_isPlan_15 : decode cX12_isPlan 15 = .ok (.ifCond .eq 10, 3) := by decide +kernel
theorem dX12_isPlan_18 : decode cX12_isPlan 18 = .ok (.aload_n 0, 1) := by decide +kernel
theorem dX12_isPlan_19 : decode cX12_isPlan 19 = .ok (.invokevirtual 128, 3) := by decide +kernel
theorem dX12_isPlan_22 : decode cX12_isPlan 22 = .ok (.goto 38, 3) := by decide +kernel
theorem dX12_isPlan_25 : decode cX12_isPlan 25 = .ok (.aload_n 0, 1) := by decide +kernel
theorem dX12_isPlan_26 : decode cX12_isPlan 26 = .ok (.iconst 5, 1) := by decide +kernel
theorem dX12_isPlan_27 : decode cX12_isPlan 27 = .ok (.invokevirtual 118, 3) := by decide +kernel
theorem dX12_isPlan_30 : decode cX12_isPlan 30 = .ok (.ifCond .eq 10, 3) := by decide +kernel
theorem dX12_isPlan_33 : decode cX12_isPlan 33 = .ok (.aload_n 0, 1) := by decide +kernel
theorem dX12_isPlan_34 : decode cX12_isPlan 34 = .ok (.invokevirtual 132, 3) := by decide +kernel
theorem dX12_isPlan_37 : decode cX12_isPlan 37 = .ok (.goto 23, 3) := by decide +kernel
theorem dX12_isPlan_40 : decode cX12_isPlan 40 = .ok (.aload_n 0, 1) := by decide +kernel
theorem dX12_isPlan_41 : decode cX12_isPlan 41 = .ok (.bipush 13, 2) := by decide +kernel
theorem dX12_isPlan_43 : decode cX12_isPlan 43 = .ok (.invokevirtual 118, 3) := by decide +kernel
theorem dX12_isPlan_46 : decode cX12_isPlan 46 = .ok (.ifCond .eq 10, 3) := by decide +kernel
theorem dX12_isPlan_49 : decode cX12_isPlan 49 = .ok (.aload_n 0, 1) := by decide +kernel
theorem dX12_isPlan_50 : decode cX12_isPlan 50 = .ok (.invokevirtual 135, 3) := by decide +kernel
theorem dX12_isPlan_53 : decode cX12_isPlan 53 = .ok (.goto 7, 3) := by decide +kernel
theorem dX12_isPlan_56 : decode cX12_isPlan 56 = .ok (.aload_n 0, 1) := by decide +kernel
theorem dX12_isPlan_57 : decode cX12_isPlan 57 = .ok (.invokevirtual 138, 3) := by decide +kernel
theorem dX12_isPlan_60 : decode cX12_isPlan 60 = .ok (.istore_n 1, 1) := by decide +kernel
theorem dX12_isPlan_61 : decode cX12_isPlan 61 = .ok (.iload_n 1, 1) := by decide +kernel
theorem dX12_isPlan_62 : decode cX12_isPlan 62 = .ok (.ifCond .eq 12, 3) := by decide +kernel
theorem dX12_isPlan_65 : decode cX12_isPlan 65 = .ok (.aload_n 0, 1) := by decide +kernel
theorem dX12_isPlan_66 : decode cX12_isPlan 66 = .ok (.bipush 59, 2) := by decide +kernel
theorem dX12_isPlan_68 : decode cX12_isPlan 68 = .ok (.invokevirtual 141, 3) := by decide +kernel
theorem dX12_isPlan_71 : decode cX12_isPlan 71 = .ok (.ifCond .ne 5, 3) := by decide +kernel
theorem dX12_isPlan_74 : decode cX12_isPlan 74 = .ok (.iconst 0, 1) := by decide +kernel
theorem dX12_isPlan_75 : decode cX12_isPlan 75 = .ok (.ireturn, 1) := by decide +kernel
theorem dX12_isPlan_76 : decode cX12_isPlan 76 = .ok (.goto (-76), 3) := by decide +kernel
theorem dX12_isPlan_79 : decode cX12_isPlan 79 = .ok (.iconst 1, 1) := by decide +kernel
theorem dX12_isPlan_80 : decode cX12_isPlan 80 = .ok (.ireturn, 1) := by decide +kernel
set_option maxRecDepth 20000 in
theorem ggX12_isWordOf_X12_isIn : GoodIn wsX12_isWordOf wsX12_isIn := goodIn_r _ [6] (by decide +kernel) (by decide +kernel)
set_option maxRecDepth 20000 in
theorem gX12_isWordOf_X12_isIn : GoodIn wsX12_isWordOf (va_wsS RX12 60 yX12_isIn wsX12_isIn) := goodIn_app (goodIn_of _ (by decide +kernel)) ggX12_isWordOf_X12_isIn
theorem dX12_isWordOf_0 : decode cX12_isWordOf 0 = .ok (.aload_n 0, 1) := by decide +kernel
theorem dX12_isWordOf_1 : decode cX12_isWordOf 1 = .ok (.getfield 17, 3) := by decide +kernel
theorem dX12_isWordOf_4 : decode cX12_isWordOf 4 = .ok (.aload_n 0, 1) := by decide +kernel
theorem dX12_isWordOf_5 : decode cX12_isWordOf 5 = .ok (.getfield 115, 3) := by decide +kernel
theorem dX12_isWordOf_8 : decode cX12_isWordOf 8 = .ok (.iaload, 1) := by decide +kernel
theorem dX12_isWordOf_9 : decode cX12_isWordOf 9 = .ok (.iload_n 1, 1) := by decide +kernel
theorem dX12_isWordOf_10 : decode cX12_isWordOf 10 = .ok (.iload_n 2, 1) := by decide +kernel
theorem dX12_isWordOf_11 : decode cX12_isWordOf 11 = .ok (.invokestatic 60, 3) := by decide +kernel
theorem dX12_isWordOf_14 : decode cX12_isWordOf 14 = .ok (.ireturn, 1) := by decide +kernel
set_option maxRecDepth 20000 in
theorem ggX12_eatOne_X12_isWordOf : GoodIn wsX12_eatOne wsX12_isWordOf := goodIn_r _ [7, 8, 2, 9, 10, 6, 11, 12, 13, 14, 15, 16, 17, 18, 19, 20, 21, 22, 23, 24, 25, 26] (by decide +kernel) (by decide +kernel)
set_option maxRecDepth 20000 in
theorem gX12_eatOne_X12_isWordOf : GoodIn wsX12_eatOne (wsV RX12 145 RX12 yX12_isWordOf wsX12_isWordOf) := goodIn_app (goodIn_of _ (by decide +kernel)) ggX12_eatOne_X12_isWordOf
theorem dX12_eatOne_0 : decode cX12_eatOne 0 = .ok (.aload_n 0, 1) := by decide +kernel
theorem dX12_eatOne_1 : decode cX12_eatOne 1 = .ok (.getfield 26, 3) := by decide +kernel
theorem dX12_eatOne_4 : decode cX12_eatOne 4 = .ok (.aload_n 0, 1) := by decide +kernel
theorem dX12_eatOne_5 : decode cX12_eatOne 5 = .ok (.getfield 115, 3) := by decide +kernel
theorem dX12_eatOne_8 : decode cX12_eatOne 8 = .ok (.iload_n 3, 1) := by decide +kernel
theorem dX12_eatOne_9 : decode cX12_eatOne 9 = .ok (.iastore, 1) := by decide +kernel
theorem dX12_eatOne_10 : decode cX12_eatOne 10 = .ok (.aload_n 0, 1) := by decide +kernel
theorem dX12_eatOne_11 : decode cX12_eatOne 11 = .ok (.iload_n 1, 1) := by decide +kernel
theorem dX12_eatOne_12 : decode cX12_eatOne 12 = .ok (.iload_n 2, 1) := by decide +kernel
theorem dX12_eatOne_13 : decode cX12_eatOne 13 = .ok (.invokevirtual 145, 3) := by decide +kernel
theorem dX12_eatOne_16 : decode cX12_eatOne 16 = .ok (.ifCond .ne 5, 3) := by decide +kernel
theorem dX12_eatOne_19 : decode cX12_eatOne 19 = .ok (.iconst 0, 1) := by decide +kernel
theorem dX12_eatOne_20 : decode cX12_eatOne 20 = .ok (.ireturn, 1) := by decide +kernel
theorem dX12_eatOne_21 : decode cX12_eatOne 21 = .ok (.aload_n 0, 1) := by decide +kernel
theorem dX12_eatOne_22 : decode cX12_eatOne 22 = .ok (.dup, 1) := by decide +kernel
theorem dX12_eatOne_23 : decode cX12_eatOne 23 = .ok (.getfield 115, 3) := by decide +kernel
theorem dX12_eatOne_26 : decode cX12_eatOne 26 = .ok (.iconst 1, 1) := by decide +kernel
theorem dX12_eatOne_27 : decode cX12_eatOne 27 = .ok (.iadd, 1) := by decide +kernel
theorem dX12_eatOne_28 : decode cX12_eatOne 28 = .ok (.putfield 115, 3) := by decide +kernel
theorem dX12_eatOne_31 : decode cX12_eatOne 31 = .ok (.iconst 1, 1) := by decide +kernel
theorem dX12_eatOne_32 : decode cX12_eatOne 32 = .ok (.ireturn, 1) := by decide +kernel
set_option maxRecDepth 20000 in
theorem ggX12_isRuleLine_X12_eatAs : GoodIn wsX12_isRuleLine wsX12_eatAs := goodIn_r _ [6, 7, 1, 8, 9, 10, 5, 11, 12, 13, 14, 15, 16, 28, 29, 30, 31, 32, 33, 34, 35, 36, 37, 38, 39, 40, 41, 42] (by decide +kernel) (by decide +kernel)
set_option maxRecDepth 20000 in
theorem gX12_isRuleLine_X12_eatAs : GoodIn wsX12_isRuleLine (wsV RX12 149 RX12 yX12_eatAs wsX12_eatAs) := goodIn_app (goodIn_of _ (by decide +kernel)) ggX12_isRuleLine_X12_eatAs
set_option maxRecDepth 20000 in
theorem ggX12_isRuleLine_X12_eatOne : GoodIn wsX12_isRuleLine wsX12_eatOne := goodIn_r _ [20, 7, 1, 21, 22, 23, 5, 24, 16, 25, 26, 27, 28, 29, 30, 31, 32, 33, 34, 35, 36, 37, 38, 39, 40, 41, 42] (by decide +kernel) (by decide +kernel)
set_option maxRecDepth 20000 in
theorem gX12_isRuleLine_X12_eatOne : GoodIn wsX12_isRuleLine (wsV RX12 152 RX12 yX12_eatOne wsX12_eatOne) := goodIn_app (goodIn_of _ (by decide +kernel)) ggX12_isRuleLine_X12_eatOne
set_option maxRecDepth 20000 in
theorem ggX12_isRuleLine_X12_isWordOf : GoodIn wsX12_isRuleLine wsX12_isWordOf := goodIn_r _ [24, 16, 1, 25, 26, 5, 27, 28, 29, 30, 31, 32, 33, 34, 35, 36, 37, 38, 39, 40, 41, 42] (by decide +kernel) (by decide +kernel)
set_option maxRecDepth 20000 in
theorem gX12_isRuleLine_X12_isWordOf : GoodIn wsX12_isRuleLine (wsV RX12 145 RX12 yX12_isWordOf wsX12_isWordOf) := goodIn_app (goodIn_of _ (by decide +kernel)) ggX12_isRuleLine_X12_isWordOf
theorem dX12_isRuleLine_0 : decode cX12_isRuleLine 0 = .ok (.aload_n 0, 1) := by decide +kernel
theorem dX12_isRuleLine_1 : decode cX12_isRuleLine 1 = .ok (.dup, 1) := by decide +kernel
theorem dX12_isRuleLine_2 : decode cX12_isRuleLine 2 = .ok (.getfield 115, 3) := by decide +kernel
theorem dX12_isRuleLine_5 : decode cX12_isRuleLine 5 = .ok (.iconst 1, 1) := by decide +kernel
theorem dX12_isRuleLine_6 : decode cX12_isRuleLine 6 = .ok (.iadd, 1) := by decide +kernel
theorem dX12_isRuleLine_7 : decode cX12_isRuleLine 7 = .ok (.putfield 115, 3) := by decide +kernel
theorem dX12_isRuleLine_10 : decode cX12_isRuleLine 10 = .ok (.aload_n 0, 1) := by decide +kernel
theorem dX12_isRuleLine_11 : decode cX12_isRuleLine 11 = .ok (.bipush 40, 2) := by decide +kernel
theorem dX12_isRuleLine_13 : decode cX12_isRuleLine 13 = .ok (.iconst 1, 1) := by decide +kernel
theorem dX12_isRuleLine_14 : decode cX12_isRuleLine 14 = .ok (.invokevirtual 149, 3) := by decide +kernel
theorem dX12_isRuleLine_17 : decode cX12_isRuleLine 17 = .ok (.ifCond .eq 23, 3) := by decide +kernel
theorem dX12_isRuleLine_20 : decode cX12_isRuleLine 20 = .ok (.aload_n 0, 1) := by decide +kernel
theorem dX12_isRuleLine_21 : decode cX12_isRuleLine 21 = .ok (.iconst 1, 1) := by decide +kernel
theorem dX12_isRuleLine_22 : decode cX12_isRuleLine 22 = .ok (.iconst 4, 1) := by decide +kernel
theorem dX12_isRuleLine_23 : decode cX12_isRuleLine 23 = .ok (.iconst 3, 1) := by decide +kernel
theorem dX12_isRuleLine_24 : decode cX12_isRuleLine 24 = .ok (.invokevirtual 152, 3) := by decide +kernel
theorem dX12_isRuleLine_27 : decode cX12_isRuleLine 27 = .ok (.ifCond .eq 13, 3) := by decide +kernel
theorem dX12_isRuleLine_30 : decode cX12_isRuleLine 30 = .ok (.aload_n 0, 1) := by decide +kernel
theorem dX12_isRuleLine_31 : decode cX12_isRuleLine 31 = .ok (.iconst 1, 1) := by decide +kernel
theorem dX12_isRuleLine_32 : decode cX12_isRuleLine 32 = .ok (.iconst 4, 1) := by decide +kernel
theorem dX12_isRuleLine_33 : decode cX12_isRuleLine 33 = .ok (.iconst 3, 1) := by decide +kernel
theorem dX12_isRuleLine_34 : decode cX12_isRuleLine 34 = .ok (.invokevirtual 152, 3) := by decide +kernel
theorem dX12_isRuleLine_37 : decode cX12_isRuleLine 37 = .ok (.ifCond .ne 5, 3) := by decide +kernel
theorem dX12_isRuleLine_40 : decode cX12_isRuleLine 40 = .ok (.iconst 0, 1) := by decide +kernel
theorem dX12_isRuleLine_41 : decode cX12_isRuleLine 41 = .ok (.ireturn, 1) := by decide +kernel
theorem dX12_isRuleLine_42 : decode cX12_isRuleLine 42 = .ok (.aload_n 0, 1) := by decide +kernel
theorem dX12_isRuleLine_43 : decode cX12_isRuleLine 43 = .ok (.iconst 1, 1) := by decide +kernel
theorem dX12_isRuleLine_44 : decode cX12_isRuleLine 44 = .ok (.iconst 4, 1) := by decide +kernel
theorem dX12_isRuleLine_45 : decode cX12_isRuleLine 45 = .ok (.invokevirtual 145, 3) := by decide +kernel
theorem dX12_isRuleLine_48 : decode cX12_isRuleLine 48 = .ok (.ifCond .eq 14, 3) := by decide +kernel
theorem dX12_isRuleLine_51 : decode cX12_isRuleLine 51 = .ok (.aload_n 0, 1) := by decide +kernel
theorem dX12_isRuleLine_52 : decode cX12_isRuleLine 52 = .ok (.iconst 1, 1) := by decide +kernel
theorem dX12_isRuleLine_53 : decode cX12_isRuleLine 53 = .ok (.iconst 4, 1) := by decide +kernel
theorem dX12_isRuleLine_54 : decode cX12_isRuleLine 54 = .ok (.iconst 3, 1) := by decide +kernel
theorem dX12_isRuleLine_55 : decode cX12_isRuleLine 55 = .ok (.invokevirtual 152, 3) := by decide +kernel
theorem dX12_isRuleLine_58 : decode cX12_isRuleLine 58 = .ok (.pop, 1) := by decide +kernel
theorem dX12_isRuleLine_59 : decode cX12_isRuleLine 59 = .ok (.goto (-17), 3) := by decide +kernel
theorem dX12_isRuleLine_62 : decode cX12_isRuleLine 62 = .ok (.iconst 1, 1) := by decide +kernel
theorem dX12_isRuleLine_63 : decode cX12_isRuleLine 63 = .ok (.ireturn, 1) := by decide +kernel
set_option maxRecDepth 20000 in
theorem ggX12_isAntLine_X12_eatAs : GoodIn wsX12_isAntLine wsX12_eatAs := goodIn_r _ [6, 7, 1, 8, 9, 10, 5, 11, 12, 13, 14, 15, 16, 28, 29, 30, 31, 32, 33, 34, 35, 36, 37, 38, 39, 40, 41, 42] (by decide +kernel) (by decide +kernel)
set_option maxRecDepth 20000 in
theorem gX12_isAntLine_X12_eatAs : GoodIn wsX12_isAntLine (wsV RX12 149 RX12 yX12_eatAs wsX12_eatAs) := goodIn_app (goodIn_of _ (by decide +kernel)) ggX12_isAntLine_X12_eatAs
set_option maxRecDepth 20000 in
theorem ggX12_isAntLine_X12_eat : GoodIn wsX12_isAntLine wsX12_eat := goodIn_r _ [11, 1, 12, 13, 14, 5, 15, 16, 28, 29, 30, 31, 32, 33, 34, 35, 36, 37, 38, 39, 40, 41, 42] (by decide +kernel) (by decide +kernel)
set_option maxRecDepth 20000 in
theorem gX12_isAntLine_X12_eat : GoodIn wsX12_isAntLine (wsV RX12 121 RX12 yX12_eat wsX12_eat) := goodIn_app (goodIn_of _ (by decide +kernel)) ggX12_isAntLine_X12_eat
set_option maxRecDepth 20000 in
theorem ggX12_isAntLine_X12_eatOne : GoodIn wsX12_isAntLine wsX12_eatOne := goodIn_r _ [20, 7, 1, 21, 22, 23, 5, 24, 16, 25, 26, 27, 28, 29, 30, 31, 32, 33, 34, 35, 36, 37, 38, 39, 40, 41, 42] (by decide +kernel) (by decide +kernel)
set_option maxRecDepth 20000 in
theorem gX12_isAntLine_X12_eatOne : GoodIn wsX12_isAntLine (wsV RX12 152 RX12 yX12_eatOne wsX12_eatOne) := goodIn_app (goodIn_of _ (by decide +kernel)) ggX12_isAntLine_X12_eatOne
theorem dX12_isAntLine_0 : decode cX12_isAntLine 0 = .ok (.aload_n 0, 1) := by decide +kernel
theorem dX12_isAntLine_1 : decode cX12_isAntLine 1 = .ok (.dup, 1) := by decide +kernel
theorem dX12_isAntLine_2 : decode cX12_isAntLine 2 = .ok (.getfield 115, 3) := by decide +kernel
theorem dX12_isAntLine_5 : decode cX12_isAntLine 5 = .ok (.iconst 1, 1) := by decide +kernel
theorem dX12_isAntLine_6 : decode cX12_isAntLine 6 = .ok (.iadd, 1) := by decide +kernel
theorem dX12_isAntLine_7 : decode cX12_isAntLine 7 = .ok (.putfield 115, 3) := by decide +kernel
theorem dX12_isAntLine_10 : decode cX12_isAntLine 10 = .ok (.aload_n 0, 1) := by decide +kernel
theorem dX12_isAntLine_11 : decode cX12_isAntLine 11 = .ok (.bipush 40, 2) := by decide +kernel
theorem dX12_isAntLine_13 : decode cX12_isAntLine 13 = .ok (.iconst 2, 1) := by decide +kernel
theorem dX12_isAntLine_14 : decode cX12_isAntLine 14 = .ok (.invokevirtual 149, 3) := by decide +kernel
theorem dX12_isAntLine_17 : decode cX12_isAntLine 17 = .ok (.ifCond .eq 77, 3) := by decide +kernel
theorem dX12_isAntLine_20 : decode cX12_isAntLine 20 = .ok (.aload_n 0, 1) := by decide +kernel
theorem dX12_isAntLine_21 : decode cX12_isAntLine 21 = .ok (.bipush 6, 2) := by decide +kernel
theorem dX12_isAntLine_23 : decode cX12_isAntLine 23 = .ok (.invokevirtual 121, 3) := by decide +kernel
theorem dX12_isAntLine_26 : decode cX12_isAntLine 26 = .ok (.ifCond .eq 68, 3) := by decide +kernel
theorem dX12_isAntLine_29 : decode cX12_isAntLine 29 = .ok (.aload_n 0, 1) := by decide +kernel
theorem dX12_isAntLine_30 : decode cX12_isAntLine 30 = .ok (.bipush 40, 2) := by decide +kernel
theorem dX12_isAntLine_32 : decode cX12_isAntLine 32 = .ok (.iconst 4, 1) := by decide +kernel
theorem dX12_isAntLine_33 : decode cX12_isAntLine 33 = .ok (.invokevirtual 149, 3) := by decide +kernel
theorem dX12_isAntLine_36 : decode cX12_isAntLine 36 = .ok (.ifCond .eq 58, 3) := by decide +kernel
theorem dX12_isAntLine_39 : decode cX12_isAntLine 39 = .ok (.aload_n 0, 1) := by decide +kernel
theorem dX12_isAntLine_40 : decode cX12_isAntLine 40 = .ok (.bipush 7, 2) := by decide +kernel
theorem dX12_isAntLine_42 : decode cX12_isAntLine 42 = .ok (.invokevirtual 121, 3) := by decide +kernel
theorem dX12_isAntLine_45 : decode cX12_isAntLine 45 = .ok (.ifCond .eq 49, 3) := by decide +kernel
theorem dX12_isAntLine_48 : decode cX12_isAntLine 48 = .ok (.aload_n 0, 1) := by decide +kernel
theorem dX12_isAntLine_49 : decode cX12_isAntLine 49 = .ok (.bipush 41, 2) := by decide +kernel
theorem dX12_isAntLine_51 : decode cX12_isAntLine 51 = .ok (.iconst 5, 1) := by decide +kernel
theorem dX12_isAntLine_52 : decode cX12_isAntLine 52 = .ok (.invokevirtual 149, 3) := by decide +kernel
theorem dX12_isAntLine_55 : decode cX12_isAntLine 55 = .ok (.ifCond .eq 39, 3) := by decide +kernel
theorem dX12_isAntLine_58 : decode cX12_isAntLine 58 = .ok (.aload_n 0, 1) := by decide +kernel
theorem dX12_isAntLine_59 : decode cX12_isAntLine 59 = .ok (.bipush 41, 2) := by decide +kernel
theorem dX12_isAntLine_61 : decode cX12_isAntLine 61 = .ok (.iconst 5, 1) := by decide +kernel
theorem dX12_isAntLine_62 : decode cX12_isAntLine 62 = .ok (.invokevirtual 149, 3) := by decide +kernel
theorem dX12_isAntLine_65 : decode cX12_isAntLine 65 = .ok (.ifCond .eq 29, 3) := by decide +kernel
theorem dX12_isAntLine_68 : decode cX12_isAntLine 68 = .ok (.aload_n 0, 1) := by decide +kernel
theorem dX12_isAntLine_69 : decode cX12_isAntLine 69 = .ok (.bipush 8, 2) := by decide +kernel
theorem dX12_isAntLine_71 : decode cX12_isAntLine 71 = .ok (.invokevirtual 121, 3) := by decide +kernel
theorem dX12_isAntLine_74 : decode cX12_isAntLine 74 = .ok (.ifCond .eq 20, 3) := by decide +kernel
theorem dX12_isAntLine_77 : decode cX12_isAntLine 77 = .ok (.aload_n 0, 1) := by decide +kernel
theorem dX12_isAntLine_78 : decode cX12_isAntLine 78 = .ok (.bipush 9, 2) := by decide +kernel
theorem dX12_isAntLine_80 : decode cX12_isAntLine 80 = .ok (.bipush 12, 2) := by decide +kernel
theorem dX12_isAntLine_82 : decode cX12_isAntLine 82 = .ok (.bipush 6, 2) := by decide +kernel
theorem dX12_isAntLine_84 : decode cX12_isAntLine 84 = .ok (.invokevirtual 152, 3) := by decide +kernel
theorem dX12_isAntLine_87 : decode cX12_isAntLine 87 = .ok (.ifCond .eq 7, 3) := by decide +kernel
theorem dX12_isAntLine_90 : decode cX12_isAntLine 90 = .ok (.iconst 1, 1) := by decide +kernel
theorem dX12_isAntLine_91 : decode cX12_isAntLine 91 = .ok (.goto 4, 3) := by decide +kernel
theorem dX12_isAntLine_94 : decode cX12_isAntLine 94 = .ok (.iconst 0, 1) := by decide +kernel
theorem dX12_isAntLine_95 : decode cX12_isAntLine 95 = .ok (.ireturn, 1) := by decide +kernel
set_option maxRecDepth 20000 in
theorem ggX12_isPaintLine_X12_eatAs : GoodIn wsX12_isPaintLine wsX12_eatAs := goodIn_r _ [6, 7, 1, 8, 9, 10, 5, 11, 12, 13, 14, 15, 16, 17, 18, 19, 20, 21, 22, 23, 24, 25, 26, 27, 28, 29, 30, 31] (by decide +kernel) (by decide +kernel)
set_option maxRecDepth 20000 in
theorem gX12_isPaintLine_X12_eatAs : GoodIn wsX12_isPaintLine (wsV RX12 149 RX12 yX12_eatAs wsX12_eatAs) := goodIn_app (goodIn_of _ (by decide +kernel)) ggX12_isPaintLine_X12_eatAs
theorem dX12_isPaintLine_0 : decode cX12_isPaintLine 0 = .ok (.aload_n 0, 1) := by decide +kernel
theorem dX12_isPaintLine_1 : decode cX12_isPaintLine 1 = .ok (.dup, 1) := by decide +kernel
theorem dX12_isPaintLine_2 : decode cX12_isPaintLine 2 = .ok (.getfield 115, 3) := by decide +kernel
theorem dX12_isPaintLine_5 : decode cX12_isPaintLine 5 = .ok (.iconst 1, 1) := by decide +kernel
theorem dX12_isPaintLine_6 : decode cX12_isPaintLine 6 = .ok (.iadd, 1) := by decide +kernel
theorem dX12_isPaintLine_7 : decode cX12_isPaintLine 7 = .ok (.putfield 115, 3) := by decide +kernel
theorem dX12_isPaintLine_10 : decode cX12_isPaintLine 10 = .ok (.aload_n 0, 1) := by decide +kernel
theorem dX12_isPaintLine_11 : decode cX12_isPaintLine 11 = .ok (.bipush 41, 2) := by decide +kernel
theorem dX12_isPaintLine_13 : decode cX12_isPaintLine 13 = .ok (.bipush 7, 2) := by decide +kernel
theorem dX12_isPaintLine_15 : decode cX12_isPaintLine 15 = .ok (.invokevirtual 149, 3) := by decide +kernel
theorem dX12_isPaintLine_18 : decode cX12_isPaintLine 18 = .ok (.ifCond .eq 29, 3) := by decide +kernel
theorem dX12_isPaintLine_21 : decode cX12_isPaintLine 21 = .ok (.aload_n 0, 1) := by decide +kernel
theorem dX12_isPaintLine_22 : decode cX12_isPaintLine 22 = .ok (.bipush 41, 2) := by decide +kernel
theorem dX12_isPaintLine_24 : decode cX12_isPaintLine 24 = .ok (.bipush 7, 2) := by decide +kernel
theorem dX12_isPaintLine_26 : decode cX12_isPaintLine 26 = .ok (.invokevirtual 149, 3) := by decide +kernel
theorem dX12_isPaintLine_29 : decode cX12_isPaintLine 29 = .ok (.ifCond .eq 18, 3) := by decide +kernel
theorem dX12_isPaintLine_32 : decode cX12_isPaintLine 32 = .ok (.aload_n 0, 1) := by decide +kernel
theorem dX12_isPaintLine_33 : decode cX12_isPaintLine 33 = .ok (.bipush 41, 2) := by decide +kernel
theorem dX12_isPaintLine_35 : decode cX12_isPaintLine 35 = .ok (.bipush 8, 2) := by decide +kernel
theorem dX12_isPaintLine_37 : decode cX12_isPaintLine 37 = .ok (.invokevirtual 149, 3) := by decide +kernel
theorem dX12_isPaintLine_40 : decode cX12_isPaintLine 40 = .ok (.ifCond .eq 7, 3) := by decide +kernel
theorem dX12_isPaintLine_43 : decode cX12_isPaintLine 43 = .ok (.iconst 1, 1) := by decide +kernel
theorem dX12_isPaintLine_44 : decode cX12_isPaintLine 44 = .ok (.goto 4, 3) := by decide +kernel
theorem dX12_isPaintLine_47 : decode cX12_isPaintLine 47 = .ok (.iconst 0, 1) := by decide +kernel
theorem dX12_isPaintLine_48 : decode cX12_isPaintLine 48 = .ok (.ireturn, 1) := by decide +kernel
set_option maxRecDepth 20000 in
theorem ggX12_isOrderLine_X12_is : GoodIn wsX12_isOrderLine wsX12_is := goodIn_r _ [12, 13, 2, 93, 94, 95, 96, 97, 98, 99, 100, 101, 102, 103, 104, 105, 106, 107] (by decide +kernel) (by decide +kernel)
set_option maxRecDepth 20000 in
theorem gX12_isOrderLine_X12_is : GoodIn wsX12_isOrderLine (wsV RX12 118 RX12 yX12_is wsX12_is) := goodIn_app (goodIn_of _ (by decide +kernel)) ggX12_isOrderLine_X12_is
set_option maxRecDepth 20000 in
theorem ggX12_isOrderLine_X12_eatAs : GoodIn wsX12_isOrderLine wsX12_eatAs := goodIn_r _ [17, 1, 2, 18, 19, 20, 11, 21, 8, 9, 10, 12, 13, 93, 94, 95, 96, 97, 98, 99, 100, 101, 102, 103, 104, 105, 106, 107] (by decide +kernel) (by decide +kernel)
set_option maxRecDepth 20000 in
theorem gX12_isOrderLine_X12_eatAs : GoodIn wsX12_isOrderLine (wsV RX12 149 RX12 yX12_eatAs wsX12_eatAs) := goodIn_app (goodIn_of _ (by decide +kernel)) ggX12_isOrderLine_X12_eatAs
set_option maxRecDepth 20000 in
theorem ggX12_isOrderLine_X12_eat : GoodIn wsX12_isOrderLine wsX12_eat := goodIn_r _ [21, 2, 8, 9, 10, 11, 12, 13, 93, 94, 95, 96, 97, 98, 99, 100, 101, 102, 103, 104, 105, 106, 107] (by decide +kernel) (by decide +kernel)
set_option maxRecDepth 20000 in
theorem gX12_isOrderLine_X12_eat : GoodIn wsX12_isOrderLine (wsV RX12 121 RX12 yX12_eat wsX12_eat) := goodIn_app (goodIn_of _ (by decide +kernel)) ggX12_isOrderLine_X12_eat
set_option maxRecDepth 20000 in
theorem ggX12_isOrderLine_X12_eatOne : GoodIn wsX12_isOrderLine wsX12_eatOne := goodIn_r _ [25, 1, 2, 26, 27, 28, 11, 29, 13, 30, 31, 32, 93, 94, 95, 96, 97, 98, 99, 100, 101, 102, 103, 104, 105, 106, 107] (by decide +kernel) (by decide +kernel)
set_option maxRecDepth 20000 in
theorem gX12_isOrderLine_X12_eatOne : GoodIn wsX12_isOrderLine (wsV RX12 152 RX12 yX12_eatOne wsX12_eatOne) := goodIn_app (goodIn_of _ (by decide +kernel)) ggX12_isOrderLine_X12_eatOne
set_option maxRecDepth 20000 in
theorem ggX12_isOrderLine_X12_isTest_c1 : GoodIn wsX12_isOrderLine (.code yX12_isTest cX12_isTest 1 (some .boolean) :: wsX12_isTest_r1) := goodIn_r _ [36, 37, 38, 39, 11, 18, 19, 20, 21, 2, 8, 9, 10, 12, 13, 40, 41, 42, 43, 3, 44, 45, 46, 47, 48] (by decide +kernel) (by decide +kernel)
set_option maxRecDepth 20000 in
theorem ggX12_isOrderLine_X12_isTest_c2 : GoodIn wsX12_isOrderLine wsX12_isTest_r2 := goodIn_r _ [49, 50, 51, 52, 53, 54, 55, 56, 57, 33, 34, 35, 58, 59, 60, 61, 62, 63, 64, 65, 66, 67, 68, 69] (by decide +kernel) (by decide +kernel)
set_option maxRecDepth 20000 in
theorem ggX12_isOrderLine_X12_isTest_c3 : GoodIn wsX12_isOrderLine wsX12_isTest_r3 := goodIn_r _ [14, 15, 16, 17, 1, 70, 71, 72, 73, 74, 75, 76, 77, 78, 79, 80, 81, 82, 83, 84, 85, 86, 87, 88] (by decide +kernel) (by decide +kernel)
set_option maxRecDepth 20000 in
theorem ggX12_isOrderLine_X12_isTest_c4 : GoodIn wsX12_isOrderLine wsX12_isTest_r4 := goodIn_r _ [89, 26, 27, 28, 29, 30, 31, 32, 90, 91, 92] (by decide +kernel) (by decide +kernel)
set_option maxRecDepth 20000 in
theorem ggX12_isOrderLine_X12_isTest_c5 : GoodIn wsX12_isOrderLine wsX120 := goodIn_r _ [93, 94, 95, 96, 97, 98, 99, 100, 101, 102, 103, 104, 105, 106, 107] (by decide +kernel) (by decide +kernel)
set_option maxRecDepth 20000 in
theorem ggX12_isOrderLine_X12_isTest_c6 : GoodIn wsX12_isOrderLine wsX100 := goodIn_r _ [108, 109, 110, 111, 112, 113, 114, 115, 116, 117, 118, 119, 120, 121, 122, 123, 124, 125, 126, 127, 128, 129] (by decide +kernel) (by decide +kernel)
set_option maxRecDepth 20000 in
theorem ggX12_isOrderLine_X12_isTest : GoodIn wsX12_isOrderLine wsX12_isTest := (goodIn_ca (goodIn_ca (goodIn_ca ggX12_isOrderLine_X12_isTest_c1 (goodIn_app ggX12_isOrderLine_X12_isTest_c2 (goodIn_app ggX12_isOrderLine_X12_isTest_c3 ggX12_isOrderLine_X12_isTest_c4))) ggX12_isOrderLine_X12_isTest_c5) ggX12_isOrderLine_X12_isTest_c6)
set_option maxRecDepth 20000 in
theorem gX12_isOrderLine_X12_isTest : GoodIn wsX12_isOrderLine (wsV RX12 161 RX12 yX12_isTest wsX12_isTest) := goodIn_app (goodIn_of _ (by decide +kernel)) ggX12_isOrderLine_X12_isTest
theorem dX12_isOrderLine_0 : decode cX12_isOrderLine 0 = .ok (.aload_n 0, 1) := by decide +kernel
theorem dX12_isOrderLine_1 : decode cX12_isOrderLine 1 = .ok (.bipush 14, 2) := by decide +kernel
theorem dX12_isOrderLine_3 : decode cX12_isOrderLine 3 = .ok (.invokevirtual 118, 3) := by decide +kernel
theorem dX12_isOrderLine_6 : decode cX12_isOrderLine 6 = .ok (.istore_n 1, 1) := by decide +kernel
theorem dX12_isOrderLine_7 : decode cX12_isOrderLine 7 = .ok (.aload_n 0, 1) := by decide +kernel
theorem dX12_isOrderLine_8 : decode cX12_isOrderLine 8 = .ok (.bipush 16, 2) := by decide +kernel
theorem dX12_isOrderLine_10 : decode cX12_isOrderLine 10 = .ok (.invokevirtual 118, 3) := by decide +kernel
theorem dX12_isOrderLine_13 : decode cX12_isOrderLine 13 = .ok (.istore_n 2, 1) := by decide +kernel
theorem dX12_isOrderLine_14 : decode cX12_isOrderLine 14 = .ok (.iload_n 1, 1) := by decide +kernel
theorem dX12_isOrderLine_15 : decode cX12_isOrderLine 15 = .ok (.ifCond .ne 27, 3) := by decide +kernel
theorem dX12_isOrderLine_18 : decode cX12_isOrderLine 18 = .ok (.iload_n 2, 1) := by decide +kernel
theorem dX12_isOrderLine_19 : decode cX12_isOrderLine 19 = .ok (.ifCond .ne 23, 3) := by decide +kernel
theorem dX12_isOrderLine_22 : decode cX12_isOrderLine 22 = .ok (.aload_n 0, 1) := by decide +kernel
theorem dX12_isOrderLine_23 : decode cX12_isOrderLine 23 = .ok (.bipush 17, 2) := by decide +kernel
theorem dX12_isOrderLine_25 : decode cX12_isOrderLine 25 = .ok (.invokevirtual 118, 3) := by decide +kernel
theorem dX12_isOrderLine_28 : decode cX12_isOrderLine 28 = .ok (.ifCond .ne 14, 3) := by decide +kernel
theorem dX12_isOrderLine_31 : decode cX12_isOrderLine 31 = .ok (.aload_n 0, 1) := by decide +kernel
theorem dX12_isOrderLine_32 : decode cX12_isOrderLine 32 = .ok (.bipush 18, 2) := by decide +kernel
theorem dX12_isOrderLine_34 : decode cX12_isOrderLine 34 = .ok (.invokevirtual 118, 3) := by decide +kernel
theorem dX12_isOrderLine_37 : decode cX12_isOrderLine 37 = .ok (.ifCond .ne 5, 3) := by decide +kernel
theorem dX12_isOrderLine_40 : decode cX12_isOrderLine 40 = .ok (.iconst 0, 1) := by decide +kernel
theorem dX12_isOrderLine_41 : decode cX12_isOrderLine 41 = .ok (.ireturn, 1) := by decide +kernel
theorem dX12_isOrderLine_42 : decode cX12_isOrderLine 42 = .ok (.aload_n 0, 1) := by decide +kernel
theorem dX12_isOrderLine_43 : decode cX12_isOrderLine 43 = .ok (.getfield 26, 3) := by decide +kernel
theorem dX12_isOrderLine_46 : decode cX12_isOrderLine 46 = .ok (.aload_n 0, 1) := by decide +kernel
theorem dX12_isOrderLine_47 : decode cX12_isOrderLine 47 = .ok (.getfield 115, 3) := by decide +kernel
theorem dX12_isOrderLine_50 : decode cX12_isOrderLine 50 = .ok (.bipush 9, 2) := by decide +kernel
theorem dX12_isOrderLine_52 : decode cX12_isOrderLine 52 = .ok (.iastore, 1) := by decide +kernel
theorem dX12_isOrderLine_53 : decode cX12_isOrderLine 53 = .ok (.aload_n 0, 1) := by decide +kernel
theorem dX12_isOrderLine_54 : decode cX12_isOrderLine 54 = .ok (.dup, 1) := by decide +kernel
theorem dX12_isOrderLine_55 : decode cX12_isOrderLine 55 = .ok (.getfield 115, 3) := by decide +kernel
theorem dX12_isOrderLine_58 : decode cX12_isOrderLine 58 = .ok (.iconst 1, 1) := by decide +kernel
theorem dX12_isOrderLine_59 : decode cX12_isOrderLine 59 = .ok (.iadd, 1) := by decide +kernel
theorem dX12_isOrderLine_60 : decode cX12_isOrderLine 60 = .ok (.putfield 115, 3) := by decide +kernel
theorem dX12_isOrderLine_63 : decode cX12_isOrderLine 63 = .ok (.aload_n 0, 1) := by decide +kernel
theorem dX12_isOrderLine_64 : decode cX12_isOrderLine 64 = .ok (.getfield 39, 3) := by decide +kernel
theorem dX12_isOrderLine_67 : decode cX12_isOrderLine 67 = .ok (.getfield 155, 3) := by decide +kernel
theorem dX12_isOrderLine_70 : decode cX12_isOrderLine 70 = .ok (.bipush 20, 2) := by decide +kernel
theorem dX12_isOrderLine_72 : decode cX12_isOrderLine 72 = .ok (.invokestatic 67, 3) := by decide +kernel
theorem dX12_isOrderLine_75 : decode cX12_isOrderLine 75 = .ok (.istore_n 3, 1) := by decide +kernel
theorem dX12_isOrderLine_76 : decode cX12_isOrderLine 76 = .ok (.aload_n 0, 1) := by decide +kernel
theorem dX12_isOrderLine_77 : decode cX12_isOrderLine 77 = .ok (.getfield 39, 3) := by decide +kernel
theorem dX12_isOrderLine_80 : decode cX12_isOrderLine 80 = .ok (.dup, 1) := by decide +kernel
theorem dX12_isOrderLine_81 : decode cX12_isOrderLine 81 = .ok (.getfield 155, 3) := by decide +kernel
theorem dX12_isOrderLine_84 : decode cX12_isOrderLine 84 = .ok (.iconst 1, 1) := by decide +kernel
theorem dX12_isOrderLine_85 : decode cX12_isOrderLine 85 = .ok (.iadd, 1) := by decide +kernel
theorem dX12_isOrderLine_86 : decode cX12_isOrderLine 86 = .ok (.putfield 155, 3) := by decide +kernel
theorem dX12_isOrderLine_89 : decode cX12_isOrderLine 89 = .ok (.iload_n 1, 1) := by decide +kernel
theorem dX12_isOrderLine_90 : decode cX12_isOrderLine 90 = .ok (.ifCond .eq 42, 3) := by decide +kernel
theorem dX12_isOrderLine_93 : decode cX12_isOrderLine 93 = .ok (.aload_n 0, 1) := by decide +kernel
theorem dX12_isOrderLine_94 : decode cX12_isOrderLine 94 = .ok (.bipush 41, 2) := by decide +kernel
theorem dX12_isOrderLine_96 : decode cX12_isOrderLine 96 = .ok (.bipush 10, 2) := by decide +kernel
theorem dX12_isOrderLine_98 : decode cX12_isOrderLine 98 = .ok (.invokevirtual 149, 3) := by decide +kernel
theorem dX12_isOrderLine_101 : decode cX12_isOrderLine 101 = .ok (.ifCond .eq 27, 3) := by decide +kernel
theorem dX12_isOrderLine_104 : decode cX12_isOrderLine 104 = .ok (.aload_n 0, 1) := by decide +kernel
theorem dX12_isOrderLine_105 : decode cX12_isOrderLine 105 = .ok (.bipush 15, 2) := by decide +kernel
theorem dX12_isOrderLine_107 : decode cX12_isOrderLine 107 = .ok (.invokevirtual 121, 3) := by decide +kernel
theorem dX12_isOrderLine_110 : decode cX12_isOrderLine 110 = .ok (.ifCond .eq 18, 3) := by decide +kernel
theorem dX12_isOrderLine_113 : decode cX12_isOrderLine 113 = .ok (.aload_n 0, 1) := by decide +kernel
theorem dX12_isOrderLine_114 : decode cX12_isOrderLine 114 = .ok (.bipush 41, 2) := by decide +kernel
theorem dX12_isOrderLine_116 : decode cX12_isOrderLine 116 = .ok (.bipush 11, 2) := by decide +kernel
theorem dX12_isOrderLine_118 : decode cX12_isOrderLine 118 = .ok (.invokevirtual 149, 3) := by decide +kernel
theorem dX12_isOrderLine_121 : decode cX12_isOrderLine 121 = .ok (.ifCond .eq 7, 3) := by decide +kernel
theorem dX12_isOrderLine_124 : decode cX12_isOrderLine 124 = .ok (.iconst 1, 1) := by decide +kernel
theorem dX12_isOrderLine_125 : decode cX12_isOrderLine 125 = .ok (.goto 40, 3) := by decide +kernel
theorem dX12_isOrderLine_128 : decode cX12_isOrderLine 128 = .ok (.iconst 0, 1) := by decide +kernel
theorem dX12_isOrderLine_129 : decode cX12_isOrderLine 129 = .ok (.goto 36, 3) := by decide +kernel
theorem dX12_isOrderLine_132 : decode cX12_isOrderLine 132 = .ok (.aload_n 0, 1) := by decide +kernel
theorem dX12_isOrderLine_133 : decode cX12_isOrderLine 133 = .ok (.bipush 40, 2) := by decide +kernel
theorem dX12_isOrderLine_135 : decode cX12_isOrderLine 135 = .ok (.bipush 12, 2) := by decide +kernel
theorem dX12_isOrderLine_137 : decode cX12_isOrderLine 137 = .ok (.invokevirtual 149, 3) := by decide +kernel
theorem dX12_isOrderLine_140 : decode cX12_isOrderLine 140 = .ok (.ifCond .eq 24, 3) := by decide +kernel
theorem dX12_isOrderLine_143 : decode cX12_isOrderLine 143 = .ok (.iload_n 2, 1) := by decide +kernel
theorem dX12_isOrderLine_144 : decode cX12_isOrderLine 144 = .ok (.ifCond .eq 16, 3) := by decide +kernel
theorem dX12_isOrderLine_147 : decode cX12_isOrderLine 147 = .ok (.aload_n 0, 1) := by decide +kernel
theorem dX12_isOrderLine_148 : decode cX12_isOrderLine 148 = .ok (.bipush 9, 2) := by decide +kernel
theorem dX12_isOrderLine_150 : decode cX12_isOrderLine 150 = .ok (.bipush 12, 2) := by decide +kernel
theorem dX12_isOrderLine_152 : decode cX12_isOrderLine 152 = .ok (.bipush 13, 2) := by decide +kernel
theorem dX12_isOrderLine_154 : decode cX12_isOrderLine 154 = .ok (.invokevirtual 152, 3) := by decide +kernel
theorem dX12_isOrderLine_157 : decode cX12_isOrderLine 157 = .ok (.ifCond .eq 7, 3) := by decide +kernel
theorem dX12_isOrderLine_160 : decode cX12_isOrderLine 160 = .ok (.iconst 1, 1) := by decide +kernel
theorem dX12_isOrderLine_161 : decode cX12_isOrderLine 161 = .ok (.goto 4, 3) := by decide +kernel
theorem dX12_isOrderLine_164 : decode cX12_isOrderLine 164 = .ok (.iconst 0, 1) := by decide +kernel
theorem dX12_isOrderLine_165 : decode cX12_isOrderLine 165 = .ok (.istore 4, 2) := by decide +kernel
theorem dX12_isOrderLine_167 : decode cX12_isOrderLine 167 = .ok (.iload 4, 2) := by decide +kernel
theorem dX12_isOrderLine_169 : decode cX12_isOrderLine 169 = .ok (.ifCond .eq 12, 3) := by decide +kernel
theorem dX12_isOrderLine_172 : decode cX12_isOrderLine 172 = .ok (.aload_n 0, 1) := by decide +kernel
theorem dX12_isOrderLine_173 : decode cX12_isOrderLine 173 = .ok (.bipush 19, 2) := by decide +kernel
theorem dX12_isOrderLine_175 : decode cX12_isOrderLine 175 = .ok (.invokevirtual 121, 3) := by decide +kernel
theorem dX12_isOrderLine_178 : decode cX12_isOrderLine 178 = .ok (.ifCond .ne 5, 3) := by decide +kernel
theorem dX12_isOrderLine_181 : decode cX12_isOrderLine 181 = .ok (.iconst 0, 1) := by decide +kernel
theorem dX12_isOrderLine_182 : decode cX12_isOrderLine 182 = .ok (.ireturn, 1) := by decide +kernel
theorem dX12_isOrderLine_183 : decode cX12_isOrderLine 183 = .ok (.aload_n 0, 1) := by decide +kernel
theorem dX12_isOrderLine_184 : decode cX12_isOrderLine 184 = .ok (.getfield 39, 3) := by decide +kernel
theorem dX12_isOrderLine_187 : decode cX12_isOrderLine 187 = .ok (.getfield 158, 3) := by decide +kernel
theorem dX12_isOrderLine_190 : decode cX12_isOrderLine 190 = .ok (.iload_n 3, 1) := by decide +kernel
theorem dX12_isOrderLine_191 : decode cX12_isOrderLine 191 = .ok (.aload_n 0, 1) := by decide +kernel
theorem dX12_isOrderLine_192 : decode cX12_isOrderLine 192 = .ok (.getfield 39, 3) := by decide +kernel
theorem dX12_isOrderLine_195 : decode cX12_isOrderLine 195 = .ok (.getfield 127, 3) := by decide +kernel
theorem dX12_isOrderLine_198 : decode cX12_isOrderLine 198 = .ok (.iastore, 1) := by decide +kernel
theorem dX12_isOrderLine_199 : decode cX12_isOrderLine 199 = .ok (.aload_n 0, 1) := by decide +kernel
theorem dX12_isOrderLine_200 : decode cX12_isOrderLine 200 = .ok (.invokevirtual 161, 3) := by decide +kernel
theorem dX12_isOrderLine_203 : decode cX12_isOrderLine 203 = .ok (.ifCond .ne 5, 3) := by decide +kernel
theorem dX12_isOrderLine_206 : decode cX12_isOrderLine 206 = .ok (.iconst 0, 1) := by decide +kernel
theorem dX12_isOrderLine_207 : decode cX12_isOrderLine 207 = .ok (.ireturn, 1) := by decide +kernel
theorem dX12_isOrderLine_208 : decode cX12_isOrderLine 208 = .ok (.aload_n 0, 1) := by decide +kernel
theorem dX12_isOrderLine_209 : decode cX12_isOrderLine 209 = .ok (.getfield 39, 3) := by decide +kernel
theorem dX12_isOrderLine_212 : decode cX12_isOrderLine 212 = .ok (.getfield 164, 3) := by decide +kernel
theorem dX12_isOrderLine_215 : decode cX12_isOrderLine 215 = .ok (.iload_n 3, 1) := by decide +kernel
theorem dX12_isOrderLine_216 : decode cX12_isOrderLine 216 = .ok (.aload_n 0, 1) := by decide +kernel
theorem dX12_isOrderLine_217 : decode cX12_isOrderLine 217 = .ok (.getfield 39, 3) := by decide +kernel
theorem dX12_isOrderLine_220 : decode cX12_isOrderLine 220 = .ok (.getfield 127, 3) := by decide +kernel
theorem dX12_isOrderLine_223 : decode cX12_isOrderLine 223 = .ok (.iastore, 1) := by decide +kernel
theorem dX12_isOrderLine_224 : decode cX12_isOrderLine 224 = .ok (.iconst 1, 1) := by decide +kernel
theorem dX12_isOrderLine_225 : decode cX12_isOrderLine 225 = .ok (.ireturn, 1) := by decide +kernel
set_option maxRecDepth 20000 in
theorem ggX12_isTest_X12_isBoth_c1 : GoodIn wsX12_isTest (.code yX12_isBoth cX12_isBoth 1 (some .boolean) :: wsX12_isBoth_r1) := goodIn_r _ [20, 21, 22, 23, 4, 5, 6, 7, 8, 9, 10, 11, 12, 13, 14, 15, 16, 17, 18, 19, 24, 25, 26, 27, 28] (by decide +kernel) (by decide +kernel)
set_option maxRecDepth 20000 in
theorem ggX12_isTest_X12_isBoth_c2 : GoodIn wsX12_isTest wsX12_isBoth_r2 := goodIn_r _ [29, 30, 31, 32, 33, 34, 35, 36, 37, 38, 39, 40, 41, 42, 43, 44, 45, 46, 47, 48, 49, 50, 51, 52] (by decide +kernel) (by decide +kernel)
set_option maxRecDepth 20000 in
theorem ggX12_isTest_X12_isBoth_c3 : GoodIn wsX12_isTest wsX12_isBoth_r3 := goodIn_r _ [53, 54, 55, 56, 57, 58, 59, 60, 61, 62, 63, 64, 65, 66, 67, 68, 69, 70, 71, 72, 73, 74, 75, 76] (by decide +kernel) (by decide +kernel)
set_option maxRecDepth 20000 in
theorem ggX12_isTest_X12_isBoth_c4 : GoodIn wsX12_isTest wsX12_isBoth_r4 := goodIn_r _ [77, 78, 79, 80, 81, 82, 83, 0, 1, 2, 3] (by decide +kernel) (by decide +kernel)
set_option maxRecDepth 20000 in
theorem ggX12_isTest_X12_isBoth_c5 : GoodIn wsX12_isTest wsX120 := goodIn_r _ [84, 85, 86, 87, 88, 89, 90, 91, 92, 93, 94, 95, 96, 97, 98] (by decide +kernel) (by decide +kernel)
set_option maxRecDepth 20000 in
theorem ggX12_isTest_X12_isBoth_c6 : GoodIn wsX12_isTest wsX100 := goodIn_r _ [99, 100, 101, 102, 103, 104, 105, 106, 107, 108, 109, 110, 111, 112, 113, 114, 115, 116, 117, 118, 119, 120] (by decide +kernel) (by decide +kernel)
set_option maxRecDepth 20000 in
theorem ggX12_isTest_X12_isBoth : GoodIn wsX12_isTest wsX12_isBoth := (goodIn_ca (goodIn_ca (goodIn_ca ggX12_isTest_X12_isBoth_c1 (goodIn_app ggX12_isTest_X12_isBoth_c2 (goodIn_app ggX12_isTest_X12_isBoth_c3 ggX12_isTest_X12_isBoth_c4))) ggX12_isTest_X12_isBoth_c5) ggX12_isTest_X12_isBoth_c6)
set_option maxRecDepth 20000 in
theorem gX12_isTest_X12_isBoth : GoodIn wsX12_isTest (wsV RX12 167 RX12 yX12_isBoth wsX12_isBoth) := goodIn_app (goodIn_of _ (by decide +kernel)) ggX12_isTest_X12_isBoth
set_option maxRecDepth 20000 in
theorem ggX12_isTest_X12_eat : GoodIn wsX12_isTest wsX12_eat := goodIn_r _ [8, 9, 10, 11, 12, 4, 13, 14, 84, 85, 86, 87, 88, 89, 90, 91, 92, 93, 94, 95, 96, 97, 98] (by decide +kernel) (by decide +kernel)
set_option maxRecDepth 20000 in
theorem gX12_isTest_X12_eat : GoodIn wsX12_isTest (wsV RX12 121 RX12 yX12_eat wsX12_eat) := goodIn_app (goodIn_of _ (by decide +kernel)) ggX12_isTest_X12_eat
set_option maxRecDepth 20000 in
theorem ggX12_isTest_X12_put : GoodIn wsX12_isTest wsX12_put := goodIn_r _ [18, 19, 84, 85, 86, 87, 88, 89, 90, 91, 92, 93, 94, 95, 96, 97, 98, 99, 100, 101, 102, 103, 104, 105, 106, 107, 108, 109, 110, 111, 112, 113, 114, 115, 116, 117, 118, 119, 120] (by decide +kernel) (by decide +kernel)
set_option maxRecDepth 20000 in
theorem gX12_isTest_X12_put : GoodIn wsX12_isTest (wsV RX12 170 RX12 yX12_put wsX12_put) := goodIn_app (goodIn_of _ (by decide +kernel)) ggX12_isTest_X12_put
theorem dX12_isTest_0 : decode cX12_isTest 0 = .ok (.aload_n 0, 1) := by decide +kernel
theorem dX12_isTest_1 : decode cX12_isTest 1 = .ok (.invokevirtual 167, 3) := by decide +kernel
theorem dX12_isTest_4 : decode cX12_isTest 4 = .ok (.ifCond .ne 5, 3) := by decide +kernel
theorem dX12_isTest_7 : decode cX12_isTest 7 = .ok (.iconst 0, 1) := by decide +kernel
theorem dX12_isTest_8 : decode cX12_isTest 8 = .ok (.ireturn, 1) := by decide +kernel
theorem dX12_isTest_9 : decode cX12_isTest 9 = .ok (.aload_n 0, 1) := by decide +kernel
theorem dX12_isTest_10 : decode cX12_isTest 10 = .ok (.bipush 30, 2) := by decide +kernel
theorem dX12_isTest_12 : decode cX12_isTest 12 = .ok (.invokevirtual 121, 3) := by decide +kernel
theorem dX12_isTest_15 : decode cX12_isTest 15 = .ok (.ifCond .eq 21, 3) := by decide +kernel
theorem dX12_isTest_18 : decode cX12_isTest 18 = .ok (.aload_n 0, 1) := by decide +kernel
theorem dX12_isTest_19 : decode cX12_isTest 19 = .ok (.invokevirtual 167, 3) := by decide +kernel
theorem dX12_isTest_22 : decode cX12_isTest 22 = .ok (.ifCond .ne 5, 3) := by decide +kernel
theorem dX12_isTest_25 : decode cX12_isTest 25 = .ok (.iconst 0, 1) := by decide +kernel
theorem dX12_isTest_26 : decode cX12_isTest 26 = .ok (.ireturn, 1) := by decide +kernel
theorem dX12_isTest_27 : decode cX12_isTest 27 = .ok (.aload_n 0, 1) := by decide +kernel
theorem dX12_isTest_28 : decode cX12_isTest 28 = .ok (.bipush 30, 2) := by decide +kernel
theorem dX12_isTest_30 : decode cX12_isTest 30 = .ok (.invokevirtual 170, 3) := by decide +kernel
theorem dX12_isTest_33 : decode cX12_isTest 33 = .ok (.goto (-24), 3) := by decide +kernel
theorem dX12_isTest_36 : decode cX12_isTest 36 = .ok (.iconst 1, 1) := by decide +kernel
theorem dX12_isTest_37 : decode cX12_isTest 37 = .ok (.ireturn, 1) := by decide +kernel
set_option maxRecDepth 20000 in
theorem ggX12_isBoth_X12_isSingle_c1 : GoodIn wsX12_isBoth (.code yX12_isSingle cX12_isSingle 2 (some .boolean) :: wsX12_isSingle_r1) := goodIn_r _ [20, 21, 9, 10, 11, 12, 4, 13, 14, 22, 23, 24, 25, 1, 2, 3, 15, 16, 17, 18, 19, 26, 27, 28, 29] (by decide +kernel) (by decide +kernel)
set_option maxRecDepth 20000 in
theorem ggX12_isBoth_X12_isSingle_c2 : GoodIn wsX12_isBoth wsX12_isSingle_r2 := goodIn_r _ [30, 31, 32, 33, 34, 35, 36, 5, 6, 7, 8, 37, 38, 39, 40, 41, 42, 43, 44, 45, 46, 47, 48, 49] (by decide +kernel) (by decide +kernel)
set_option maxRecDepth 20000 in
theorem ggX12_isBoth_X12_isSingle_c3 : GoodIn wsX12_isBoth wsX12_isSingle_r3 := goodIn_r _ [50, 51, 52, 53, 54, 55, 56, 57, 58, 59, 60, 61, 62, 63, 64, 65, 66, 67, 68, 69, 70, 71, 72, 73] (by decide +kernel) (by decide +kernel)
set_option maxRecDepth 20000 in
theorem ggX12_isBoth_X12_isSingle_c4 : GoodIn wsX12_isBoth wsX12_isSingle_r4 := goodIn_r _ [74, 75, 76, 77, 78, 79, 0, 80, 81, 82, 83] (by decide +kernel) (by decide +kernel)
set_option maxRecDepth 20000 in
theorem ggX12_isBoth_X12_isSingle_c5 : GoodIn wsX12_isBoth wsX120 := goodIn_r _ [84, 85, 86, 87, 88, 89, 90, 91, 92, 93, 94, 95, 96, 97, 98] (by decide +kernel) (by decide +kernel)
set_option maxRecDepth 20000 in
theorem ggX12_isBoth_X12_isSingle_c6 : GoodIn wsX12_isBoth wsX100 := goodIn_r _ [99, 100, 101, 102, 103, 104, 105, 106, 107, 108, 109, 110, 111, 112, 113, 114, 115, 116, 117, 118, 119, 120] (by decide +kernel) (by decide +kernel)
set_option maxRecDepth 20000 in
theorem ggX12_isBoth_X12_isSingle : GoodIn wsX12_isBoth wsX12_isSingle := (goodIn_ca (goodIn_ca (goodIn_ca ggX12_isBoth_X12_isSingle_c1 (goodIn_app ggX12_isBoth_X12_isSingle_c2 (goodIn_app ggX12_isBoth_X12_isSingle_c3 ggX12_isBoth_X12_isSingle_c4))) ggX12_isBoth_X12_isSingle_c5) ggX12_isBoth_X12_isSingle_c6)
set_option maxRecDepth 20000 in
theorem gX12_isBoth_X12_isSingle : GoodIn wsX12_isBoth (wsV RX12 174 RX12 yX12_isSingle wsX12_isSingle) := goodIn_app (goodIn_of _ (by decide +kernel)) ggX12_isBoth_X12_isSingle
set_option maxRecDepth 20000 in
theorem ggX12_isBoth_X12_eat : GoodIn wsX12_isBoth wsX12_eat := goodIn_r _ [8, 9, 10, 11, 12, 4, 13, 14, 84, 85, 86, 87, 88, 89, 90, 91, 92, 93, 94, 95, 96, 97, 98] (by decide +kernel) (by decide +kernel)
set_option maxRecDepth 20000 in
theorem gX12_isBoth_X12_eat : GoodIn wsX12_isBoth (wsV RX12 121 RX12 yX12_eat wsX12_eat) := goodIn_app (goodIn_of _ (by decide +kernel)) ggX12_isBoth_X12_eat
set_option maxRecDepth 20000 in
theorem ggX12_isBoth_X12_put : GoodIn wsX12_isBoth wsX12_put := goodIn_r _ [18, 19, 84, 85, 86, 87, 88, 89, 90, 91, 92, 93, 94, 95, 96, 97, 98, 99, 100, 101, 102, 103, 104, 105, 106, 107, 108, 109, 110, 111, 112, 113, 114, 115, 116, 117, 118, 119, 120] (by decide +kernel) (by decide +kernel)
set_option maxRecDepth 20000 in
theorem gX12_isBoth_X12_put : GoodIn wsX12_isBoth (wsV RX12 170 RX12 yX12_put wsX12_put) := goodIn_app (goodIn_of _ (by decide +kernel)) ggX12_isBoth_X12_put
theorem dX12_isBoth_0 : decode cX12_isBoth 0 = .ok (.aload_n 0, 1) := by decide +kernel
theorem dX12_isBoth_1 : decode cX12_isBoth 1 = .ok (.invokevirtual 174, 3) := by decide +kernel
theorem dX12_isBoth_4 : decode cX12_isBoth 4 = .ok (.ifCond .ne 5, 3) := by decide +kernel
theorem dX12_isBoth_7 : decode cX12_isBoth 7 = .ok (.iconst 0, 1) := by decide +kernel
theorem dX12_isBoth_8 : decode cX12_isBoth 8 = .ok (.ireturn, 1) := by decide +kernel
theorem dX12_isBoth_9 : decode cX12_isBoth 9 = .ok (.aload_n 0, 1) := by decide +kernel
theorem dX12_isBoth_10 : decode cX12_isBoth 10 = .ok (.bipush 29, 2) := by decide +kernel
theorem dX12_isBoth_12 : decode cX12_isBoth 12 = .ok (.invokevirtual 121, 3) := by decide +kernel
theorem dX12_isBoth_15 : decode cX12_isBoth 15 = .ok (.ifCond .eq 21, 3) := by decide +kernel
theorem dX12_isBoth_18 : decode cX12_isBoth 18 = .ok (.aload_n 0, 1) := by decide +kernel
theorem dX12_isBoth_19 : decode cX12_isBoth 19 = .ok (.invokevirtual 174, 3) := by decide +kernel
theorem dX12_isBoth_22 : decode cX12_isBoth 22 = .ok (.ifCond .ne 5, 3) := by decide +kernel
theorem dX12_isBoth_25 : decode cX12_isBoth 25 = .ok (.iconst 0, 1) := by decide +kernel
theorem dX12_isBoth_26 : decode cX12_isBoth 26 = .ok (.ireturn, 1) := by decide +kernel
theorem dX12_isBoth_27 : decode cX12_isBoth 27 = .ok (.aload_n 0, 1) := by decide +kernel
theorem dX12_isBoth_28 : decode cX12_isBoth 28 = .ok (.bipush 29, 2) := by decide +kernel
theorem dX12_isBoth_30 : decode cX12_isBoth 30 = .ok (.invokevirtual 170, 3) := by decide +kernel
theorem dX12_isBoth_33 : decode cX12_isBoth 33 = .ok (.goto (-24), 3) := by decide +kernel
theorem dX12_isBoth_36 : decode cX12_isBoth 36 = .ok (.iconst 1, 1) := by decide +kernel
theorem dX12_isBoth_37 : decode cX12_isBoth 37 = .ok (.ireturn, 1) := by decide +kernel
theorem dX12_isDeeper_0 : decode cX12_isDeeper 0 = .ok (.aload_n 0, 1) := by decide +kernel
theorem dX12_isDeeper_1 : decode cX12_isDeeper 1 = .ok (.getfield 177, 3) := by decide +kernel
theorem dX12_isDeeper_4 : decode cX12_isDeeper 4 = .ok (.bipush 8, 2) := by decide +kernel
theorem dX12_isDeeper_6 : decode cX12_isDeeper 6 = .ok (.if_icmp .ne 5, 3) := by decide +kernel
theorem dX12_isDeeper_9 : decode cX12_isDeeper 9 = .ok (.iconst 0, 1) := by decide +kernel
theorem dX12_isDeeper_10 : decode cX12_isDeeper 10 = .ok (.ireturn, 1) := by decide +kernel
theorem dX12_isDeeper_11 : decode cX12_isDeeper 11 = .ok (.aload_n 0, 1) := by decide +kernel
theorem dX12_isDeeper_12 : decode cX12_isDeeper 12 = .ok (.dup, 1) := by decide +kernel
theorem dX12_isDeeper_13 : decode cX12_isDeeper 13 = .ok (.getfield 177, 3) := by decide +kernel
theorem dX12_isDeeper_16 : decode cX12_isDeeper 16 = .ok (.iconst 1, 1) := by decide +kernel
theorem dX12_isDeeper_17 : decode cX12_isDeeper 17 = .ok (.iadd, 1) := by decide +kernel
theorem dX12_isDeeper_18 : decode cX12_isDeeper 18 = .ok (.putfield 177, 3) := by decide +kernel
theorem dX12_isDeeper_21 : decode cX12_isDeeper 21 = .ok (.aload_n 0, 1) := by decide +kernel
theorem dX12_isDeeper_22 : decode cX12_isDeeper 22 = .ok (.dup, 1) := by decide +kernel
theorem dX12_isDeeper_23 : decode cX12_isDeeper 23 = .ok (.getfield 115, 3) := by decide +kernel
theorem dX12_isDeeper_26 : decode cX12_isDeeper 26 = .ok (.iconst 1, 1) := by decide +kernel
theorem dX12_isDeeper_27 : decode cX12_isDeeper 27 = .ok (.iadd, 1) := by decide +kernel
theorem dX12_isDeeper_28 : decode cX12_isDeeper 28 = .ok (.putfield 115, 3) := by decide +kernel
theorem dX12_isDeeper_31 : decode cX12_isDeeper 31 = .ok (.iconst 1, 1) := by decide +kernel
theorem dX12_isDeeper_32 : decode cX12_isDeeper 32 = .ok (.ireturn, 1) := by decide +kernel
set_option maxRecDepth 20000 in
theorem ggX12_isName_X12_put : GoodIn wsX12_isName wsX12_put := goodIn_r _ [7, 1, 22, 23, 24, 25, 26, 27, 28, 29, 30, 31, 32, 33, 34, 35, 36, 37, 38, 39, 40, 41, 42, 43, 44, 45, 46, 47, 48, 49, 50, 51, 52, 53, 54, 55, 56, 57, 58] (by decide +kernel) (by decide +kernel)
set_option maxRecDepth 20000 in
theorem gX12_isName_X12_put : GoodIn wsX12_isName (wsV RX12 170 RX12 yX12_put wsX12_put) := goodIn_app (goodIn_of _ (by decide +kernel)) ggX12_isName_X12_put
set_option maxRecDepth 20000 in
theorem ggX12_isName_X12_eatAs : GoodIn wsX12_isName wsX12_eatAs := goodIn_r _ [11, 12, 2, 13, 14, 15, 6, 16, 17, 18, 19, 20, 21, 22, 23, 24, 25, 26, 27, 28, 29, 30, 31, 32, 33, 34, 35, 36] (by decide +kernel) (by decide +kernel)
set_option maxRecDepth 20000 in
theorem gX12_isName_X12_eatAs : GoodIn wsX12_isName (wsV RX12 149 RX12 yX12_eatAs wsX12_eatAs) := goodIn_app (goodIn_of _ (by decide +kernel)) ggX12_isName_X12_eatAs
theorem dX12_isName_0 : decode cX12_isName 0 = .ok (.aload_n 0, 1) := by decide +kernel
theorem dX12_isName_1 : decode cX12_isName 1 = .ok (.getfield 39, 3) := by decide +kernel
theorem dX12_isName_4 : decode cX12_isName 4 = .ok (.getfield 180, 3) := by decide +kernel
theorem dX12_isName_7 : decode cX12_isName 7 = .ok (.aload_n 0, 1) := by decide +kernel
theorem dX12_isName_8 : decode cX12_isName 8 = .ok (.getfield 39, 3) := by decide +kernel
theorem dX12_isName_11 : decode cX12_isName 11 = .ok (.getfield 183, 3) := by decide +kernel
theorem dX12_isName_14 : decode cX12_isName 14 = .ok (.aload_n 0, 1) := by decide +kernel
theorem dX12_isName_15 : decode cX12_isName 15 = .ok (.getfield 39, 3) := by decide +kernel
theorem dX12_isName_18 : decode cX12_isName 18 = .ok (.getfield 127, 3) := by decide +kernel
theorem dX12_isName_21 : decode cX12_isName 21 = .ok (.iastore, 1) := by decide +kernel
theorem dX12_isName_22 : decode cX12_isName 22 = .ok (.aload_n 0, 1) := by decide +kernel
theorem dX12_isName_23 : decode cX12_isName 23 = .ok (.getfield 39, 3) := by decide +kernel
theorem dX12_isName_26 : decode cX12_isName 26 = .ok (.dup, 1) := by decide +kernel
theorem dX12_isName_27 : decode cX12_isName 27 = .ok (.getfield 183, 3) := by decide +kernel
theorem dX12_isName_30 : decode cX12_isName 30 = .ok (.iconst 1, 1) := by decide +kernel
theorem dX12_isName_31 : decode cX12_isName 31 = .ok (.iadd, 1) := by decide +kernel
theorem dX12_isName_32 : decode cX12_isName 32 = .ok (.putfield 183, 3) := by decide +kernel
theorem dX12_isName_35 : decode cX12_isName 35 = .ok (.aload_n 0, 1) := by decide +kernel
theorem dX12_isName_36 : decode cX12_isName 36 = .ok (.aload_n 0, 1) := by decide +kernel
theorem dX12_isName_37 : decode cX12_isName 37 = .ok (.getfield 115, 3) := by decide +kernel
theorem dX12_isName_40 : decode cX12_isName 40 = .ok (.invokevirtual 170, 3) := by decide +kernel
theorem dX12_isName_43 : decode cX12_isName 43 = .ok (.aload_n 0, 1) := by decide +kernel
theorem dX12_isName_44 : decode cX12_isName 44 = .ok (.bipush 40, 2) := by decide +kernel
theorem dX12_isName_46 : decode cX12_isName 46 = .ok (.iload_n 1, 1) := by decide +kernel
theorem dX12_isName_47 : decode cX12_isName 47 = .ok (.invokevirtual 149, 3) := by decide +kernel
theorem dX12_isName_50 : decode cX12_isName 50 = .ok (.ireturn, 1) := by decide +kernel
set_option maxRecDepth 20000 in
theorem ggX12_isNamed_X12_put : GoodIn wsX12_isNamed wsX12_put := goodIn_r _ [7, 8, 26, 27, 28, 29, 30, 31, 32, 33, 34, 35, 36, 37, 38, 39, 40, 41, 42, 43, 44, 45, 46, 47, 48, 49, 50, 51, 52, 53, 54, 55, 56, 57, 58, 59, 60, 61, 62] (by decide +kernel) (by decide +kernel)
set_option maxRecDepth 20000 in
theorem gX12_isNamed_X12_put : GoodIn wsX12_isNamed (wsV RX12 170 RX12 yX12_put wsX12_put) := goodIn_app (goodIn_of _ (by decide +kernel)) ggX12_isNamed_X12_put
set_option maxRecDepth 20000 in
theorem ggX12_isNamed_X12_isName : GoodIn wsX12_isNamed wsX12_isName := goodIn_r _ [12, 8, 2, 3, 4, 5, 6, 7, 13, 14, 15, 16, 17, 18, 19, 20, 21, 22, 23, 24, 25, 1, 26, 27, 28, 29, 30, 31, 32, 33, 34, 35, 36, 37, 38, 39, 40, 41, 42, 43, 44, 45, 46, 47, 48, 49, 50, 51, 52, 53, 54, 55, 56, 57, 58, 59, 60, 61, 62] (by decide +kernel) (by decide +kernel)
set_option maxRecDepth 20000 in
theorem gX12_isNamed_X12_isName : GoodIn wsX12_isNamed (wsV RX12 186 RX12 yX12_isName wsX12_isName) := goodIn_app (goodIn_of _ (by decide +kernel)) ggX12_isNamed_X12_isName
theorem dX12_isNamed_0 : decode cX12_isNamed 0 = .ok (.aload_n 0, 1) := by decide +kernel
theorem dX12_isNamed_1 : decode cX12_isNamed 1 = .ok (.aload_n 0, 1) := by decide +kernel
theorem dX12_isNamed_2 : decode cX12_isNamed 2 = .ok (.getfield 17, 3) := by decide +kernel
theorem dX12_isNamed_5 : decode cX12_isNamed 5 = .ok (.aload_n 0, 1) := by decide +kernel
theorem dX12_isNamed_6 : decode cX12_isNamed 6 = .ok (.getfield 115, 3) := by decide +kernel
theorem dX12_isNamed_9 : decode cX12_isNamed 9 = .ok (.iaload, 1) := by decide +kernel
theorem dX12_isNamed_10 : decode cX12_isNamed 10 = .ok (.invokevirtual 170, 3) := by decide +kernel
theorem dX12_isNamed_13 : decode cX12_isNamed 13 = .ok (.aload_n 0, 1) := by decide +kernel
theorem dX12_isNamed_14 : decode cX12_isNamed 14 = .ok (.dup, 1) := by decide +kernel
theorem dX12_isNamed_15 : decode cX12_isNamed 15 = .ok (.getfield 115, 3) := by decide +kernel
theorem dX12_isNamed_18 : decode cX12_isNamed 18 = .ok (.iconst 1, 1) := by decide +kernel
theorem dX12_isNamed_19 : decode cX12_isNamed 19 = .ok (.iadd, 1) := by decide +kernel
theorem dX12_isNamed_20 : decode cX12_isNamed 20 = .ok (.putfield 115, 3) := by decide +kernel
theorem dX12_isNamed_23 : decode cX12_isNamed 23 = .ok (.aload_n 0, 1) := by decide +kernel
theorem dX12_isNamed_24 : decode cX12_isNamed 24 = .ok (.iload_n 1, 1) := by decide +kernel
theorem dX12_isNamed_25 : decode cX12_isNamed 25 = .ok (.invokevirtual 186, 3) := by decide +kernel
theorem dX12_isNamed_28 : decode cX12_isNamed 28 = .ok (.ireturn, 1) := by decide +kernel
set_option maxRecDepth 20000 in
theorem ggX12_isSingle_X12_is : GoodIn wsX12_isSingle wsX12_is := goodIn_r _ [7, 8, 2, 84, 85, 86, 87, 88, 89, 90, 91, 92, 93, 94, 95, 96, 97, 98] (by decide +kernel) (by decide +kernel)
set_option maxRecDepth 20000 in
theorem gX12_isSingle_X12_is : GoodIn wsX12_isSingle (wsV RX12 118 RX12 yX12_is wsX12_is) := goodIn_app (goodIn_of _ (by decide +kernel)) ggX12_isSingle_X12_is
set_option maxRecDepth 20000 in
theorem ggX12_isSingle_X12_isDeeper : GoodIn wsX12_isSingle wsX12_isDeeper := goodIn_r _ [12, 1, 2, 84, 85, 86, 87, 88, 89, 90, 91, 92, 93, 94, 95, 96, 97, 98] (by decide +kernel) (by decide +kernel)
set_option maxRecDepth 20000 in
theorem gX12_isSingle_X12_isDeeper : GoodIn wsX12_isSingle (wsV RX12 189 RX12 yX12_isDeeper wsX12_isDeeper) := goodIn_app (goodIn_of _ (by decide +kernel)) ggX12_isSingle_X12_isDeeper
set_option maxRecDepth 20000 in
theorem ggX12_isSingle_X12_isSingle_c1 : GoodIn wsX12_isSingle (.code yX12_isSingle cX12_isSingle 2 (some .boolean) :: wsX12_isSingle_r1) := goodIn_r _ [0, 1, 2, 3, 4, 5, 6, 7, 8, 9, 10, 11, 12, 13, 14, 15, 16, 17, 18, 19, 20, 21, 22, 23, 24] (by decide +kernel) (by decide +kernel)
set_option maxRecDepth 20000 in
theorem ggX12_isSingle_X12_isSingle_c2 : GoodIn wsX12_isSingle wsX12_isSingle_r2 := goodIn_r _ [25, 26, 27, 28, 29, 30, 31, 32, 33, 34, 35, 36, 37, 38, 39, 40, 41, 42, 43, 44, 45, 46, 47, 48] (by decide +kernel) (by decide +kernel)
set_option maxRecDepth 20000 in
theorem ggX12_isSingle_X12_isSingle_c3 : GoodIn wsX12_isSingle wsX12_isSingle_r3 := goodIn_r _ [49, 50, 51, 52, 53, 54, 55, 56, 57, 58, 59, 60, 61, 62, 63, 64, 65, 66, 67, 68, 69, 70, 71, 72] (by decide +kernel) (by decide +kernel)
set_option maxRecDepth 20000 in
theorem ggX12_isSingle_X12_isSingle_c4 : GoodIn wsX12_isSingle wsX12_isSingle_r4 := goodIn_r _ [73, 74, 75, 76, 77, 78, 79, 80, 81, 82, 83] (by decide +kernel) (by decide +kernel)
set_option maxRecDepth 20000 in
theorem ggX12_isSingle_X12_isSingle_c5 : GoodIn wsX12_isSingle wsX120 := goodIn_r _ [84, 85, 86, 87, 88, 89, 90, 91, 92, 93, 94, 95, 96, 97, 98] (by decide +kernel) (by decide +kernel)
set_option maxRecDepth 20000 in
theorem ggX12_isSingle_X12_isSingle_c6 : GoodIn wsX12_isSingle wsX100 := goodIn_r _ [99, 100, 101, 102, 103, 104, 105, 106, 107, 108, 109, 110, 111, 112, 113, 114, 115, 116, 117, 118, 119, 120] (by decide +kernel) (by decide +kernel)
set_option maxRecDepth 20000 in
theorem ggX12_isSingle_X12_isSingle : GoodIn wsX12_isSingle wsX12_isSingle := (goodIn_ca (goodIn_ca (goodIn_ca ggX12_isSingle_X12_isSingle_c1 (goodIn_app ggX12_isSingle_X12_isSingle_c2 (goodIn_app ggX12_isSingle_X12_isSingle_c3 ggX12_isSingle_X12_isSingle_c4))) ggX12_isSingle_X12_isSingle_c5) ggX12_isSingle_X12_isSingle_c6)
set_option maxRecDepth 20000 in
theorem gX12_isSingle_X12_isSingle : GoodIn wsX12_isSingle (wsV RX12 174 RX12 yX12_isSingle wsX12_isSingle) := goodIn_app (goodIn_of _ (by decide +kernel)) ggX12_isSingle_X12_isSingle
set_option maxRecDepth 20000 in
theorem ggX12_isSingle_X12_put : GoodIn wsX12_isSingle wsX12_put := goodIn_r _ [19, 20, 84, 85, 86, 87, 88, 89, 90, 91, 92, 93, 94, 95, 96, 97, 98, 99, 100, 101, 102, 103, 104, 105, 106, 107, 108, 109, 110, 111, 112, 113, 114, 115, 116, 117, 118, 119, 120] (by decide +kernel) (by decide +kernel)
set_option maxRecDepth 20000 in
theorem gX12_isSingle_X12_put : GoodIn wsX12_isSingle (wsV RX12 170 RX12 yX12_put wsX12_put) := goodIn_app (goodIn_of _ (by decide +kernel)) ggX12_isSingle_X12_put
set_option maxRecDepth 20000 in
theorem ggX12_isSingle_X12_isSign : GoodIn wsX12_isSingle wsX12_isSign := goodIn_r _ [24, 8, 2, 84, 85, 86, 87, 88, 89, 90, 91, 92, 93, 94, 95, 96, 97, 98] (by decide +kernel) (by decide +kernel)
set_option maxRecDepth 20000 in
theorem gX12_isSingle_X12_isSign : GoodIn wsX12_isSingle (wsV RX12 192 RX12 yX12_isSign wsX12_isSign) := goodIn_app (goodIn_of _ (by decide +kernel)) ggX12_isSingle_X12_isSign
set_option maxRecDepth 20000 in
theorem ggX12_isSingle_X12_isTest_c1 : GoodIn wsX12_isSingle (.code yX12_isTest cX12_isTest 1 (some .boolean) :: wsX12_isTest_r1) := goodIn_r _ [80, 81, 82, 83, 6, 32, 33, 34, 35, 2, 3, 4, 5, 7, 8, 16, 17, 18, 19, 20, 79, 13, 14, 15, 0] (by decide +kernel) (by decide +kernel)
set_option maxRecDepth 20000 in
theorem ggX12_isSingle_X12_isTest_c2 : GoodIn wsX12_isSingle wsX12_isTest_r2 := goodIn_r _ [1, 9, 10, 11, 12, 21, 22, 23, 24, 25, 26, 27, 28, 29, 30, 31, 36, 37, 38, 39, 40, 41, 42, 43] (by decide +kernel) (by decide +kernel)
set_option maxRecDepth 20000 in
theorem ggX12_isSingle_X12_isTest_c3 : GoodIn wsX12_isSingle wsX12_isTest_r3 := goodIn_r _ [44, 45, 46, 47, 48, 49, 50, 51, 52, 53, 54, 55, 56, 57, 58, 59, 60, 61, 62, 63, 64, 65, 66, 67] (by decide +kernel) (by decide +kernel)
set_option maxRecDepth 20000 in
theorem ggX12_isSingle_X12_isTest_c4 : GoodIn wsX12_isSingle wsX12_isTest_r4 := goodIn_r _ [68, 69, 70, 71, 72, 73, 74, 75, 76, 77, 78] (by decide +kernel) (by decide +kernel)
set_option maxRecDepth 20000 in
theorem ggX12_isSingle_X12_isTest_c5 : GoodIn wsX12_isSingle wsX120 := goodIn_r _ [84, 85, 86, 87, 88, 89, 90, 91, 92, 93, 94, 95, 96, 97, 98] (by decide +kernel) (by decide +kernel)
set_option maxRecDepth 20000 in
theorem ggX12_isSingle_X12_isTest_c6 : GoodIn wsX12_isSingle wsX100 := goodIn_r _ [99, 100, 101, 102, 103, 104, 105, 106, 107, 108, 109, 110, 111, 112, 113, 114, 115, 116, 117, 118, 119, 120] (by decide +kernel) (by decide +kernel)
set_option maxRecDepth 20000 in
theorem ggX12_isSingle_X12_isTest : GoodIn wsX12_isSingle wsX12_isTest := (goodIn_ca (goodIn_ca (goodIn_ca ggX12_isSingle_X12_isTest_c1 (goodIn_app ggX12_isSingle_X12_isTest_c2 (goodIn_app ggX12_isSingle_X12_isTest_c3 ggX12_isSingle_X12_isTest_c4))) ggX12_isSingle_X12_isTest_c5) ggX12_isSingle_X12_isTest_c6)
set_option maxRecDepth 20000 in
theorem gX12_isSingle_X12_isTest : GoodIn wsX12_isSingle (wsV RX12 161 RX12 yX12_isTest wsX12_isTest) := goodIn_app (goodIn_of _ (by decide +kernel)) ggX12_isSingle_X12_isTest
set_option maxRecDepth 20000 in
theorem ggX12_isSingle_X12_eatSign : GoodIn wsX12_isSingle wsX12_eatSign := goodIn_r _ [31, 32, 33, 34, 6, 35, 2, 3, 4, 5, 7, 8, 84, 85, 86, 87, 88, 89, 90, 91, 92, 93, 94, 95, 96, 97, 98] (by decide +kernel) (by decide +kernel)
set_option maxRecDepth 20000 in
theorem gX12_isSingle_X12_eatSign : GoodIn wsX12_isSingle (wsV RX12 141 RX12 yX12_eatSign wsX12_eatSign) := goodIn_app (goodIn_of _ (by decide +kernel)) ggX12_isSingle_X12_eatSign
set_option maxRecDepth 20000 in
theorem ggX12_isSingle_X12_isNamed_c1 : GoodIn wsX12_isSingle (.code yX12_isNamed cX12_isNamed 2 (some .boolean) :: wsX12_isNamed_r1) := goodIn_r _ [39, 8, 2, 16, 17, 18, 6, 19, 20, 40, 41, 42, 43, 44, 45, 46, 47, 48, 32, 33, 34, 35, 3, 4, 5] (by decide +kernel) (by decide +kernel)
set_option maxRecDepth 20000 in
theorem ggX12_isSingle_X12_isNamed_c2 : GoodIn wsX12_isSingle wsX12_isNamed_r2 := goodIn_r _ [7] (by decide +kernel) (by decide +kernel)
set_option maxRecDepth 20000 in
theorem ggX12_isSingle_X12_isNamed_c3 : GoodIn wsX12_isSingle wsX120 := goodIn_r _ [84, 85, 86, 87, 88, 89, 90, 91, 92, 93, 94, 95, 96, 97, 98] (by decide +kernel) (by decide +kernel)
set_option maxRecDepth 20000 in
theorem ggX12_isSingle_X12_isNamed_c4 : GoodIn wsX12_isSingle wsX100 := goodIn_r _ [99, 100, 101, 102, 103, 104, 105, 106, 107, 108, 109, 110, 111, 112, 113, 114, 115, 116, 117, 118, 119, 120] (by decide +kernel) (by decide +kernel)
set_option maxRecDepth 20000 in
theorem ggX12_isSingle_X12_isNamed : GoodIn wsX12_isSingle wsX12_isNamed := (goodIn_ca (goodIn_ca (goodIn_ca ggX12_isSingle_X12_isNamed_c1 ggX12_isSingle_X12_isNamed_c2) ggX12_isSingle_X12_isNamed_c3) ggX12_isSingle_X12_isNamed_c4)
set_option maxRecDepth 20000 in
theorem gX12_isSingle_X12_isNamed : GoodIn wsX12_isSingle (wsV RX12 195 RX12 yX12_isNamed wsX12_isNamed) := goodIn_app (goodIn_of _ (by decide +kernel)) ggX12_isSingle_X12_isNamed
set_option maxRecDepth 20000 in
theorem ggX12_isSingle_X12_isSum_c1 : GoodIn wsX12_isSingle (.code yX12_isSum cX12_isSum 2 (some .boolean) :: wsX12_isSum_r1) := goodIn_r _ [52, 2, 53, 54, 55, 6, 21, 22, 23, 24, 8, 16, 17, 18, 19, 20, 56, 1, 9, 10, 11, 12, 49, 50, 51] (by decide +kernel) (by decide +kernel)
set_option maxRecDepth 20000 in
theorem ggX12_isSingle_X12_isSum_c2 : GoodIn wsX12_isSingle wsX12_isSum_r2 := goodIn_r _ [28, 29, 30, 31, 32, 33, 34, 35, 3, 4, 5, 7, 57, 58, 59, 60, 61, 62, 63, 64, 65, 66, 67, 68] (by decide +kernel) (by decide +kernel)
set_option maxRecDepth 20000 in
theorem ggX12_isSingle_X12_isSum_c3 : GoodIn wsX12_isSingle wsX12_isSum_r3 := goodIn_r _ [69, 70, 71, 72, 73, 74, 75, 36, 37, 38, 39, 40, 41, 42, 43, 44, 45, 46, 47, 48, 76, 77, 78] (by decide +kernel) (by decide +kernel)
set_option maxRecDepth 20000 in
theorem ggX12_isSingle_X12_isSum_c4 : GoodIn wsX12_isSingle wsX120 := goodIn_r _ [84, 85, 86, 87, 88, 89, 90, 91, 92, 93, 94, 95, 96, 97, 98] (by decide +kernel) (by decide +kernel)
set_option maxRecDepth 20000 in
theorem ggX12_isSingle_X12_isSum_c5 : GoodIn wsX12_isSingle wsX100 := goodIn_r _ [99, 100, 101, 102, 103, 104, 105, 106, 107, 108, 109, 110, 111, 112, 113, 114, 115, 116, 117, 118, 119, 120] (by decide +kernel) (by decide +kernel)
set_option maxRecDepth 20000 in
theorem ggX12_isSingle_X12_isSum : GoodIn wsX12_isSingle wsX12_isSum := (goodIn_ca (goodIn_ca (goodIn_ca ggX12_isSingle_X12_isSum_c1 (goodIn_app ggX12_isSingle_X12_isSum_c2 ggX12_isSingle_X12_isSum_c3)) ggX12_isSingle_X12_isSum_c4) ggX12_isSingle_X12_isSum_c5)
set_option maxRecDepth 20000 in
theorem gX12_isSingle_X12_isSum : GoodIn wsX12_isSingle (wsV RX12 198 RX12 yX12_isSum wsX12_isSum) := goodIn_app (goodIn_of _ (by decide +kernel)) ggX12_isSingle_X12_isSum
theorem dX12_isSingle_0 : decode cX12_isSingle 0 = .ok (.aload_n 0, 1) := by decide +kernel
theorem dX12_isSingle_1 : decode cX12_isSingle 1 = .ok (.bipush 28, 2) := by decide +kernel
theorem dX12_isSingle_3 : decode cX12_isSingle 3 = .ok (.invokevirtual 118, 3) := by decide +kernel
theorem dX12_isSingle_6 : decode cX12_isSingle 6 = .ok (.ifCond .eq 37, 3) := by decide +kernel
theorem dX12_isSingle_9 : decode cX12_isSingle 9 = .ok (.aload_n 0, 1) := by decide +kernel
theorem dX12_isSingle_10 : decode cX12_isSingle 10 = .ok (.invokevirtual 189, 3) := by decide +kernel
theorem dX12_isSingle_13 : decode cX12_isSingle 13 = .ok (.ifCond .eq 10, 3) := by decide +kernel
theorem dX12_isSingle_16 : decode cX12_isSingle 16 = .ok (.aload_n 0, 1) := by decide +kernel
theorem dX12_isSingle_17 : decode cX12_isSingle 17 = .ok (.invokevirtual 174, 3) := by decide +kernel
theorem dX12_isSingle_20 : decode cX12_isSingle 20 = .ok (.ifCond .ne 5, 3) := by decide +kernel
theorem dX12_isSingle_23 : decode cX12_isSingle 23 = .ok (.iconst 0, 1) := by decide +kernel
theorem dX12_isSingle_24 : decode cX12_isSingle 24 = .ok (.ireturn, 1) := by decide +kernel
theorem dX12_isSingle_25 : decode cX12_isSingle 25 = .ok (.aload_n 0, 1) := by decide +kernel
theorem dX12_isSingle_26 : decode cX12_isSingle 26 = .ok (.dup, 1) := by decide +kernel
theorem dX12_isSingle_27 : decode cX12_isSingle 27 = .ok (.getfield 177, 3) := by decide +kernel
theorem dX12_isSingle_30 : decode cX12_isSingle 30 = .ok (.iconst 1, 1) := by decide +kernel
theorem dX12_isSingle_31 : decode cX12_isSingle 31 = .ok (.isub, 1) := by decide +kernel
theorem dX12_isSingle_32 : decode cX12_isSingle 32 = .ok (.putfield 177, 3) := by decide +kernel
theorem dX12_isSingle_35 : decode cX12_isSingle 35 = .ok (.aload_n 0, 1) := by decide +kernel
theorem dX12_isSingle_36 : decode cX12_isSingle 36 = .ok (.bipush 28, 2) := by decide +kernel
theorem dX12_isSingle_38 : decode cX12_isSingle 38 = .ok (.invokevirtual 170, 3) := by decide +kernel
theorem dX12_isSingle_41 : decode cX12_isSingle 41 = .ok (.iconst 1, 1) := by decide +kernel
theorem dX12_isSingle_42 : decode cX12_isSingle 42 = .ok (.ireturn, 1) := by decide +kernel
theorem dX12_isSingle_43 : decode cX12_isSingle 43 = .ok (.aload_n 0, 1) := by decide +kernel
theorem dX12_isSingle_44 : decode cX12_isSingle 44 = .ok (.bipush 91, 2) := by decide +kernel
theorem dX12_isSingle_46 : decode cX12_isSingle 46 = .ok (.invokevirtual 192, 3) := by decide +kernel
theorem dX12_isSingle_49 : decode cX12_isSingle 49 = .ok (.ifCond .eq 36, 3) := by decide +kernel
theorem dX12_isSingle_52 : decode cX12_isSingle 52 = .ok (.aload_n 0, 1) := by decide +kernel
theorem dX12_isSingle_53 : decode cX12_isSingle 53 = .ok (.invokevirtual 189, 3) := by decide +kernel
theorem dX12_isSingle_56 : decode cX12_isSingle 56 = .ok (.ifCond .eq 10, 3) := by decide +kernel
theorem dX12_isSingle_59 : decode cX12_isSingle 59 = .ok (.aload_n 0, 1) := by decide +kernel
theorem dX12_isSingle_60 : decode cX12_isSingle 60 = .ok (.invokevirtual 161, 3) := by decide +kernel
theorem dX12_isSingle_63 : decode cX12_isSingle 63 = .ok (.ifCond .ne 5, 3) := by decide +kernel
theorem dX12_isSingle_66 : decode cX12_isSingle 66 = .ok (.iconst 0, 1) := by decide +kernel
theorem dX12_isSingle_67 : decode cX12_isSingle 67 = .ok (.ireturn, 1) := by decide +kernel
theorem dX12_isSingle_68 : decode cX12_isSingle 68 = .ok (.aload_n 0, 1) := by decide +kernel
theorem dX12_isSingle_69 : decode cX12_isSingle 69 = .ok (.dup, 1) := by decide +kernel
theorem dX12_isSingle_70 : decode cX12_isSingle 70 = .ok (.getfield 177, 3) := by decide +kernel
theorem dX12_isSingle_73 : decode cX12_isSingle 73 = .ok (.iconst 1, 1) := by decide +kernel
theorem dX12_isSingle_74 : decode cX12_isSingle 74 = .ok (.isub, 1) := by decide +kernel
theorem dX12_isSingle_75 : decode cX12_isSingle 75 = .ok (.putfield 177, 3) := by decide +kernel
theorem dX12_isSingle_78 : decode cX12_isSingle 78 = .ok (.aload_n 0, 1) := by decide +kernel
theorem dX12_isSingle_79 : decode cX12_isSingle 79 = .ok (.bipush 93, 2) := by decide +kernel
theorem dX12_isSingle_81 : decode cX12_isSingle 81 = .ok (.invokevirtual 141, 3) := by decide +kernel
theorem dX12_isSingle_84 : decode cX12_isSingle 84 = .ok (.ireturn, 1) := by decide +kernel
theorem dX12_isSingle_85 : decode cX12_isSingle 85 = .ok (.aload_n 0, 1) := by decide +kernel
theorem dX12_isSingle_86 : decode cX12_isSingle 86 = .ok (.bipush 26, 2) := by decide +kernel
theorem dX12_isSingle_88 : decode cX12_isSingle 88 = .ok (.invokevirtual 118, 3) := by decide +kernel
theorem dX12_isSingle_91 : decode cX12_isSingle 91 = .ok (.ifCond .ne 12, 3) := by decide +kernel
theorem dX12_isSingle_94 : decode cX12_isSingle 94 = .ok (.aload_n 0, 1) := by decide +kernel
theorem dX12_isSingle_95 : decode cX12_isSingle 95 = .ok (.bipush 27, 2) := by decide +kernel
theorem dX12_isSingle_97 : decode cX12_isSingle 97 = .ok (.invokevirtual 118, 3) := by decide +kernel
theorem dX12_isSingle_100 : decode cX12_isSingle 100 = .ok (.ifCond .eq 10, 3) := by decide +kernel
theorem dX12_isSingle_103 : decode cX12_isSingle 103 = .ok (.aload_n 0, 1) := by decide +kernel
theorem dX12_isSingle_104 : decode cX12_isSingle 104 = .ok (.bipush 14, 2) := by decide +kernel
theorem dX12_isSingle_106 : decode cX12_isSingle 106 = .ok (.invokevirtual 195, 3) := by decide +kernel
theorem dX12_isSingle_109 : decode cX12_isSingle 109 = .ok (.ireturn, 1) := by decide +kernel
theorem dX12_isSingle_110 : decode cX12_isSingle 110 = .ok (.aload_n 0, 1) := by decide +kernel
theorem dX12_isSingle_111 : decode cX12_isSingle 111 = .ok (.invokevirtual 198, 3) := by decide +kernel
theorem dX12_isSingle_114 : decode cX12_isSingle 114 = .ok (.ifCond .ne 5, 3) := by decide +kernel
theorem dX12_isSingle_117 : decode cX12_isSingle 117 = .ok (.iconst 0, 1) := by decide +kernel
theorem dX12_isSingle_118 : decode cX12_isSingle 118 = .ok (.ireturn, 1) := by decide +kernel
theorem dX12_isSingle_119 : decode cX12_isSingle 119 = .ok (.aload_n 0, 1) := by decide +kernel
theorem dX12_isSingle_120 : decode cX12_isSingle 120 = .ok (.bipush 60, 2) := by decide +kernel
theorem dX12_isSingle_122 : decode cX12_isSingle 122 = .ok (.invokevirtual 192, 3) := by decide +kernel
theorem dX12_isSingle_125 : decode cX12_isSingle 125 = .ok (.ifCond .eq 8, 3) := by decide +kernel
theorem dX12_isSingle_128 : decode cX12_isSingle 128 = .ok (.bipush 48, 2) := by decide +kernel
theorem dX12_isSingle_130 : decode cX12_isSingle 130 = .ok (.goto 62, 3) := by decide +kernel
theorem dX12_isSingle_133 : decode cX12_isSingle 133 = .ok (.aload_n 0, 1) := by decide +kernel
theorem dX12_isSingle_134 : decode cX12_isSingle 134 = .ok (.bipush 62, 2) := by decide +kernel
theorem dX12_isSingle_136 : decode cX12_isSingle 136 = .ok (.invokevirtual 192, 3) := by decide +kernel
theorem dX12_isSingle_139 : decode cX12_isSingle 139 = .ok (.ifCond .eq 8, 3) := by decide +kernel
theorem dX12_isSingle_142 : decode cX12_isSingle 142 = .ok (.bipush 49, 2) := by decide +kernel
theorem dX12_isSingle_144 : decode cX12_isSingle 144 = .ok (.goto 48, 3) := by decide +kernel
theorem dX12_isSingle_147 : decode cX12_isSingle 147 = .ok (.aload_n 0, 1) := by decide +kernel
theorem dX12_isSingle_148 : decode cX12_isSingle 148 = .ok (.bipush 61, 2) := by decide +kernel
theorem dX12_isSingle_150 : decode cX12_isSingle 150 = .ok (.invokevirtual 192, 3) := by decide +kernel
theorem dX12_isSingle_153 : decode cX12_isSingle 153 = .ok (.ifCond .eq 8, 3) := by decide +kernel
theorem dX12_isSingle_156 : decode cX12_isSingle 156 = .ok (.bipush 51, 2) := by decide +kernel
theorem dX12_isSingle_158 : decode cX12_isSingle 158 = .ok (.goto 34, 3) := by decide +kernel
theorem dX12_isSingle_161 : decode cX12_isSingle 161 = .ok (.aload_n 0, 1) := by decide +kernel
theorem dX12_isSingle_162 : decode cX12_isSingle 162 = .ok (.sipush 300, 3) := by decide +kernel
theorem dX12_isSingle_165 : decode cX12_isSingle 165 = .ok (.invokevirtual 118, 3) := by decide +kernel
theorem dX12_isSingle_168 : decode cX12_isSingle 168 = .ok (.ifCond .eq 8, 3) := by decide +kernel
theorem dX12_isSingle_171 : decode cX12_isSingle 171 = .ok (.bipush 52, 2) := by decide +kernel
theorem dX12_isSingle_173 : decode cX12_isSingle 173 = .ok (.goto 19, 3) := by decide +kernel
theorem dX12_isSingle_176 : decode cX12_isSingle 176 = .ok (.aload_n 0, 1) := by decide +kernel
theorem dX12_isSingle_177 : decode cX12_isSingle 177 = .ok (.sipush 301, 3) := by decide +kernel
theorem dX12_isSingle_180 : decode cX12_isSingle 180 = .ok (.invokevirtual 118, 3) := by decide +kernel
theorem dX12_isSingle_183 : decode cX12_isSingle 183 = .ok (.ifCond .eq 8, 3) := by decide +kernel
theorem dX12_isSingle_186 : decode cX12_isSingle 186 = .ok (.bipush 53, 2) := by decide +kernel
theorem dX12_isSingle_188 : decode cX12_isSingle 188 = .ok (.goto 4, 3) := by decide +kernel
theorem dX12_isSingle_191 : decode cX12_isSingle 191 = .ok (.iconst (-1), 1) := by decide +kernel
theorem dX12_isSingle_192 : decode cX12_isSingle 192 = .ok (.istore_n 1, 1) := by decide +kernel
theorem dX12_isSingle_193 : decode cX12_isSingle 193 = .ok (.iload_n 1, 1) := by decide +kernel
theorem dX12_isSingle_194 : decode cX12_isSingle 194 = .ok (.iconst (-1), 1) := by decide +kernel
theorem dX12_isSingle_195 : decode cX12_isSingle 195 = .ok (.if_icmp .ne 5, 3) := by decide +kernel
theorem dX12_isSingle_198 : decode cX12_isSingle 198 = .ok (.iconst 0, 1) := by decide +kernel
theorem dX12_isSingle_199 : decode cX12_isSingle 199 = .ok (.ireturn, 1) := by decide +kernel
theorem dX12_isSingle_200 : decode cX12_isSingle 200 = .ok (.aload_n 0, 1) := by decide +kernel
theorem dX12_isSingle_201 : decode cX12_isSingle 201 = .ok (.dup, 1) := by decide +kernel
theorem dX12_isSingle_202 : decode cX12_isSingle 202 = .ok (.getfield 115, 3) := by decide +kernel
theorem dX12_isSingle_205 : decode cX12_isSingle 205 = .ok (.iconst 1, 1) := by decide +kernel
theorem dX12_isSingle_206 : decode cX12_isSingle 206 = .ok (.iadd, 1) := by decide +kernel
theorem dX12_isSingle_207 : decode cX12_isSingle 207 = .ok (.putfield 115, 3) := by decide +kernel
theorem dX12_isSingle_210 : decode cX12_isSingle 210 = .ok (.aload_n 0, 1) := by decide +kernel
theorem dX12_isSingle_211 : decode cX12_isSingle 211 = .ok (.invokevirtual 198, 3) := by decide +kernel
theorem dX12_isSingle_214 : decode cX12_isSingle 214 = .ok (.ifCond .ne 5, 3) := by decide +kernel
theorem dX12_isSingle_217 : decode cX12_isSingle 217 = .ok (.iconst 0, 1) := by decide +kernel
theorem dX12_isSingle_218 : decode cX12_isSingle 218 = .ok (.ireturn, 1) := by decide +kernel
theorem dX12_isSingle_219 : decode cX12_isSingle 219 = .ok (.aload_n 0, 1) := by decide +kernel
theorem dX12_isSingle_220 : decode cX12_isSingle 220 = .ok (.iload_n 1, 1) := by decide +kernel
theorem dX12_isSingle_221 : decode cX12_isSingle 221 = .ok (.invokevirtual 170, 3) := by decide +kernel
theorem dX12_isSingle_224 : decode cX12_isSingle 224 = .ok (.iconst 1, 1) := by decide +kernel
theorem dX12_isSingle_225 : decode cX12_isSingle 225 = .ok (.ireturn, 1) := by decide +kernel
set_option maxRecDepth 20000 in
theorem ggX12_isSum_X12_isProduct_c1 : GoodIn wsX12_isSum (.code yX12_isProduct cX12_isProduct 2 (some .boolean) :: wsX12_isProduct_r1) := goodIn_r _ [37, 1, 38, 39, 40, 5, 6, 7, 8, 9, 10, 11, 12, 13, 14, 15, 16, 17, 18, 19, 20, 21, 22, 23, 24] (by decide +kernel) (by decide +kernel)
set_option maxRecDepth 20000 in
theorem ggX12_isSum_X12_isProduct_c2 : GoodIn wsX12_isSum wsX12_isProduct_r2 := goodIn_r _ [25, 26, 27, 28, 29, 30, 31, 32, 33, 34, 35, 36, 0, 2, 3, 4, 41, 42, 43, 44, 45, 46, 47, 48] (by decide +kernel) (by decide +kernel)
set_option maxRecDepth 20000 in
theorem ggX12_isSum_X12_isProduct_c3 : GoodIn wsX12_isSum wsX12_isProduct_r3 := goodIn_r _ [49, 50, 51, 52, 53, 54, 55, 56, 57, 58, 59, 60, 61, 62, 63, 64, 65, 66, 67, 68, 69, 70, 71] (by decide +kernel) (by decide +kernel)
set_option maxRecDepth 20000 in
theorem ggX12_isSum_X12_isProduct_c4 : GoodIn wsX12_isSum wsX120 := goodIn_r _ [72, 73, 74, 75, 76, 77, 78, 79, 80, 81, 82, 83, 84, 85, 86] (by decide +kernel) (by decide +kernel)
set_option maxRecDepth 20000 in
theorem ggX12_isSum_X12_isProduct_c5 : GoodIn wsX12_isSum wsX100 := goodIn_r _ [87, 88, 89, 90, 91, 92, 93, 94, 95, 96, 97, 98, 99, 100, 101, 102, 103, 104, 105, 106, 107, 108] (by decide +kernel) (by decide +kernel)
set_option maxRecDepth 20000 in
theorem ggX12_isSum_X12_isProduct : GoodIn wsX12_isSum wsX12_isProduct := (goodIn_ca (goodIn_ca (goodIn_ca ggX12_isSum_X12_isProduct_c1 (goodIn_app ggX12_isSum_X12_isProduct_c2 ggX12_isSum_X12_isProduct_c3)) ggX12_isSum_X12_isProduct_c4) ggX12_isSum_X12_isProduct_c5)
set_option maxRecDepth 20000 in
theorem gX12_isSum_X12_isProduct : GoodIn wsX12_isSum (wsV RX12 201 RX12 yX12_isProduct wsX12_isProduct) := goodIn_app (goodIn_of _ (by decide +kernel)) ggX12_isSum_X12_isProduct
set_option maxRecDepth 20000 in
theorem ggX12_isSum_X12_isSign : GoodIn wsX12_isSum wsX12_isSign := goodIn_r _ [9, 10, 1, 72, 73, 74, 75, 76, 77, 78, 79, 80, 81, 82, 83, 84, 85, 86] (by decide +kernel) (by decide +kernel)
set_option maxRecDepth 20000 in
theorem gX12_isSum_X12_isSign : GoodIn wsX12_isSum (wsV RX12 192 RX12 yX12_isSign wsX12_isSign) := goodIn_app (goodIn_of _ (by decide +kernel)) ggX12_isSum_X12_isSign
set_option maxRecDepth 20000 in
theorem ggX12_isSum_X12_put : GoodIn wsX12_isSum wsX12_put := goodIn_r _ [14, 15, 72, 73, 74, 75, 76, 77, 78, 79, 80, 81, 82, 83, 84, 85, 86, 87, 88, 89, 90, 91, 92, 93, 94, 95, 96, 97, 98, 99, 100, 101, 102, 103, 104, 105, 106, 107, 108] (by decide +kernel) (by decide +kernel)
set_option maxRecDepth 20000 in
theorem gX12_isSum_X12_put : GoodIn wsX12_isSum (wsV RX12 170 RX12 yX12_put wsX12_put) := goodIn_app (goodIn_of _ (by decide +kernel)) ggX12_isSum_X12_put
theorem dX12_isSum_0 : decode cX12_isSum 0 = .ok (.aload_n 0, 1) := by decide +kernel
theorem dX12_isSum_1 : decode cX12_isSum 1 = .ok (.invokevirtual 201, 3) := by decide +kernel
theorem dX12_isSum_4 : decode cX12_isSum 4 = .ok (.ifCond .ne 5, 3) := by decide +kernel
theorem dX12_isSum_7 : decode cX12_isSum 7 = .ok (.iconst 0, 1) := by decide +kernel
theorem dX12_isSum_8 : decode cX12_isSum 8 = .ok (.ireturn, 1) := by decide +kernel
theorem dX12_isSum_9 : decode cX12_isSum 9 = .ok (.aload_n 0, 1) := by decide +kernel
theorem dX12_isSum_10 : decode cX12_isSum 10 = .ok (.bipush 43, 2) := by decide +kernel
theorem dX12_isSum_12 : decode cX12_isSum 12 = .ok (.invokevirtual 192, 3) := by decide +kernel
theorem dX12_isSum_15 : decode cX12_isSum 15 = .ok (.ifCond .ne 12, 3) := by decide +kernel
theorem dX12_isSum_18 : decode cX12_isSum 18 = .ok (.aload_n 0, 1) := by decide +kernel
theorem dX12_isSum_19 : decode cX12_isSum 19 = .ok (.bipush 45, 2) := by decide +kernel
theorem dX12_isSum_21 : decode cX12_isSum 21 = .ok (.invokevirtual 192, 3) := by decide +kernel
theorem dX12_isSum_24 : decode cX12_isSum 24 = .ok (.ifCond .eq 47, 3) := by decide +kernel
theorem dX12_isSum_27 : decode cX12_isSum 27 = .ok (.aload_n 0, 1) := by decide +kernel
theorem dX12_isSum_28 : decode cX12_isSum 28 = .ok (.bipush 43, 2) := by decide +kernel
theorem dX12_isSum_30 : decode cX12_isSum 30 = .ok (.invokevirtual 192, 3) := by decide +kernel
theorem dX12_isSum_33 : decode cX12_isSum 33 = .ok (.ifCond .eq 8, 3) := by decide +kernel
theorem dX12_isSum_36 : decode cX12_isSum 36 = .ok (.bipush 44, 2) := by decide +kernel
theorem dX12_isSum_38 : decode cX12_isSum 38 = .ok (.goto 5, 3) := by decide +kernel
theorem dX12_isSum_41 : decode cX12_isSum 41 = .ok (.bipush 45, 2) := by decide +kernel
theorem dX12_isSum_43 : decode cX12_isSum 43 = .ok (.istore_n 1, 1) := by decide +kernel
theorem dX12_isSum_44 : decode cX12_isSum 44 = .ok (.aload_n 0, 1) := by decide +kernel
theorem dX12_isSum_45 : decode cX12_isSum 45 = .ok (.dup, 1) := by decide +kernel
theorem dX12_isSum_46 : decode cX12_isSum 46 = .ok (.getfield 115, 3) := by decide +kernel
theorem dX12_isSum_49 : decode cX12_isSum 49 = .ok (.iconst 1, 1) := by decide +kernel
theorem dX12_isSum_50 : decode cX12_isSum 50 = .ok (.iadd, 1) := by decide +kernel
theorem dX12_isSum_51 : decode cX12_isSum 51 = .ok (.putfield 115, 3) := by decide +kernel
theorem dX12_isSum_54 : decode cX12_isSum 54 = .ok (.aload_n 0, 1) := by decide +kernel
theorem dX12_isSum_55 : decode cX12_isSum 55 = .ok (.invokevirtual 201, 3) := by decide +kernel
theorem dX12_isSum_58 : decode cX12_isSum 58 = .ok (.ifCond .ne 5, 3) := by decide +kernel
theorem dX12_isSum_61 : decode cX12_isSum 61 = .ok (.iconst 0, 1) := by decide +kernel
theorem dX12_isSum_62 : decode cX12_isSum 62 = .ok (.ireturn, 1) := by decide +kernel
theorem dX12_isSum_63 : decode cX12_isSum 63 = .ok (.aload_n 0, 1) := by decide +kernel
theorem dX12_isSum_64 : decode cX12_isSum 64 = .ok (.iload_n 1, 1) := by decide +kernel
theorem dX12_isSum_65 : decode cX12_isSum 65 = .ok (.invokevirtual 170, 3) := by decide +kernel
theorem dX12_isSum_68 : decode cX12_isSum 68 = .ok (.goto (-59), 3) := by decide +kernel
theorem dX12_isSum_71 : decode cX12_isSum 71 = .ok (.iconst 1, 1) := by decide +kernel
theorem dX12_isSum_72 : decode cX12_isSum 72 = .ok (.ireturn, 1) := by decide +kernel
set_option maxRecDepth 20000 in
theorem ggX12_isProduct_X12_isValue_c1 : GoodIn wsX12_isProduct (.code yX12_isValue cX12_isValue 2 (some .boolean) :: wsX12_isValue_r1) := goodIn_r _ [41, 10, 1, 17, 33, 34, 35, 5, 36, 11, 12, 13, 14, 15, 42, 43, 44, 45, 46, 47, 48, 49, 50, 51, 52] (by decide +kernel) (by decide +kernel)
set_option maxRecDepth 20000 in
theorem ggX12_isProduct_X12_isValue_c2 : GoodIn wsX12_isProduct wsX12_isValue_r2 := goodIn_r _ [53, 54, 55, 56, 57, 58, 59, 60, 61, 62, 63, 64, 65, 66, 67, 68, 29, 30, 31, 32, 69, 70, 71, 6] (by decide +kernel) (by decide +kernel)
set_option maxRecDepth 20000 in
theorem ggX12_isProduct_X12_isValue_c3 : GoodIn wsX12_isProduct wsX12_isValue_r3 := goodIn_r _ [7, 8, 9, 18, 19, 20, 21, 2, 3, 4, 16, 22, 23, 24, 25, 26, 27, 28, 0, 37, 38, 39, 40] (by decide +kernel) (by decide +kernel)
set_option maxRecDepth 20000 in
theorem ggX12_isProduct_X12_isValue_c4 : GoodIn wsX12_isProduct wsX120 := goodIn_r _ [72, 73, 74, 75, 76, 77, 78, 79, 80, 81, 82, 83, 84, 85, 86] (by decide +kernel) (by decide +kernel)
set_option maxRecDepth 20000 in
theorem ggX12_isProduct_X12_isValue_c5 : GoodIn wsX12_isProduct wsX100 := goodIn_r _ [87, 88, 89, 90, 91, 92, 93, 94, 95, 96, 97, 98, 99, 100, 101, 102, 103, 104, 105, 106, 107, 108] (by decide +kernel) (by decide +kernel)
set_option maxRecDepth 20000 in
theorem ggX12_isProduct_X12_isValue : GoodIn wsX12_isProduct wsX12_isValue := (goodIn_ca (goodIn_ca (goodIn_ca ggX12_isProduct_X12_isValue_c1 (goodIn_app ggX12_isProduct_X12_isValue_c2 ggX12_isProduct_X12_isValue_c3)) ggX12_isProduct_X12_isValue_c4) ggX12_isProduct_X12_isValue_c5)
set_option maxRecDepth 20000 in
theorem gX12_isProduct_X12_isValue : GoodIn wsX12_isProduct (wsV RX12 204 RX12 yX12_isValue wsX12_isValue) := goodIn_app (goodIn_of _ (by decide +kernel)) ggX12_isProduct_X12_isValue
set_option maxRecDepth 20000 in
theorem ggX12_isProduct_X12_isSign : GoodIn wsX12_isProduct wsX12_isSign := goodIn_r _ [9, 10, 1, 72, 73, 74, 75, 76, 77, 78, 79, 80, 81, 82, 83, 84, 85, 86] (by decide +kernel) (by decide +kernel)
set_option maxRecDepth 20000 in
theorem gX12_isProduct_X12_isSign : GoodIn wsX12_isProduct (wsV RX12 192 RX12 yX12_isSign wsX12_isSign) := goodIn_app (goodIn_of _ (by decide +kernel)) ggX12_isProduct_X12_isSign
set_option maxRecDepth 20000 in
theorem ggX12_isProduct_X12_put : GoodIn wsX12_isProduct wsX12_put := goodIn_r _ [14, 15, 72, 73, 74, 75, 76, 77, 78, 79, 80, 81, 82, 83, 84, 85, 86, 87, 88, 89, 90, 91, 92, 93, 94, 95, 96, 97, 98, 99, 100, 101, 102, 103, 104, 105, 106, 107, 108] (by decide +kernel) (by decide +kernel)
set_option maxRecDepth 20000 in
theorem gX12_isProduct_X12_put : GoodIn wsX12_isProduct (wsV RX12 170 RX12 yX12_put wsX12_put) := goodIn_app (goodIn_of _ (by decide +kernel)) ggX12_isProduct_X12_put
theorem dX12_isProduct_0 : decode cX12_isProduct 0 = .ok (.aload_n 0, 1) := by decide +kernel
theorem dX12_isProduct_1 : decode cX12_isProduct 1 = .ok (.invokevirtual 204, 3) := by decide +kernel
theorem dX12_isProduct_4 : decode cX12_isProduct 4 = .ok (.ifCond .ne 5, 3) := by decide +kernel
theorem dX12_isProduct_7 : decode cX12_isProduct 7 = .ok (.iconst 0, 1) := by decide +kernel
theorem dX12_isProduct_8 : decode cX12_isProduct 8 = .ok (.ireturn, 1) := by decide +kernel
theorem dX12_isProduct_9 : decode cX12_isProduct 9 = .ok (.aload_n 0, 1) := by decide +kernel
theorem dX12_isProduct_10 : decode cX12_isProduct 10 = .ok (.bipush 42, 2) := by decide +kernel
theorem dX12_isProduct_12 : decode cX12_isProduct 12 = .ok (.invokevirtual 192, 3) := by decide +kernel
theorem dX12_isProduct_15 : decode cX12_isProduct 15 = .ok (.ifCond .ne 12, 3) := by decide +kernel
theorem dX12_isProduct_18 : decode cX12_isProduct 18 = .ok (.aload_n 0, 1) := by decide +kernel
theorem dX12_isProduct_19 : decode cX12_isProduct 19 = .ok (.bipush 47, 2) := by decide +kernel
theorem dX12_isProduct_21 : decode cX12_isProduct 21 = .ok (.invokevirtual 192, 3) := by decide +kernel
theorem dX12_isProduct_24 : decode cX12_isProduct 24 = .ok (.ifCond .eq 47, 3) := by decide +kernel
theorem dX12_isProduct_27 : decode cX12_isProduct 27 = .ok (.aload_n 0, 1) := by decide +kernel
theorem dX12_isProduct_28 : decode cX12_isProduct 28 = .ok (.bipush 42, 2) := by decide +kernel
theorem dX12_isProduct_30 : decode cX12_isProduct 30 = .ok (.invokevirtual 192, 3) := by decide +kernel
theorem dX12_isProduct_33 : decode cX12_isProduct 33 = .ok (.ifCond .eq 8, 3) := by decide +kernel
theorem dX12_isProduct_36 : decode cX12_isProduct 36 = .ok (.bipush 46, 2) := by decide +kernel
theorem dX12_isProduct_38 : decode cX12_isProduct 38 = .ok (.goto 5, 3) := by decide +kernel
theorem dX12_isProduct_41 : decode cX12_isProduct 41 = .ok (.bipush 47, 2) := by decide +kernel
theorem dX12_isProduct_43 : decode cX12_isProduct 43 = .ok (.istore_n 1, 1) := by decide +kernel
theorem dX12_isProduct_44 : decode cX12_isProduct 44 = .ok (.aload_n 0, 1) := by decide +kernel
theorem dX12_isProduct_45 : decode cX12_isProduct 45 = .ok (.dup, 1) := by decide +kernel
theorem dX12_isProduct_46 : decode cX12_isProduct 46 = .ok (.getfield 115, 3) := by decide +kernel
theorem dX12_isProduct_49 : decode cX12_isProduct 49 = .ok (.iconst 1, 1) := by decide +kernel
theorem dX12_isProduct_50 : decode cX12_isProduct 50 = .ok (.iadd, 1) := by decide +kernel
theorem dX12_isProduct_51 : decode cX12_isProduct 51 = .ok (.putfield 115, 3) := by decide +kernel
theorem dX12_isProduct_54 : decode cX12_isProduct 54 = .ok (.aload_n 0, 1) := by decide +kernel
theorem dX12_isProduct_55 : decode cX12_isProduct 55 = .ok (.invokevirtual 204, 3) := by decide +kernel
theorem dX12_isProduct_58 : decode cX12_isProduct 58 = .ok (.ifCond .ne 5, 3) := by decide +kernel
theorem dX12_isProduct_61 : decode cX12_isProduct 61 = .ok (.iconst 0, 1) := by decide +kernel
theorem dX12_isProduct_62 : decode cX12_isProduct 62 = .ok (.ireturn, 1) := by decide +kernel
theorem dX12_isProduct_63 : decode cX12_isProduct 63 = .ok (.aload_n 0, 1) := by decide +kernel
theorem dX12_isProduct_64 : decode cX12_isProduct 64 = .ok (.iload_n 1, 1) := by decide +kernel
theorem dX12_isProduct_65 : decode cX12_isProduct 65 = .ok (.invokevirtual 170, 3) := by decide +kernel
theorem dX12_isProduct_68 : decode cX12_isProduct 68 = .ok (.goto (-59), 3) := by decide +kernel
theorem dX12_isProduct_71 : decode cX12_isProduct 71 = .ok (.iconst 1, 1) := by decide +kernel
theorem dX12_isProduct_72 : decode cX12_isProduct 72 = .ok (.ireturn, 1) := by decide +kernel
set_option maxRecDepth 20000 in
theorem ggX12_isInside_X12_isSign : GoodIn wsX12_isInside wsX12_isSign := goodIn_r _ [6, 7, 8, 72, 73, 74, 75, 76, 77, 78, 79, 80, 81, 82, 83, 84, 85, 86] (by decide +kernel) (by decide +kernel)
set_option maxRecDepth 20000 in
theorem gX12_isInside_X12_isSign : GoodIn wsX12_isInside (wsV RX12 192 RX12 yX12_isSign wsX12_isSign) := goodIn_app (goodIn_of _ (by decide +kernel)) ggX12_isInside_X12_isSign
set_option maxRecDepth 20000 in
theorem ggX12_isInside_X12_isDeeper : GoodIn wsX12_isInside wsX12_isDeeper := goodIn_r _ [12, 1, 8, 72, 73, 74, 75, 76, 77, 78, 79, 80, 81, 82, 83, 84, 85, 86] (by decide +kernel) (by decide +kernel)
set_option maxRecDepth 20000 in
theorem gX12_isInside_X12_isDeeper : GoodIn wsX12_isInside (wsV RX12 189 RX12 yX12_isDeeper wsX12_isDeeper) := goodIn_app (goodIn_of _ (by decide +kernel)) ggX12_isInside_X12_isDeeper
set_option maxRecDepth 20000 in
theorem ggX12_isInside_X12_isSum_c1 : GoodIn wsX12_isInside (.code yX12_isSum cX12_isSum 2 (some .boolean) :: wsX12_isSum_r1) := goodIn_r _ [37, 8, 38, 39, 40, 5, 2, 3, 4, 6, 7, 28, 29, 30, 31, 32, 0, 1, 9, 10, 11, 12, 13, 14, 15] (by decide +kernel) (by decide +kernel)
set_option maxRecDepth 20000 in
theorem ggX12_isInside_X12_isSum_c2 : GoodIn wsX12_isInside wsX12_isSum_r2 := goodIn_r _ [16, 17, 18, 19, 20, 21, 22, 23, 24, 25, 26, 27, 33, 34, 35, 36, 41, 42, 43, 44, 45, 46, 47, 48] (by decide +kernel) (by decide +kernel)
set_option maxRecDepth 20000 in
theorem ggX12_isInside_X12_isSum_c3 : GoodIn wsX12_isInside wsX12_isSum_r3 := goodIn_r _ [49, 50, 51, 52, 53, 54, 55, 56, 57, 58, 59, 60, 61, 62, 63, 64, 65, 66, 67, 68, 69, 70, 71] (by decide +kernel) (by decide +kernel)
set_option maxRecDepth 20000 in
theorem ggX12_isInside_X12_isSum_c4 : GoodIn wsX12_isInside wsX120 := goodIn_r _ [72, 73, 74, 75, 76, 77, 78, 79, 80, 81, 82, 83, 84, 85, 86] (by decide +kernel) (by decide +kernel)
set_option maxRecDepth 20000 in
theorem ggX12_isInside_X12_isSum_c5 : GoodIn wsX12_isInside wsX100 := goodIn_r _ [87, 88, 89, 90, 91, 92, 93, 94, 95, 96, 97, 98, 99, 100, 101, 102, 103, 104, 105, 106, 107, 108] (by decide +kernel) (by decide +kernel)
set_option maxRecDepth 20000 in
theorem ggX12_isInside_X12_isSum : GoodIn wsX12_isInside wsX12_isSum := (goodIn_ca (goodIn_ca (goodIn_ca ggX12_isInside_X12_isSum_c1 (goodIn_app ggX12_isInside_X12_isSum_c2 ggX12_isInside_X12_isSum_c3)) ggX12_isInside_X12_isSum_c4) ggX12_isInside_X12_isSum_c5)
set_option maxRecDepth 20000 in
theorem gX12_isInside_X12_isSum : GoodIn wsX12_isInside (wsV RX12 198 RX12 yX12_isSum wsX12_isSum) := goodIn_app (goodIn_of _ (by decide +kernel)) ggX12_isInside_X12_isSum
set_option maxRecDepth 20000 in
theorem ggX12_isInside_X12_eatSign : GoodIn wsX12_isInside wsX12_eatSign := goodIn_r _ [19, 20, 21, 22, 5, 23, 8, 24, 25, 26, 27, 7, 72, 73, 74, 75, 76, 77, 78, 79, 80, 81, 82, 83, 84, 85, 86] (by decide +kernel) (by decide +kernel)
set_option maxRecDepth 20000 in
theorem gX12_isInside_X12_eatSign : GoodIn wsX12_isInside (wsV RX12 141 RX12 yX12_eatSign wsX12_eatSign) := goodIn_app (goodIn_of _ (by decide +kernel)) ggX12_isInside_X12_eatSign
set_option maxRecDepth 20000 in
theorem ggX12_isInside_X12_put : GoodIn wsX12_isInside wsX12_put := goodIn_r _ [31, 32, 72, 73, 74, 75, 76, 77, 78, 79, 80, 81, 82, 83, 84, 85, 86, 87, 88, 89, 90, 91, 92, 93, 94, 95, 96, 97, 98, 99, 100, 101, 102, 103, 104, 105, 106, 107, 108] (by decide +kernel) (by decide +kernel)
set_option maxRecDepth 20000 in
theorem gX12_isInside_X12_put : GoodIn wsX12_isInside (wsV RX12 170 RX12 yX12_put wsX12_put) := goodIn_app (goodIn_of _ (by decide +kernel)) ggX12_isInside_X12_put
theorem dX12_isInside_0 : decode cX12_isInside 0 = .ok (.aload_n 0, 1) := by decide +kernel
theorem dX12_isInside_1 : decode cX12_isInside 1 = .ok (.bipush 40, 2) := by decide +kernel
theorem dX12_isInside_3 : decode cX12_isInside 3 = .ok (.invokevirtual 192, 3) := by decide +kernel
theorem dX12_isInside_6 : decode cX12_isInside 6 = .ok (.ifCond .eq 37, 3) := by decide +kernel
theorem dX12_isInside_9 : decode cX12_isInside 9 = .ok (.aload_n 0, 1) := by decide +kernel
theorem dX12_isInside_10 : decode cX12_isInside 10 = .ok (.invokevirtual 189, 3) := by decide +kernel
theorem dX12_isInside_13 : decode cX12_isInside 13 = .ok (.ifCond .eq 30, 3) := by decide +kernel
theorem dX12_isInside_16 : decode cX12_isInside 16 = .ok (.aload_n 0, 1) := by decide +kernel
theorem dX12_isInside_17 : decode cX12_isInside 17 = .ok (.invokevirtual 198, 3) := by decide +kernel
theorem dX12_isInside_20 : decode cX12_isInside 20 = .ok (.ifCond .eq 23, 3) := by decide +kernel
theorem dX12_isInside_23 : decode cX12_isInside 23 = .ok (.iload_n 2, 1) := by decide +kernel
theorem dX12_isInside_24 : decode cX12_isInside 24 = .ok (.ifCond .eq 21, 3) := by decide +kernel
theorem dX12_isInside_27 : decode cX12_isInside 27 = .ok (.aload_n 0, 1) := by decide +kernel
theorem dX12_isInside_28 : decode cX12_isInside 28 = .ok (.bipush 44, 2) := by decide +kernel
theorem dX12_isInside_30 : decode cX12_isInside 30 = .ok (.invokevirtual 141, 3) := by decide +kernel
theorem dX12_isInside_33 : decode cX12_isInside 33 = .ok (.ifCond .eq 10, 3) := by decide +kernel
theorem dX12_isInside_36 : decode cX12_isInside 36 = .ok (.aload_n 0, 1) := by decide +kernel
theorem dX12_isInside_37 : decode cX12_isInside 37 = .ok (.invokevirtual 198, 3) := by decide +kernel
theorem dX12_isInside_40 : decode cX12_isInside 40 = .ok (.ifCond .ne 5, 3) := by decide +kernel
theorem dX12_isInside_43 : decode cX12_isInside 43 = .ok (.iconst 0, 1) := by decide +kernel
theorem dX12_isInside_44 : decode cX12_isInside 44 = .ok (.ireturn, 1) := by decide +kernel
theorem dX12_isInside_45 : decode cX12_isInside 45 = .ok (.aload_n 0, 1) := by decide +kernel
theorem dX12_isInside_46 : decode cX12_isInside 46 = .ok (.dup, 1) := by decide +kernel
theorem dX12_isInside_47 : decode cX12_isInside 47 = .ok (.getfield 177, 3) := by decide +kernel
theorem dX12_isInside_50 : decode cX12_isInside 50 = .ok (.iconst 1, 1) := by decide +kernel
theorem dX12_isInside_51 : decode cX12_isInside 51 = .ok (.isub, 1) := by decide +kernel
theorem dX12_isInside_52 : decode cX12_isInside 52 = .ok (.putfield 177, 3) := by decide +kernel
theorem dX12_isInside_55 : decode cX12_isInside 55 = .ok (.iload_n 2, 1) := by decide +kernel
theorem dX12_isInside_56 : decode cX12_isInside 56 = .ok (.ifCond .eq 8, 3) := by decide +kernel
theorem dX12_isInside_59 : decode cX12_isInside 59 = .ok (.aload_n 0, 1) := by decide +kernel
theorem dX12_isInside_60 : decode cX12_isInside 60 = .ok (.iload_n 1, 1) := by decide +kernel
theorem dX12_isInside_61 : decode cX12_isInside 61 = .ok (.invokevirtual 170, 3) := by decide +kernel
theorem dX12_isInside_64 : decode cX12_isInside 64 = .ok (.aload_n 0, 1) := by decide +kernel
theorem dX12_isInside_65 : decode cX12_isInside 65 = .ok (.bipush 41, 2) := by decide +kernel
theorem dX12_isInside_67 : decode cX12_isInside 67 = .ok (.invokevirtual 141, 3) := by decide +kernel
theorem dX12_isInside_70 : decode cX12_isInside 70 = .ok (.ireturn, 1) := by decide +kernel
set_option maxRecDepth 20000 in
theorem ggX12_isValue_X12_is : GoodIn wsX12_isValue wsX12_is := goodIn_r _ [8, 1, 2, 72, 73, 74, 75, 76, 77, 78, 79, 80, 81, 82, 83, 84, 85, 86] (by decide +kernel) (by decide +kernel)
set_option maxRecDepth 20000 in
theorem gX12_isValue_X12_is : GoodIn wsX12_isValue (wsV RX12 118 RX12 yX12_is wsX12_is) := goodIn_app (goodIn_of _ (by decide +kernel)) ggX12_isValue_X12_is
set_option maxRecDepth 20000 in
theorem ggX12_isValue_X12_put : GoodIn wsX12_isValue wsX12_put := goodIn_r _ [12, 13, 72, 73, 74, 75, 76, 77, 78, 79, 80, 81, 82, 83, 84, 85, 86, 87, 88, 89, 90, 91, 92, 93, 94, 95, 96, 97, 98, 99, 100, 101, 102, 103, 104, 105, 106, 107, 108] (by decide +kernel) (by decide +kernel)
set_option maxRecDepth 20000 in
theorem gX12_isValue_X12_put : GoodIn wsX12_isValue (wsV RX12 170 RX12 yX12_put wsX12_put) := goodIn_app (goodIn_of _ (by decide +kernel)) ggX12_isValue_X12_put
set_option maxRecDepth 20000 in
theorem ggX12_isValue_X12_numberAt : GoodIn wsX12_isValue wsX12_numberAt := goodIn_r _ [17, 18, 19, 20, 72, 73, 74, 75, 76, 77, 78, 79, 80, 81, 82, 83, 84, 85, 86] (by decide +kernel) (by decide +kernel)
set_option maxRecDepth 20000 in
theorem gX12_isValue_X12_numberAt : GoodIn wsX12_isValue (wsV RX12 207 RX12 yX12_numberAt wsX12_numberAt) := goodIn_app (goodIn_of _ (by decide +kernel)) ggX12_isValue_X12_numberAt
set_option maxRecDepth 20000 in
theorem ggX12_isValue_X12_isWordOf : GoodIn wsX12_isValue wsX12_isWordOf := goodIn_r _ [24, 1, 2, 25, 26, 7, 27, 72, 73, 74, 75, 76, 77, 78, 79, 80, 81, 82, 83, 84, 85, 86] (by decide +kernel) (by decide +kernel)
set_option maxRecDepth 20000 in
theorem gX12_isValue_X12_isWordOf : GoodIn wsX12_isValue (wsV RX12 145 RX12 yX12_isWordOf wsX12_isWordOf) := goodIn_app (goodIn_of _ (by decide +kernel)) ggX12_isValue_X12_isWordOf
set_option maxRecDepth 20000 in
theorem ggX12_isValue_X12_isNamed_c1 : GoodIn wsX12_isValue (.code yX12_isNamed cX12_isNamed 2 (some .boolean) :: wsX12_isNamed_r1) := goodIn_r _ [31, 1, 2, 9, 10, 11, 7, 12, 13, 32, 33, 34, 35, 36, 37, 38, 39, 40, 41, 42, 43, 44, 4, 5, 6] (by decide +kernel) (by decide +kernel)
set_option maxRecDepth 20000 in
theorem ggX12_isValue_X12_isNamed_c2 : GoodIn wsX12_isValue wsX12_isNamed_r2 := goodIn_r _ [8] (by decide +kernel) (by decide +kernel)
set_option maxRecDepth 20000 in
theorem ggX12_isValue_X12_isNamed_c3 : GoodIn wsX12_isValue wsX120 := goodIn_r _ [72, 73, 74, 75, 76, 77, 78, 79, 80, 81, 82, 83, 84, 85, 86] (by decide +kernel) (by decide +kernel)
set_option maxRecDepth 20000 in
theorem ggX12_isValue_X12_isNamed_c4 : GoodIn wsX12_isValue wsX100 := goodIn_r _ [87, 88, 89, 90, 91, 92, 93, 94, 95, 96, 97, 98, 99, 100, 101, 102, 103, 104, 105, 106, 107, 108] (by decide +kernel) (by decide +kernel)
set_option maxRecDepth 20000 in
theorem ggX12_isValue_X12_isNamed : GoodIn wsX12_isValue wsX12_isNamed := (goodIn_ca (goodIn_ca (goodIn_ca ggX12_isValue_X12_isNamed_c1 ggX12_isValue_X12_isNamed_c2) ggX12_isValue_X12_isNamed_c3) ggX12_isValue_X12_isNamed_c4)
set_option maxRecDepth 20000 in
theorem gX12_isValue_X12_isNamed : GoodIn wsX12_isValue (wsV RX12 195 RX12 yX12_isNamed wsX12_isNamed) := goodIn_app (goodIn_of _ (by decide +kernel)) ggX12_isValue_X12_isNamed
set_option maxRecDepth 20000 in
theorem ggX12_isValue_X12_eat : GoodIn wsX12_isValue wsX12_eat := goodIn_r _ [44, 2, 4, 5, 6, 7, 8, 1, 72, 73, 74, 75, 76, 77, 78, 79, 80, 81, 82, 83, 84, 85, 86] (by decide +kernel) (by decide +kernel)
set_option maxRecDepth 20000 in
theorem gX12_isValue_X12_eat : GoodIn wsX12_isValue (wsV RX12 121 RX12 yX12_eat wsX12_eat) := goodIn_app (goodIn_of _ (by decide +kernel)) ggX12_isValue_X12_eat
set_option maxRecDepth 20000 in
theorem ggX12_isValue_X12_isInside_c1 : GoodIn wsX12_isValue (.code yX12_isInside cX12_isInside 3 (some .boolean) :: wsX12_isInside_r1) := goodIn_r _ [59, 3, 48, 49, 50, 7, 51, 1, 2, 52, 53, 54, 55, 60, 61, 62, 63, 64, 65, 66, 41, 42, 43, 44, 4] (by decide +kernel) (by decide +kernel)
set_option maxRecDepth 20000 in
theorem ggX12_isValue_X12_isInside_c2 : GoodIn wsX12_isValue wsX12_isInside_r2 := goodIn_r _ [5, 6, 8, 9, 10, 11, 12, 13, 67, 56, 57, 58, 68, 69, 70, 71, 0, 14, 15, 16, 17, 18, 19, 20] (by decide +kernel) (by decide +kernel)
set_option maxRecDepth 20000 in
theorem ggX12_isValue_X12_isInside_c3 : GoodIn wsX12_isValue wsX12_isInside_r3 := goodIn_r _ [21, 22, 23, 24, 25, 26, 27, 28, 29, 30, 31, 32, 33, 34, 35, 36, 37, 38, 39, 40, 45, 46, 47] (by decide +kernel) (by decide +kernel)
set_option maxRecDepth 20000 in
theorem ggX12_isValue_X12_isInside_c4 : GoodIn wsX12_isValue wsX120 := goodIn_r _ [72, 73, 74, 75, 76, 77, 78, 79, 80, 81, 82, 83, 84, 85, 86] (by decide +kernel) (by decide +kernel)
set_option maxRecDepth 20000 in
theorem ggX12_isValue_X12_isInside_c5 : GoodIn wsX12_isValue wsX100 := goodIn_r _ [87, 88, 89, 90, 91, 92, 93, 94, 95, 96, 97, 98, 99, 100, 101, 102, 103, 104, 105, 106, 107, 108] (by decide +kernel) (by decide +kernel)
set_option maxRecDepth 20000 in
theorem ggX12_isValue_X12_isInside : GoodIn wsX12_isValue wsX12_isInside := (goodIn_ca (goodIn_ca (goodIn_ca ggX12_isValue_X12_isInside_c1 (goodIn_app ggX12_isValue_X12_isInside_c2 ggX12_isValue_X12_isInside_c3)) ggX12_isValue_X12_isInside_c4) ggX12_isValue_X12_isInside_c5)
set_option maxRecDepth 20000 in
theorem gX12_isValue_X12_isInside : GoodIn wsX12_isValue (wsV RX12 210 RX12 yX12_isInside wsX12_isInside) := goodIn_app (goodIn_of _ (by decide +kernel)) ggX12_isValue_X12_isInside
set_option maxRecDepth 20000 in
theorem ggX12_isValue_X12_isSign : GoodIn wsX12_isValue wsX12_isSign := goodIn_r _ [51, 1, 2, 72, 73, 74, 75, 76, 77, 78, 79, 80, 81, 82, 83, 84, 85, 86] (by decide +kernel) (by decide +kernel)
set_option maxRecDepth 20000 in
theorem gX12_isValue_X12_isSign : GoodIn wsX12_isValue (wsV RX12 192 RX12 yX12_isSign wsX12_isSign) := goodIn_app (goodIn_of _ (by decide +kernel)) ggX12_isValue_X12_isSign
set_option maxRecDepth 20000 in
theorem ggX12_isValue_X12_isDeeper : GoodIn wsX12_isValue wsX12_isDeeper := goodIn_r _ [55, 3, 2, 72, 73, 74, 75, 76, 77, 78, 79, 80, 81, 82, 83, 84, 85, 86] (by decide +kernel) (by decide +kernel)
set_option maxRecDepth 20000 in
theorem gX12_isValue_X12_isDeeper : GoodIn wsX12_isValue (wsV RX12 189 RX12 yX12_isDeeper wsX12_isDeeper) := goodIn_app (goodIn_of _ (by decide +kernel)) ggX12_isValue_X12_isDeeper
set_option maxRecDepth 20000 in
theorem ggX12_isValue_X12_isValue_c1 : GoodIn wsX12_isValue (.code yX12_isValue cX12_isValue 2 (some .boolean) :: wsX12_isValue_r1) := goodIn_r _ [0, 1, 2, 3, 4, 5, 6, 7, 8, 9, 10, 11, 12, 13, 14, 15, 16, 17, 18, 19, 20, 21, 22, 23, 24] (by decide +kernel) (by decide +kernel)
set_option maxRecDepth 20000 in
theorem ggX12_isValue_X12_isValue_c2 : GoodIn wsX12_isValue wsX12_isValue_r2 := goodIn_r _ [25, 26, 27, 28, 29, 30, 31, 32, 33, 34, 35, 36, 37, 38, 39, 40, 41, 42, 43, 44, 45, 46, 47, 48] (by decide +kernel) (by decide +kernel)
set_option maxRecDepth 20000 in
theorem ggX12_isValue_X12_isValue_c3 : GoodIn wsX12_isValue wsX12_isValue_r3 := goodIn_r _ [49, 50, 51, 52, 53, 54, 55, 56, 57, 58, 59, 60, 61, 62, 63, 64, 65, 66, 67, 68, 69, 70, 71] (by decide +kernel) (by decide +kernel)
set_option maxRecDepth 20000 in
theorem ggX12_isValue_X12_isValue_c4 : GoodIn wsX12_isValue wsX120 := goodIn_r _ [72, 73, 74, 75, 76, 77, 78, 79, 80, 81, 82, 83, 84, 85, 86] (by decide +kernel) (by decide +kernel)
set_option maxRecDepth 20000 in
theorem ggX12_isValue_X12_isValue_c5 : GoodIn wsX12_isValue wsX100 := goodIn_r _ [87, 88, 89, 90, 91, 92, 93, 94, 95, 96, 97, 98, 99, 100, 101, 102, 103, 104, 105, 106, 107, 108] (by decide +kernel) (by decide +kernel)
set_option maxRecDepth 20000 in
theorem ggX12_isValue_X12_isValue : GoodIn wsX12_isValue wsX12_isValue := (goodIn_ca (goodIn_ca (goodIn_ca ggX12_isValue_X12_isValue_c1 (goodIn_app ggX12_isValue_X12_isValue_c2 ggX12_isValue_X12_isValue_c3)) ggX12_isValue_X12_isValue_c4) ggX12_isValue_X12_isValue_c5)
set_option maxRecDepth 20000 in
theorem gX12_isValue_X12_isValue : GoodIn wsX12_isValue (wsV RX12 204 RX12 yX12_isValue wsX12_isValue) := goodIn_app (goodIn_of _ (by decide +kernel)) ggX12_isValue_X12_isValue
theorem dX12_isValue_0 : decode cX12_isValue 0 = .ok (.aload_n 0, 1) := by decide +kernel
theorem dX12_isValue_1 : decode cX12_isValue 1 = .ok (.getfield 17, 3) := by decide +kernel
theorem dX12_isValue_4 : decode cX12_isValue 4 = .ok (.aload_n 0, 1) := by decide +kernel
theorem dX12_isValue_5 : decode cX12_isValue 5 = .ok (.getfield 115, 3) := by decide +kernel
theorem dX12_isValue_8 : decode cX12_isValue 8 = .ok (.iaload, 1) := by decide +kernel
theorem dX12_isValue_9 : decode cX12_isValue 9 = .ok (.istore_n 1, 1) := by decide +kernel
theorem dX12_isValue_10 : decode cX12_isValue 10 = .ok (.aload_n 0, 1) := by decide +kernel
theorem dX12_isValue_11 : decode cX12_isValue 11 = .ok (.bipush 41, 2) := by decide +kernel
theorem dX12_isValue_13 : decode cX12_isValue 13 = .ok (.invokevirtual 118, 3) := by decide +kernel
theorem dX12_isValue_16 : decode cX12_isValue 16 = .ok (.ifCond .eq 33, 3) := by decide +kernel
theorem dX12_isValue_19 : decode cX12_isValue 19 = .ok (.aload_n 0, 1) := by decide +kernel
theorem dX12_isValue_20 : decode cX12_isValue 20 = .ok (.bipush 42, 2) := by decide +kernel
theorem dX12_isValue_22 : decode cX12_isValue 22 = .ok (.invokevirtual 170, 3) := by decide +kernel
theorem dX12_isValue_25 : decode cX12_isValue 25 = .ok (.aload_n 0, 1) := by decide +kernel
theorem dX12_isValue_26 : decode cX12_isValue 26 = .ok (.aload_n 0, 1) := by decide +kernel
theorem dX12_isValue_27 : decode cX12_isValue 27 = .ok (.aload_n 0, 1) := by decide +kernel
theorem dX12_isValue_28 : decode cX12_isValue 28 = .ok (.getfield 115, 3) := by decide +kernel
theorem dX12_isValue_31 : decode cX12_isValue 31 = .ok (.invokevirtual 207, 3) := by decide +kernel
theorem dX12_isValue_34 : decode cX12_isValue 34 = .ok (.invokevirtual 170, 3) := by decide +kernel
theorem dX12_isValue_37 : decode cX12_isValue 37 = .ok (.aload_n 0, 1) := by decide +kernel
theorem dX12_isValue_38 : decode cX12_isValue 38 = .ok (.dup, 1) := by decide +kernel
theorem dX12_isValue_39 : decode cX12_isValue 39 = .ok (.getfield 115, 3) := by decide +kernel
theorem dX12_isValue_42 : decode cX12_isValue 42 = .ok (.iconst 1, 1) := by decide +kernel
theorem dX12_isValue_43 : decode cX12_isValue 43 = .ok (.iadd, 1) := by decide +kernel
theorem dX12_isValue_44 : decode cX12_isValue 44 = .ok (.putfield 115, 3) := by decide +kernel
theorem dX12_isValue_47 : decode cX12_isValue 47 = .ok (.iconst 1, 1) := by decide +kernel
theorem dX12_isValue_48 : decode cX12_isValue 48 = .ok (.ireturn, 1) := by decide +kernel
theorem dX12_isValue_49 : decode cX12_isValue 49 = .ok (.aload_n 0, 1) := by decide +kernel
theorem dX12_isValue_50 : decode cX12_isValue 50 = .ok (.bipush 20, 2) := by decide +kernel
theorem dX12_isValue_52 : decode cX12_isValue 52 = .ok (.invokevirtual 118, 3) := by decide +kernel
theorem dX12_isValue_55 : decode cX12_isValue 55 = .ok (.ifCond .ne 12, 3) := by decide +kernel
theorem dX12_isValue_58 : decode cX12_isValue 58 = .ok (.aload_n 0, 1) := by decide +kernel
theorem dX12_isValue_59 : decode cX12_isValue 59 = .ok (.bipush 21, 2) := by decide +kernel
theorem dX12_isValue_61 : decode cX12_isValue 61 = .ok (.invokevirtual 118, 3) := by decide +kernel
theorem dX12_isValue_64 : decode cX12_isValue 64 = .ok (.ifCond .eq 20, 3) := by decide +kernel
theorem dX12_isValue_67 : decode cX12_isValue 67 = .ok (.aload_n 0, 1) := by decide +kernel
theorem dX12_isValue_68 : decode cX12_isValue 68 = .ok (.iload_n 1, 1) := by decide +kernel
theorem dX12_isValue_69 : decode cX12_isValue 69 = .ok (.invokevirtual 170, 3) := by decide +kernel
theorem dX12_isValue_72 : decode cX12_isValue 72 = .ok (.aload_n 0, 1) := by decide +kernel
theorem dX12_isValue_73 : decode cX12_isValue 73 = .ok (.dup, 1) := by decide +kernel
theorem dX12_isValue_74 : decode cX12_isValue 74 = .ok (.getfield 115, 3) := by decide +kernel
theorem dX12_isValue_77 : decode cX12_isValue 77 = .ok (.iconst 1, 1) := by decide +kernel
theorem dX12_isValue_78 : decode cX12_isValue 78 = .ok (.iadd, 1) := by decide +kernel
theorem dX12_isValue_79 : decode cX12_isValue 79 = .ok (.putfield 115, 3) := by decide +kernel
theorem dX12_isValue_82 : decode cX12_isValue 82 = .ok (.iconst 1, 1) := by decide +kernel
theorem dX12_isValue_83 : decode cX12_isValue 83 = .ok (.ireturn, 1) := by decide +kernel
theorem dX12_isValue_84 : decode cX12_isValue 84 = .ok (.aload_n 0, 1) := by decide +kernel
theorem dX12_isValue_85 : decode cX12_isValue 85 = .ok (.bipush 22, 2) := by decide +kernel
theorem dX12_isValue_87 : decode cX12_isValue 87 = .ok (.bipush 24, 2) := by decide +kernel
theorem dX12_isValue_89 : decode cX12_isValue 89 = .ok (.invokevirtual 145, 3) := by decide +kernel
theorem dX12_isValue_92 : decode cX12_isValue 92 = .ok (.ifCond .eq 10, 3) := by decide +kernel
theorem dX12_isValue_95 : decode cX12_isValue 95 = .ok (.aload_n 0, 1) := by decide +kernel
theorem dX12_isValue_96 : decode cX12_isValue 96 = .ok (.bipush 14, 2) := by decide +kernel
theorem dX12_isValue_98 : decode cX12_isValue 98 = .ok (.invokevirtual 195, 3) := by decide +kernel
theorem dX12_isValue_101 : decode cX12_isValue 101 = .ok (.ireturn, 1) := by decide +kernel
theorem dX12_isValue_102 : decode cX12_isValue 102 = .ok (.aload_n 0, 1) := by decide +kernel
theorem dX12_isValue_103 : decode cX12_isValue 103 = .ok (.bipush 25, 2) := by decide +kernel
theorem dX12_isValue_105 : decode cX12_isValue 105 = .ok (.invokevirtual 121, 3) := by decide +kernel
theorem dX12_isValue_108 : decode cX12_isValue 108 = .ok (.ifCond .eq 22, 3) := by decide +kernel
theorem dX12_isValue_111 : decode cX12_isValue 111 = .ok (.aload_n 0, 1) := by decide +kernel
theorem dX12_isValue_112 : decode cX12_isValue 112 = .ok (.iload_n 1, 1) := by decide +kernel
theorem dX12_isValue_113 : decode cX12_isValue 113 = .ok (.iconst 0, 1) := by decide +kernel
theorem dX12_isValue_114 : decode cX12_isValue 114 = .ok (.invokevirtual 210, 3) := by decide +kernel
theorem dX12_isValue_117 : decode cX12_isValue 117 = .ok (.ifCond .ne 5, 3) := by decide +kernel
theorem dX12_isValue_120 : decode cX12_isValue 120 = .ok (.iconst 0, 1) := by decide +kernel
theorem dX12_isValue_121 : decode cX12_isValue 121 = .ok (.ireturn, 1) := by decide +kernel
theorem dX12_isValue_122 : decode cX12_isValue 122 = .ok (.aload_n 0, 1) := by decide +kernel
theorem dX12_isValue_123 : decode cX12_isValue 123 = .ok (.bipush 25, 2) := by decide +kernel
theorem dX12_isValue_125 : decode cX12_isValue 125 = .ok (.invokevirtual 170, 3) := by decide +kernel
theorem dX12_isValue_128 : decode cX12_isValue 128 = .ok (.iconst 1, 1) := by decide +kernel
theorem dX12_isValue_129 : decode cX12_isValue 129 = .ok (.ireturn, 1) := by decide +kernel
theorem dX12_isValue_130 : decode cX12_isValue 130 = .ok (.aload_n 0, 1) := by decide +kernel
theorem dX12_isValue_131 : decode cX12_isValue 131 = .ok (.bipush 45, 2) := by decide +kernel
theorem dX12_isValue_133 : decode cX12_isValue 133 = .ok (.invokevirtual 192, 3) := by decide +kernel
theorem dX12_isValue_136 : decode cX12_isValue 136 = .ok (.ifCond .eq 37, 3) := by decide +kernel
theorem dX12_isValue_139 : decode cX12_isValue 139 = .ok (.aload_n 0, 1) := by decide +kernel
theorem dX12_isValue_140 : decode cX12_isValue 140 = .ok (.invokevirtual 189, 3) := by decide +kernel
theorem dX12_isValue_143 : decode cX12_isValue 143 = .ok (.ifCond .eq 10, 3) := by decide +kernel
theorem dX12_isValue_146 : decode cX12_isValue 146 = .ok (.aload_n 0, 1) := by decide +kernel
theorem dX12_isValue_147 : decode cX12_isValue 147 = .ok (.invokevirtual 204, 3) := by decide +kernel
theorem dX12_isValue_150 : decode cX12_isValue 150 = .ok (.ifCond .ne 5, 3) := by decide +kernel
theorem dX12_isValue_153 : decode cX12_isValue 153 = .ok (.iconst 0, 1) := by decide +kernel
theorem dX12_isValue_154 : decode cX12_isValue 154 = .ok (.ireturn, 1) := by decide +kernel
theorem dX12_isValue_155 : decode cX12_isValue 155 = .ok (.aload_n 0, 1) := by decide +kernel
theorem dX12_isValue_156 : decode cX12_isValue 156 = .ok (.dup, 1) := by decide +kernel
theorem dX12_isValue_157 : decode cX12_isValue 157 = .ok (.getfield 177, 3) := by decide +kernel
theorem dX12_isValue_160 : decode cX12_isValue 160 = .ok (.iconst 1, 1) := by decide +kernel
theorem dX12_isValue_161 : decode cX12_isValue 161 = .ok (.isub, 1) := by decide +kernel
theorem dX12_isValue_162 : decode cX12_isValue 162 = .ok (.putfield 177, 3) := by decide +kernel
theorem dX12_isValue_165 : decode cX12_isValue 165 = .ok (.aload_n 0, 1) := by decide +kernel
theorem dX12_isValue_166 : decode cX12_isValue 166 = .ok (.bipush 43, 2) := by decide +kernel
theorem dX12_isValue_168 : decode cX12_isValue 168 = .ok (.invokevirtual 170, 3) := by decide +kernel
theorem dX12_isValue_171 : decode cX12_isValue 171 = .ok (.iconst 1, 1) := by decide +kernel
theorem dX12_isValue_172 : decode cX12_isValue 172 = .ok (.ireturn, 1) := by decide +kernel
theorem dX12_isValue_173 : decode cX12_isValue 173 = .ok (.aload_n 0, 1) := by decide +kernel
theorem dX12_isValue_174 : decode cX12_isValue 174 = .ok (.iload_n 1, 1) := by decide +kernel
theorem dX12_isValue_175 : decode cX12_isValue 175 = .ok (.aload_n 0, 1) := by decide +kernel
theorem dX12_isValue_176 : decode cX12_isValue 176 = .ok (.bipush 31, 2) := by decide +kernel
theorem dX12_isValue_178 : decode cX12_isValue 178 = .ok (.invokevirtual 121, 3) := by decide +kernel
theorem dX12_isValue_181 : decode cX12_isValue 181 = .ok (.ifCond .ne 12, 3) := by decide +kernel
theorem dX12_isValue_184 : decode cX12_isValue 184 = .ok (.aload_n 0, 1) := by decide +kernel
theorem dX12_isValue_185 : decode cX12_isValue 185 = .ok (.bipush 32, 2) := by decide +kernel
theorem dX12_isValue_187 : decode cX12_isValue 187 = .ok (.invokevirtual 121, 3) := by decide +kernel
theorem dX12_isValue_190 : decode cX12_isValue 190 = .ok (.ifCond .eq 7, 3) := by decide +kernel
theorem dX12_isValue_193 : decode cX12_isValue 193 = .ok (.iconst 1, 1) := by decide +kernel
theorem dX12_isValue_194 : decode cX12_isValue 194 = .ok (.goto 4, 3) := by decide +kernel
theorem dX12_isValue_197 : decode cX12_isValue 197 = .ok (.iconst 0, 1) := by decide +kernel
theorem dX12_isValue_198 : decode cX12_isValue 198 = .ok (.invokevirtual 210, 3) := by decide +kernel
theorem dX12_isValue_201 : decode cX12_isValue 201 = .ok (.ireturn, 1) := by decide +kernel
theorem dX12_numberAt_0 : decode cX12_numberAt 0 = .ok (.iconst 0, 1) := by decide +kernel
theorem dX12_numberAt_1 : decode cX12_numberAt 1 = .ok (.istore_n 2, 1) := by decide +kernel
theorem dX12_numberAt_2 : decode cX12_numberAt 2 = .ok (.iconst 0, 1) := by decide +kernel
theorem dX12_numberAt_3 : decode cX12_numberAt 3 = .ok (.istore_n 3, 1) := by decide +kernel
theorem dX12_numberAt_4 : decode cX12_numberAt 4 = .ok (.iload_n 3, 1) := by decide +kernel
theorem dX12_numberAt_5 : decode cX12_numberAt 5 = .ok (.aload_n 0, 1) := by decide +kernel
theorem dX12_numberAt_6 : decode cX12_numberAt 6 = .ok (.getfield 23, 3) := by decide +kernel
theorem dX12_numberAt_9 : decode cX12_numberAt 9 = .ok (.iload_n 1, 1) := by decide +kernel
theorem dX12_numberAt_10 : decode cX12_numberAt 10 = .ok (.iaload, 1) := by decide +kernel
theorem dX12_numberAt_11 : decode cX12_numberAt 11 = .ok (.if_icmp .ge 31, 3) := by decide +kernel
theorem dX12_numberAt_14 : decode cX12_numberAt 14 = .ok (.bipush 10, 2) := by decide +kernel
theorem dX12_numberAt_16 : decode cX12_numberAt 16 = .ok (.iload_n 2, 1) := by decide +kernel
theorem dX12_numberAt_17 : decode cX12_numberAt 17 = .ok (.imul, 1) := by decide +kernel
theorem dX12_numberAt_18 : decode cX12_numberAt 18 = .ok (.aload_n 0, 1) := by decide +kernel
theorem dX12_numberAt_19 : decode cX12_numberAt 19 = .ok (.getfield 9, 3) := by decide +kernel
theorem dX12_numberAt_22 : decode cX12_numberAt 22 = .ok (.aload_n 0, 1) := by decide +kernel
theorem dX12_numberAt_23 : decode cX12_numberAt 23 = .ok (.getfield 20, 3) := by decide +kernel
theorem dX12_numberAt_26 : decode cX12_numberAt 26 = .ok (.iload_n 1, 1) := by decide +kernel
theorem dX12_numberAt_27 : decode cX12_numberAt 27 = .ok (.iaload, 1) := by decide +kernel
theorem dX12_numberAt_28 : decode cX12_numberAt 28 = .ok (.iload_n 3, 1) := by decide +kernel
theorem dX12_numberAt_29 : decode cX12_numberAt 29 = .ok (.iadd, 1) := by decide +kernel
theorem dX12_numberAt_30 : decode cX12_numberAt 30 = .ok (.iaload, 1) := by decide +kernel
theorem dX12_numberAt_31 : decode cX12_numberAt 31 = .ok (.iadd, 1) := by decide +kernel
theorem dX12_numberAt_32 : decode cX12_numberAt 32 = .ok (.bipush 48, 2) := by decide +kernel
theorem dX12_numberAt_34 : decode cX12_numberAt 34 = .ok (.isub, 1) := by decide +kernel
theorem dX12_numberAt_35 : decode cX12_numberAt 35 = .ok (.istore_n 2, 1) := by decide +kernel
theorem dX12_numberAt_36 : decode cX12_numberAt 36 = .ok (.iinc 3 1, 3) := by decide +kernel
theorem dX12_numberAt_39 : decode cX12_numberAt 39 = .ok (.goto (-35), 3) := by decide +kernel
theorem dX12_numberAt_42 : decode cX12_numberAt 42 = .ok (.iload_n 2, 1) := by decide +kernel
theorem dX12_numberAt_43 : decode cX12_numberAt 43 = .ok (.ireturn, 1) := by decide +kernel
theorem dX12_isSame_0 : decode cX12_isSame 0 = .ok (.aload_n 0, 1) := by decide +kernel
theorem dX12_isSame_1 : decode cX12_isSame 1 = .ok (.getfield 23, 3) := by decide +kernel
theorem dX12_isSame_4 : decode cX12_isSame 4 = .ok (.iload_n 1, 1) := by decide +kernel
theorem dX12_isSame_5 : decode cX12_isSame 5 = .ok (.iaload, 1) := by decide +kernel
theorem dX12_isSame_6 : decode cX12_isSame 6 = .ok (.aload_n 0, 1) := by decide +kernel
theorem dX12_isSame_7 : decode cX12_isSame 7 = .ok (.getfield 23, 3) := by decide +kernel
theorem dX12_isSame_10 : decode cX12_isSame 10 = .ok (.iload_n 2, 1) := by decide +kernel
theorem dX12_isSame_11 : decode cX12_isSame 11 = .ok (.iaload, 1) := by decide +kernel
theorem dX12_isSame_12 : decode cX12_isSame 12 = .ok (.if_icmp .eq 5, 3) := by decide +kernel
theorem dX12_isSame_15 : decode cX12_isSame 15 = .ok (.iconst 0, 1) := by decide +kernel
theorem dX12_isSame_16 : decode cX12_isSame 16 = .ok (.ireturn, 1) := by decide +kernel
theorem dX12_isSame_17 : decode cX12_isSame 17 = .ok (.iconst 0, 1) := by decide +kernel
theorem dX12_isSame_18 : decode cX12_isSame 18 = .ok (.istore_n 3, 1) := by decide +kernel
theorem dX12_isSame_19 : decode cX12_isSame 19 = .ok (.iload_n 3, 1) := by decide +kernel
theorem dX12_isSame_20 : decode cX12_isSame 20 = .ok (.aload_n 0, 1) := by decide +kernel
theorem dX12_isSame_21 : decode cX12_isSame 21 = .ok (.getfield 23, 3) := by decide +kernel
theorem dX12_isSame_24 : decode cX12_isSame 24 = .ok (.iload_n 1, 1) := by decide +kernel
theorem dX12_isSame_25 : decode cX12_isSame 25 = .ok (.iaload, 1) := by decide +kernel
theorem dX12_isSame_26 : decode cX12_isSame 26 = .ok (.if_icmp .ge 40, 3) := by decide +kernel
theorem dX12_isSame_29 : decode cX12_isSame 29 = .ok (.aload_n 0, 1) := by decide +kernel
theorem dX12_isSame_30 : decode cX12_isSame 30 = .ok (.getfield 9, 3) := by decide +kernel
theorem dX12_isSame_33 : decode cX12_isSame 33 = .ok (.aload_n 0, 1) := by decide +kernel
theorem dX12_isSame_34 : decode cX12_isSame 34 = .ok (.getfield 20, 3) := by decide +kernel
theorem dX12_isSame_37 : decode cX12_isSame 37 = .ok (.iload_n 1, 1) := by decide +kernel
theorem dX12_isSame_38 : decode cX12_isSame 38 = .ok (.iaload, 1) := by decide +kernel
theorem dX12_isSame_39 : decode cX12_isSame 39 = .ok (.iload_n 3, 1) := by decide +kernel
theorem dX12_isSame_40 : decode cX12_isSame 40 = .ok (.iadd, 1) := by decide +kernel
theorem dX12_isSame_41 : decode cX12_isSame 41 = .ok (.iaload, 1) := by decide +kernel
theorem dX12_isSame_42 : decode cX12_isSame 42 = .ok (.aload_n 0, 1) := by decide +kernel
theorem dX12_isSame_43 : decode cX12_isSame 43 = .ok (.getfield 9, 3) := by decide +kernel
theorem dX12_isSame_46 : decode cX12_isSame 46 = .ok (.aload_n 0, 1) := by decide +kernel
theorem dX12_isSame_47 : decode cX12_isSame 47 = .ok (.getfield 20, 3) := by decide +kernel
theorem dX12_isSame_50 : decode cX12_isSame 50 = .ok (.iload_n 2, 1) := by decide +kernel
theorem dX12_isSame_51 : decode cX12_isSame 51 = .ok (.iaload, 1) := by decide +kernel
theorem dX12_isSame_52 : decode cX12_isSame 52 = .ok (.iload_n 3, 1) := by decide +kernel
theorem dX12_isSame_53 : decode cX12_isSame 53 = .ok (.iadd, 1) := by decide +kernel
theorem dX12_isSame_54 : decode cX12_isSame 54 = .ok (.iaload, 1) := by decide +kernel
theorem dX12_isSame_55 : decode cX12_isSame 55 = .ok (.if_icmp .eq 5, 3) := by decide +kernel
theorem dX12_isSame_58 : decode cX12_isSame 58 = .ok (.iconst 0, 1) := by decide +kernel
theorem dX12_isSame_59 : decode cX12_isSame 59 = .ok (.ireturn, 1) := by decide +kernel
theorem dX12_isSame_60 : decode cX12_isSame 60 = .ok (.iinc 3 1, 3) := by decide +kernel
theorem dX12_isSame_63 : decode cX12_isSame 63 = .ok (.goto (-44), 3) := by decide +kernel
theorem dX12_isSame_66 : decode cX12_isSame 66 = .ok (.iconst 1, 1) := by decide +kernel
theorem dX12_isSame_67 : decode cX12_isSame 67 = .ok (.ireturn, 1) := by decide +kernel
set_option maxRecDepth 20000 in
theorem ggX12_told_X12_isSame : GoodIn wsX12_told wsX12_isSame := goodIn_r _ [6, 7, 8, 9, 10, 11, 12, 13, 14, 15, 16, 17, 18, 19, 20, 21, 22, 23, 24] (by decide +kernel) (by decide +kernel)
set_option maxRecDepth 20000 in
theorem gX12_told_X12_isSame : GoodIn wsX12_told (wsV RX12 214 RX12 yX12_isSame wsX12_isSame) := goodIn_app (goodIn_of _ (by decide +kernel)) ggX12_told_X12_isSame
theorem dX12_told_0 : decode cX12_told 0 = .ok (.iconst 0, 1) := by decide +kernel
theorem dX12_told_1 : decode cX12_told 1 = .ok (.istore_n 3, 1) := by decide +kernel
theorem dX12_told_2 : decode cX12_told 2 = .ok (.iconst 0, 1) := by decide +kernel
theorem dX12_told_3 : decode cX12_told 3 = .ok (.istore 4, 2) := by decide +kernel
theorem dX12_told_5 : decode cX12_told 5 = .ok (.iload 4, 2) := by decide +kernel
theorem dX12_told_7 : decode cX12_told 7 = .ok (.iload_n 1, 1) := by decide +kernel
theorem dX12_told_8 : decode cX12_told 8 = .ok (.if_icmp .ge 38, 3) := by decide +kernel
theorem dX12_told_11 : decode cX12_told 11 = .ok (.aload_n 0, 1) := by decide +kernel
theorem dX12_told_12 : decode cX12_told 12 = .ok (.getfield 26, 3) := by decide +kernel
theorem dX12_told_15 : decode cX12_told 15 = .ok (.iload 4, 2) := by decide +kernel
theorem dX12_told_17 : decode cX12_told 17 = .ok (.iaload, 1) := by decide +kernel
theorem dX12_told_18 : decode cX12_told 18 = .ok (.iload_n 2, 1) := by decide +kernel
theorem dX12_told_19 : decode cX12_told 19 = .ok (.if_icmp .eq 6, 3) := by decide +kernel
theorem dX12_told_22 : decode cX12_told 22 = .ok (.goto 18, 3) := by decide +kernel
theorem dX12_told_25 : decode cX12_told 25 = .ok (.aload_n 0, 1) := by decide +kernel
theorem dX12_told_26 : decode cX12_told 26 = .ok (.iload 4, 2) := by decide +kernel
theorem dX12_told_28 : decode cX12_told 28 = .ok (.iload_n 1, 1) := by decide +kernel
theorem dX12_told_29 : decode cX12_told 29 = .ok (.invokevirtual 214, 3) := by decide +kernel
theorem dX12_told_32 : decode cX12_told 32 = .ok (.ifCond .eq 5, 3) := by decide +kernel
theorem dX12_told_35 : decode cX12_told 35 = .ok (.iload_n 3, 1) := by decide +kernel
theorem dX12_told_36 : decode cX12_told 36 = .ok (.ireturn, 1) := by decide +kernel
theorem dX12_told_37 : decode cX12_told 37 = .ok (.iinc 3 1, 3) := by decide +kernel
theorem dX12_told_40 : decode cX12_told 40 = .ok (.iinc 4 1, 3) := by decide +kernel
theorem dX12_told_43 : decode cX12_told 43 = .ok (.goto (-38), 3) := by decide +kernel
theorem dX12_told_46 : decode cX12_told 46 = .ok (.iconst (-1), 1) := by decide +kernel
theorem dX12_told_47 : decode cX12_told 47 = .ok (.ireturn, 1) := by decide +kernel
set_option maxRecDepth 20000 in
theorem ggX12_look_X12_told : GoodIn wsX12_look wsX12_told := goodIn_r _ [6, 7, 8, 9, 10, 5, 11, 12, 13, 14, 15, 16, 17, 18, 19, 20, 21, 22, 23, 24, 25, 26, 27, 28, 29] (by decide +kernel) (by decide +kernel)
set_option maxRecDepth 20000 in
theorem gX12_look_X12_told : GoodIn wsX12_look (wsV RX12 217 RX12 yX12_told wsX12_told) := goodIn_app (goodIn_of _ (by decide +kernel)) ggX12_look_X12_told
theorem dX12_look_0 : decode cX12_look 0 = .ok (.aload_n 0, 1) := by decide +kernel
theorem dX12_look_1 : decode cX12_look 1 = .ok (.getfield 29, 3) := by decide +kernel
theorem dX12_look_4 : decode cX12_look 4 = .ok (.iload_n 1, 1) := by decide +kernel
theorem dX12_look_5 : decode cX12_look 5 = .ok (.aload_n 0, 1) := by decide +kernel
theorem dX12_look_6 : decode cX12_look 6 = .ok (.iload_n 1, 1) := by decide +kernel
theorem dX12_look_7 : decode cX12_look 7 = .ok (.iload_n 2, 1) := by decide +kernel
theorem dX12_look_8 : decode cX12_look 8 = .ok (.invokevirtual 217, 3) := by decide +kernel
theorem dX12_look_11 : decode cX12_look 11 = .ok (.iastore, 1) := by decide +kernel
theorem dX12_look_12 : decode cX12_look 12 = .ok (.aload_n 0, 1) := by decide +kernel
theorem dX12_look_13 : decode cX12_look 13 = .ok (.getfield 29, 3) := by decide +kernel
theorem dX12_look_16 : decode cX12_look 16 = .ok (.iload_n 1, 1) := by decide +kernel
theorem dX12_look_17 : decode cX12_look 17 = .ok (.iaload, 1) := by decide +kernel
theorem dX12_look_18 : decode cX12_look 18 = .ok (.iconst (-1), 1) := by decide +kernel
theorem dX12_look_19 : decode cX12_look 19 = .ok (.if_icmp .ne 7, 3) := by decide +kernel
theorem dX12_look_22 : decode cX12_look 22 = .ok (.iconst 3, 1) := by decide +kernel
theorem dX12_look_23 : decode cX12_look 23 = .ok (.goto 4, 3) := by decide +kernel
theorem dX12_look_26 : decode cX12_look 26 = .ok (.iconst 0, 1) := by decide +kernel
theorem dX12_look_27 : decode cX12_look 27 = .ok (.ireturn, 1) := by decide +kernel
set_option maxRecDepth 20000 in
theorem ggX12_isNew_X12_told : GoodIn wsX12_isNew wsX12_told := goodIn_r _ [6, 1, 7, 8, 9, 5, 10, 11, 12, 13, 14, 15, 16, 17, 18, 19, 20, 21, 22, 23, 24, 25, 26, 27, 28] (by decide +kernel) (by decide +kernel)
set_option maxRecDepth 20000 in
theorem gX12_isNew_X12_told : GoodIn wsX12_isNew (wsV RX12 217 RX12 yX12_told wsX12_told) := goodIn_app (goodIn_of _ (by decide +kernel)) ggX12_isNew_X12_told
theorem dX12_isNew_0 : decode cX12_isNew 0 = .ok (.aload_n 0, 1) := by decide +kernel
theorem dX12_isNew_1 : decode cX12_isNew 1 = .ok (.iload_n 1, 1) := by decide +kernel
theorem dX12_isNew_2 : decode cX12_isNew 2 = .ok (.aload_n 0, 1) := by decide +kernel
theorem dX12_isNew_3 : decode cX12_isNew 3 = .ok (.getfield 26, 3) := by decide +kernel
theorem dX12_isNew_6 : decode cX12_isNew 6 = .ok (.iload_n 1, 1) := by decide +kernel
theorem dX12_isNew_7 : decode cX12_isNew 7 = .ok (.iaload, 1) := by decide +kernel
theorem dX12_isNew_8 : decode cX12_isNew 8 = .ok (.invokevirtual 217, 3) := by decide +kernel
theorem dX12_isNew_11 : decode cX12_isNew 11 = .ok (.iconst (-1), 1) := by decide +kernel
theorem dX12_isNew_12 : decode cX12_isNew 12 = .ok (.if_icmp .eq 7, 3) := by decide +kernel
theorem dX12_isNew_15 : decode cX12_isNew 15 = .ok (.iconst 2, 1) := by decide +kernel
theorem dX12_isNew_16 : decode cX12_isNew 16 = .ok (.goto 13, 3) := by decide +kernel
theorem dX12_isNew_19 : decode cX12_isNew 19 = .ok (.iload_n 2, 1) := by decide +kernel
theorem dX12_isNew_20 : decode cX12_isNew 20 = .ok (.iload_n 3, 1) := by decide +kernel
theorem dX12_isNew_21 : decode cX12_isNew 21 = .ok (.if_icmp .ne 7, 3) := by decide +kernel
theorem dX12_isNew_24 : decode cX12_isNew 24 = .ok (.iconst 4, 1) := by decide +kernel
theorem dX12_isNew_25 : decode cX12_isNew 25 = .ok (.goto 4, 3) := by decide +kernel
theorem dX12_isNew_28 : decode cX12_isNew 28 = .ok (.iconst 0, 1) := by decide +kernel
theorem dX12_isNew_29 : decode cX12_isNew 29 = .ok (.ireturn, 1) := by decide +kernel
set_option maxRecDepth 20000 in
theorem ggX12_inRange_X12_numberAt : GoodIn wsX12_inRange wsX12_numberAt := goodIn_r _ [5, 6, 7, 8, 12, 13, 14, 15, 16, 17, 18, 19, 20, 21, 22, 23, 24, 25, 26] (by decide +kernel) (by decide +kernel)
set_option maxRecDepth 20000 in
theorem gX12_inRange_X12_numberAt : GoodIn wsX12_inRange (wsV RX12 207 RX12 yX12_numberAt wsX12_numberAt) := goodIn_app (goodIn_of _ (by decide +kernel)) ggX12_inRange_X12_numberAt
set_option maxRecDepth 20000 in
theorem ggX12_inRange_X12_isIn : GoodIn wsX12_inRange wsX12_isIn := goodIn_r _ [11] (by decide +kernel) (by decide +kernel)
set_option maxRecDepth 20000 in
theorem gX12_inRange_X12_isIn : GoodIn wsX12_inRange (va_wsS RX12 60 yX12_isIn wsX12_isIn) := goodIn_app (goodIn_of _ (by decide +kernel)) ggX12_inRange_X12_isIn
theorem dX12_inRange_0 : decode cX12_inRange 0 = .ok (.aload_n 0, 1) := by decide +kernel
theorem dX12_inRange_1 : decode cX12_inRange 1 = .ok (.iload_n 1, 1) := by decide +kernel
theorem dX12_inRange_2 : decode cX12_inRange 2 = .ok (.invokevirtual 207, 3) := by decide +kernel
theorem dX12_inRange_5 : decode cX12_inRange 5 = .ok (.iload_n 2, 1) := by decide +kernel
theorem dX12_inRange_6 : decode cX12_inRange 6 = .ok (.iload_n 3, 1) := by decide +kernel
theorem dX12_inRange_7 : decode cX12_inRange 7 = .ok (.invokestatic 60, 3) := by decide +kernel
theorem dX12_inRange_10 : decode cX12_inRange 10 = .ok (.ifCond .eq 7, 3) := by decide +kernel
theorem dX12_inRange_13 : decode cX12_inRange 13 = .ok (.iconst 0, 1) := by decide +kernel
theorem dX12_inRange_14 : decode cX12_inRange 14 = .ok (.goto 4, 3) := by decide +kernel
theorem dX12_inRange_17 : decode cX12_inRange 17 = .ok (.iconst 5, 1) := by decide +kernel
theorem dX12_inRange_18 : decode cX12_inRange 18 = .ok (.ireturn, 1) := by decide +kernel
set_option maxRecDepth 20000 in
theorem ggX12_newRule_X12_isNew : GoodIn wsX12_newRule wsX12_isNew := goodIn_r _ [6, 7, 8, 9, 10, 5, 11, 12, 13, 14, 15, 16, 17, 18, 19, 20, 21, 22, 23, 24, 25, 26, 27, 28, 29, 30, 31, 32, 33] (by decide +kernel) (by decide +kernel)
set_option maxRecDepth 20000 in
theorem gX12_newRule_X12_isNew : GoodIn wsX12_newRule (wsV RX12 223 RX12 yX12_isNew wsX12_isNew) := goodIn_app (goodIn_of _ (by decide +kernel)) ggX12_newRule_X12_isNew
theorem dX12_newRule_0 : decode cX12_newRule 0 = .ok (.aload_n 0, 1) := by decide +kernel
theorem dX12_newRule_1 : decode cX12_newRule 1 = .ok (.iload_n 1, 1) := by decide +kernel
theorem dX12_newRule_2 : decode cX12_newRule 2 = .ok (.aload_n 0, 1) := by decide +kernel
theorem dX12_newRule_3 : decode cX12_newRule 3 = .ok (.getfield 39, 3) := by decide +kernel
theorem dX12_newRule_6 : decode cX12_newRule 6 = .ok (.getfield 220, 3) := by decide +kernel
theorem dX12_newRule_9 : decode cX12_newRule 9 = .ok (.iconst 5, 1) := by decide +kernel
theorem dX12_newRule_10 : decode cX12_newRule 10 = .ok (.invokevirtual 223, 3) := by decide +kernel
theorem dX12_newRule_13 : decode cX12_newRule 13 = .ok (.istore_n 2, 1) := by decide +kernel
theorem dX12_newRule_14 : decode cX12_newRule 14 = .ok (.aload_n 0, 1) := by decide +kernel
theorem dX12_newRule_15 : decode cX12_newRule 15 = .ok (.getfield 39, 3) := by decide +kernel
theorem dX12_newRule_18 : decode cX12_newRule 18 = .ok (.dup, 1) := by decide +kernel
theorem dX12_newRule_19 : decode cX12_newRule 19 = .ok (.getfield 220, 3) := by decide +kernel
theorem dX12_newRule_22 : decode cX12_newRule 22 = .ok (.iload_n 2, 1) := by decide +kernel
theorem dX12_newRule_23 : decode cX12_newRule 23 = .ok (.ifCond .ne 7, 3) := by decide +kernel
theorem dX12_newRule_26 : decode cX12_newRule 26 = .ok (.iconst 1, 1) := by decide +kernel
theorem dX12_newRule_27 : decode cX12_newRule 27 = .ok (.goto 4, 3) := by decide +kernel
theorem dX12_newRule_30 : decode cX12_newRule 30 = .ok (.iconst 0, 1) := by decide +kernel
theorem dX12_newRule_31 : decode cX12_newRule 31 = .ok (.iadd, 1) := by decide +kernel
theorem dX12_newRule_32 : decode cX12_newRule 32 = .ok (.putfield 220, 3) := by decide +kernel
theorem dX12_newRule_35 : decode cX12_newRule 35 = .ok (.iload_n 2, 1) := by decide +kernel
theorem dX12_newRule_36 : decode cX12_newRule 36 = .ok (.ireturn, 1) := by decide +kernel
theorem dX12_newTurn_0 : decode cX12_newTurn 0 = .ok (.aload_n 0, 1) := by decide +kernel
theorem dX12_newTurn_1 : decode cX12_newTurn 1 = .ok (.getfield 39, 3) := by decide +kernel
theorem dX12_newTurn_4 : decode cX12_newTurn 4 = .ok (.getfield 220, 3) := by decide +kernel
theorem dX12_newTurn_7 : decode cX12_newTurn 7 = .ok (.iconst 1, 1) := by decide +kernel
theorem dX12_newTurn_8 : decode cX12_newTurn 8 = .ok (.isub, 1) := by decide +kernel
theorem dX12_newTurn_9 : decode cX12_newTurn 9 = .ok (.istore_n 2, 1) := by decide +kernel
theorem dX12_newTurn_10 : decode cX12_newTurn 10 = .ok (.aload_n 0, 1) := by decide +kernel
theorem dX12_newTurn_11 : decode cX12_newTurn 11 = .ok (.getfield 39, 3) := by decide +kernel
theorem dX12_newTurn_14 : decode cX12_newTurn 14 = .ok (.getfield 227, 3) := by decide +kernel
theorem dX12_newTurn_17 : decode cX12_newTurn 17 = .ok (.iload_n 2, 1) := by decide +kernel
theorem dX12_newTurn_18 : decode cX12_newTurn 18 = .ok (.iaload, 1) := by decide +kernel
theorem dX12_newTurn_19 : decode cX12_newTurn 19 = .ok (.bipush 6, 2) := by decide +kernel
theorem dX12_newTurn_21 : decode cX12_newTurn 21 = .ok (.if_icmp .ne 5, 3) := by decide +kernel
theorem dX12_newTurn_24 : decode cX12_newTurn 24 = .ok (.iconst 4, 1) := by decide +kernel
theorem dX12_newTurn_25 : decode cX12_newTurn 25 = .ok (.ireturn, 1) := by decide +kernel
theorem dX12_newTurn_26 : decode cX12_newTurn 26 = .ok (.aload_n 0, 1) := by decide +kernel
theorem dX12_newTurn_27 : decode cX12_newTurn 27 = .ok (.getfield 39, 3) := by decide +kernel
theorem dX12_newTurn_30 : decode cX12_newTurn 30 = .ok (.getfield 230, 3) := by decide +kernel
theorem dX12_newTurn_33 : decode cX12_newTurn 33 = .ok (.bipush 6, 2) := by decide +kernel
theorem dX12_newTurn_35 : decode cX12_newTurn 35 = .ok (.iload_n 2, 1) := by decide +kernel
theorem dX12_newTurn_36 : decode cX12_newTurn 36 = .ok (.imul, 1) := by decide +kernel
theorem dX12_newTurn_37 : decode cX12_newTurn 37 = .ok (.aload_n 0, 1) := by decide +kernel
theorem dX12_newTurn_38 : decode cX12_newTurn 38 = .ok (.getfield 39, 3) := by decide +kernel
theorem dX12_newTurn_41 : decode cX12_newTurn 41 = .ok (.getfield 227, 3) := by decide +kernel
theorem dX12_newTurn_44 : decode cX12_newTurn 44 = .ok (.iload_n 2, 1) := by decide +kernel
theorem dX12_newTurn_45 : decode cX12_newTurn 45 = .ok (.iaload, 1) := by decide +kernel
theorem dX12_newTurn_46 : decode cX12_newTurn 46 = .ok (.iadd, 1) := by decide +kernel
theorem dX12_newTurn_47 : decode cX12_newTurn 47 = .ok (.aload_n 0, 1) := by decide +kernel
theorem dX12_newTurn_48 : decode cX12_newTurn 48 = .ok (.getfield 17, 3) := by decide +kernel
theorem dX12_newTurn_51 : decode cX12_newTurn 51 = .ok (.iload_n 1, 1) := by decide +kernel
theorem dX12_newTurn_52 : decode cX12_newTurn 52 = .ok (.iaload, 1) := by decide +kernel
theorem dX12_newTurn_53 : decode cX12_newTurn 53 = .ok (.iconst 1, 1) := by decide +kernel
theorem dX12_newTurn_54 : decode cX12_newTurn 54 = .ok (.isub, 1) := by decide +kernel
theorem dX12_newTurn_55 : decode cX12_newTurn 55 = .ok (.iastore, 1) := by decide +kernel
theorem dX12_newTurn_56 : decode cX12_newTurn 56 = .ok (.aload_n 0, 1) := by decide +kernel
theorem dX12_newTurn_57 : decode cX12_newTurn 57 = .ok (.getfield 39, 3) := by decide +kernel
theorem dX12_newTurn_60 : decode cX12_newTurn 60 = .ok (.getfield 227, 3) := by decide +kernel
theorem dX12_newTurn_63 : decode cX12_newTurn 63 = .ok (.iload_n 2, 1) := by decide +kernel
theorem dX12_newTurn_64 : decode cX12_newTurn 64 = .ok (.dup2, 1) := by decide +kernel
theorem dX12_newTurn_65 : decode cX12_newTurn 65 = .ok (.iaload, 1) := by decide +kernel
theorem dX12_newTurn_66 : decode cX12_newTurn 66 = .ok (.iconst 1, 1) := by decide +kernel
theorem dX12_newTurn_67 : decode cX12_newTurn 67 = .ok (.iadd, 1) := by decide +kernel
theorem dX12_newTurn_68 : decode cX12_newTurn 68 = .ok (.iastore, 1) := by decide +kernel
theorem dX12_newTurn_69 : decode cX12_newTurn 69 = .ok (.iconst 0, 1) := by decide +kernel
theorem dX12_newTurn_70 : decode cX12_newTurn 70 = .ok (.ireturn, 1) := by decide +kernel
set_option maxRecDepth 20000 in
theorem ggX12_newAnt_X12_isNew : GoodIn wsX12_newAnt wsX12_isNew := goodIn_r _ [6, 7, 8, 9, 10, 5, 11, 12, 13, 14, 15, 16, 17, 18, 19, 20, 21, 22, 23, 24, 25, 26, 27, 28, 29, 30, 31, 32, 33] (by decide +kernel) (by decide +kernel)
set_option maxRecDepth 20000 in
theorem gX12_newAnt_X12_isNew : GoodIn wsX12_newAnt (wsV RX12 223 RX12 yX12_isNew wsX12_isNew) := goodIn_app (goodIn_of _ (by decide +kernel)) ggX12_newAnt_X12_isNew
theorem dX12_newAnt_0 : decode cX12_newAnt 0 = .ok (.aload_n 0, 1) := by decide +kernel
theorem dX12_newAnt_1 : decode cX12_newAnt 1 = .ok (.iload_n 1, 1) := by decide +kernel
theorem dX12_newAnt_2 : decode cX12_newAnt 2 = .ok (.aload_n 0, 1) := by decide +kernel
theorem dX12_newAnt_3 : decode cX12_newAnt 3 = .ok (.getfield 39, 3) := by decide +kernel
theorem dX12_newAnt_6 : decode cX12_newAnt 6 = .ok (.getfield 64, 3) := by decide +kernel
theorem dX12_newAnt_9 : decode cX12_newAnt 9 = .ok (.bipush 6, 2) := by decide +kernel
theorem dX12_newAnt_11 : decode cX12_newAnt 11 = .ok (.invokevirtual 223, 3) := by decide +kernel
theorem dX12_newAnt_14 : decode cX12_newAnt 14 = .ok (.istore_n 2, 1) := by decide +kernel
theorem dX12_newAnt_15 : decode cX12_newAnt 15 = .ok (.aload_n 0, 1) := by decide +kernel
theorem dX12_newAnt_16 : decode cX12_newAnt 16 = .ok (.getfield 39, 3) := by decide +kernel
theorem dX12_newAnt_19 : decode cX12_newAnt 19 = .ok (.dup, 1) := by decide +kernel
theorem dX12_newAnt_20 : decode cX12_newAnt 20 = .ok (.getfield 64, 3) := by decide +kernel
theorem dX12_newAnt_23 : decode cX12_newAnt 23 = .ok (.iload_n 2, 1) := by decide +kernel
theorem dX12_newAnt_24 : decode cX12_newAnt 24 = .ok (.ifCond .ne 7, 3) := by decide +kernel
theorem dX12_newAnt_27 : decode cX12_newAnt 27 = .ok (.iconst 1, 1) := by decide +kernel
theorem dX12_newAnt_28 : decode cX12_newAnt 28 = .ok (.goto 4, 3) := by decide +kernel
theorem dX12_newAnt_31 : decode cX12_newAnt 31 = .ok (.iconst 0, 1) := by decide +kernel
theorem dX12_newAnt_32 : decode cX12_newAnt 32 = .ok (.iadd, 1) := by decide +kernel
theorem dX12_newAnt_33 : decode cX12_newAnt 33 = .ok (.putfield 64, 3) := by decide +kernel
theorem dX12_newAnt_36 : decode cX12_newAnt 36 = .ok (.aload_n 0, 1) := by decide +kernel
theorem dX12_newAnt_37 : decode cX12_newAnt 37 = .ok (.getfield 39, 3) := by decide +kernel
theorem dX12_newAnt_40 : decode cX12_newAnt 40 = .ok (.iconst 0, 1) := by decide +kernel
theorem dX12_newAnt_41 : decode cX12_newAnt 41 = .ok (.putfield 233, 3) := by decide +kernel
theorem dX12_newAnt_44 : decode cX12_newAnt 44 = .ok (.iload_n 2, 1) := by decide +kernel
theorem dX12_newAnt_45 : decode cX12_newAnt 45 = .ok (.ireturn, 1) := by decide +kernel
theorem dX12_order_0 : decode cX12_order 0 = .ok (.aload_n 0, 1) := by decide +kernel
theorem dX12_order_1 : decode cX12_order 1 = .ok (.getfield 39, 3) := by decide +kernel
theorem dX12_order_4 : decode cX12_order 4 = .ok (.getfield 235, 3) := by decide +kernel
theorem dX12_order_7 : decode cX12_order 7 = .ok (.bipush 20, 2) := by decide +kernel
theorem dX12_order_9 : decode cX12_order 9 = .ok (.if_icmp .ne 5, 3) := by decide +kernel
theorem dX12_order_12 : decode cX12_order 12 = .ok (.iconst 4, 1) := by decide +kernel
theorem dX12_order_13 : decode cX12_order 13 = .ok (.ireturn, 1) := by decide +kernel
theorem dX12_order_14 : decode cX12_order 14 = .ok (.aload_n 0, 1) := by decide +kernel
theorem dX12_order_15 : decode cX12_order 15 = .ok (.getfield 39, 3) := by decide +kernel
theorem dX12_order_18 : decode cX12_order 18 = .ok (.getfield 238, 3) := by decide +kernel
theorem dX12_order_21 : decode cX12_order 21 = .ok (.aload_n 0, 1) := by decide +kernel
theorem dX12_order_22 : decode cX12_order 22 = .ok (.getfield 39, 3) := by decide +kernel
theorem dX12_order_25 : decode cX12_order 25 = .ok (.getfield 235, 3) := by decide +kernel
theorem dX12_order_28 : decode cX12_order 28 = .ok (.aload_n 0, 1) := by decide +kernel
theorem dX12_order_29 : decode cX12_order 29 = .ok (.getfield 17, 3) := by decide +kernel
theorem dX12_order_32 : decode cX12_order 32 = .ok (.iload_n 1, 1) := by decide +kernel
theorem dX12_order_33 : decode cX12_order 33 = .ok (.iaload, 1) := by decide +kernel
theorem dX12_order_34 : decode cX12_order 34 = .ok (.iastore, 1) := by decide +kernel
theorem dX12_order_35 : decode cX12_order 35 = .ok (.aload_n 0, 1) := by decide +kernel
theorem dX12_order_36 : decode cX12_order 36 = .ok (.getfield 39, 3) := by decide +kernel
theorem dX12_order_39 : decode cX12_order 39 = .ok (.dup, 1) := by decide +kernel
theorem dX12_order_40 : decode cX12_order 40 = .ok (.getfield 235, 3) := by decide +kernel
theorem dX12_order_43 : decode cX12_order 43 = .ok (.iconst 1, 1) := by decide +kernel
theorem dX12_order_44 : decode cX12_order 44 = .ok (.iadd, 1) := by decide +kernel
theorem dX12_order_45 : decode cX12_order 45 = .ok (.putfield 235, 3) := by decide +kernel
theorem dX12_order_48 : decode cX12_order 48 = .ok (.iconst 0, 1) := by decide +kernel
theorem dX12_order_49 : decode cX12_order 49 = .ok (.ireturn, 1) := by decide +kernel
set_option maxRecDepth 20000 in
theorem ggX12_place_X12_numberAt : GoodIn wsX12_place wsX12_numberAt := goodIn_r _ [6, 7, 8, 9, 17, 18, 19, 20, 21, 22, 23, 24, 25, 26, 27, 28, 29, 30, 31] (by decide +kernel) (by decide +kernel)
set_option maxRecDepth 20000 in
theorem gX12_place_X12_numberAt : GoodIn wsX12_place (wsV RX12 207 RX12 yX12_numberAt wsX12_numberAt) := goodIn_app (goodIn_of _ (by decide +kernel)) ggX12_place_X12_numberAt
set_option maxRecDepth 20000 in
theorem ggX12_place_X12_inRange : GoodIn wsX12_place wsX12_inRange := goodIn_r _ [13, 2, 3, 4, 5, 6, 7, 8, 9, 14, 15, 16, 17, 18, 19, 20, 21, 22, 23, 24, 25, 26, 27, 28, 29, 30, 31] (by decide +kernel) (by decide +kernel)
set_option maxRecDepth 20000 in
theorem gX12_place_X12_inRange : GoodIn wsX12_place (wsV RX12 244 RX12 yX12_inRange wsX12_inRange) := goodIn_app (goodIn_of _ (by decide +kernel)) ggX12_place_X12_inRange
theorem dX12_place_0 : decode cX12_place 0 = .ok (.aload_n 0, 1) := by decide +kernel
theorem dX12_place_1 : decode cX12_place 1 = .ok (.getfield 39, 3) := by decide +kernel
theorem dX12_place_4 : decode cX12_place 4 = .ok (.getfield 241, 3) := by decide +kernel
theorem dX12_place_7 : decode cX12_place 7 = .ok (.aload_n 0, 1) := by decide +kernel
theorem dX12_place_8 : decode cX12_place 8 = .ok (.getfield 39, 3) := by decide +kernel
theorem dX12_place_11 : decode cX12_place 11 = .ok (.getfield 233, 3) := by decide +kernel
theorem dX12_place_14 : decode cX12_place 14 = .ok (.aload_n 0, 1) := by decide +kernel
theorem dX12_place_15 : decode cX12_place 15 = .ok (.iload_n 1, 1) := by decide +kernel
theorem dX12_place_16 : decode cX12_place 16 = .ok (.invokevirtual 207, 3) := by decide +kernel
theorem dX12_place_19 : decode cX12_place 19 = .ok (.iastore, 1) := by decide +kernel
theorem dX12_place_20 : decode cX12_place 20 = .ok (.aload_n 0, 1) := by decide +kernel
theorem dX12_place_21 : decode cX12_place 21 = .ok (.getfield 39, 3) := by decide +kernel
theorem dX12_place_24 : decode cX12_place 24 = .ok (.dup, 1) := by decide +kernel
theorem dX12_place_25 : decode cX12_place 25 = .ok (.getfield 233, 3) := by decide +kernel
theorem dX12_place_28 : decode cX12_place 28 = .ok (.iconst 1, 1) := by decide +kernel
theorem dX12_place_29 : decode cX12_place 29 = .ok (.iadd, 1) := by decide +kernel
theorem dX12_place_30 : decode cX12_place 30 = .ok (.putfield 233, 3) := by decide +kernel
theorem dX12_place_33 : decode cX12_place 33 = .ok (.aload_n 0, 1) := by decide +kernel
theorem dX12_place_34 : decode cX12_place 34 = .ok (.iload_n 1, 1) := by decide +kernel
theorem dX12_place_35 : decode cX12_place 35 = .ok (.iconst 0, 1) := by decide +kernel
theorem dX12_place_36 : decode cX12_place 36 = .ok (.bipush 63, 2) := by decide +kernel
theorem dX12_place_38 : decode cX12_place 38 = .ok (.invokevirtual 244, 3) := by decide +kernel
theorem dX12_place_41 : decode cX12_place 41 = .ok (.ireturn, 1) := by decide +kernel
set_option maxRecDepth 20000 in
theorem ggX12_antPlace_X12_place : GoodIn wsX12_antPlace wsX12_place := goodIn_r _ [6, 1, 7, 8, 9, 5, 10, 11, 12, 13, 14, 15, 16, 17, 18, 19, 20, 21, 22, 23, 24, 25, 26, 27, 28, 29, 30, 31, 32, 33, 34, 35, 36, 37, 38, 39, 40, 41, 42, 43, 44, 45, 46, 47, 48, 49, 50, 51, 52, 53, 54, 55, 56, 57] (by decide +kernel) (by decide +kernel)
set_option maxRecDepth 20000 in
theorem gX12_antPlace_X12_place : GoodIn wsX12_antPlace (wsV RX12 247 RX12 yX12_place wsX12_place) := goodIn_app (goodIn_of _ (by decide +kernel)) ggX12_antPlace_X12_place
theorem dX12_antPlace_0 : decode cX12_antPlace 0 = .ok (.aload_n 0, 1) := by decide +kernel
theorem dX12_antPlace_1 : decode cX12_antPlace 1 = .ok (.iload_n 1, 1) := by decide +kernel
theorem dX12_antPlace_2 : decode cX12_antPlace 2 = .ok (.invokevirtual 247, 3) := by decide +kernel
theorem dX12_antPlace_5 : decode cX12_antPlace 5 = .ok (.istore_n 2, 1) := by decide +kernel
theorem dX12_antPlace_6 : decode cX12_antPlace 6 = .ok (.aload_n 0, 1) := by decide +kernel
theorem dX12_antPlace_7 : decode cX12_antPlace 7 = .ok (.getfield 39, 3) := by decide +kernel
theorem dX12_antPlace_10 : decode cX12_antPlace 10 = .ok (.getfield 250, 3) := by decide +kernel
theorem dX12_antPlace_13 : decode cX12_antPlace 13 = .ok (.aload_n 0, 1) := by decide +kernel
theorem dX12_antPlace_14 : decode cX12_antPlace 14 = .ok (.getfield 39, 3) := by decide +kernel
theorem dX12_antPlace_17 : decode cX12_antPlace 17 = .ok (.getfield 64, 3) := by decide +kernel
theorem dX12_antPlace_20 : decode cX12_antPlace 20 = .ok (.iconst 1, 1) := by decide +kernel
theorem dX12_antPlace_21 : decode cX12_antPlace 21 = .ok (.isub, 1) := by decide +kernel
theorem dX12_antPlace_22 : decode cX12_antPlace 22 = .ok (.aload_n 0, 1) := by decide +kernel
theorem dX12_antPlace_23 : decode cX12_antPlace 23 = .ok (.getfield 39, 3) := by decide +kernel
theorem dX12_antPlace_26 : decode cX12_antPlace 26 = .ok (.getfield 241, 3) := by decide +kernel
theorem dX12_antPlace_29 : decode cX12_antPlace 29 = .ok (.iconst 0, 1) := by decide +kernel
theorem dX12_antPlace_30 : decode cX12_antPlace 30 = .ok (.iaload, 1) := by decide +kernel
theorem dX12_antPlace_31 : decode cX12_antPlace 31 = .ok (.iastore, 1) := by decide +kernel
theorem dX12_antPlace_32 : decode cX12_antPlace 32 = .ok (.aload_n 0, 1) := by decide +kernel
theorem dX12_antPlace_33 : decode cX12_antPlace 33 = .ok (.getfield 39, 3) := by decide +kernel
theorem dX12_antPlace_36 : decode cX12_antPlace 36 = .ok (.getfield 253, 3) := by decide +kernel
theorem dX12_antPlace_39 : decode cX12_antPlace 39 = .ok (.aload_n 0, 1) := by decide +kernel
theorem dX12_antPlace_40 : decode cX12_antPlace 40 = .ok (.getfield 39, 3) := by decide +kernel
theorem dX12_antPlace_43 : decode cX12_antPlace 43 = .ok (.getfield 64, 3) := by decide +kernel
theorem dX12_antPlace_46 : decode cX12_antPlace 46 = .ok (.iconst 1, 1) := by decide +kernel
theorem dX12_antPlace_47 : decode cX12_antPlace 47 = .ok (.isub, 1) := by decide +kernel
theorem dX12_antPlace_48 : decode cX12_antPlace 48 = .ok (.aload_n 0, 1) := by decide +kernel
theorem dX12_antPlace_49 : decode cX12_antPlace 49 = .ok (.getfield 39, 3) := by decide +kernel
theorem dX12_antPlace_52 : decode cX12_antPlace 52 = .ok (.getfield 233, 3) := by decide +kernel
theorem dX12_antPlace_55 : decode cX12_antPlace 55 = .ok (.iconst 1, 1) := by decide +kernel
theorem dX12_antPlace_56 : decode cX12_antPlace 56 = .ok (.if_icmp .le 15, 3) := by decide +kernel
theorem dX12_antPlace_59 : decode cX12_antPlace 59 = .ok (.aload_n 0, 1) := by decide +kernel
theorem dX12_antPlace_60 : decode cX12_antPlace 60 = .ok (.getfield 39, 3) := by decide +kernel
theorem dX12_antPlace_63 : decode cX12_antPlace 63 = .ok (.getfield 241, 3) := by decide +kernel
theorem dX12_antPlace_66 : decode cX12_antPlace 66 = .ok (.iconst 1, 1) := by decide +kernel
theorem dX12_antPlace_67 : decode cX12_antPlace 67 = .ok (.iaload, 1) := by decide +kernel
theorem dX12_antPlace_68 : decode cX12_antPlace 68 = .ok (.goto 4, 3) := by decide +kernel
theorem dX12_antPlace_71 : decode cX12_antPlace 71 = .ok (.iconst 0, 1) := by decide +kernel
theorem dX12_antPlace_72 : decode cX12_antPlace 72 = .ok (.iastore, 1) := by decide +kernel
theorem dX12_antPlace_73 : decode cX12_antPlace 73 = .ok (.iload_n 2, 1) := by decide +kernel
theorem dX12_antPlace_74 : decode cX12_antPlace 74 = .ok (.ireturn, 1) := by decide +kernel
set_option maxRecDepth 20000 in
theorem ggX12_painted_X12_inRange : GoodIn wsX12_painted wsX12_inRange := goodIn_r _ [6, 7, 8, 9, 5, 10, 11, 12, 13, 14, 15, 16, 17, 18, 19, 20, 21, 22, 23, 24, 25, 26, 27, 28, 29, 30, 31] (by decide +kernel) (by decide +kernel)
set_option maxRecDepth 20000 in
theorem gX12_painted_X12_inRange : GoodIn wsX12_painted (wsV RX12 244 RX12 yX12_inRange wsX12_inRange) := goodIn_app (goodIn_of _ (by decide +kernel)) ggX12_painted_X12_inRange
set_option maxRecDepth 20000 in
theorem ggX12_painted_X12_numberAt : GoodIn wsX12_painted wsX12_numberAt := goodIn_r _ [10, 11, 12, 13, 17, 18, 19, 20, 21, 22, 23, 24, 25, 26, 27, 28, 29, 30, 31] (by decide +kernel) (by decide +kernel)
set_option maxRecDepth 20000 in
theorem gX12_painted_X12_numberAt : GoodIn wsX12_painted (wsV RX12 207 RX12 yX12_numberAt wsX12_numberAt) := goodIn_app (goodIn_of _ (by decide +kernel)) ggX12_painted_X12_numberAt
theorem dX12_painted_0 : decode cX12_painted 0 = .ok (.aload_n 0, 1) := by decide +kernel
theorem dX12_painted_1 : decode cX12_painted 1 = .ok (.iload_n 1, 1) := by decide +kernel
theorem dX12_painted_2 : decode cX12_painted 2 = .ok (.iconst 0, 1) := by decide +kernel
theorem dX12_painted_3 : decode cX12_painted 3 = .ok (.iconst 5, 1) := by decide +kernel
theorem dX12_painted_4 : decode cX12_painted 4 = .ok (.invokevirtual 244, 3) := by decide +kernel
theorem dX12_painted_7 : decode cX12_painted 7 = .ok (.istore_n 2, 1) := by decide +kernel
theorem dX12_painted_8 : decode cX12_painted 8 = .ok (.aload_n 0, 1) := by decide +kernel
theorem dX12_painted_9 : decode cX12_painted 9 = .ok (.getfield 39, 3) := by decide +kernel
theorem dX12_painted_12 : decode cX12_painted 12 = .ok (.iconst 0, 1) := by decide +kernel
theorem dX12_painted_13 : decode cX12_painted 13 = .ok (.putfield 233, 3) := by decide +kernel
theorem dX12_painted_16 : decode cX12_painted 16 = .ok (.iload_n 2, 1) := by decide +kernel
theorem dX12_painted_17 : decode cX12_painted 17 = .ok (.ifCond .ne 38, 3) := by decide +kernel
theorem dX12_painted_20 : decode cX12_painted 20 = .ok (.aload_n 0, 1) := by decide +kernel
theorem dX12_painted_21 : decode cX12_painted 21 = .ok (.getfield 39, 3) := by decide +kernel
theorem dX12_painted_24 : decode cX12_painted 24 = .ok (.getfield 256, 3) := by decide +kernel
theorem dX12_painted_27 : decode cX12_painted 27 = .ok (.bipush 64, 2) := by decide +kernel
theorem dX12_painted_29 : decode cX12_painted 29 = .ok (.aload_n 0, 1) := by decide +kernel
theorem dX12_painted_30 : decode cX12_painted 30 = .ok (.getfield 39, 3) := by decide +kernel
theorem dX12_painted_33 : decode cX12_painted 33 = .ok (.getfield 241, 3) := by decide +kernel
theorem dX12_painted_36 : decode cX12_painted 36 = .ok (.iconst 1, 1) := by decide +kernel
theorem dX12_painted_37 : decode cX12_painted 37 = .ok (.iaload, 1) := by decide +kernel
theorem dX12_painted_38 : decode cX12_painted 38 = .ok (.imul, 1) := by decide +kernel
theorem dX12_painted_39 : decode cX12_painted 39 = .ok (.aload_n 0, 1) := by decide +kernel
theorem dX12_painted_40 : decode cX12_painted 40 = .ok (.getfield 39, 3) := by decide +kernel
theorem dX12_painted_43 : decode cX12_painted 43 = .ok (.getfield 241, 3) := by decide +kernel
theorem dX12_painted_46 : decode cX12_painted 46 = .ok (.iconst 0, 1) := by decide +kernel
theorem dX12_painted_47 : decode cX12_painted 47 = .ok (.iaload, 1) := by decide +kernel
theorem dX12_painted_48 : decode cX12_painted 48 = .ok (.iadd, 1) := by decide +kernel
theorem dX12_painted_49 : decode cX12_painted 49 = .ok (.aload_n 0, 1) := by decide +kernel
theorem dX12_painted_50 : decode cX12_painted 50 = .ok (.iload_n 1, 1) := by decide +kernel
theorem dX12_painted_51 : decode cX12_painted 51 = .ok (.invokevirtual 207, 3) := by decide +kernel
theorem dX12_painted_54 : decode cX12_painted 54 = .ok (.iastore, 1) := by decide +kernel
theorem dX12_painted_55 : decode cX12_painted 55 = .ok (.iload_n 2, 1) := by decide +kernel
theorem dX12_painted_56 : decode cX12_painted 56 = .ok (.ireturn, 1) := by decide +kernel
set_option maxRecDepth 20000 in
theorem ggX12_named_X12_look : GoodIn wsX12_named wsX12_look := goodIn_r _ [6, 1, 7, 8, 9, 5, 10, 11, 12, 13, 14, 15, 16, 17, 18, 19, 20, 21, 22, 23, 24, 25, 26, 27, 28, 29, 30, 31, 32, 33] (by decide +kernel) (by decide +kernel)
set_option maxRecDepth 20000 in
theorem gX12_named_X12_look : GoodIn wsX12_named (wsV RX12 259 RX12 yX12_look wsX12_look) := goodIn_app (goodIn_of _ (by decide +kernel)) ggX12_named_X12_look
theorem dX12_named_0 : decode cX12_named 0 = .ok (.aload_n 0, 1) := by decide +kernel
theorem dX12_named_1 : decode cX12_named 1 = .ok (.iload_n 1, 1) := by decide +kernel
theorem dX12_named_2 : decode cX12_named 2 = .ok (.iload 4, 2) := by decide +kernel
theorem dX12_named_4 : decode cX12_named 4 = .ok (.invokevirtual 259, 3) := by decide +kernel
theorem dX12_named_7 : decode cX12_named 7 = .ok (.istore 5, 2) := by decide +kernel
theorem dX12_named_9 : decode cX12_named 9 = .ok (.aload_n 2, 1) := by decide +kernel
theorem dX12_named_10 : decode cX12_named 10 = .ok (.iload_n 3, 1) := by decide +kernel
theorem dX12_named_11 : decode cX12_named 11 = .ok (.aload_n 0, 1) := by decide +kernel
theorem dX12_named_12 : decode cX12_named 12 = .ok (.getfield 29, 3) := by decide +kernel
theorem dX12_named_15 : decode cX12_named 15 = .ok (.iload_n 1, 1) := by decide +kernel
theorem dX12_named_16 : decode cX12_named 16 = .ok (.iaload, 1) := by decide +kernel
theorem dX12_named_17 : decode cX12_named 17 = .ok (.iastore, 1) := by decide +kernel
theorem dX12_named_18 : decode cX12_named 18 = .ok (.iload 5, 2) := by decide +kernel
theorem dX12_named_20 : decode cX12_named 20 = .ok (.ireturn, 1) := by decide +kernel
set_option maxRecDepth 20000 in
theorem ggX12_errorOf_X12_newRule : GoodIn wsX12_errorOf wsX12_newRule := goodIn_r _ [8, 1, 9, 10, 11, 7, 12, 2, 13, 14, 15, 16, 17, 18, 19, 20, 21, 22, 23, 68, 69, 70, 71, 72, 73, 74, 75, 76, 77, 78, 79, 80, 81, 82, 83, 84, 85, 86, 87, 88, 89, 90, 91, 92, 93, 94, 95, 96, 97, 98, 99, 100, 101, 102, 103, 104] (by decide +kernel) (by decide +kernel)
set_option maxRecDepth 20000 in
theorem gX12_errorOf_X12_newRule : GoodIn wsX12_errorOf (wsV RX12 262 RX12 yX12_newRule wsX12_newRule) := goodIn_app (goodIn_of _ (by decide +kernel)) ggX12_errorOf_X12_newRule
set_option maxRecDepth 20000 in
theorem ggX12_errorOf_X12_newTurn : GoodIn wsX12_errorOf wsX12_newTurn := goodIn_r _ [27, 1, 3, 68, 69, 70, 71, 72, 73, 74, 75, 76, 77, 78, 79, 80, 81, 82, 83, 84, 85, 86, 87, 88, 89, 90, 91, 92, 93, 94, 95, 96, 97, 98, 99, 100, 101, 102, 103, 104] (by decide +kernel) (by decide +kernel)
set_option maxRecDepth 20000 in
theorem gX12_errorOf_X12_newTurn : GoodIn wsX12_errorOf (wsV RX12 265 RX12 yX12_newTurn wsX12_newTurn) := goodIn_app (goodIn_of _ (by decide +kernel)) ggX12_errorOf_X12_newTurn
set_option maxRecDepth 20000 in
theorem ggX12_errorOf_X12_newAnt : GoodIn wsX12_errorOf wsX12_newAnt := goodIn_r _ [31, 1, 9, 10, 11, 7, 12, 2, 13, 14, 15, 16, 17, 18, 19, 20, 21, 22, 23, 68, 69, 70, 71, 72, 73, 74, 75, 76, 77, 78, 79, 80, 81, 82, 83, 84, 85, 86, 87, 88, 89, 90, 91, 92, 93, 94, 95, 96, 97, 98, 99, 100, 101, 102, 103, 104] (by decide +kernel) (by decide +kernel)
set_option maxRecDepth 20000 in
theorem gX12_errorOf_X12_newAnt : GoodIn wsX12_errorOf (wsV RX12 268 RX12 yX12_newAnt wsX12_newAnt) := goodIn_app (goodIn_of _ (by decide +kernel)) ggX12_errorOf_X12_newAnt
set_option maxRecDepth 20000 in
theorem ggX12_errorOf_X12_named : GoodIn wsX12_errorOf wsX12_named := goodIn_r _ [35, 36, 37, 38, 39, 7, 40, 13, 14, 15, 16, 2, 17, 18, 19, 20, 21, 22, 23, 68, 69, 70, 71, 72, 73, 74, 75, 76, 77, 78, 79, 80, 81, 82] (by decide +kernel) (by decide +kernel)
set_option maxRecDepth 20000 in
theorem gX12_errorOf_X12_named : GoodIn wsX12_errorOf (wsV RX12 274 RX12 yX12_named wsX12_named) := goodIn_app (goodIn_of _ (by decide +kernel)) ggX12_errorOf_X12_named
set_option maxRecDepth 20000 in
theorem ggX12_errorOf_X12_antPlace : GoodIn wsX12_errorOf wsX12_antPlace := goodIn_r _ [44, 1, 45, 46, 47, 7, 48, 49, 50, 51, 52, 21, 22, 23, 53, 54, 55, 56, 57, 58, 59, 68, 69, 70, 71, 72, 73, 74, 75, 76, 77, 78, 79, 80, 81, 82, 83, 84, 85, 86, 87, 88, 89, 90, 91, 92, 93, 94, 95, 96, 97, 98, 99, 100, 101, 102, 103, 104] (by decide +kernel) (by decide +kernel)
set_option maxRecDepth 20000 in
theorem gX12_errorOf_X12_antPlace : GoodIn wsX12_errorOf (wsV RX12 278 RX12 yX12_antPlace wsX12_antPlace) := goodIn_app (goodIn_of _ (by decide +kernel)) ggX12_errorOf_X12_antPlace
set_option maxRecDepth 20000 in
theorem ggX12_errorOf_X12_place : GoodIn wsX12_errorOf wsX12_place := goodIn_r _ [48, 1, 49, 50, 51, 7, 52, 21, 22, 23, 53, 54, 55, 56, 57, 58, 59, 68, 69, 70, 71, 72, 73, 74, 75, 76, 77, 78, 79, 80, 81, 82, 83, 84, 85, 86, 87, 88, 89, 90, 91, 92, 93, 94, 95, 96, 97, 98, 99, 100, 101, 102, 103, 104] (by decide +kernel) (by decide +kernel)
set_option maxRecDepth 20000 in
theorem gX12_errorOf_X12_place : GoodIn wsX12_errorOf (wsV RX12 247 RX12 yX12_place wsX12_place) := goodIn_app (goodIn_of _ (by decide +kernel)) ggX12_errorOf_X12_place
set_option maxRecDepth 20000 in
theorem ggX12_errorOf_X12_painted : GoodIn wsX12_errorOf wsX12_painted := goodIn_r _ [63, 1, 53, 54, 55, 7, 56, 49, 50, 51, 52, 21, 22, 23, 57, 58, 59, 68, 69, 70, 71, 72, 73, 74, 75, 76, 77, 78, 79, 80, 81, 82, 83, 84, 85, 86, 87, 88, 89, 90, 91, 92, 93, 94, 95, 96, 97, 98, 99, 100, 101, 102, 103, 104] (by decide +kernel) (by decide +kernel)
set_option maxRecDepth 20000 in
theorem gX12_errorOf_X12_painted : GoodIn wsX12_errorOf (wsV RX12 284 RX12 yX12_painted wsX12_painted) := goodIn_app (goodIn_of _ (by decide +kernel)) ggX12_errorOf_X12_painted
set_option maxRecDepth 20000 in
theorem ggX12_errorOf_X12_order : GoodIn wsX12_errorOf wsX12_order := goodIn_r _ [67, 1, 3, 68, 69, 70, 71, 72, 73, 74, 75, 76, 77, 78, 79, 80, 81, 82, 83, 84, 85, 86, 87, 88, 89, 90, 91, 92, 93, 94, 95, 96, 97, 98, 99, 100, 101, 102, 103, 104] (by decide +kernel) (by decide +kernel)
set_option maxRecDepth 20000 in
theorem gX12_errorOf_X12_order : GoodIn wsX12_errorOf (wsV RX12 287 RX12 yX12_order wsX12_order) := goodIn_app (goodIn_of _ (by decide +kernel)) ggX12_errorOf_X12_order
set_option maxRecDepth 20000 in
theorem ggX12_errorOf_X12_numberAt : GoodIn wsX12_errorOf wsX12_numberAt := goodIn_r _ [52, 21, 22, 23, 68, 69, 70, 71, 72, 73, 74, 75, 76, 77, 78, 79, 80, 81, 82] (by decide +kernel) (by decide +kernel)
set_option maxRecDepth 20000 in
theorem gX12_errorOf_X12_numberAt : GoodIn wsX12_errorOf (wsV RX12 207 RX12 yX12_numberAt wsX12_numberAt) := goodIn_app (goodIn_of _ (by decide +kernel)) ggX12_errorOf_X12_numberAt
set_option maxRecDepth 20000 in
theorem ggX12_errorOf_X12_inRange : GoodIn wsX12_errorOf wsX12_inRange := goodIn_r _ [56, 49, 50, 51, 7, 52, 21, 22, 23, 57, 58, 59, 68, 69, 70, 71, 72, 73, 74, 75, 76, 77, 78, 79, 80, 81, 82] (by decide +kernel) (by decide +kernel)
set_option maxRecDepth 20000 in
theorem gX12_errorOf_X12_inRange : GoodIn wsX12_errorOf (wsV RX12 244 RX12 yX12_inRange wsX12_inRange) := goodIn_app (goodIn_of _ (by decide +kernel)) ggX12_errorOf_X12_inRange
set_option maxRecDepth 20000 in
theorem ggX12_errorOf_X12_look : GoodIn wsX12_errorOf wsX12_look := goodIn_r _ [40, 36, 13, 14, 15, 7, 16, 2, 17, 18, 19, 20, 21, 22, 23, 68, 69, 70, 71, 72, 73, 74, 75, 76, 77, 78, 79, 80, 81, 82] (by decide +kernel) (by decide +kernel)
set_option maxRecDepth 20000 in
theorem gX12_errorOf_X12_look : GoodIn wsX12_errorOf (wsV RX12 259 RX12 yX12_look wsX12_look) := goodIn_app (goodIn_of _ (by decide +kernel)) ggX12_errorOf_X12_look
theorem dX12_errorOf_0 : decode cX12_errorOf 0 = .ok (.aload_n 0, 1) := by decide +kernel
theorem dX12_errorOf_1 : decode cX12_errorOf 1 = .ok (.getfield 39, 3) := by decide +kernel
theorem dX12_errorOf_4 : decode cX12_errorOf 4 = .ok (.astore_n 2, 1) := by decide +kernel
theorem dX12_errorOf_5 : decode cX12_errorOf 5 = .ok (.aload_n 0, 1) := by decide +kernel
theorem dX12_errorOf_6 : decode cX12_errorOf 6 = .ok (.getfield 26, 3) := by decide +kernel
theorem dX12_errorOf_9 : decode cX12_errorOf 9 = .ok (.iload_n 1, 1) := by decide +kernel
theorem dX12_errorOf_10 : decode cX12_errorOf 10 = .ok (.iaload, 1) := by decide +kernel
theorem dX12_errorOf_11 : decode cX12_errorOf 11 = .ok (.tableswitch 261 1 14 #[69, 81, 75, 87, 104, 110, 137, 143, 149, 155, 180, 215, 232, 254], 69) := by decide +kernel
theorem dX12_errorOf_80 : decode cX12_errorOf 80 = .ok (.aload_n 0, 1) := by decide +kernel
theorem dX12_errorOf_81 : decode cX12_errorOf 81 = .ok (.iload_n 1, 1) := by decide +kernel
theorem dX12_errorOf_82 : decode cX12_errorOf 82 = .ok (.invokevirtual 262, 3) := by decide +kernel
theorem dX12_errorOf_85 : decode cX12_errorOf 85 = .ok (.ireturn, 1) := by decide +kernel
theorem dX12_errorOf_86 : decode cX12_errorOf 86 = .ok (.aload_n 0, 1) := by decide +kernel
theorem dX12_errorOf_87 : decode cX12_errorOf 87 = .ok (.iload_n 1, 1) := by decide +kernel
theorem dX12_errorOf_88 : decode cX12_errorOf 88 = .ok (.invokevirtual 265, 3) := by decide +kernel
theorem dX12_errorOf_91 : decode cX12_errorOf 91 = .ok (.ireturn, 1) := by decide +kernel
theorem dX12_errorOf_92 : decode cX12_errorOf 92 = .ok (.aload_n 0, 1) := by decide +kernel
theorem dX12_errorOf_93 : decode cX12_errorOf 93 = .ok (.iload_n 1, 1) := by decide +kernel
theorem dX12_errorOf_94 : decode cX12_errorOf 94 = .ok (.invokevirtual 268, 3) := by decide +kernel
theorem dX12_errorOf_97 : decode cX12_errorOf 97 = .ok (.ireturn, 1) := by decide +kernel
theorem dX12_errorOf_98 : decode cX12_errorOf 98 = .ok (.aload_n 0, 1) := by decide +kernel
theorem dX12_errorOf_99 : decode cX12_errorOf 99 = .ok (.iload_n 1, 1) := by decide +kernel
theorem dX12_errorOf_100 : decode cX12_errorOf 100 = .ok (.aload_n 2, 1) := by decide +kernel
theorem dX12_errorOf_101 : decode cX12_errorOf 101 = .ok (.getfield 271, 3) := by decide +kernel
theorem dX12_errorOf_104 : decode cX12_errorOf 104 = .ok (.aload_n 2, 1) := by decide +kernel
theorem dX12_errorOf_105 : decode cX12_errorOf 105 = .ok (.getfield 64, 3) := by decide +kernel
theorem dX12_errorOf_108 : decode cX12_errorOf 108 = .ok (.iconst 1, 1) := by decide +kernel
theorem dX12_errorOf_109 : decode cX12_errorOf 109 = .ok (.isub, 1) := by decide +kernel
theorem dX12_errorOf_110 : decode cX12_errorOf 110 = .ok (.iconst 1, 1) := by decide +kernel
theorem dX12_errorOf_111 : decode cX12_errorOf 111 = .ok (.invokevirtual 274, 3) := by decide +kernel
theorem dX12_errorOf_114 : decode cX12_errorOf 114 = .ok (.ireturn, 1) := by decide +kernel
theorem dX12_errorOf_115 : decode cX12_errorOf 115 = .ok (.aload_n 0, 1) := by decide +kernel
theorem dX12_errorOf_116 : decode cX12_errorOf 116 = .ok (.iload_n 1, 1) := by decide +kernel
theorem dX12_errorOf_117 : decode cX12_errorOf 117 = .ok (.invokevirtual 278, 3) := by decide +kernel
theorem dX12_errorOf_120 : decode cX12_errorOf 120 = .ok (.ireturn, 1) := by decide +kernel
theorem dX12_errorOf_121 : decode cX12_errorOf 121 = .ok (.aload_n 2, 1) := by decide +kernel
theorem dX12_errorOf_122 : decode cX12_errorOf 122 = .ok (.getfield 281, 3) := by decide +kernel
theorem dX12_errorOf_125 : decode cX12_errorOf 125 = .ok (.aload_n 2, 1) := by decide +kernel
theorem dX12_errorOf_126 : decode cX12_errorOf 126 = .ok (.getfield 64, 3) := by decide +kernel
theorem dX12_errorOf_129 : decode cX12_errorOf 129 = .ok (.iconst 1, 1) := by decide +kernel
theorem dX12_errorOf_130 : decode cX12_errorOf 130 = .ok (.isub, 1) := by decide +kernel
theorem dX12_errorOf_131 : decode cX12_errorOf 131 = .ok (.aload_n 0, 1) := by decide +kernel
theorem dX12_errorOf_132 : decode cX12_errorOf 132 = .ok (.getfield 17, 3) := by decide +kernel
theorem dX12_errorOf_135 : decode cX12_errorOf 135 = .ok (.iload_n 1, 1) := by decide +kernel
theorem dX12_errorOf_136 : decode cX12_errorOf 136 = .ok (.iaload, 1) := by decide +kernel
theorem dX12_errorOf_137 : decode cX12_errorOf 137 = .ok (.bipush 9, 2) := by decide +kernel
theorem dX12_errorOf_139 : decode cX12_errorOf 139 = .ok (.isub, 1) := by decide +kernel
theorem dX12_errorOf_140 : decode cX12_errorOf 140 = .ok (.iastore, 1) := by decide +kernel
theorem dX12_errorOf_141 : decode cX12_errorOf 141 = .ok (.aload_n 2, 1) := by decide +kernel
theorem dX12_errorOf_142 : decode cX12_errorOf 142 = .ok (.iconst 0, 1) := by decide +kernel
theorem dX12_errorOf_143 : decode cX12_errorOf 143 = .ok (.putfield 233, 3) := by decide +kernel
theorem dX12_errorOf_146 : decode cX12_errorOf 146 = .ok (.iconst 0, 1) := by decide +kernel
theorem dX12_errorOf_147 : decode cX12_errorOf 147 = .ok (.ireturn, 1) := by decide +kernel
theorem dX12_errorOf_148 : decode cX12_errorOf 148 = .ok (.aload_n 0, 1) := by decide +kernel
theorem dX12_errorOf_149 : decode cX12_errorOf 149 = .ok (.iload_n 1, 1) := by decide +kernel
theorem dX12_errorOf_150 : decode cX12_errorOf 150 = .ok (.invokevirtual 247, 3) := by decide +kernel
theorem dX12_errorOf_153 : decode cX12_errorOf 153 = .ok (.ireturn, 1) := by decide +kernel
theorem dX12_errorOf_154 : decode cX12_errorOf 154 = .ok (.aload_n 0, 1) := by decide +kernel
theorem dX12_errorOf_155 : decode cX12_errorOf 155 = .ok (.iload_n 1, 1) := by decide +kernel
theorem dX12_errorOf_156 : decode cX12_errorOf 156 = .ok (.invokevirtual 284, 3) := by decide +kernel
theorem dX12_errorOf_159 : decode cX12_errorOf 159 = .ok (.ireturn, 1) := by decide +kernel
theorem dX12_errorOf_160 : decode cX12_errorOf 160 = .ok (.aload_n 0, 1) := by decide +kernel
theorem dX12_errorOf_161 : decode cX12_errorOf 161 = .ok (.iload_n 1, 1) := by decide +kernel
theorem dX12_errorOf_162 : decode cX12_errorOf 162 = .ok (.invokevirtual 287, 3) := by decide +kernel
theorem dX12_errorOf_165 : decode cX12_errorOf 165 = .ok (.ireturn, 1) := by decide +kernel
theorem dX12_errorOf_166 : decode cX12_errorOf 166 = .ok (.aload_n 2, 1) := by decide +kernel
theorem dX12_errorOf_167 : decode cX12_errorOf 167 = .ok (.getfield 290, 3) := by decide +kernel
theorem dX12_errorOf_170 : decode cX12_errorOf 170 = .ok (.aload_n 2, 1) := by decide +kernel
theorem dX12_errorOf_171 : decode cX12_errorOf 171 = .ok (.getfield 235, 3) := by decide +kernel
theorem dX12_errorOf_174 : decode cX12_errorOf 174 = .ok (.iconst 1, 1) := by decide +kernel
theorem dX12_errorOf_175 : decode cX12_errorOf 175 = .ok (.isub, 1) := by decide +kernel
theorem dX12_errorOf_176 : decode cX12_errorOf 176 = .ok (.aload_n 0, 1) := by decide +kernel
theorem dX12_errorOf_177 : decode cX12_errorOf 177 = .ok (.iload_n 1, 1) := by decide +kernel
theorem dX12_errorOf_178 : decode cX12_errorOf 178 = .ok (.invokevirtual 207, 3) := by decide +kernel
theorem dX12_errorOf_181 : decode cX12_errorOf 181 = .ok (.iastore, 1) := by decide +kernel
theorem dX12_errorOf_182 : decode cX12_errorOf 182 = .ok (.aload_n 0, 1) := by decide +kernel
theorem dX12_errorOf_183 : decode cX12_errorOf 183 = .ok (.iload_n 1, 1) := by decide +kernel
theorem dX12_errorOf_184 : decode cX12_errorOf 184 = .ok (.iconst 0, 1) := by decide +kernel
theorem dX12_errorOf_185 : decode cX12_errorOf 185 = .ok (.bipush 63, 2) := by decide +kernel
theorem dX12_errorOf_187 : decode cX12_errorOf 187 = .ok (.invokevirtual 244, 3) := by decide +kernel
theorem dX12_errorOf_190 : decode cX12_errorOf 190 = .ok (.ireturn, 1) := by decide +kernel
theorem dX12_errorOf_191 : decode cX12_errorOf 191 = .ok (.aload_n 2, 1) := by decide +kernel
theorem dX12_errorOf_192 : decode cX12_errorOf 192 = .ok (.getfield 293, 3) := by decide +kernel
theorem dX12_errorOf_195 : decode cX12_errorOf 195 = .ok (.aload_n 2, 1) := by decide +kernel
theorem dX12_errorOf_196 : decode cX12_errorOf 196 = .ok (.getfield 235, 3) := by decide +kernel
theorem dX12_errorOf_199 : decode cX12_errorOf 199 = .ok (.iconst 1, 1) := by decide +kernel
theorem dX12_errorOf_200 : decode cX12_errorOf 200 = .ok (.isub, 1) := by decide +kernel
theorem dX12_errorOf_201 : decode cX12_errorOf 201 = .ok (.aload_n 0, 1) := by decide +kernel
theorem dX12_errorOf_202 : decode cX12_errorOf 202 = .ok (.iload_n 1, 1) := by decide +kernel
theorem dX12_errorOf_203 : decode cX12_errorOf 203 = .ok (.invokevirtual 207, 3) := by decide +kernel
theorem dX12_errorOf_206 : decode cX12_errorOf 206 = .ok (.iastore, 1) := by decide +kernel
theorem dX12_errorOf_207 : decode cX12_errorOf 207 = .ok (.aload_n 0, 1) := by decide +kernel
theorem dX12_errorOf_208 : decode cX12_errorOf 208 = .ok (.iload_n 1, 1) := by decide +kernel
theorem dX12_errorOf_209 : decode cX12_errorOf 209 = .ok (.aload_n 2, 1) := by decide +kernel
theorem dX12_errorOf_210 : decode cX12_errorOf 210 = .ok (.getfield 290, 3) := by decide +kernel
theorem dX12_errorOf_213 : decode cX12_errorOf 213 = .ok (.aload_n 2, 1) := by decide +kernel
theorem dX12_errorOf_214 : decode cX12_errorOf 214 = .ok (.getfield 235, 3) := by decide +kernel
theorem dX12_errorOf_217 : decode cX12_errorOf 217 = .ok (.iconst 1, 1) := by decide +kernel
theorem dX12_errorOf_218 : decode cX12_errorOf 218 = .ok (.isub, 1) := by decide +kernel
theorem dX12_errorOf_219 : decode cX12_errorOf 219 = .ok (.iaload, 1) := by decide +kernel
theorem dX12_errorOf_220 : decode cX12_errorOf 220 = .ok (.bipush 63, 2) := by decide +kernel
theorem dX12_errorOf_222 : decode cX12_errorOf 222 = .ok (.invokevirtual 244, 3) := by decide +kernel
theorem dX12_errorOf_225 : decode cX12_errorOf 225 = .ok (.ireturn, 1) := by decide +kernel
theorem dX12_errorOf_226 : decode cX12_errorOf 226 = .ok (.aload_n 0, 1) := by decide +kernel
theorem dX12_errorOf_227 : decode cX12_errorOf 227 = .ok (.iload_n 1, 1) := by decide +kernel
theorem dX12_errorOf_228 : decode cX12_errorOf 228 = .ok (.aload_n 2, 1) := by decide +kernel
theorem dX12_errorOf_229 : decode cX12_errorOf 229 = .ok (.getfield 290, 3) := by decide +kernel
theorem dX12_errorOf_232 : decode cX12_errorOf 232 = .ok (.aload_n 2, 1) := by decide +kernel
theorem dX12_errorOf_233 : decode cX12_errorOf 233 = .ok (.getfield 235, 3) := by decide +kernel
theorem dX12_errorOf_236 : decode cX12_errorOf 236 = .ok (.iconst 1, 1) := by decide +kernel
theorem dX12_errorOf_237 : decode cX12_errorOf 237 = .ok (.isub, 1) := by decide +kernel
theorem dX12_errorOf_238 : decode cX12_errorOf 238 = .ok (.iconst 2, 1) := by decide +kernel
theorem dX12_errorOf_239 : decode cX12_errorOf 239 = .ok (.invokevirtual 274, 3) := by decide +kernel
theorem dX12_errorOf_242 : decode cX12_errorOf 242 = .ok (.ireturn, 1) := by decide +kernel
theorem dX12_errorOf_243 : decode cX12_errorOf 243 = .ok (.aload_n 2, 1) := by decide +kernel
theorem dX12_errorOf_244 : decode cX12_errorOf 244 = .ok (.getfield 293, 3) := by decide +kernel
theorem dX12_errorOf_247 : decode cX12_errorOf 247 = .ok (.aload_n 2, 1) := by decide +kernel
theorem dX12_errorOf_248 : decode cX12_errorOf 248 = .ok (.getfield 235, 3) := by decide +kernel
theorem dX12_errorOf_251 : decode cX12_errorOf 251 = .ok (.iconst 1, 1) := by decide +kernel
theorem dX12_errorOf_252 : decode cX12_errorOf 252 = .ok (.isub, 1) := by decide +kernel
theorem dX12_errorOf_253 : decode cX12_errorOf 253 = .ok (.aload_n 0, 1) := by decide +kernel
theorem dX12_errorOf_254 : decode cX12_errorOf 254 = .ok (.getfield 17, 3) := by decide +kernel
theorem dX12_errorOf_257 : decode cX12_errorOf 257 = .ok (.iload_n 1, 1) := by decide +kernel
theorem dX12_errorOf_258 : decode cX12_errorOf 258 = .ok (.iaload, 1) := by decide +kernel
theorem dX12_errorOf_259 : decode cX12_errorOf 259 = .ok (.bipush 9, 2) := by decide +kernel
theorem dX12_errorOf_261 : decode cX12_errorOf 261 = .ok (.isub, 1) := by decide +kernel
theorem dX12_errorOf_262 : decode cX12_errorOf 262 = .ok (.iastore, 1) := by decide +kernel
theorem dX12_errorOf_263 : decode cX12_errorOf 263 = .ok (.iconst 0, 1) := by decide +kernel
theorem dX12_errorOf_264 : decode cX12_errorOf 264 = .ok (.ireturn, 1) := by decide +kernel
theorem dX12_errorOf_265 : decode cX12_errorOf 265 = .ok (.aload_n 0, 1) := by decide +kernel
theorem dX12_errorOf_266 : decode cX12_errorOf 266 = .ok (.iload_n 1, 1) := by decide +kernel
theorem dX12_errorOf_267 : decode cX12_errorOf 267 = .ok (.iconst 2, 1) := by decide +kernel
theorem dX12_errorOf_268 : decode cX12_errorOf 268 = .ok (.invokevirtual 259, 3) := by decide +kernel
theorem dX12_errorOf_271 : decode cX12_errorOf 271 = .ok (.ireturn, 1) := by decide +kernel
theorem dX12_errorOf_272 : decode cX12_errorOf 272 = .ok (.iconst 0, 1) := by decide +kernel
theorem dX12_errorOf_273 : decode cX12_errorOf 273 = .ok (.ireturn, 1) := by decide +kernel
set_option maxRecDepth 20000 in
theorem ggX12_read_X10_init : GoodIn wsX12_read wsX10_init := goodIn_r _ [11, 12, 13, 14, 15, 16, 17, 18, 19, 20, 21, 22, 23, 24, 25, 26, 27, 28, 29, 30, 326, 327, 328, 329, 330, 331, 332, 333, 334, 335, 336, 337, 338, 339, 340, 341, 342, 343, 344, 345, 346, 347] (by decide +kernel) (by decide +kernel)
set_option maxRecDepth 20000 in
theorem gX12_read_X10_init_n34 : GoodIn wsX12_read (wsX10_init) := ggX12_read_X10_init
set_option maxRecDepth 20000 in
theorem ggX12_read_X12_cut_c1 : GoodIn wsX12_read (.code yX12_cut cX12_cut 3 none :: wsX12_cut_r1) := goodIn_r _ [35, 7, 36, 9, 37, 38, 39, 40, 41, 34, 42, 43, 44, 45, 46, 47, 48, 49, 50, 51, 52, 53, 54, 55, 56] (by decide +kernel) (by decide +kernel)
set_option maxRecDepth 20000 in
theorem ggX12_read_X12_cut_c2 : GoodIn wsX12_read wsX12_cut_r2 := goodIn_r _ [57, 58, 59, 60, 61, 62, 63, 64, 65, 66, 67, 68, 69, 70, 71, 72, 73, 74, 75, 76, 77, 78, 79, 80] (by decide +kernel) (by decide +kernel)
set_option maxRecDepth 20000 in
theorem ggX12_read_X12_cut_c3 : GoodIn wsX12_read wsX12_cut_r3 := goodIn_r _ [81, 82, 83, 84, 85, 86, 87, 88, 89, 90, 91, 92, 93, 94, 95, 96, 97, 98, 99, 100, 101, 102, 103, 104] (by decide +kernel) (by decide +kernel)
set_option maxRecDepth 20000 in
theorem ggX12_read_X12_cut_c4 : GoodIn wsX12_read wsX12_cut_r4 := goodIn_r _ [105, 106, 107, 108, 109, 110, 111, 112, 113, 114, 115, 116, 117, 118, 119, 120, 121, 122, 123, 124, 125, 126, 127, 128] (by decide +kernel) (by decide +kernel)
set_option maxRecDepth 20000 in
theorem ggX12_read_X12_cut_c5 : GoodIn wsX12_read wsX12_cut_r5 := goodIn_r _ [129, 130, 131, 132, 133, 134, 135, 136, 137, 138, 139, 140, 141, 142, 143, 144, 145, 146, 147, 148, 149, 150, 151, 152] (by decide +kernel) (by decide +kernel)
set_option maxRecDepth 20000 in
theorem ggX12_read_X12_cut_c6 : GoodIn wsX12_read wsX12_cut_r6 := goodIn_r _ [153, 154, 155, 156, 157, 158, 159, 160, 161, 162, 163, 164, 165, 166, 167, 168, 169] (by decide +kernel) (by decide +kernel)
set_option maxRecDepth 20000 in
theorem ggX12_read_X12_cut_c7 : GoodIn wsX12_read wsX120 := goodIn_r _ [348, 349, 350, 351, 352, 353, 354, 355, 356, 357, 358, 359, 360, 361, 362] (by decide +kernel) (by decide +kernel)
set_option maxRecDepth 20000 in
theorem ggX12_read_X12_cut : GoodIn wsX12_read wsX12_cut := (goodIn_ca (goodIn_ca ggX12_read_X12_cut_c1 (goodIn_app ggX12_read_X12_cut_c2 (goodIn_app ggX12_read_X12_cut_c3 (goodIn_app ggX12_read_X12_cut_c4 (goodIn_app ggX12_read_X12_cut_c5 ggX12_read_X12_cut_c6))))) ggX12_read_X12_cut_c7)
set_option maxRecDepth 20000 in
theorem gX12_read_X12_cut : GoodIn wsX12_read (wsV RX12 296 RX12 yX12_cut wsX12_cut) := goodIn_app (goodIn_of _ (by decide +kernel)) ggX12_read_X12_cut
set_option maxRecDepth 20000 in
theorem ggX12_read_X12_isPlan_c1 : GoodIn wsX12_read (.code yX12_isPlan cX12_isPlan 2 (some .boolean) :: wsX12_isPlan_r1) := goodIn_r _ [173, 174, 175, 176, 34, 177, 37, 5, 178, 179, 180, 181, 182, 183, 184, 185, 36, 186, 187, 188, 189, 190, 191, 192, 193] (by decide +kernel) (by decide +kernel)
set_option maxRecDepth 20000 in
theorem ggX12_read_X12_isPlan_c2 : GoodIn wsX12_read wsX12_isPlan_r2 := goodIn_r _ [194, 195, 196, 197, 198, 199, 200, 201, 202, 203, 204, 205, 206, 207, 208, 209, 210, 211, 212, 4, 213, 126, 123, 127] (by decide +kernel) (by decide +kernel)
set_option maxRecDepth 20000 in
theorem ggX12_read_X12_isPlan_c3 : GoodIn wsX12_read wsX12_isPlan_r3 := goodIn_r _ [214, 215, 216, 217, 218, 219, 220, 221, 222, 223, 224, 225, 226, 227, 228, 229, 6, 230, 231, 232, 233, 234, 235, 236] (by decide +kernel) (by decide +kernel)
set_option maxRecDepth 20000 in
theorem ggX12_read_X12_isPlan_c4 : GoodIn wsX12_read wsX12_isPlan_r4 := goodIn_r _ [237, 238, 239, 240, 241, 242, 243, 244, 245, 246, 247, 248, 249, 250, 251, 252, 253, 254, 255, 256, 257, 258, 259, 260] (by decide +kernel) (by decide +kernel)
set_option maxRecDepth 20000 in
theorem ggX12_read_X12_isPlan_c5 : GoodIn wsX12_read wsX12_isPlan_r5 := goodIn_r _ [261, 262, 263, 264, 265, 266, 38, 44, 7, 267, 268, 269] (by decide +kernel) (by decide +kernel)
set_option maxRecDepth 20000 in
theorem ggX12_read_X12_isPlan_c6 : GoodIn wsX12_read wsX120 := goodIn_r _ [348, 349, 350, 351, 352, 353, 354, 355, 356, 357, 358, 359, 360, 361, 362] (by decide +kernel) (by decide +kernel)
set_option maxRecDepth 20000 in
theorem ggX12_read_X12_isPlan_c7 : GoodIn wsX12_read wsX100 := goodIn_r _ [326, 327, 328, 329, 330, 331, 332, 333, 334, 335, 336, 337, 338, 339, 340, 341, 342, 343, 344, 345, 346, 347] (by decide +kernel) (by decide +kernel)
set_option maxRecDepth 20000 in
theorem ggX12_read_X12_isPlan : GoodIn wsX12_read wsX12_isPlan := (goodIn_ca (goodIn_ca (goodIn_ca ggX12_read_X12_isPlan_c1 (goodIn_app ggX12_read_X12_isPlan_c2 (goodIn_app ggX12_read_X12_isPlan_c3 (goodIn_app ggX12_read_X12_isPlan_c4 ggX12_read_X12_isPlan_c5)))) ggX12_read_X12_isPlan_c6) ggX12_read_X12_isPlan_c7)
set_option maxRecDepth 20000 in
theorem gX12_read_X12_isPlan : GoodIn wsX12_read (wsV RX12 299 RX12 yX12_isPlan wsX12_isPlan) := goodIn_app (goodIn_of _ (by decide +kernel)) ggX12_read_X12_isPlan
set_option maxRecDepth 20000 in
theorem ggX12_read_X12_errorOf_c1 : GoodIn wsX12_read (.code yX12_errorOf cX12_errorOf 3 (some .int) :: wsX12_errorOf_r1) := goodIn_r _ [273, 4, 36, 37, 274, 275, 276, 34, 277, 278, 279, 280, 281, 282, 283, 284, 285, 286, 287, 288, 289, 38, 44, 7, 290] (by decide +kernel) (by decide +kernel)
set_option maxRecDepth 20000 in
theorem ggX12_read_X12_errorOf_c2 : GoodIn wsX12_read wsX12_errorOf_r2 := goodIn_r _ [291, 292, 293, 294, 295, 296, 297, 298, 299, 300, 301, 9, 302, 303, 304, 305, 306, 307, 308, 309, 310, 311, 312, 313] (by decide +kernel) (by decide +kernel)
set_option maxRecDepth 20000 in
theorem ggX12_read_X12_errorOf_c3 : GoodIn wsX12_read wsX12_errorOf_r3 := goodIn_r _ [263, 264, 265, 266, 314, 315, 316, 317, 198, 199, 200, 318, 319, 320, 321, 322, 323, 324, 325] (by decide +kernel) (by decide +kernel)
set_option maxRecDepth 20000 in
theorem ggX12_read_X12_errorOf_c4 : GoodIn wsX12_read wsX120 := goodIn_r _ [348, 349, 350, 351, 352, 353, 354, 355, 356, 357, 358, 359, 360, 361, 362] (by decide +kernel) (by decide +kernel)
set_option maxRecDepth 20000 in
theorem ggX12_read_X12_errorOf_c5 : GoodIn wsX12_read wsX100 := goodIn_r _ [326, 327, 328, 329, 330, 331, 332, 333, 334, 335, 336, 337, 338, 339, 340, 341, 342, 343, 344, 345, 346, 347] (by decide +kernel) (by decide +kernel)
set_option maxRecDepth 20000 in
theorem ggX12_read_X12_errorOf : GoodIn wsX12_read wsX12_errorOf := (goodIn_ca (goodIn_ca (goodIn_ca ggX12_read_X12_errorOf_c1 (goodIn_app ggX12_read_X12_errorOf_c2 ggX12_read_X12_errorOf_c3)) ggX12_read_X12_errorOf_c4) ggX12_read_X12_errorOf_c5)
set_option maxRecDepth 20000 in
theorem gX12_read_X12_errorOf : GoodIn wsX12_read (wsV RX12 302 RX12 yX12_errorOf wsX12_errorOf) := goodIn_app (goodIn_of _ (by decide +kernel)) ggX12_read_X12_errorOf
theorem dX12_read_0 : decode cX12_read 0 = .ok (.aload_n 0, 1) := by decide +kernel
theorem dX12_read_1 : decode cX12_read 1 = .ok (.new 32, 3) := by decide +kernel
theorem dX12_read_4 : decode cX12_read 4 = .ok (.dup, 1) := by decide +kernel
theorem dX12_read_5 : decode cX12_read 5 = .ok (.invokespecial 34, 3) := by decide +kernel
theorem dX12_read_8 : decode cX12_read 8 = .ok (.putfield 39, 3) := by decide +kernel
theorem dX12_read_11 : decode cX12_read 11 = .ok (.aload_n 0, 1) := by decide +kernel
theorem dX12_read_12 : decode cX12_read 12 = .ok (.invokevirtual 296, 3) := by decide +kernel
theorem dX12_read_15 : decode cX12_read 15 = .ok (.aload_n 0, 1) := by decide +kernel
theorem dX12_read_16 : decode cX12_read 16 = .ok (.iconst 0, 1) := by decide +kernel
theorem dX12_read_17 : decode cX12_read 17 = .ok (.putfield 115, 3) := by decide +kernel
theorem dX12_read_20 : decode cX12_read 20 = .ok (.aload_n 0, 1) := by decide +kernel
theorem dX12_read_21 : decode cX12_read 21 = .ok (.iconst 0, 1) := by decide +kernel
theorem dX12_read_22 : decode cX12_read 22 = .ok (.putfield 177, 3) := by decide +kernel
theorem dX12_read_25 : decode cX12_read 25 = .ok (.aload_n 0, 1) := by decide +kernel
theorem dX12_read_26 : decode cX12_read 26 = .ok (.invokevirtual 299, 3) := by decide +kernel
theorem dX12_read_29 : decode cX12_read 29 = .ok (.ifCond .ne 18, 3) := by decide +kernel
theorem dX12_read_32 : decode cX12_read 32 = .ok (.aload_n 0, 1) := by decide +kernel
theorem dX12_read_33 : decode cX12_read 33 = .ok (.aload_n 0, 1) := by decide +kernel
theorem dX12_read_34 : decode cX12_read 34 = .ok (.getfield 20, 3) := by decide +kernel
theorem dX12_read_37 : decode cX12_read 37 = .ok (.aload_n 0, 1) := by decide +kernel
theorem dX12_read_38 : decode cX12_read 38 = .ok (.getfield 115, 3) := by decide +kernel
theorem dX12_read_41 : decode cX12_read 41 = .ok (.iaload, 1) := by decide +kernel
theorem dX12_read_42 : decode cX12_read 42 = .ok (.putfield 13, 3) := by decide +kernel
theorem dX12_read_45 : decode cX12_read 45 = .ok (.iconst 1, 1) := by decide +kernel
theorem dX12_read_46 : decode cX12_read 46 = .ok (.ireturn, 1) := by decide +kernel
theorem dX12_read_47 : decode cX12_read 47 = .ok (.aload_n 0, 1) := by decide +kernel
theorem dX12_read_48 : decode cX12_read 48 = .ok (.getfield 115, 3) := by decide +kernel
theorem dX12_read_51 : decode cX12_read 51 = .ok (.istore_n 1, 1) := by decide +kernel
theorem dX12_read_52 : decode cX12_read 52 = .ok (.aload_n 0, 1) := by decide +kernel
theorem dX12_read_53 : decode cX12_read 53 = .ok (.iconst 0, 1) := by decide +kernel
theorem dX12_read_54 : decode cX12_read 54 = .ok (.putfield 115, 3) := by decide +kernel
theorem dX12_read_57 : decode cX12_read 57 = .ok (.aload_n 0, 1) := by decide +kernel
theorem dX12_read_58 : decode cX12_read 58 = .ok (.getfield 115, 3) := by decide +kernel
theorem dX12_read_61 : decode cX12_read 61 = .ok (.iload_n 1, 1) := by decide +kernel
theorem dX12_read_62 : decode cX12_read 62 = .ok (.if_icmp .ge 47, 3) := by decide +kernel
theorem dX12_read_65 : decode cX12_read 65 = .ok (.aload_n 0, 1) := by decide +kernel
theorem dX12_read_66 : decode cX12_read 66 = .ok (.aload_n 0, 1) := by decide +kernel
theorem dX12_read_67 : decode cX12_read 67 = .ok (.getfield 115, 3) := by decide +kernel
theorem dX12_read_70 : decode cX12_read 70 = .ok (.invokevirtual 302, 3) := by decide +kernel
theorem dX12_read_73 : decode cX12_read 73 = .ok (.istore_n 2, 1) := by decide +kernel
theorem dX12_read_74 : decode cX12_read 74 = .ok (.iload_n 2, 1) := by decide +kernel
theorem dX12_read_75 : decode cX12_read 75 = .ok (.ifCond .ne 6, 3) := by decide +kernel
theorem dX12_read_78 : decode cX12_read 78 = .ok (.goto 18, 3) := by decide +kernel
theorem dX12_read_81 : decode cX12_read 81 = .ok (.aload_n 0, 1) := by decide +kernel
theorem dX12_read_82 : decode cX12_read 82 = .ok (.aload_n 0, 1) := by decide +kernel
theorem dX12_read_83 : decode cX12_read 83 = .ok (.getfield 20, 3) := by decide +kernel
theorem dX12_read_86 : decode cX12_read 86 = .ok (.aload_n 0, 1) := by decide +kernel
theorem dX12_read_87 : decode cX12_read 87 = .ok (.getfield 115, 3) := by decide +kernel
theorem dX12_read_90 : decode cX12_read 90 = .ok (.iaload, 1) := by decide +kernel
theorem dX12_read_91 : decode cX12_read 91 = .ok (.putfield 13, 3) := by decide +kernel
theorem dX12_read_94 : decode cX12_read 94 = .ok (.iload_n 2, 1) := by decide +kernel
theorem dX12_read_95 : decode cX12_read 95 = .ok (.ireturn, 1) := by decide +kernel
theorem dX12_read_96 : decode cX12_read 96 = .ok (.aload_n 0, 1) := by decide +kernel
theorem dX12_read_97 : decode cX12_read 97 = .ok (.dup, 1) := by decide +kernel
theorem dX12_read_98 : decode cX12_read 98 = .ok (.getfield 115, 3) := by decide +kernel
theorem dX12_read_101 : decode cX12_read 101 = .ok (.iconst 1, 1) := by decide +kernel
theorem dX12_read_102 : decode cX12_read 102 = .ok (.iadd, 1) := by decide +kernel
theorem dX12_read_103 : decode cX12_read 103 = .ok (.putfield 115, 3) := by decide +kernel
theorem dX12_read_106 : decode cX12_read 106 = .ok (.goto (-49), 3) := by decide +kernel
theorem dX12_read_109 : decode cX12_read 109 = .ok (.iconst 0, 1) := by decide +kernel
theorem dX12_read_110 : decode cX12_read 110 = .ok (.istore_n 2, 1) := by decide +kernel
theorem dX12_read_111 : decode cX12_read 111 = .ok (.iload_n 2, 1) := by decide +kernel
theorem dX12_read_112 : decode cX12_read 112 = .ok (.aload_n 0, 1) := by decide +kernel
theorem dX12_read_113 : decode cX12_read 113 = .ok (.getfield 39, 3) := by decide +kernel
theorem dX12_read_116 : decode cX12_read 116 = .ok (.getfield 183, 3) := by decide +kernel
theorem dX12_read_119 : decode cX12_read 119 = .ok (.if_icmp .ge 48, 3) := by decide +kernel
theorem dX12_read_122 : decode cX12_read 122 = .ok (.aload_n 0, 1) := by decide +kernel
theorem dX12_read_123 : decode cX12_read 123 = .ok (.getfield 39, 3) := by decide +kernel
theorem dX12_read_126 : decode cX12_read 126 = .ok (.getfield 124, 3) := by decide +kernel
theorem dX12_read_129 : decode cX12_read 129 = .ok (.aload_n 0, 1) := by decide +kernel
theorem dX12_read_130 : decode cX12_read 130 = .ok (.getfield 39, 3) := by decide +kernel
theorem dX12_read_133 : decode cX12_read 133 = .ok (.getfield 180, 3) := by decide +kernel
theorem dX12_read_136 : decode cX12_read 136 = .ok (.iload_n 2, 1) := by decide +kernel
theorem dX12_read_137 : decode cX12_read 137 = .ok (.iaload, 1) := by decide +kernel
theorem dX12_read_138 : decode cX12_read 138 = .ok (.aload_n 0, 1) := by decide +kernel
theorem dX12_read_139 : decode cX12_read 139 = .ok (.getfield 29, 3) := by decide +kernel
theorem dX12_read_142 : decode cX12_read 142 = .ok (.aload_n 0, 1) := by decide +kernel
theorem dX12_read_143 : decode cX12_read 143 = .ok (.getfield 39, 3) := by decide +kernel
theorem dX12_read_146 : decode cX12_read 146 = .ok (.getfield 124, 3) := by decide +kernel
theorem dX12_read_149 : decode cX12_read 149 = .ok (.aload_n 0, 1) := by decide +kernel
theorem dX12_read_150 : decode cX12_read 150 = .ok (.getfield 39, 3) := by decide +kernel
theorem dX12_read_153 : decode cX12_read 153 = .ok (.getfield 180, 3) := by decide +kernel
theorem dX12_read_156 : decode cX12_read 156 = .ok (.iload_n 2, 1) := by decide +kernel
theorem dX12_read_157 : decode cX12_read 157 = .ok (.iaload, 1) := by decide +kernel
theorem dX12_read_158 : decode cX12_read 158 = .ok (.iaload, 1) := by decide +kernel
theorem dX12_read_159 : decode cX12_read 159 = .ok (.iaload, 1) := by decide +kernel
theorem dX12_read_160 : decode cX12_read 160 = .ok (.iastore, 1) := by decide +kernel
theorem dX12_read_161 : decode cX12_read 161 = .ok (.iinc 2 1, 3) := by decide +kernel
theorem dX12_read_164 : decode cX12_read 164 = .ok (.goto (-53), 3) := by decide +kernel
theorem dX12_read_167 : decode cX12_read 167 = .ok (.iconst 0, 1) := by decide +kernel
theorem dX12_read_168 : decode cX12_read 168 = .ok (.ireturn, 1) := by decide +kernel
set_option maxRecDepth 20000 in
theorem ggX12_feed_X12_no : GoodIn wsX12_feed wsX12_no := goodIn_r _ [9, 1, 10, 11, 12, 13, 14, 15, 16, 17, 18, 19, 20, 21, 22, 23, 24] (by decide +kernel) (by decide +kernel)
set_option maxRecDepth 20000 in
theorem gX12_feed_X12_no : GoodIn wsX12_feed (wsV RX12 305 RX12 yX12_no wsX12_no) := goodIn_app (goodIn_of _ (by decide +kernel)) ggX12_feed_X12_no
theorem dX12_feed_0 : decode cX12_feed 0 = .ok (.aload_n 0, 1) := by decide +kernel
theorem dX12_feed_1 : decode cX12_feed 1 = .ok (.iconst 0, 1) := by decide +kernel
theorem dX12_feed_2 : decode cX12_feed 2 = .ok (.putfield 57, 3) := by decide +kernel
theorem dX12_feed_5 : decode cX12_feed 5 = .ok (.aload_n 0, 1) := by decide +kernel
theorem dX12_feed_6 : decode cX12_feed 6 = .ok (.getfield 76, 3) := by decide +kernel
theorem dX12_feed_9 : decode cX12_feed 9 = .ok (.sipush 1980, 3) := by decide +kernel
theorem dX12_feed_12 : decode cX12_feed 12 = .ok (.if_icmp .le 9, 3) := by decide +kernel
theorem dX12_feed_15 : decode cX12_feed 15 = .ok (.aload_n 0, 1) := by decide +kernel
theorem dX12_feed_16 : decode cX12_feed 16 = .ok (.iconst 1, 1) := by decide +kernel
theorem dX12_feed_17 : decode cX12_feed 17 = .ok (.invokevirtual 305, 3) := by decide +kernel
theorem dX12_feed_20 : decode cX12_feed 20 = .ok (.ireturn, 1) := by decide +kernel
theorem dX12_feed_21 : decode cX12_feed 21 = .ok (.iconst 5, 1) := by decide +kernel
theorem dX12_feed_22 : decode cX12_feed 22 = .ok (.newarray .int, 2) := by decide +kernel
theorem dX12_feed_24 : decode cX12_feed 24 = .ok (.dup, 1) := by decide +kernel
theorem dX12_feed_25 : decode cX12_feed 25 = .ok (.iconst 0, 1) := by decide +kernel
theorem dX12_feed_26 : decode cX12_feed 26 = .ok (.iload_n 1, 1) := by decide +kernel
theorem dX12_feed_27 : decode cX12_feed 27 = .ok (.iastore, 1) := by decide +kernel
theorem dX12_feed_28 : decode cX12_feed 28 = .ok (.dup, 1) := by decide +kernel
theorem dX12_feed_29 : decode cX12_feed 29 = .ok (.iconst 1, 1) := by decide +kernel
theorem dX12_feed_30 : decode cX12_feed 30 = .ok (.iload_n 2, 1) := by decide +kernel
theorem dX12_feed_31 : decode cX12_feed 31 = .ok (.iastore, 1) := by decide +kernel
theorem dX12_feed_32 : decode cX12_feed 32 = .ok (.dup, 1) := by decide +kernel
theorem dX12_feed_33 : decode cX12_feed 33 = .ok (.iconst 2, 1) := by decide +kernel
theorem dX12_feed_34 : decode cX12_feed 34 = .ok (.iload_n 3, 1) := by decide +kernel
theorem dX12_feed_35 : decode cX12_feed 35 = .ok (.iastore, 1) := by decide +kernel
theorem dX12_feed_36 : decode cX12_feed 36 = .ok (.dup, 1) := by decide +kernel
theorem dX12_feed_37 : decode cX12_feed 37 = .ok (.iconst 3, 1) := by decide +kernel
theorem dX12_feed_38 : decode cX12_feed 38 = .ok (.iload 4, 2) := by decide +kernel
theorem dX12_feed_40 : decode cX12_feed 40 = .ok (.iastore, 1) := by decide +kernel
theorem dX12_feed_41 : decode cX12_feed 41 = .ok (.dup, 1) := by decide +kernel
theorem dX12_feed_42 : decode cX12_feed 42 = .ok (.iconst 4, 1) := by decide +kernel
theorem dX12_feed_43 : decode cX12_feed 43 = .ok (.iload 5, 2) := by decide +kernel
theorem dX12_feed_45 : decode cX12_feed 45 = .ok (.iastore, 1) := by decide +kernel
theorem dX12_feed_46 : decode cX12_feed 46 = .ok (.astore 6, 2) := by decide +kernel
theorem dX12_feed_48 : decode cX12_feed 48 = .ok (.iconst 0, 1) := by decide +kernel
theorem dX12_feed_49 : decode cX12_feed 49 = .ok (.istore 7, 2) := by decide +kernel
theorem dX12_feed_51 : decode cX12_feed 51 = .ok (.iload 7, 2) := by decide +kernel
theorem dX12_feed_53 : decode cX12_feed 53 = .ok (.bipush 20, 2) := by decide +kernel
theorem dX12_feed_55 : decode cX12_feed 55 = .ok (.if_icmp .ge 43, 3) := by decide +kernel
theorem dX12_feed_58 : decode cX12_feed 58 = .ok (.aload_n 0, 1) := by decide +kernel
theorem dX12_feed_59 : decode cX12_feed 59 = .ok (.getfield 9, 3) := by decide +kernel
theorem dX12_feed_62 : decode cX12_feed 62 = .ok (.aload_n 0, 1) := by decide +kernel
theorem dX12_feed_63 : decode cX12_feed 63 = .ok (.getfield 76, 3) := by decide +kernel
theorem dX12_feed_66 : decode cX12_feed 66 = .ok (.iload 7, 2) := by decide +kernel
theorem dX12_feed_68 : decode cX12_feed 68 = .ok (.iadd, 1) := by decide +kernel
theorem dX12_feed_69 : decode cX12_feed 69 = .ok (.aload 6, 2) := by decide +kernel
theorem dX12_feed_71 : decode cX12_feed 71 = .ok (.iload 7, 2) := by decide +kernel
theorem dX12_feed_73 : decode cX12_feed 73 = .ok (.iconst 4, 1) := by decide +kernel
theorem dX12_feed_74 : decode cX12_feed 74 = .ok (.idiv, 1) := by decide +kernel
theorem dX12_feed_75 : decode cX12_feed 75 = .ok (.iaload, 1) := by decide +kernel
theorem dX12_feed_76 : decode cX12_feed 76 = .ok (.bipush 24, 2) := by decide +kernel
theorem dX12_feed_78 : decode cX12_feed 78 = .ok (.bipush 8, 2) := by decide +kernel
theorem dX12_feed_80 : decode cX12_feed 80 = .ok (.iload 7, 2) := by decide +kernel
theorem dX12_feed_82 : decode cX12_feed 82 = .ok (.iconst 4, 1) := by decide +kernel
theorem dX12_feed_83 : decode cX12_feed 83 = .ok (.irem, 1) := by decide +kernel
theorem dX12_feed_84 : decode cX12_feed 84 = .ok (.imul, 1) := by decide +kernel
theorem dX12_feed_85 : decode cX12_feed 85 = .ok (.isub, 1) := by decide +kernel
theorem dX12_feed_86 : decode cX12_feed 86 = .ok (.ishr, 1) := by decide +kernel
theorem dX12_feed_87 : decode cX12_feed 87 = .ok (.sipush 255, 3) := by decide +kernel
theorem dX12_feed_90 : decode cX12_feed 90 = .ok (.iand, 1) := by decide +kernel
theorem dX12_feed_91 : decode cX12_feed 91 = .ok (.iastore, 1) := by decide +kernel
theorem dX12_feed_92 : decode cX12_feed 92 = .ok (.iinc 7 1, 3) := by decide +kernel
theorem dX12_feed_95 : decode cX12_feed 95 = .ok (.goto (-44), 3) := by decide +kernel
theorem dX12_feed_98 : decode cX12_feed 98 = .ok (.aload_n 0, 1) := by decide +kernel
theorem dX12_feed_99 : decode cX12_feed 99 = .ok (.dup, 1) := by decide +kernel
theorem dX12_feed_100 : decode cX12_feed 100 = .ok (.getfield 76, 3) := by decide +kernel
theorem dX12_feed_103 : decode cX12_feed 103 = .ok (.bipush 20, 2) := by decide +kernel
theorem dX12_feed_105 : decode cX12_feed 105 = .ok (.iadd, 1) := by decide +kernel
theorem dX12_feed_106 : decode cX12_feed 106 = .ok (.putfield 76, 3) := by decide +kernel
theorem dX12_feed_109 : decode cX12_feed 109 = .ok (.aload_n 0, 1) := by decide +kernel
theorem dX12_feed_110 : decode cX12_feed 110 = .ok (.getfield 76, 3) := by decide +kernel
theorem dX12_feed_113 : decode cX12_feed 113 = .ok (.ireturn, 1) := by decide +kernel
set_option maxRecDepth 20000 in
theorem ggX12_trim_X12_isIn : GoodIn wsX12_trim wsX12_isIn := goodIn_r _ [6] (by decide +kernel) (by decide +kernel)
set_option maxRecDepth 20000 in
theorem gX12_trim_X12_isIn : GoodIn wsX12_trim (va_wsS RX12 60 yX12_isIn wsX12_isIn) := goodIn_app (goodIn_of _ (by decide +kernel)) ggX12_trim_X12_isIn
set_option maxRecDepth 20000 in
theorem ggX12_trim_X12_no : GoodIn wsX12_trim wsX12_no := goodIn_r _ [10, 1, 11, 12, 13, 14, 15, 16, 17, 18, 19, 20, 21, 22, 23, 24, 25] (by decide +kernel) (by decide +kernel)
set_option maxRecDepth 20000 in
theorem gX12_trim_X12_no : GoodIn wsX12_trim (wsV RX12 305 RX12 yX12_no wsX12_no) := goodIn_app (goodIn_of _ (by decide +kernel)) ggX12_trim_X12_no
theorem dX12_trim_0 : decode cX12_trim 0 = .ok (.aload_n 0, 1) := by decide +kernel
theorem dX12_trim_1 : decode cX12_trim 1 = .ok (.iconst 0, 1) := by decide +kernel
theorem dX12_trim_2 : decode cX12_trim 2 = .ok (.putfield 57, 3) := by decide +kernel
theorem dX12_trim_5 : decode cX12_trim 5 = .ok (.iload_n 1, 1) := by decide +kernel
theorem dX12_trim_6 : decode cX12_trim 6 = .ok (.iconst 0, 1) := by decide +kernel
theorem dX12_trim_7 : decode cX12_trim 7 = .ok (.aload_n 0, 1) := by decide +kernel
theorem dX12_trim_8 : decode cX12_trim 8 = .ok (.getfield 76, 3) := by decide +kernel
theorem dX12_trim_11 : decode cX12_trim 11 = .ok (.invokestatic 60, 3) := by decide +kernel
theorem dX12_trim_14 : decode cX12_trim 14 = .ok (.ifCond .ne 9, 3) := by decide +kernel
theorem dX12_trim_17 : decode cX12_trim 17 = .ok (.aload_n 0, 1) := by decide +kernel
theorem dX12_trim_18 : decode cX12_trim 18 = .ok (.iconst 1, 1) := by decide +kernel
theorem dX12_trim_19 : decode cX12_trim 19 = .ok (.invokevirtual 305, 3) := by decide +kernel
theorem dX12_trim_22 : decode cX12_trim 22 = .ok (.ireturn, 1) := by decide +kernel
theorem dX12_trim_23 : decode cX12_trim 23 = .ok (.aload_n 0, 1) := by decide +kernel
theorem dX12_trim_24 : decode cX12_trim 24 = .ok (.iload_n 1, 1) := by decide +kernel
theorem dX12_trim_25 : decode cX12_trim 25 = .ok (.putfield 76, 3) := by decide +kernel
theorem dX12_trim_28 : decode cX12_trim 28 = .ok (.iload_n 1, 1) := by decide +kernel
theorem dX12_trim_29 : decode cX12_trim 29 = .ok (.ireturn, 1) := by decide +kernel
set_option maxRecDepth 20000 in
theorem ggX12_teach_X12_read_c1 : GoodIn wsX12_teach (.code yX12_read cX12_read 3 (some .int) :: wsX12_read_r1) := goodIn_r _ [11, 12, 13, 14, 4, 15, 16, 17, 2, 18, 19, 20, 21, 22, 23, 24, 25, 26, 27, 28, 29, 30, 31, 32, 33] (by decide +kernel) (by decide +kernel)
set_option maxRecDepth 20000 in
theorem ggX12_teach_X12_read_c2 : GoodIn wsX12_teach wsX12_read_r2 := goodIn_r _ [34, 35, 36, 37, 38, 39, 40, 41, 42, 10, 43, 44, 45, 46, 47, 48, 49, 50, 3, 51, 52, 53, 54, 55] (by decide +kernel) (by decide +kernel)
set_option maxRecDepth 20000 in
theorem ggX12_teach_X12_read_c3 : GoodIn wsX12_teach wsX12_read_r3 := goodIn_r _ [56, 57, 58, 59, 60, 61, 62, 63, 64, 65, 66, 67, 68, 69, 70, 71, 72, 73, 74, 75, 76, 77, 78, 79] (by decide +kernel) (by decide +kernel)
set_option maxRecDepth 20000 in
theorem ggX12_teach_X12_read_c4 : GoodIn wsX12_teach wsX12_read_r4 := goodIn_r _ [80, 81, 82, 83, 84, 85, 86, 87, 88, 89, 90, 91, 92, 93, 94, 95, 96, 97, 98, 99, 100, 101, 102, 103] (by decide +kernel) (by decide +kernel)
set_option maxRecDepth 20000 in
theorem ggX12_teach_X12_read_c5 : GoodIn wsX12_teach wsX12_read_r5 := goodIn_r _ [104, 105, 106, 107, 108, 109, 110, 111, 112, 113, 114, 115, 116, 117, 118, 119, 120, 121, 122, 123, 124, 125, 126, 127] (by decide +kernel) (by decide +kernel)
set_option maxRecDepth 20000 in
theorem ggX12_teach_X12_read_c6 : GoodIn wsX12_teach wsX12_read_r6 := goodIn_r _ [128, 129, 130, 131, 132, 133, 134, 135, 136, 137, 138, 139, 140, 141, 142, 143, 144, 145, 146, 147, 148, 149, 150, 151] (by decide +kernel) (by decide +kernel)
set_option maxRecDepth 20000 in
theorem ggX12_teach_X12_read_c7 : GoodIn wsX12_teach wsX12_read_r7 := goodIn_r _ [152, 153, 154, 155, 156, 157, 158, 159, 160, 161, 162, 163, 164, 165, 166, 167, 168, 169, 170, 171, 172, 173, 174, 175] (by decide +kernel) (by decide +kernel)
set_option maxRecDepth 20000 in
theorem ggX12_teach_X12_read_c8 : GoodIn wsX12_teach wsX12_read_r8 := goodIn_r _ [176, 177, 178, 179, 180, 181, 182, 183, 184, 185, 186, 187, 188, 189, 190, 191, 192, 193, 194, 195, 196, 197, 198, 199] (by decide +kernel) (by decide +kernel)
set_option maxRecDepth 20000 in
theorem ggX12_teach_X12_read_c9 : GoodIn wsX12_teach wsX12_read_r9 := goodIn_r _ [200, 201, 202, 203, 204, 205, 206, 207, 208, 209, 210, 211, 212, 213, 214, 215, 216, 217, 218, 219, 220, 221, 222, 223] (by decide +kernel) (by decide +kernel)
set_option maxRecDepth 20000 in
theorem ggX12_teach_X12_read_c10 : GoodIn wsX12_teach wsX12_read_r10 := goodIn_r _ [224, 225, 226, 227, 228, 229, 230, 231, 232, 233, 234, 235, 236, 237, 238, 239, 240, 241, 242, 243, 244, 245, 246, 247] (by decide +kernel) (by decide +kernel)
set_option maxRecDepth 20000 in
theorem ggX12_teach_X12_read_c11 : GoodIn wsX12_teach wsX12_read_r11 := goodIn_r _ [248, 249, 250, 251, 252, 253, 254, 255, 256, 257, 258, 259, 260, 261, 262, 263, 264, 265, 266, 267, 268, 269, 270, 271] (by decide +kernel) (by decide +kernel)
set_option maxRecDepth 20000 in
theorem ggX12_teach_X12_read_c12 : GoodIn wsX12_teach wsX12_read_r12 := goodIn_r _ [272, 273, 274, 275, 276, 277, 278, 279, 280, 281, 282, 283, 284, 285, 286, 287, 288, 289, 290, 291, 292, 293, 294, 295] (by decide +kernel) (by decide +kernel)
set_option maxRecDepth 20000 in
theorem ggX12_teach_X12_read_c13 : GoodIn wsX12_teach wsX12_read_r13 := goodIn_r _ [296, 297, 298, 299, 300, 301, 302, 303, 304, 305, 306, 307, 308, 309, 310, 311, 312, 313, 314, 315, 316, 317, 318, 319] (by decide +kernel) (by decide +kernel)
set_option maxRecDepth 20000 in
theorem ggX12_teach_X12_read_c14 : GoodIn wsX12_teach wsX12_read_r14 := goodIn_r _ [320, 321, 322, 323, 324, 325, 326, 327, 328, 329, 330, 331, 332] (by decide +kernel) (by decide +kernel)
set_option maxRecDepth 20000 in
theorem ggX12_teach_X12_read_c15 : GoodIn wsX12_teach wsX100 := goodIn_r _ [379, 380, 381, 382, 383, 384, 385, 386, 387, 388, 389, 390, 391, 392, 393, 394, 395, 396, 397, 398, 399, 400] (by decide +kernel) (by decide +kernel)
set_option maxRecDepth 20000 in
theorem ggX12_teach_X12_read_c16 : GoodIn wsX12_teach wsX120 := goodIn_r _ [364, 365, 366, 367, 368, 369, 370, 371, 372, 373, 374, 375, 376, 377, 378] (by decide +kernel) (by decide +kernel)
set_option maxRecDepth 20000 in
theorem ggX12_teach_X12_read : GoodIn wsX12_teach wsX12_read := (goodIn_ca (goodIn_ca (goodIn_ca ggX12_teach_X12_read_c1 (goodIn_app ggX12_teach_X12_read_c2 (goodIn_app ggX12_teach_X12_read_c3 (goodIn_app ggX12_teach_X12_read_c4 (goodIn_app ggX12_teach_X12_read_c5 (goodIn_app ggX12_teach_X12_read_c6 (goodIn_app ggX12_teach_X12_read_c7 (goodIn_app ggX12_teach_X12_read_c8 (goodIn_app ggX12_teach_X12_read_c9 (goodIn_app ggX12_teach_X12_read_c10 (goodIn_app ggX12_teach_X12_read_c11 (goodIn_app ggX12_teach_X12_read_c12 (goodIn_app ggX12_teach_X12_read_c13 ggX12_teach_X12_read_c14))))))))))))) ggX12_teach_X12_read_c15) ggX12_teach_X12_read_c16)
set_option maxRecDepth 20000 in
theorem gX12_teach_X12_read : GoodIn wsX12_teach (wsV RX12 308 RX12 yX12_read wsX12_read) := goodIn_app (goodIn_of _ (by decide +kernel)) ggX12_teach_X12_read
set_option maxRecDepth 20000 in
theorem ggX12_teach_X11_begin_c1 : GoodIn wsX12_teach (.code yX11_begin cX11_begin 3 none :: wsX11_begin_r1) := goodIn_r _ [337, 338, 339, 340, 341, 342, 343, 344, 345, 346, 347, 348, 349, 350, 351, 352, 336, 353, 354, 355, 356, 357, 358, 359, 360] (by decide +kernel) (by decide +kernel)
set_option maxRecDepth 20000 in
theorem ggX12_teach_X11_begin_c2 : GoodIn wsX12_teach wsX11_begin_r2 := goodIn_r _ [361, 362, 363] (by decide +kernel) (by decide +kernel)
set_option maxRecDepth 20000 in
theorem ggX12_teach_X11_begin_c3 : GoodIn wsX12_teach wsX110 := goodIn_r _ [401, 402, 403, 404, 405, 406, 407, 408, 409, 410, 411, 412, 413, 414, 415, 416] (by decide +kernel) (by decide +kernel)
set_option maxRecDepth 20000 in
theorem ggX12_teach_X11_begin_c4 : GoodIn wsX12_teach wsX120 := goodIn_r _ [364, 365, 366, 367, 368, 369, 370, 371, 372, 373, 374, 375, 376, 377, 378] (by decide +kernel) (by decide +kernel)
set_option maxRecDepth 20000 in
theorem ggX12_teach_X11_begin_c5 : GoodIn wsX12_teach wsX100 := goodIn_r _ [379, 380, 381, 382, 383, 384, 385, 386, 387, 388, 389, 390, 391, 392, 393, 394, 395, 396, 397, 398, 399, 400] (by decide +kernel) (by decide +kernel)
set_option maxRecDepth 20000 in
theorem ggX12_teach_X11_begin : GoodIn wsX12_teach wsX11_begin := (goodIn_ca (goodIn_ca (goodIn_ca (goodIn_ca ggX12_teach_X11_begin_c1 ggX12_teach_X11_begin_c2) ggX12_teach_X11_begin_c3) ggX12_teach_X11_begin_c4) ggX12_teach_X11_begin_c5)
set_option maxRecDepth 20000 in
theorem gX12_teach_X11_begin : GoodIn wsX12_teach (wsV RX12 54 RX11 yX11_begin wsX11_begin) := goodIn_app (goodIn_of _ (by decide +kernel)) ggX12_teach_X11_begin
theorem dX12_teach_0 : decode cX12_teach 0 = .ok (.aload_n 0, 1) := by decide +kernel
theorem dX12_teach_1 : decode cX12_teach 1 = .ok (.iconst 0, 1) := by decide +kernel
theorem dX12_teach_2 : decode cX12_teach 2 = .ok (.putfield 57, 3) := by decide +kernel
theorem dX12_teach_5 : decode cX12_teach 5 = .ok (.aload_n 0, 1) := by decide +kernel
theorem dX12_teach_6 : decode cX12_teach 6 = .ok (.iconst (-1), 1) := by decide +kernel
theorem dX12_teach_7 : decode cX12_teach 7 = .ok (.putfield 13, 3) := by decide +kernel
theorem dX12_teach_10 : decode cX12_teach 10 = .ok (.aload_n 0, 1) := by decide +kernel
theorem dX12_teach_11 : decode cX12_teach 11 = .ok (.invokevirtual 308, 3) := by decide +kernel
theorem dX12_teach_14 : decode cX12_teach 14 = .ok (.istore_n 1, 1) := by decide +kernel
theorem dX12_teach_15 : decode cX12_teach 15 = .ok (.aload_n 0, 1) := by decide +kernel
theorem dX12_teach_16 : decode cX12_teach 16 = .ok (.iconst 0, 1) := by decide +kernel
theorem dX12_teach_17 : decode cX12_teach 17 = .ok (.putfield 76, 3) := by decide +kernel
theorem dX12_teach_20 : decode cX12_teach 20 = .ok (.iload_n 1, 1) := by decide +kernel
theorem dX12_teach_21 : decode cX12_teach 21 = .ok (.ifCond .le 5, 3) := by decide +kernel
theorem dX12_teach_24 : decode cX12_teach 24 = .ok (.iload_n 1, 1) := by decide +kernel
theorem dX12_teach_25 : decode cX12_teach 25 = .ok (.ireturn, 1) := by decide +kernel
theorem dX12_teach_26 : decode cX12_teach 26 = .ok (.aload_n 0, 1) := by decide +kernel
theorem dX12_teach_27 : decode cX12_teach 27 = .ok (.aload_n 0, 1) := by decide +kernel
theorem dX12_teach_28 : decode cX12_teach 28 = .ok (.getfield 39, 3) := by decide +kernel
theorem dX12_teach_31 : decode cX12_teach 31 = .ok (.putfield 35, 3) := by decide +kernel
theorem dX12_teach_34 : decode cX12_teach 34 = .ok (.aload_n 0, 1) := by decide +kernel
theorem dX12_teach_35 : decode cX12_teach 35 = .ok (.getfield 47, 3) := by decide +kernel
theorem dX12_teach_38 : decode cX12_teach 38 = .ok (.invokevirtual 54, 3) := by decide +kernel
theorem dX12_teach_41 : decode cX12_teach 41 = .ok (.iconst 0, 1) := by decide +kernel
theorem dX12_teach_42 : decode cX12_teach 42 = .ok (.ireturn, 1) := by decide +kernel
theorem dX12_errorAt_0 : decode cX12_errorAt 0 = .ok (.aload_n 0, 1) := by decide +kernel
theorem dX12_errorAt_1 : decode cX12_errorAt 1 = .ok (.iconst 0, 1) := by decide +kernel
theorem dX12_errorAt_2 : decode cX12_errorAt 2 = .ok (.putfield 57, 3) := by decide +kernel
theorem dX12_errorAt_5 : decode cX12_errorAt 5 = .ok (.aload_n 0, 1) := by decide +kernel
theorem dX12_errorAt_6 : decode cX12_errorAt 6 = .ok (.getfield 13, 3) := by decide +kernel
theorem dX12_errorAt_9 : decode cX12_errorAt 9 = .ok (.ireturn, 1) := by decide +kernel
set_option maxRecDepth 20000 in
theorem ggX12_counted_X12_isIn : GoodIn wsX12_counted wsX12_isIn := goodIn_r _ [8] (by decide +kernel) (by decide +kernel)
set_option maxRecDepth 20000 in
theorem gX12_counted_X12_isIn : GoodIn wsX12_counted (va_wsS RX12 60 yX12_isIn wsX12_isIn) := goodIn_app (goodIn_of _ (by decide +kernel)) ggX12_counted_X12_isIn
set_option maxRecDepth 20000 in
theorem ggX12_counted_X11_counted_c1 : GoodIn wsX12_counted (.code yX11_counted cX11_counted 2 (some .int) :: [.fieldLink RX11 59 "FlagAntsModel$State" "meetings" "I", .fieldLink RX11 62 "FlagAntsModel$State" "washed" "I", .fieldLink RX11 65 "FlagAntsModel$State" "carried" "I", .methodLink RX11 147 yX11_dark, .instanceMethod yX11_dark, .selects RX11 yX11_dark yX11_dark, .initialized RX11, .code yX11_dark cX11_dark 6 (some .int), .fieldLink RX11 19 "FlagAntsModel$State" "darkIn" "[I", .methodLink RX11 151 yX11_sum, .instanceMethod yX11_sum, .selects RX11 yX11_sum yX11_sum, .code yX11_sum cX11_sum 6 (some .int), .fieldLink RX11 15 "FlagAntsModel$State" "colours" "[I", .methodLink RX11 154 yX11_walkers, .instanceMethod yX11_walkers, .selects RX11 yX11_walkers yX11_walkers, .code yX11_walkers cX11_walkers 3 (some .int), .fieldLink RX11 3 "FlagAntsModel$State" "this$0" "LFlagAntsModel;", .fieldLink RX11 31 "FlagAntsModel$State" "rests" "[I"]) := goodIn_r _ [13, 14, 15, 16, 17, 18, 19, 12, 20, 21, 22, 23, 24, 25, 26, 27, 28, 29, 30, 31, 32] (by decide +kernel) (by decide +kernel)
set_option maxRecDepth 20000 in
theorem ggX12_counted_X11_counted_c2 : GoodIn wsX12_counted wsX110 := goodIn_r _ [48, 49, 50, 51, 52, 53, 54, 55, 56, 57, 58, 59, 60, 61, 62, 63] (by decide +kernel) (by decide +kernel)
set_option maxRecDepth 20000 in
theorem ggX12_counted_X11_counted_c3 : GoodIn wsX12_counted wsX120 := goodIn_r _ [33, 34, 35, 36, 37, 38, 39, 40, 41, 42, 43, 44, 45, 46, 47] (by decide +kernel) (by decide +kernel)
set_option maxRecDepth 20000 in
theorem ggX12_counted_X11_counted_c4 : GoodIn wsX12_counted wsX100 := goodIn_r _ [64, 65, 66, 67, 68, 69, 70, 71, 72, 73, 74, 75, 76, 77, 78, 79, 80, 81, 82, 83, 84, 85] (by decide +kernel) (by decide +kernel)
set_option maxRecDepth 20000 in
theorem ggX12_counted_X11_counted : GoodIn wsX12_counted wsX11_counted := (goodIn_ca (goodIn_ca (goodIn_ca ggX12_counted_X11_counted_c1 ggX12_counted_X11_counted_c2) ggX12_counted_X11_counted_c3) ggX12_counted_X11_counted_c4)
set_option maxRecDepth 20000 in
theorem gX12_counted_X11_counted : GoodIn wsX12_counted (wsV RX12 311 RX11 yX11_counted wsX11_counted) := goodIn_app (goodIn_of _ (by decide +kernel)) ggX12_counted_X11_counted
theorem dX12_counted_0 : decode cX12_counted 0 = .ok (.iload_n 1, 1) := by decide +kernel
theorem dX12_counted_1 : decode cX12_counted 1 = .ok (.iconst 4, 1) := by decide +kernel
theorem dX12_counted_2 : decode cX12_counted 2 = .ok (.bipush 9, 2) := by decide +kernel
theorem dX12_counted_4 : decode cX12_counted 4 = .ok (.invokestatic 60, 3) := by decide +kernel
theorem dX12_counted_7 : decode cX12_counted 7 = .ok (.ifCond .eq 12, 3) := by decide +kernel
theorem dX12_counted_10 : decode cX12_counted 10 = .ok (.aload_n 0, 1) := by decide +kernel
theorem dX12_counted_11 : decode cX12_counted 11 = .ok (.getfield 47, 3) := by decide +kernel
theorem dX12_counted_14 : decode cX12_counted 14 = .ok (.iload_n 1, 1) := by decide +kernel
theorem dX12_counted_15 : decode cX12_counted 15 = .ok (.invokevirtual 311, 3) := by decide +kernel
theorem dX12_counted_18 : decode cX12_counted 18 = .ok (.ireturn, 1) := by decide +kernel
theorem dX12_counted_19 : decode cX12_counted 19 = .ok (.iconst 4, 1) := by decide +kernel
theorem dX12_counted_20 : decode cX12_counted 20 = .ok (.newarray .int, 2) := by decide +kernel
theorem dX12_counted_22 : decode cX12_counted 22 = .ok (.dup, 1) := by decide +kernel
theorem dX12_counted_23 : decode cX12_counted 23 = .ok (.iconst 0, 1) := by decide +kernel
theorem dX12_counted_24 : decode cX12_counted 24 = .ok (.aload_n 0, 1) := by decide +kernel
theorem dX12_counted_25 : decode cX12_counted 25 = .ok (.getfield 47, 3) := by decide +kernel
theorem dX12_counted_28 : decode cX12_counted 28 = .ok (.getfield 314, 3) := by decide +kernel
theorem dX12_counted_31 : decode cX12_counted 31 = .ok (.iastore, 1) := by decide +kernel
theorem dX12_counted_32 : decode cX12_counted 32 = .ok (.dup, 1) := by decide +kernel
theorem dX12_counted_33 : decode cX12_counted 33 = .ok (.iconst 1, 1) := by decide +kernel
theorem dX12_counted_34 : decode cX12_counted 34 = .ok (.aload_n 0, 1) := by decide +kernel
theorem dX12_counted_35 : decode cX12_counted 35 = .ok (.getfield 35, 3) := by decide +kernel
theorem dX12_counted_38 : decode cX12_counted 38 = .ok (.getfield 220, 3) := by decide +kernel
theorem dX12_counted_41 : decode cX12_counted 41 = .ok (.iastore, 1) := by decide +kernel
theorem dX12_counted_42 : decode cX12_counted 42 = .ok (.dup, 1) := by decide +kernel
theorem dX12_counted_43 : decode cX12_counted 43 = .ok (.iconst 2, 1) := by decide +kernel
theorem dX12_counted_44 : decode cX12_counted 44 = .ok (.aload_n 0, 1) := by decide +kernel
theorem dX12_counted_45 : decode cX12_counted 45 = .ok (.getfield 35, 3) := by decide +kernel
theorem dX12_counted_48 : decode cX12_counted 48 = .ok (.getfield 64, 3) := by decide +kernel
theorem dX12_counted_51 : decode cX12_counted 51 = .ok (.iastore, 1) := by decide +kernel
theorem dX12_counted_52 : decode cX12_counted 52 = .ok (.dup, 1) := by decide +kernel
theorem dX12_counted_53 : decode cX12_counted 53 = .ok (.iconst 3, 1) := by decide +kernel
theorem dX12_counted_54 : decode cX12_counted 54 = .ok (.aload_n 0, 1) := by decide +kernel
theorem dX12_counted_55 : decode cX12_counted 55 = .ok (.getfield 35, 3) := by decide +kernel
theorem dX12_counted_58 : decode cX12_counted 58 = .ok (.getfield 235, 3) := by decide +kernel
theorem dX12_counted_61 : decode cX12_counted 61 = .ok (.iastore, 1) := by decide +kernel
theorem dX12_counted_62 : decode cX12_counted 62 = .ok (.astore_n 2, 1) := by decide +kernel
theorem dX12_counted_63 : decode cX12_counted 63 = .ok (.iload_n 1, 1) := by decide +kernel
theorem dX12_counted_64 : decode cX12_counted 64 = .ok (.iconst 4, 1) := by decide +kernel
theorem dX12_counted_65 : decode cX12_counted 65 = .ok (.if_icmp .ge 9, 3) := by decide +kernel
theorem dX12_counted_68 : decode cX12_counted 68 = .ok (.aload_n 2, 1) := by decide +kernel
theorem dX12_counted_69 : decode cX12_counted 69 = .ok (.iload_n 1, 1) := by decide +kernel
theorem dX12_counted_70 : decode cX12_counted 70 = .ok (.iaload, 1) := by decide +kernel
theorem dX12_counted_71 : decode cX12_counted 71 = .ok (.goto 7, 3) := by decide +kernel
theorem dX12_counted_74 : decode cX12_counted 74 = .ok (.aload_n 0, 1) := by decide +kernel
theorem dX12_counted_75 : decode cX12_counted 75 = .ok (.getfield 76, 3) := by decide +kernel
theorem dX12_counted_78 : decode cX12_counted 78 = .ok (.ireturn, 1) := by decide +kernel
set_option maxRecDepth 20000 in
theorem ggX12_count_X12_isIn : GoodIn wsX12_count wsX12_isIn := goodIn_r _ [5] (by decide +kernel) (by decide +kernel)
set_option maxRecDepth 20000 in
theorem gX12_count_X12_isIn : GoodIn wsX12_count (va_wsS RX12 60 yX12_isIn wsX12_isIn) := goodIn_app (goodIn_of _ (by decide +kernel)) ggX12_count_X12_isIn
set_option maxRecDepth 20000 in
theorem ggX12_count_X12_counted_c1 : GoodIn wsX12_count (.code yX12_counted cX12_counted 3 (some .int) :: wsX12_counted_r1) := goodIn_r _ [9, 10, 11, 12, 13, 2, 3, 4, 5, 14, 15, 16, 17, 18, 19, 20, 21, 22, 23, 24, 25, 26, 27, 28, 29] (by decide +kernel) (by decide +kernel)
set_option maxRecDepth 20000 in
theorem ggX12_count_X12_counted_c2 : GoodIn wsX12_count wsX12_counted_r2 := goodIn_r _ [30, 31, 32, 33, 34, 35, 36, 37] (by decide +kernel) (by decide +kernel)
set_option maxRecDepth 20000 in
theorem ggX12_count_X12_counted_c3 : GoodIn wsX12_count wsX120 := goodIn_r _ [42, 43, 44, 45, 46, 47, 48, 49, 50, 51, 52, 53, 54, 55, 56] (by decide +kernel) (by decide +kernel)
set_option maxRecDepth 20000 in
theorem ggX12_count_X12_counted_c4 : GoodIn wsX12_count wsX110 := goodIn_r _ [57, 58, 59, 60, 61, 62, 63, 64, 65, 66, 67, 68, 69, 70, 71, 72] (by decide +kernel) (by decide +kernel)
set_option maxRecDepth 20000 in
theorem ggX12_count_X12_counted_c5 : GoodIn wsX12_count wsX100 := goodIn_r _ [73, 74, 75, 76, 77, 78, 79, 80, 81, 82, 83, 84, 85, 86, 87, 88, 89, 90, 91, 92, 93, 94] (by decide +kernel) (by decide +kernel)
set_option maxRecDepth 20000 in
theorem ggX12_count_X12_counted : GoodIn wsX12_count wsX12_counted := (goodIn_ca (goodIn_ca (goodIn_ca (goodIn_ca ggX12_count_X12_counted_c1 ggX12_count_X12_counted_c2) ggX12_count_X12_counted_c3) ggX12_count_X12_counted_c4) ggX12_count_X12_counted_c5)
set_option maxRecDepth 20000 in
theorem gX12_count_X12_counted : GoodIn wsX12_count (wsV RX12 317 RX12 yX12_counted wsX12_counted) := goodIn_app (goodIn_of _ (by decide +kernel)) ggX12_count_X12_counted
set_option maxRecDepth 20000 in
theorem ggX12_count_X12_no : GoodIn wsX12_count wsX12_no := goodIn_r _ [41, 1, 42, 43, 44, 45, 46, 47, 48, 49, 50, 51, 52, 53, 54, 55, 56] (by decide +kernel) (by decide +kernel)
set_option maxRecDepth 20000 in
theorem gX12_count_X12_no : GoodIn wsX12_count (wsV RX12 305 RX12 yX12_no wsX12_no) := goodIn_app (goodIn_of _ (by decide +kernel)) ggX12_count_X12_no
theorem dX12_count_0 : decode cX12_count 0 = .ok (.aload_n 0, 1) := by decide +kernel
theorem dX12_count_1 : decode cX12_count 1 = .ok (.iconst 0, 1) := by decide +kernel
theorem dX12_count_2 : decode cX12_count 2 = .ok (.putfield 57, 3) := by decide +kernel
theorem dX12_count_5 : decode cX12_count 5 = .ok (.iload_n 1, 1) := by decide +kernel
theorem dX12_count_6 : decode cX12_count 6 = .ok (.iconst 0, 1) := by decide +kernel
theorem dX12_count_7 : decode cX12_count 7 = .ok (.bipush 10, 2) := by decide +kernel
theorem dX12_count_9 : decode cX12_count 9 = .ok (.invokestatic 60, 3) := by decide +kernel
theorem dX12_count_12 : decode cX12_count 12 = .ok (.ifCond .eq 11, 3) := by decide +kernel
theorem dX12_count_15 : decode cX12_count 15 = .ok (.aload_n 0, 1) := by decide +kernel
theorem dX12_count_16 : decode cX12_count 16 = .ok (.iload_n 1, 1) := by decide +kernel
theorem dX12_count_17 : decode cX12_count 17 = .ok (.invokevirtual 317, 3) := by decide +kernel
theorem dX12_count_20 : decode cX12_count 20 = .ok (.goto 8, 3) := by decide +kernel
theorem dX12_count_23 : decode cX12_count 23 = .ok (.aload_n 0, 1) := by decide +kernel
theorem dX12_count_24 : decode cX12_count 24 = .ok (.iconst 1, 1) := by decide +kernel
theorem dX12_count_25 : decode cX12_count 25 = .ok (.invokevirtual 305, 3) := by decide +kernel
theorem dX12_count_28 : decode cX12_count 28 = .ok (.ireturn, 1) := by decide +kernel
set_option maxRecDepth 20000 in
theorem ggX12_stone_X12_isStone : GoodIn wsX12_stone wsX12_isStone := goodIn_r _ [6, 7, 8, 5, 9] (by decide +kernel) (by decide +kernel)
set_option maxRecDepth 20000 in
theorem gX12_stone_X12_isStone : GoodIn wsX12_stone (va_wsS RX12 318 yX12_isStone wsX12_isStone) := goodIn_app (goodIn_of _ (by decide +kernel)) ggX12_stone_X12_isStone
set_option maxRecDepth 20000 in
theorem ggX12_stone_X12_no : GoodIn wsX12_stone wsX12_no := goodIn_r _ [13, 1, 14, 15, 16, 17, 18, 19, 20, 21, 22, 23, 24, 25, 26, 27, 28] (by decide +kernel) (by decide +kernel)
set_option maxRecDepth 20000 in
theorem gX12_stone_X12_no : GoodIn wsX12_stone (wsV RX12 305 RX12 yX12_no wsX12_no) := goodIn_app (goodIn_of _ (by decide +kernel)) ggX12_stone_X12_no
theorem dX12_stone_0 : decode cX12_stone 0 = .ok (.aload_n 0, 1) := by decide +kernel
theorem dX12_stone_1 : decode cX12_stone 1 = .ok (.iconst 0, 1) := by decide +kernel
theorem dX12_stone_2 : decode cX12_stone 2 = .ok (.putfield 57, 3) := by decide +kernel
theorem dX12_stone_5 : decode cX12_stone 5 = .ok (.iload_n 1, 1) := by decide +kernel
theorem dX12_stone_6 : decode cX12_stone 6 = .ok (.iload_n 2, 1) := by decide +kernel
theorem dX12_stone_7 : decode cX12_stone 7 = .ok (.invokestatic 318, 3) := by decide +kernel
theorem dX12_stone_10 : decode cX12_stone 10 = .ok (.ifCond .eq 20, 3) := by decide +kernel
theorem dX12_stone_13 : decode cX12_stone 13 = .ok (.aload_n 0, 1) := by decide +kernel
theorem dX12_stone_14 : decode cX12_stone 14 = .ok (.getfield 47, 3) := by decide +kernel
theorem dX12_stone_17 : decode cX12_stone 17 = .ok (.getfield 321, 3) := by decide +kernel
theorem dX12_stone_20 : decode cX12_stone 20 = .ok (.bipush 64, 2) := by decide +kernel
theorem dX12_stone_22 : decode cX12_stone 22 = .ok (.iload_n 2, 1) := by decide +kernel
theorem dX12_stone_23 : decode cX12_stone 23 = .ok (.imul, 1) := by decide +kernel
theorem dX12_stone_24 : decode cX12_stone 24 = .ok (.iload_n 1, 1) := by decide +kernel
theorem dX12_stone_25 : decode cX12_stone 25 = .ok (.iadd, 1) := by decide +kernel
theorem dX12_stone_26 : decode cX12_stone 26 = .ok (.iaload, 1) := by decide +kernel
theorem dX12_stone_27 : decode cX12_stone 27 = .ok (.goto 8, 3) := by decide +kernel
theorem dX12_stone_30 : decode cX12_stone 30 = .ok (.aload_n 0, 1) := by decide +kernel
theorem dX12_stone_31 : decode cX12_stone 31 = .ok (.iconst 1, 1) := by decide +kernel
theorem dX12_stone_32 : decode cX12_stone 32 = .ok (.invokevirtual 305, 3) := by decide +kernel
theorem dX12_stone_35 : decode cX12_stone 35 = .ok (.ireturn, 1) := by decide +kernel
theorem dX12_stonesOf_0 : decode cX12_stonesOf 0 = .ok (.iconst 0, 1) := by decide +kernel
theorem dX12_stonesOf_1 : decode cX12_stonesOf 1 = .ok (.istore_n 2, 1) := by decide +kernel
theorem dX12_stonesOf_2 : decode cX12_stonesOf 2 = .ok (.aload_n 0, 1) := by decide +kernel
theorem dX12_stonesOf_3 : decode cX12_stonesOf 3 = .ok (.getfield 47, 3) := by decide +kernel
theorem dX12_stonesOf_6 : decode cX12_stonesOf 6 = .ok (.getfield 321, 3) := by decide +kernel
theorem dX12_stonesOf_9 : decode cX12_stonesOf 9 = .ok (.astore_n 3, 1) := by decide +kernel
theorem dX12_stonesOf_10 : decode cX12_stonesOf 10 = .ok (.aload_n 3, 1) := by decide +kernel
theorem dX12_stonesOf_11 : decode cX12_stonesOf 11 = .ok (.arraylength, 1) := by decide +kernel
theorem dX12_stonesOf_12 : decode cX12_stonesOf 12 = .ok (.istore 4, 2) := by decide +kernel
theorem dX12_stonesOf_14 : decode cX12_stonesOf 14 = .ok (.iconst 0, 1) := by decide +kernel
theorem dX12_stonesOf_15 : decode cX12_stonesOf 15 = .ok (.istore 5, 2) := by decide +kernel
theorem dX12_stonesOf_17 : decode cX12_stonesOf 17 = .ok (.iload 5, 2) := by decide +kernel
theorem dX12_stonesOf_19 : decode cX12_stonesOf 19 = .ok (.iload 4, 2) := by decide +kernel
theorem dX12_stonesOf_21 : decode cX12_stonesOf 21 = .ok (.if_icmp .ge 29, 3) := by decide +kernel
theorem dX12_stonesOf_24 : decode cX12_stonesOf 24 = .ok (.aload_n 3, 1) := by decide +kernel
theorem dX12_stonesOf_25 : decode cX12_stonesOf 25 = .ok (.iload 5, 2) := by decide +kernel
theorem dX12_stonesOf_27 : decode cX12_stonesOf 27 = .ok (.iaload, 1) := by decide +kernel
theorem dX12_stonesOf_28 : decode cX12_stonesOf 28 = .ok (.istore 6, 2) := by decide +kernel
theorem dX12_stonesOf_30 : decode cX12_stonesOf 30 = .ok (.iload_n 2, 1) := by decide +kernel
theorem dX12_stonesOf_31 : decode cX12_stonesOf 31 = .ok (.iload 6, 2) := by decide +kernel
theorem dX12_stonesOf_33 : decode cX12_stonesOf 33 = .ok (.iload_n 1, 1) := by decide +kernel
theorem dX12_stonesOf_34 : decode cX12_stonesOf 34 = .ok (.if_icmp .ne 7, 3) := by decide +kernel
theorem dX12_stonesOf_37 : decode cX12_stonesOf 37 = .ok (.iconst 1, 1) := by decide +kernel
theorem dX12_stonesOf_38 : decode cX12_stonesOf 38 = .ok (.goto 4, 3) := by decide +kernel
theorem dX12_stonesOf_41 : decode cX12_stonesOf 41 = .ok (.iconst 0, 1) := by decide +kernel
theorem dX12_stonesOf_42 : decode cX12_stonesOf 42 = .ok (.iadd, 1) := by decide +kernel
theorem dX12_stonesOf_43 : decode cX12_stonesOf 43 = .ok (.istore_n 2, 1) := by decide +kernel
theorem dX12_stonesOf_44 : decode cX12_stonesOf 44 = .ok (.iinc 5 1, 3) := by decide +kernel
theorem dX12_stonesOf_47 : decode cX12_stonesOf 47 = .ok (.goto (-30), 3) := by decide +kernel
theorem dX12_stonesOf_50 : decode cX12_stonesOf 50 = .ok (.iload_n 2, 1) := by decide +kernel
theorem dX12_stonesOf_51 : decode cX12_stonesOf 51 = .ok (.ireturn, 1) := by decide +kernel
set_option maxRecDepth 20000 in
theorem ggX12_colour_X12_isIn : GoodIn wsX12_colour wsX12_isIn := goodIn_r _ [5] (by decide +kernel) (by decide +kernel)
set_option maxRecDepth 20000 in
theorem gX12_colour_X12_isIn : GoodIn wsX12_colour (va_wsS RX12 60 yX12_isIn wsX12_isIn) := goodIn_app (goodIn_of _ (by decide +kernel)) ggX12_colour_X12_isIn
set_option maxRecDepth 20000 in
theorem ggX12_colour_X12_stonesOf : GoodIn wsX12_colour wsX12_stonesOf := goodIn_r _ [9, 10, 15, 16, 17, 18, 19, 20, 21, 22, 23, 24, 25, 26, 27, 28, 29, 30, 31, 32, 33, 34, 35, 36, 37, 38, 39, 40, 41, 42, 43, 44, 45] (by decide +kernel) (by decide +kernel)
set_option maxRecDepth 20000 in
theorem gX12_colour_X12_stonesOf : GoodIn wsX12_colour (wsV RX12 322 RX12 yX12_stonesOf wsX12_stonesOf) := goodIn_app (goodIn_of _ (by decide +kernel)) ggX12_colour_X12_stonesOf
set_option maxRecDepth 20000 in
theorem ggX12_colour_X12_no : GoodIn wsX12_colour wsX12_no := goodIn_r _ [14, 1, 15, 16, 17, 18, 19, 20, 21, 22, 23, 24, 25, 26, 27, 28, 29] (by decide +kernel) (by decide +kernel)
set_option maxRecDepth 20000 in
theorem gX12_colour_X12_no : GoodIn wsX12_colour (wsV RX12 305 RX12 yX12_no wsX12_no) := goodIn_app (goodIn_of _ (by decide +kernel)) ggX12_colour_X12_no
theorem dX12_colour_0 : decode cX12_colour 0 = .ok (.aload_n 0, 1) := by decide +kernel
theorem dX12_colour_1 : decode cX12_colour 1 = .ok (.iconst 0, 1) := by decide +kernel
theorem dX12_colour_2 : decode cX12_colour 2 = .ok (.putfield 57, 3) := by decide +kernel
theorem dX12_colour_5 : decode cX12_colour 5 = .ok (.iload_n 1, 1) := by decide +kernel
theorem dX12_colour_6 : decode cX12_colour 6 = .ok (.iconst 0, 1) := by decide +kernel
theorem dX12_colour_7 : decode cX12_colour 7 = .ok (.iconst 5, 1) := by decide +kernel
theorem dX12_colour_8 : decode cX12_colour 8 = .ok (.invokestatic 60, 3) := by decide +kernel
theorem dX12_colour_11 : decode cX12_colour 11 = .ok (.ifCond .eq 11, 3) := by decide +kernel
theorem dX12_colour_14 : decode cX12_colour 14 = .ok (.aload_n 0, 1) := by decide +kernel
theorem dX12_colour_15 : decode cX12_colour 15 = .ok (.iload_n 1, 1) := by decide +kernel
theorem dX12_colour_16 : decode cX12_colour 16 = .ok (.invokevirtual 322, 3) := by decide +kernel
theorem dX12_colour_19 : decode cX12_colour 19 = .ok (.goto 8, 3) := by decide +kernel
theorem dX12_colour_22 : decode cX12_colour 22 = .ok (.aload_n 0, 1) := by decide +kernel
theorem dX12_colour_23 : decode cX12_colour 23 = .ok (.iconst 1, 1) := by decide +kernel
theorem dX12_colour_24 : decode cX12_colour 24 = .ok (.invokevirtual 305, 3) := by decide +kernel
theorem dX12_colour_27 : decode cX12_colour 27 = .ok (.ireturn, 1) := by decide +kernel
set_option maxRecDepth 20000 in
theorem ggX12_row_X12_isIn : GoodIn wsX12_row wsX12_isIn := goodIn_r _ [6] (by decide +kernel) (by decide +kernel)
set_option maxRecDepth 20000 in
theorem gX12_row_X12_isIn : GoodIn wsX12_row (va_wsS RX12 60 yX12_isIn wsX12_isIn) := goodIn_app (goodIn_of _ (by decide +kernel)) ggX12_row_X12_isIn
set_option maxRecDepth 20000 in
theorem ggX12_row_X12_no : GoodIn wsX12_row wsX12_no := goodIn_r _ [10, 1, 11, 12, 13, 14, 15, 16, 17, 18, 19, 20, 21, 22, 23, 24, 25] (by decide +kernel) (by decide +kernel)
set_option maxRecDepth 20000 in
theorem gX12_row_X12_no : GoodIn wsX12_row (wsV RX12 305 RX12 yX12_no wsX12_no) := goodIn_app (goodIn_of _ (by decide +kernel)) ggX12_row_X12_no
theorem dX12_row_0 : decode cX12_row 0 = .ok (.aload_n 0, 1) := by decide +kernel
theorem dX12_row_1 : decode cX12_row 1 = .ok (.iconst 0, 1) := by decide +kernel
theorem dX12_row_2 : decode cX12_row 2 = .ok (.putfield 57, 3) := by decide +kernel
theorem dX12_row_5 : decode cX12_row 5 = .ok (.iload_n 1, 1) := by decide +kernel
theorem dX12_row_6 : decode cX12_row 6 = .ok (.iconst 0, 1) := by decide +kernel
theorem dX12_row_7 : decode cX12_row 7 = .ok (.bipush 63, 2) := by decide +kernel
theorem dX12_row_9 : decode cX12_row 9 = .ok (.invokestatic 60, 3) := by decide +kernel
theorem dX12_row_12 : decode cX12_row 12 = .ok (.ifCond .eq 15, 3) := by decide +kernel
theorem dX12_row_15 : decode cX12_row 15 = .ok (.aload_n 0, 1) := by decide +kernel
theorem dX12_row_16 : decode cX12_row 16 = .ok (.getfield 47, 3) := by decide +kernel
theorem dX12_row_19 : decode cX12_row 19 = .ok (.getfield 325, 3) := by decide +kernel
theorem dX12_row_22 : decode cX12_row 22 = .ok (.iload_n 1, 1) := by decide +kernel
theorem dX12_row_23 : decode cX12_row 23 = .ok (.iaload, 1) := by decide +kernel
theorem dX12_row_24 : decode cX12_row 24 = .ok (.goto 8, 3) := by decide +kernel
theorem dX12_row_27 : decode cX12_row 27 = .ok (.aload_n 0, 1) := by decide +kernel
theorem dX12_row_28 : decode cX12_row 28 = .ok (.iconst 1, 1) := by decide +kernel
theorem dX12_row_29 : decode cX12_row 29 = .ok (.invokevirtual 305, 3) := by decide +kernel
theorem dX12_row_32 : decode cX12_row 32 = .ok (.ireturn, 1) := by decide +kernel
set_option maxRecDepth 20000 in
theorem ggX12_turn_X12_isIn : GoodIn wsX12_turn wsX12_isIn := goodIn_r _ [6] (by decide +kernel) (by decide +kernel)
set_option maxRecDepth 20000 in
theorem gX12_turn_X12_isIn : GoodIn wsX12_turn (va_wsS RX12 60 yX12_isIn wsX12_isIn) := goodIn_app (goodIn_of _ (by decide +kernel)) ggX12_turn_X12_isIn
set_option maxRecDepth 20000 in
theorem ggX12_turn_X12_no : GoodIn wsX12_turn wsX12_no := goodIn_r _ [10, 1, 11, 12, 13, 14, 15, 16, 17, 18, 19, 20, 21, 22, 23, 24, 25] (by decide +kernel) (by decide +kernel)
set_option maxRecDepth 20000 in
theorem gX12_turn_X12_no : GoodIn wsX12_turn (wsV RX12 305 RX12 yX12_no wsX12_no) := goodIn_app (goodIn_of _ (by decide +kernel)) ggX12_turn_X12_no
theorem dX12_turn_0 : decode cX12_turn 0 = .ok (.aload_n 0, 1) := by decide +kernel
theorem dX12_turn_1 : decode cX12_turn 1 = .ok (.iconst 0, 1) := by decide +kernel
theorem dX12_turn_2 : decode cX12_turn 2 = .ok (.putfield 57, 3) := by decide +kernel
theorem dX12_turn_5 : decode cX12_turn 5 = .ok (.iload_n 1, 1) := by decide +kernel
theorem dX12_turn_6 : decode cX12_turn 6 = .ok (.iconst 0, 1) := by decide +kernel
theorem dX12_turn_7 : decode cX12_turn 7 = .ok (.aload_n 0, 1) := by decide +kernel
theorem dX12_turn_8 : decode cX12_turn 8 = .ok (.getfield 35, 3) := by decide +kernel
theorem dX12_turn_11 : decode cX12_turn 11 = .ok (.getfield 220, 3) := by decide +kernel
theorem dX12_turn_14 : decode cX12_turn 14 = .ok (.iconst 1, 1) := by decide +kernel
theorem dX12_turn_15 : decode cX12_turn 15 = .ok (.isub, 1) := by decide +kernel
theorem dX12_turn_16 : decode cX12_turn 16 = .ok (.invokestatic 60, 3) := by decide +kernel
theorem dX12_turn_19 : decode cX12_turn 19 = .ok (.ifCond .eq 39, 3) := by decide +kernel
theorem dX12_turn_22 : decode cX12_turn 22 = .ok (.iload_n 2, 1) := by decide +kernel
theorem dX12_turn_23 : decode cX12_turn 23 = .ok (.iconst 0, 1) := by decide +kernel
theorem dX12_turn_24 : decode cX12_turn 24 = .ok (.iconst 5, 1) := by decide +kernel
theorem dX12_turn_25 : decode cX12_turn 25 = .ok (.invokestatic 60, 3) := by decide +kernel
theorem dX12_turn_28 : decode cX12_turn 28 = .ok (.ifCond .eq 30, 3) := by decide +kernel
theorem dX12_turn_31 : decode cX12_turn 31 = .ok (.aload_n 0, 1) := by decide +kernel
theorem dX12_turn_32 : decode cX12_turn 32 = .ok (.getfield 35, 3) := by decide +kernel
theorem dX12_turn_35 : decode cX12_turn 35 = .ok (.getfield 230, 3) := by decide +kernel
theorem dX12_turn_38 : decode cX12_turn 38 = .ok (.bipush 6, 2) := by decide +kernel
theorem dX12_turn_40 : decode cX12_turn 40 = .ok (.iload_n 1, 1) := by decide +kernel
theorem dX12_turn_41 : decode cX12_turn 41 = .ok (.imul, 1) := by decide +kernel
theorem dX12_turn_42 : decode cX12_turn 42 = .ok (.iload_n 2, 1) := by decide +kernel
theorem dX12_turn_43 : decode cX12_turn 43 = .ok (.aload_n 0, 1) := by decide +kernel
theorem dX12_turn_44 : decode cX12_turn 44 = .ok (.getfield 35, 3) := by decide +kernel
theorem dX12_turn_47 : decode cX12_turn 47 = .ok (.getfield 227, 3) := by decide +kernel
theorem dX12_turn_50 : decode cX12_turn 50 = .ok (.iload_n 1, 1) := by decide +kernel
theorem dX12_turn_51 : decode cX12_turn 51 = .ok (.iaload, 1) := by decide +kernel
theorem dX12_turn_52 : decode cX12_turn 52 = .ok (.irem, 1) := by decide +kernel
theorem dX12_turn_53 : decode cX12_turn 53 = .ok (.iadd, 1) := by decide +kernel
theorem dX12_turn_54 : decode cX12_turn 54 = .ok (.iaload, 1) := by decide +kernel
theorem dX12_turn_55 : decode cX12_turn 55 = .ok (.goto 8, 3) := by decide +kernel
theorem dX12_turn_58 : decode cX12_turn 58 = .ok (.aload_n 0, 1) := by decide +kernel
theorem dX12_turn_59 : decode cX12_turn 59 = .ok (.iconst 1, 1) := by decide +kernel
theorem dX12_turn_60 : decode cX12_turn 60 = .ok (.invokevirtual 305, 3) := by decide +kernel
theorem dX12_turn_63 : decode cX12_turn 63 = .ok (.ireturn, 1) := by decide +kernel
set_option maxRecDepth 20000 in
theorem ggX12_antTold_X11_period : GoodIn wsX12_antTold wsX11_period := goodIn_r _ [7, 8, 9, 10, 11, 6, 12, 13, 14, 53, 54, 55, 56, 57, 58, 59, 60, 61, 62, 63, 64, 65, 66, 67, 68] (by decide +kernel) (by decide +kernel)
set_option maxRecDepth 20000 in
theorem gX12_antTold_X11_period : GoodIn wsX12_antTold (wsV RX12 337 RX11 yX11_period wsX11_period) := goodIn_app (goodIn_of _ (by decide +kernel)) ggX12_antTold_X11_period
set_option maxRecDepth 20000 in
theorem ggX12_antTold_X11_led : GoodIn wsX12_antTold wsX11_led := goodIn_r _ [12, 13, 14, 53, 54, 55, 56, 57, 58, 59, 60, 61, 62, 63, 64, 65, 66, 67, 68] (by decide +kernel) (by decide +kernel)
set_option maxRecDepth 20000 in
theorem gX12_antTold_X11_led : GoodIn wsX12_antTold (wsV RX12 340 RX11 yX11_led wsX11_led) := goodIn_app (goodIn_of _ (by decide +kernel)) ggX12_antTold_X11_led
theorem dX12_antTold_0 : decode cX12_antTold 0 = .ok (.iload_n 2, 1) := by decide +kernel
theorem dX12_antTold_1 : decode cX12_antTold 1 = .ok (.tableswitch 114 0 6 #[43, 53, 63, 73, 83, 95, 105], 43) := by decide +kernel
theorem dX12_antTold_44 : decode cX12_antTold 44 = .ok (.aload_n 0, 1) := by decide +kernel
theorem dX12_antTold_45 : decode cX12_antTold 45 = .ok (.getfield 35, 3) := by decide +kernel
theorem dX12_antTold_48 : decode cX12_antTold 48 = .ok (.getfield 271, 3) := by decide +kernel
theorem dX12_antTold_51 : decode cX12_antTold 51 = .ok (.iload_n 1, 1) := by decide +kernel
theorem dX12_antTold_52 : decode cX12_antTold 52 = .ok (.iaload, 1) := by decide +kernel
theorem dX12_antTold_53 : decode cX12_antTold 53 = .ok (.ireturn, 1) := by decide +kernel
theorem dX12_antTold_54 : decode cX12_antTold 54 = .ok (.aload_n 0, 1) := by decide +kernel
theorem dX12_antTold_55 : decode cX12_antTold 55 = .ok (.getfield 47, 3) := by decide +kernel
theorem dX12_antTold_58 : decode cX12_antTold 58 = .ok (.getfield 328, 3) := by decide +kernel
theorem dX12_antTold_61 : decode cX12_antTold 61 = .ok (.iload_n 1, 1) := by decide +kernel
theorem dX12_antTold_62 : decode cX12_antTold 62 = .ok (.iaload, 1) := by decide +kernel
theorem dX12_antTold_63 : decode cX12_antTold 63 = .ok (.ireturn, 1) := by decide +kernel
theorem dX12_antTold_64 : decode cX12_antTold 64 = .ok (.aload_n 0, 1) := by decide +kernel
theorem dX12_antTold_65 : decode cX12_antTold 65 = .ok (.getfield 47, 3) := by decide +kernel
theorem dX12_antTold_68 : decode cX12_antTold 68 = .ok (.getfield 329, 3) := by decide +kernel
theorem dX12_antTold_71 : decode cX12_antTold 71 = .ok (.iload_n 1, 1) := by decide +kernel
theorem dX12_antTold_72 : decode cX12_antTold 72 = .ok (.iaload, 1) := by decide +kernel
theorem dX12_antTold_73 : decode cX12_antTold 73 = .ok (.ireturn, 1) := by decide +kernel
theorem dX12_antTold_74 : decode cX12_antTold 74 = .ok (.aload_n 0, 1) := by decide +kernel
theorem dX12_antTold_75 : decode cX12_antTold 75 = .ok (.getfield 47, 3) := by decide +kernel
theorem dX12_antTold_78 : decode cX12_antTold 78 = .ok (.getfield 330, 3) := by decide +kernel
theorem dX12_antTold_81 : decode cX12_antTold 81 = .ok (.iload_n 1, 1) := by decide +kernel
theorem dX12_antTold_82 : decode cX12_antTold 82 = .ok (.iaload, 1) := by decide +kernel
theorem dX12_antTold_83 : decode cX12_antTold 83 = .ok (.ireturn, 1) := by decide +kernel
theorem dX12_antTold_84 : decode cX12_antTold 84 = .ok (.iconst 1, 1) := by decide +kernel
theorem dX12_antTold_85 : decode cX12_antTold 85 = .ok (.aload_n 0, 1) := by decide +kernel
theorem dX12_antTold_86 : decode cX12_antTold 86 = .ok (.getfield 47, 3) := by decide +kernel
theorem dX12_antTold_89 : decode cX12_antTold 89 = .ok (.getfield 331, 3) := by decide +kernel
theorem dX12_antTold_92 : decode cX12_antTold 92 = .ok (.iload_n 1, 1) := by decide +kernel
theorem dX12_antTold_93 : decode cX12_antTold 93 = .ok (.iaload, 1) := by decide +kernel
theorem dX12_antTold_94 : decode cX12_antTold 94 = .ok (.isub, 1) := by decide +kernel
theorem dX12_antTold_95 : decode cX12_antTold 95 = .ok (.ireturn, 1) := by decide +kernel
theorem dX12_antTold_96 : decode cX12_antTold 96 = .ok (.aload_n 0, 1) := by decide +kernel
theorem dX12_antTold_97 : decode cX12_antTold 97 = .ok (.getfield 47, 3) := by decide +kernel
theorem dX12_antTold_100 : decode cX12_antTold 100 = .ok (.getfield 334, 3) := by decide +kernel
theorem dX12_antTold_103 : decode cX12_antTold 103 = .ok (.iload_n 1, 1) := by decide +kernel
theorem dX12_antTold_104 : decode cX12_antTold 104 = .ok (.iaload, 1) := by decide +kernel
theorem dX12_antTold_105 : decode cX12_antTold 105 = .ok (.ireturn, 1) := by decide +kernel
theorem dX12_antTold_106 : decode cX12_antTold 106 = .ok (.aload_n 0, 1) := by decide +kernel
theorem dX12_antTold_107 : decode cX12_antTold 107 = .ok (.getfield 47, 3) := by decide +kernel
theorem dX12_antTold_110 : decode cX12_antTold 110 = .ok (.iload_n 1, 1) := by decide +kernel
theorem dX12_antTold_111 : decode cX12_antTold 111 = .ok (.invokevirtual 337, 3) := by decide +kernel
theorem dX12_antTold_114 : decode cX12_antTold 114 = .ok (.ireturn, 1) := by decide +kernel
theorem dX12_antTold_115 : decode cX12_antTold 115 = .ok (.aload_n 0, 1) := by decide +kernel
theorem dX12_antTold_116 : decode cX12_antTold 116 = .ok (.getfield 47, 3) := by decide +kernel
theorem dX12_antTold_119 : decode cX12_antTold 119 = .ok (.iload_n 1, 1) := by decide +kernel
theorem dX12_antTold_120 : decode cX12_antTold 120 = .ok (.aload_n 0, 1) := by decide +kernel
theorem dX12_antTold_121 : decode cX12_antTold 121 = .ok (.getfield 47, 3) := by decide +kernel
theorem dX12_antTold_124 : decode cX12_antTold 124 = .ok (.iload_n 1, 1) := by decide +kernel
theorem dX12_antTold_125 : decode cX12_antTold 125 = .ok (.invokevirtual 337, 3) := by decide +kernel
theorem dX12_antTold_128 : decode cX12_antTold 128 = .ok (.iload_n 2, 1) := by decide +kernel
theorem dX12_antTold_129 : decode cX12_antTold 129 = .ok (.bipush 6, 2) := by decide +kernel
theorem dX12_antTold_131 : decode cX12_antTold 131 = .ok (.isub, 1) := by decide +kernel
theorem dX12_antTold_132 : decode cX12_antTold 132 = .ok (.invokevirtual 340, 3) := by decide +kernel
theorem dX12_antTold_135 : decode cX12_antTold 135 = .ok (.ireturn, 1) := by decide +kernel
set_option maxRecDepth 20000 in
theorem ggX12_ant_X12_isAnt : GoodIn wsX12_ant wsX12_isAnt := goodIn_r _ [6, 7, 8, 9, 5, 10, 33, 34, 35, 36, 37, 38, 39, 40, 41, 42, 43, 44, 45, 46, 47, 48, 49, 50, 51, 52, 53, 54, 55, 56, 57, 58, 59, 60, 61, 62, 63, 64, 65, 66, 67, 68, 69] (by decide +kernel) (by decide +kernel)
set_option maxRecDepth 20000 in
theorem gX12_ant_X12_isAnt : GoodIn wsX12_ant (wsV RX12 343 RX12 yX12_isAnt wsX12_isAnt) := goodIn_app (goodIn_of _ (by decide +kernel)) ggX12_ant_X12_isAnt
set_option maxRecDepth 20000 in
theorem ggX12_ant_X12_isIn : GoodIn wsX12_ant wsX12_isIn := goodIn_r _ [10] (by decide +kernel) (by decide +kernel)
set_option maxRecDepth 20000 in
theorem gX12_ant_X12_isIn : GoodIn wsX12_ant (va_wsS RX12 60 yX12_isIn wsX12_isIn) := goodIn_app (goodIn_of _ (by decide +kernel)) ggX12_ant_X12_isIn
set_option maxRecDepth 20000 in
theorem ggX12_ant_X12_antTold_c1 : GoodIn wsX12_ant (.code yX12_antTold cX12_antTold 3 (some .int) :: [.fieldLink RX12 35 "FlagAntsModel" "plan" "LFlagAntsModel$Plan;", .fieldLink RX12 47 "FlagAntsModel" "s" "LFlagAntsModel$State;", .methodLink RX12 337 yX11_period, .instanceMethod yX11_period, .selects RX11 yX11_period yX11_period, .initialized RX11, .code yX11_period cX11_period 3 (some .int), .fieldLink RX11 43 "FlagAntsModel$State" "runs" "[I", .methodLink RX11 90 yX11_led, .instanceMethod yX11_led, .selects RX11 yX11_led yX11_led, .code yX11_led cX11_led 7 (some .int), .fieldLink RX11 40 "FlagAntsModel$State" "ring" "[I", .fieldLink RX11 37 "FlagAntsModel$State" "length" "[I", .methodLink RX12 340 yX11_led]) := goodIn_r _ [14, 7, 15, 16, 17, 18, 19, 20, 21, 22, 23, 24, 25, 26, 27, 28] (by decide +kernel) (by decide +kernel)
set_option maxRecDepth 20000 in
theorem ggX12_ant_X12_antTold_c2 : GoodIn wsX12_ant wsX120 := goodIn_r _ [33, 34, 35, 36, 37, 38, 39, 40, 41, 42, 43, 44, 45, 46, 47] (by decide +kernel) (by decide +kernel)
set_option maxRecDepth 20000 in
theorem ggX12_ant_X12_antTold_c3 : GoodIn wsX12_ant wsX100 := goodIn_r _ [48, 49, 50, 51, 52, 53, 54, 55, 56, 57, 58, 59, 60, 61, 62, 63, 64, 65, 66, 67, 68, 69] (by decide +kernel) (by decide +kernel)
set_option maxRecDepth 20000 in
theorem ggX12_ant_X12_antTold_c4 : GoodIn wsX12_ant wsX110 := goodIn_r _ [70, 71, 72, 73, 74, 75, 76, 77, 78, 79, 80, 81, 82, 83, 84, 85] (by decide +kernel) (by decide +kernel)
set_option maxRecDepth 20000 in
theorem ggX12_ant_X12_antTold : GoodIn wsX12_ant wsX12_antTold := (goodIn_ca (goodIn_ca (goodIn_ca ggX12_ant_X12_antTold_c1 ggX12_ant_X12_antTold_c2) ggX12_ant_X12_antTold_c3) ggX12_ant_X12_antTold_c4)
set_option maxRecDepth 20000 in
theorem gX12_ant_X12_antTold : GoodIn wsX12_ant (wsV RX12 346 RX12 yX12_antTold wsX12_antTold) := goodIn_app (goodIn_of _ (by decide +kernel)) ggX12_ant_X12_antTold
set_option maxRecDepth 20000 in
theorem ggX12_ant_X12_no : GoodIn wsX12_ant wsX12_no := goodIn_r _ [32, 1, 33, 34, 35, 36, 37, 38, 39, 40, 41, 42, 43, 44, 45, 46, 47] (by decide +kernel) (by decide +kernel)
set_option maxRecDepth 20000 in
theorem gX12_ant_X12_no : GoodIn wsX12_ant (wsV RX12 305 RX12 yX12_no wsX12_no) := goodIn_app (goodIn_of _ (by decide +kernel)) ggX12_ant_X12_no
theorem dX12_ant_0 : decode cX12_ant 0 = .ok (.aload_n 0, 1) := by decide +kernel
theorem dX12_ant_1 : decode cX12_ant 1 = .ok (.iconst 0, 1) := by decide +kernel
theorem dX12_ant_2 : decode cX12_ant 2 = .ok (.putfield 57, 3) := by decide +kernel
theorem dX12_ant_5 : decode cX12_ant 5 = .ok (.aload_n 0, 1) := by decide +kernel
theorem dX12_ant_6 : decode cX12_ant 6 = .ok (.iload_n 1, 1) := by decide +kernel
theorem dX12_ant_7 : decode cX12_ant 7 = .ok (.invokevirtual 343, 3) := by decide +kernel
theorem dX12_ant_10 : decode cX12_ant 10 = .ok (.ifCond .eq 22, 3) := by decide +kernel
theorem dX12_ant_13 : decode cX12_ant 13 = .ok (.iload_n 2, 1) := by decide +kernel
theorem dX12_ant_14 : decode cX12_ant 14 = .ok (.iconst 0, 1) := by decide +kernel
theorem dX12_ant_15 : decode cX12_ant 15 = .ok (.bipush 8, 2) := by decide +kernel
theorem dX12_ant_17 : decode cX12_ant 17 = .ok (.invokestatic 60, 3) := by decide +kernel
theorem dX12_ant_20 : decode cX12_ant 20 = .ok (.ifCond .eq 12, 3) := by decide +kernel
theorem dX12_ant_23 : decode cX12_ant 23 = .ok (.aload_n 0, 1) := by decide +kernel
theorem dX12_ant_24 : decode cX12_ant 24 = .ok (.iload_n 1, 1) := by decide +kernel
theorem dX12_ant_25 : decode cX12_ant 25 = .ok (.iload_n 2, 1) := by decide +kernel
theorem dX12_ant_26 : decode cX12_ant 26 = .ok (.invokevirtual 346, 3) := by decide +kernel
theorem dX12_ant_29 : decode cX12_ant 29 = .ok (.goto 8, 3) := by decide +kernel
theorem dX12_ant_32 : decode cX12_ant 32 = .ok (.aload_n 0, 1) := by decide +kernel
theorem dX12_ant_33 : decode cX12_ant 33 = .ok (.iconst 1, 1) := by decide +kernel
theorem dX12_ant_34 : decode cX12_ant 34 = .ok (.invokevirtual 305, 3) := by decide +kernel
theorem dX12_ant_37 : decode cX12_ant 37 = .ok (.ireturn, 1) := by decide +kernel
set_option maxRecDepth 20000 in
theorem ggX12_paint_X12_isStone : GoodIn wsX12_paint wsX12_isStone := goodIn_r _ [6, 7, 8, 5, 9] (by decide +kernel) (by decide +kernel)
set_option maxRecDepth 20000 in
theorem gX12_paint_X12_isStone : GoodIn wsX12_paint (va_wsS RX12 318 yX12_isStone wsX12_isStone) := goodIn_app (goodIn_of _ (by decide +kernel)) ggX12_paint_X12_isStone
set_option maxRecDepth 20000 in
theorem ggX12_paint_X12_no : GoodIn wsX12_paint wsX12_no := goodIn_r _ [13, 1, 21, 22, 23, 24, 25, 26, 27, 28, 29, 30, 31, 32, 33, 34, 35] (by decide +kernel) (by decide +kernel)
set_option maxRecDepth 20000 in
theorem gX12_paint_X12_no : GoodIn wsX12_paint (wsV RX12 305 RX12 yX12_no wsX12_no) := goodIn_app (goodIn_of _ (by decide +kernel)) ggX12_paint_X12_no
set_option maxRecDepth 20000 in
theorem ggX12_paint_X12_isIn : GoodIn wsX12_paint wsX12_isIn := goodIn_r _ [9] (by decide +kernel) (by decide +kernel)
set_option maxRecDepth 20000 in
theorem gX12_paint_X12_isIn : GoodIn wsX12_paint (va_wsS RX12 60 yX12_isIn wsX12_isIn) := goodIn_app (goodIn_of _ (by decide +kernel)) ggX12_paint_X12_isIn
set_option maxRecDepth 20000 in
theorem ggX12_paint_X11_paint : GoodIn wsX12_paint wsX11_paint := goodIn_r _ [18, 19, 20, 36, 37, 38, 39, 40, 41, 42, 43, 44, 45, 46, 47, 48, 49, 50, 51] (by decide +kernel) (by decide +kernel)
set_option maxRecDepth 20000 in
theorem gX12_paint_X11_paint : GoodIn wsX12_paint (wsV RX12 349 RX11 yX11_paint wsX11_paint) := goodIn_app (goodIn_of _ (by decide +kernel)) ggX12_paint_X11_paint
theorem dX12_paint_0 : decode cX12_paint 0 = .ok (.aload_n 0, 1) := by decide +kernel
theorem dX12_paint_1 : decode cX12_paint 1 = .ok (.iconst 0, 1) := by decide +kernel
theorem dX12_paint_2 : decode cX12_paint 2 = .ok (.putfield 57, 3) := by decide +kernel
theorem dX12_paint_5 : decode cX12_paint 5 = .ok (.iload_n 1, 1) := by decide +kernel
theorem dX12_paint_6 : decode cX12_paint 6 = .ok (.iload_n 2, 1) := by decide +kernel
theorem dX12_paint_7 : decode cX12_paint 7 = .ok (.invokestatic 318, 3) := by decide +kernel
theorem dX12_paint_10 : decode cX12_paint 10 = .ok (.ifCond .ne 9, 3) := by decide +kernel
theorem dX12_paint_13 : decode cX12_paint 13 = .ok (.aload_n 0, 1) := by decide +kernel
theorem dX12_paint_14 : decode cX12_paint 14 = .ok (.iconst 1, 1) := by decide +kernel
theorem dX12_paint_15 : decode cX12_paint 15 = .ok (.invokevirtual 305, 3) := by decide +kernel
theorem dX12_paint_18 : decode cX12_paint 18 = .ok (.ireturn, 1) := by decide +kernel
theorem dX12_paint_19 : decode cX12_paint 19 = .ok (.iload_n 3, 1) := by decide +kernel
theorem dX12_paint_20 : decode cX12_paint 20 = .ok (.iconst 0, 1) := by decide +kernel
theorem dX12_paint_21 : decode cX12_paint 21 = .ok (.iconst 5, 1) := by decide +kernel
theorem dX12_paint_22 : decode cX12_paint 22 = .ok (.invokestatic 60, 3) := by decide +kernel
theorem dX12_paint_25 : decode cX12_paint 25 = .ok (.ifCond .ne 9, 3) := by decide +kernel
theorem dX12_paint_28 : decode cX12_paint 28 = .ok (.aload_n 0, 1) := by decide +kernel
theorem dX12_paint_29 : decode cX12_paint 29 = .ok (.iconst 2, 1) := by decide +kernel
theorem dX12_paint_30 : decode cX12_paint 30 = .ok (.invokevirtual 305, 3) := by decide +kernel
theorem dX12_paint_33 : decode cX12_paint 33 = .ok (.ireturn, 1) := by decide +kernel
theorem dX12_paint_34 : decode cX12_paint 34 = .ok (.aload_n 0, 1) := by decide +kernel
theorem dX12_paint_35 : decode cX12_paint 35 = .ok (.getfield 47, 3) := by decide +kernel
theorem dX12_paint_38 : decode cX12_paint 38 = .ok (.getfield 321, 3) := by decide +kernel
theorem dX12_paint_41 : decode cX12_paint 41 = .ok (.bipush 64, 2) := by decide +kernel
theorem dX12_paint_43 : decode cX12_paint 43 = .ok (.iload_n 2, 1) := by decide +kernel
theorem dX12_paint_44 : decode cX12_paint 44 = .ok (.imul, 1) := by decide +kernel
theorem dX12_paint_45 : decode cX12_paint 45 = .ok (.iload_n 1, 1) := by decide +kernel
theorem dX12_paint_46 : decode cX12_paint 46 = .ok (.iadd, 1) := by decide +kernel
theorem dX12_paint_47 : decode cX12_paint 47 = .ok (.iaload, 1) := by decide +kernel
theorem dX12_paint_48 : decode cX12_paint 48 = .ok (.istore 4, 2) := by decide +kernel
theorem dX12_paint_50 : decode cX12_paint 50 = .ok (.aload_n 0, 1) := by decide +kernel
theorem dX12_paint_51 : decode cX12_paint 51 = .ok (.getfield 47, 3) := by decide +kernel
theorem dX12_paint_54 : decode cX12_paint 54 = .ok (.bipush 64, 2) := by decide +kernel
theorem dX12_paint_56 : decode cX12_paint 56 = .ok (.iload_n 2, 1) := by decide +kernel
theorem dX12_paint_57 : decode cX12_paint 57 = .ok (.imul, 1) := by decide +kernel
theorem dX12_paint_58 : decode cX12_paint 58 = .ok (.iload_n 1, 1) := by decide +kernel
theorem dX12_paint_59 : decode cX12_paint 59 = .ok (.iadd, 1) := by decide +kernel
theorem dX12_paint_60 : decode cX12_paint 60 = .ok (.iload_n 3, 1) := by decide +kernel
theorem dX12_paint_61 : decode cX12_paint 61 = .ok (.invokevirtual 349, 3) := by decide +kernel
theorem dX12_paint_64 : decode cX12_paint 64 = .ok (.iload 4, 2) := by decide +kernel
theorem dX12_paint_66 : decode cX12_paint 66 = .ok (.ireturn, 1) := by decide +kernel
set_option maxRecDepth 20000 in
theorem ggX12_wash_X12_isStone : GoodIn wsX12_wash wsX12_isStone := goodIn_r _ [6, 7, 8, 5, 9] (by decide +kernel) (by decide +kernel)
set_option maxRecDepth 20000 in
theorem gX12_wash_X12_isStone : GoodIn wsX12_wash (va_wsS RX12 318 yX12_isStone wsX12_isStone) := goodIn_app (goodIn_of _ (by decide +kernel)) ggX12_wash_X12_isStone
set_option maxRecDepth 20000 in
theorem ggX12_wash_X12_no : GoodIn wsX12_wash wsX12_no := goodIn_r _ [13, 1, 26, 27, 28, 29, 30, 31, 32, 33, 34, 35, 36, 37, 38, 39, 40] (by decide +kernel) (by decide +kernel)
set_option maxRecDepth 20000 in
theorem gX12_wash_X12_no : GoodIn wsX12_wash (wsV RX12 305 RX12 yX12_no wsX12_no) := goodIn_app (goodIn_of _ (by decide +kernel)) ggX12_wash_X12_no
set_option maxRecDepth 20000 in
theorem ggX12_wash_X11_wash : GoodIn wsX12_wash wsX11_wash := goodIn_r _ [18, 19, 20, 21, 22, 23, 17, 24, 25, 41, 42, 43, 44, 45, 46, 47, 48, 49, 50, 51, 52, 53, 54, 55, 56] (by decide +kernel) (by decide +kernel)
set_option maxRecDepth 20000 in
theorem gX12_wash_X11_wash : GoodIn wsX12_wash (wsV RX12 353 RX11 yX11_wash wsX11_wash) := goodIn_app (goodIn_of _ (by decide +kernel)) ggX12_wash_X11_wash
theorem dX12_wash_0 : decode cX12_wash 0 = .ok (.aload_n 0, 1) := by decide +kernel
theorem dX12_wash_1 : decode cX12_wash 1 = .ok (.iconst 0, 1) := by decide +kernel
theorem dX12_wash_2 : decode cX12_wash 2 = .ok (.putfield 57, 3) := by decide +kernel
theorem dX12_wash_5 : decode cX12_wash 5 = .ok (.iload_n 1, 1) := by decide +kernel
theorem dX12_wash_6 : decode cX12_wash 6 = .ok (.iload_n 2, 1) := by decide +kernel
theorem dX12_wash_7 : decode cX12_wash 7 = .ok (.invokestatic 318, 3) := by decide +kernel
theorem dX12_wash_10 : decode cX12_wash 10 = .ok (.ifCond .ne 9, 3) := by decide +kernel
theorem dX12_wash_13 : decode cX12_wash 13 = .ok (.aload_n 0, 1) := by decide +kernel
theorem dX12_wash_14 : decode cX12_wash 14 = .ok (.iconst 1, 1) := by decide +kernel
theorem dX12_wash_15 : decode cX12_wash 15 = .ok (.invokevirtual 305, 3) := by decide +kernel
theorem dX12_wash_18 : decode cX12_wash 18 = .ok (.ireturn, 1) := by decide +kernel
theorem dX12_wash_19 : decode cX12_wash 19 = .ok (.iload_n 1, 1) := by decide +kernel
theorem dX12_wash_20 : decode cX12_wash 20 = .ok (.iload_n 2, 1) := by decide +kernel
theorem dX12_wash_21 : decode cX12_wash 21 = .ok (.if_icmp .le 11, 3) := by decide +kernel
theorem dX12_wash_24 : decode cX12_wash 24 = .ok (.aload_n 0, 1) := by decide +kernel
theorem dX12_wash_25 : decode cX12_wash 25 = .ok (.iconst 2, 1) := by decide +kernel
theorem dX12_wash_26 : decode cX12_wash 26 = .ok (.invokevirtual 305, 3) := by decide +kernel
theorem dX12_wash_29 : decode cX12_wash 29 = .ok (.goto 12, 3) := by decide +kernel
theorem dX12_wash_32 : decode cX12_wash 32 = .ok (.aload_n 0, 1) := by decide +kernel
theorem dX12_wash_33 : decode cX12_wash 33 = .ok (.getfield 47, 3) := by decide +kernel
theorem dX12_wash_36 : decode cX12_wash 36 = .ok (.iload_n 1, 1) := by decide +kernel
theorem dX12_wash_37 : decode cX12_wash 37 = .ok (.iload_n 2, 1) := by decide +kernel
theorem dX12_wash_38 : decode cX12_wash 38 = .ok (.invokevirtual 353, 3) := by decide +kernel
theorem dX12_wash_41 : decode cX12_wash 41 = .ok (.ireturn, 1) := by decide +kernel
set_option maxRecDepth 20000 in
theorem ggX12_face_X12_isAnt : GoodIn wsX12_face wsX12_isAnt := goodIn_r _ [7, 8, 9, 10, 6, 11, 23, 24, 25, 26, 27, 28, 29, 30, 31, 32, 33, 34, 35, 36, 37, 54, 55, 56, 57, 58, 59, 60, 61, 62, 63, 64, 65, 66, 67, 68, 69, 70, 71, 72, 73, 74, 75] (by decide +kernel) (by decide +kernel)
set_option maxRecDepth 20000 in
theorem gX12_face_X12_isAnt : GoodIn wsX12_face (wsV RX12 343 RX12 yX12_isAnt wsX12_isAnt) := goodIn_app (goodIn_of _ (by decide +kernel)) ggX12_face_X12_isAnt
set_option maxRecDepth 20000 in
theorem ggX12_face_X12_isIn : GoodIn wsX12_face wsX12_isIn := goodIn_r _ [11] (by decide +kernel) (by decide +kernel)
set_option maxRecDepth 20000 in
theorem gX12_face_X12_isIn : GoodIn wsX12_face (va_wsS RX12 60 yX12_isIn wsX12_isIn) := goodIn_app (goodIn_of _ (by decide +kernel)) ggX12_face_X12_isIn
set_option maxRecDepth 20000 in
theorem ggX12_face_X12_no : GoodIn wsX12_face wsX12_no := goodIn_r _ [15, 1, 23, 24, 25, 26, 27, 28, 29, 30, 31, 32, 33, 34, 35, 36, 37] (by decide +kernel) (by decide +kernel)
set_option maxRecDepth 20000 in
theorem gX12_face_X12_no : GoodIn wsX12_face (wsV RX12 305 RX12 yX12_no wsX12_no) := goodIn_app (goodIn_of _ (by decide +kernel)) ggX12_face_X12_no
set_option maxRecDepth 20000 in
theorem ggX12_face_X11_forget : GoodIn wsX12_face wsX11_forget := goodIn_r _ [20, 21, 22, 38, 39, 40, 41, 42, 43, 44, 45, 46, 47, 48, 49, 50, 51, 52, 53] (by decide +kernel) (by decide +kernel)
set_option maxRecDepth 20000 in
theorem gX12_face_X11_forget : GoodIn wsX12_face (wsV RX12 356 RX11 yX11_forget wsX11_forget) := goodIn_app (goodIn_of _ (by decide +kernel)) ggX12_face_X11_forget
theorem dX12_face_0 : decode cX12_face 0 = .ok (.aload_n 0, 1) := by decide +kernel
theorem dX12_face_1 : decode cX12_face 1 = .ok (.iconst 0, 1) := by decide +kernel
theorem dX12_face_2 : decode cX12_face 2 = .ok (.putfield 57, 3) := by decide +kernel
theorem dX12_face_5 : decode cX12_face 5 = .ok (.aload_n 0, 1) := by decide +kernel
theorem dX12_face_6 : decode cX12_face 6 = .ok (.iload_n 1, 1) := by decide +kernel
theorem dX12_face_7 : decode cX12_face 7 = .ok (.invokevirtual 343, 3) := by decide +kernel
theorem dX12_face_10 : decode cX12_face 10 = .ok (.ifCond .eq 12, 3) := by decide +kernel
theorem dX12_face_13 : decode cX12_face 13 = .ok (.iload_n 2, 1) := by decide +kernel
theorem dX12_face_14 : decode cX12_face 14 = .ok (.iconst 0, 1) := by decide +kernel
theorem dX12_face_15 : decode cX12_face 15 = .ok (.iconst 3, 1) := by decide +kernel
theorem dX12_face_16 : decode cX12_face 16 = .ok (.invokestatic 60, 3) := by decide +kernel
theorem dX12_face_19 : decode cX12_face 19 = .ok (.ifCond .ne 9, 3) := by decide +kernel
theorem dX12_face_22 : decode cX12_face 22 = .ok (.aload_n 0, 1) := by decide +kernel
theorem dX12_face_23 : decode cX12_face 23 = .ok (.iconst 1, 1) := by decide +kernel
theorem dX12_face_24 : decode cX12_face 24 = .ok (.invokevirtual 305, 3) := by decide +kernel
theorem dX12_face_27 : decode cX12_face 27 = .ok (.ireturn, 1) := by decide +kernel
theorem dX12_face_28 : decode cX12_face 28 = .ok (.aload_n 0, 1) := by decide +kernel
theorem dX12_face_29 : decode cX12_face 29 = .ok (.getfield 47, 3) := by decide +kernel
theorem dX12_face_32 : decode cX12_face 32 = .ok (.getfield 330, 3) := by decide +kernel
theorem dX12_face_35 : decode cX12_face 35 = .ok (.iload_n 1, 1) := by decide +kernel
theorem dX12_face_36 : decode cX12_face 36 = .ok (.iaload, 1) := by decide +kernel
theorem dX12_face_37 : decode cX12_face 37 = .ok (.istore_n 3, 1) := by decide +kernel
theorem dX12_face_38 : decode cX12_face 38 = .ok (.aload_n 0, 1) := by decide +kernel
theorem dX12_face_39 : decode cX12_face 39 = .ok (.getfield 47, 3) := by decide +kernel
theorem dX12_face_42 : decode cX12_face 42 = .ok (.getfield 330, 3) := by decide +kernel
theorem dX12_face_45 : decode cX12_face 45 = .ok (.iload_n 1, 1) := by decide +kernel
theorem dX12_face_46 : decode cX12_face 46 = .ok (.iload_n 2, 1) := by decide +kernel
theorem dX12_face_47 : decode cX12_face 47 = .ok (.iastore, 1) := by decide +kernel
theorem dX12_face_48 : decode cX12_face 48 = .ok (.aload_n 0, 1) := by decide +kernel
theorem dX12_face_49 : decode cX12_face 49 = .ok (.getfield 47, 3) := by decide +kernel
theorem dX12_face_52 : decode cX12_face 52 = .ok (.iload_n 1, 1) := by decide +kernel
theorem dX12_face_53 : decode cX12_face 53 = .ok (.invokevirtual 356, 3) := by decide +kernel
theorem dX12_face_56 : decode cX12_face 56 = .ok (.iload_n 3, 1) := by decide +kernel
theorem dX12_face_57 : decode cX12_face 57 = .ok (.ireturn, 1) := by decide +kernel
set_option maxRecDepth 20000 in
theorem ggX12_halt_X12_isAnt : GoodIn wsX12_halt wsX12_isAnt := goodIn_r _ [7, 8, 9, 10, 6, 11, 12, 13, 14, 15, 16, 17, 18, 19, 20, 21, 22, 23, 24, 25, 26, 43, 44, 45, 46, 47, 48, 49, 50, 51, 52, 53, 54, 55, 56, 57, 58, 59, 60, 61, 62, 63, 64] (by decide +kernel) (by decide +kernel)
set_option maxRecDepth 20000 in
theorem gX12_halt_X12_isAnt : GoodIn wsX12_halt (wsV RX12 343 RX12 yX12_isAnt wsX12_isAnt) := goodIn_app (goodIn_of _ (by decide +kernel)) ggX12_halt_X12_isAnt
theorem dX12_halt_0 : decode cX12_halt 0 = .ok (.aload_n 0, 1) := by decide +kernel
theorem dX12_halt_1 : decode cX12_halt 1 = .ok (.aload_n 0, 1) := by decide +kernel
theorem dX12_halt_2 : decode cX12_halt 2 = .ok (.iload_n 1, 1) := by decide +kernel
theorem dX12_halt_3 : decode cX12_halt 3 = .ok (.invokevirtual 343, 3) := by decide +kernel
theorem dX12_halt_6 : decode cX12_halt 6 = .ok (.ifCond .eq 7, 3) := by decide +kernel
theorem dX12_halt_9 : decode cX12_halt 9 = .ok (.iconst 0, 1) := by decide +kernel
theorem dX12_halt_10 : decode cX12_halt 10 = .ok (.goto 4, 3) := by decide +kernel
theorem dX12_halt_13 : decode cX12_halt 13 = .ok (.iconst 1, 1) := by decide +kernel
theorem dX12_halt_14 : decode cX12_halt 14 = .ok (.putfield 57, 3) := by decide +kernel
theorem dX12_halt_17 : decode cX12_halt 17 = .ok (.aload_n 0, 1) := by decide +kernel
theorem dX12_halt_18 : decode cX12_halt 18 = .ok (.getfield 57, 3) := by decide +kernel
theorem dX12_halt_21 : decode cX12_halt 21 = .ok (.ifCond .eq 5, 3) := by decide +kernel
theorem dX12_halt_24 : decode cX12_halt 24 = .ok (.iconst 0, 1) := by decide +kernel
theorem dX12_halt_25 : decode cX12_halt 25 = .ok (.ireturn, 1) := by decide +kernel
theorem dX12_halt_26 : decode cX12_halt 26 = .ok (.aload_n 0, 1) := by decide +kernel
theorem dX12_halt_27 : decode cX12_halt 27 = .ok (.getfield 47, 3) := by decide +kernel
theorem dX12_halt_30 : decode cX12_halt 30 = .ok (.getfield 331, 3) := by decide +kernel
theorem dX12_halt_33 : decode cX12_halt 33 = .ok (.iload_n 1, 1) := by decide +kernel
theorem dX12_halt_34 : decode cX12_halt 34 = .ok (.iconst 1, 1) := by decide +kernel
theorem dX12_halt_35 : decode cX12_halt 35 = .ok (.aload_n 0, 1) := by decide +kernel
theorem dX12_halt_36 : decode cX12_halt 36 = .ok (.getfield 47, 3) := by decide +kernel
theorem dX12_halt_39 : decode cX12_halt 39 = .ok (.getfield 331, 3) := by decide +kernel
theorem dX12_halt_42 : decode cX12_halt 42 = .ok (.iload_n 1, 1) := by decide +kernel
theorem dX12_halt_43 : decode cX12_halt 43 = .ok (.iaload, 1) := by decide +kernel
theorem dX12_halt_44 : decode cX12_halt 44 = .ok (.isub, 1) := by decide +kernel
theorem dX12_halt_45 : decode cX12_halt 45 = .ok (.iastore, 1) := by decide +kernel
theorem dX12_halt_46 : decode cX12_halt 46 = .ok (.aload_n 0, 1) := by decide +kernel
theorem dX12_halt_47 : decode cX12_halt 47 = .ok (.getfield 47, 3) := by decide +kernel
theorem dX12_halt_50 : decode cX12_halt 50 = .ok (.getfield 331, 3) := by decide +kernel
theorem dX12_halt_53 : decode cX12_halt 53 = .ok (.iload_n 1, 1) := by decide +kernel
theorem dX12_halt_54 : decode cX12_halt 54 = .ok (.iaload, 1) := by decide +kernel
theorem dX12_halt_55 : decode cX12_halt 55 = .ok (.ifCond .ne 7, 3) := by decide +kernel
theorem dX12_halt_58 : decode cX12_halt 58 = .ok (.iconst 1, 1) := by decide +kernel
theorem dX12_halt_59 : decode cX12_halt 59 = .ok (.goto 4, 3) := by decide +kernel
theorem dX12_halt_62 : decode cX12_halt 62 = .ok (.iconst 0, 1) := by decide +kernel
theorem dX12_halt_63 : decode cX12_halt 63 = .ok (.ireturn, 1) := by decide +kernel
set_option maxRecDepth 20000 in
theorem ggX12_place__X12_isAnt : GoodIn wsX12_place_ wsX12_isAnt := goodIn_r _ [7, 8, 9, 10, 6, 11, 26, 27, 28, 29, 30, 31, 32, 33, 34, 35, 36, 37, 38, 39, 40, 57, 58, 59, 60, 61, 62, 63, 64, 65, 66, 67, 68, 69, 70, 71, 72, 73, 74, 75, 76, 77, 78] (by decide +kernel) (by decide +kernel)
set_option maxRecDepth 20000 in
theorem gX12_place__X12_isAnt : GoodIn wsX12_place_ (wsV RX12 343 RX12 yX12_isAnt wsX12_isAnt) := goodIn_app (goodIn_of _ (by decide +kernel)) ggX12_place__X12_isAnt
set_option maxRecDepth 20000 in
theorem ggX12_place__X12_isStone : GoodIn wsX12_place_ wsX12_isStone := goodIn_r _ [14, 9, 10, 6, 11] (by decide +kernel) (by decide +kernel)
set_option maxRecDepth 20000 in
theorem gX12_place__X12_isStone : GoodIn wsX12_place_ (va_wsS RX12 318 yX12_isStone wsX12_isStone) := goodIn_app (goodIn_of _ (by decide +kernel)) ggX12_place__X12_isStone
set_option maxRecDepth 20000 in
theorem ggX12_place__X12_no : GoodIn wsX12_place_ wsX12_no := goodIn_r _ [18, 1, 26, 27, 28, 29, 30, 31, 32, 33, 34, 35, 36, 37, 38, 39, 40] (by decide +kernel) (by decide +kernel)
set_option maxRecDepth 20000 in
theorem gX12_place__X12_no : GoodIn wsX12_place_ (wsV RX12 305 RX12 yX12_no wsX12_no) := goodIn_app (goodIn_of _ (by decide +kernel)) ggX12_place__X12_no
set_option maxRecDepth 20000 in
theorem ggX12_place__X11_forget : GoodIn wsX12_place_ wsX11_forget := goodIn_r _ [23, 24, 25, 41, 42, 43, 44, 45, 46, 47, 48, 49, 50, 51, 52, 53, 54, 55, 56] (by decide +kernel) (by decide +kernel)
set_option maxRecDepth 20000 in
theorem gX12_place__X11_forget : GoodIn wsX12_place_ (wsV RX12 356 RX11 yX11_forget wsX11_forget) := goodIn_app (goodIn_of _ (by decide +kernel)) ggX12_place__X11_forget
theorem dX12_place__0 : decode cX12_place_ 0 = .ok (.aload_n 0, 1) := by decide +kernel
theorem dX12_place__1 : decode cX12_place_ 1 = .ok (.iconst 0, 1) := by decide +kernel
theorem dX12_place__2 : decode cX12_place_ 2 = .ok (.putfield 57, 3) := by decide +kernel
theorem dX12_place__5 : decode cX12_place_ 5 = .ok (.aload_n 0, 1) := by decide +kernel
theorem dX12_place__6 : decode cX12_place_ 6 = .ok (.iload_n 1, 1) := by decide +kernel
theorem dX12_place__7 : decode cX12_place_ 7 = .ok (.invokevirtual 343, 3) := by decide +kernel
theorem dX12_place__10 : decode cX12_place_ 10 = .ok (.ifCond .eq 11, 3) := by decide +kernel
theorem dX12_place__13 : decode cX12_place_ 13 = .ok (.iload_n 2, 1) := by decide +kernel
theorem dX12_place__14 : decode cX12_place_ 14 = .ok (.iload_n 3, 1) := by decide +kernel
theorem dX12_place__15 : decode cX12_place_ 15 = .ok (.invokestatic 318, 3) := by decide +kernel
theorem dX12_place__18 : decode cX12_place_ 18 = .ok (.ifCond .ne 9, 3) := by decide +kernel
theorem dX12_place__21 : decode cX12_place_ 21 = .ok (.aload_n 0, 1) := by decide +kernel
theorem dX12_place__22 : decode cX12_place_ 22 = .ok (.iconst 1, 1) := by decide +kernel
theorem dX12_place__23 : decode cX12_place_ 23 = .ok (.invokevirtual 305, 3) := by decide +kernel
theorem dX12_place__26 : decode cX12_place_ 26 = .ok (.ireturn, 1) := by decide +kernel
theorem dX12_place__27 : decode cX12_place_ 27 = .ok (.bipush 64, 2) := by decide +kernel
theorem dX12_place__29 : decode cX12_place_ 29 = .ok (.aload_n 0, 1) := by decide +kernel
theorem dX12_place__30 : decode cX12_place_ 30 = .ok (.getfield 47, 3) := by decide +kernel
theorem dX12_place__33 : decode cX12_place_ 33 = .ok (.getfield 329, 3) := by decide +kernel
theorem dX12_place__36 : decode cX12_place_ 36 = .ok (.iload_n 1, 1) := by decide +kernel
theorem dX12_place__37 : decode cX12_place_ 37 = .ok (.iaload, 1) := by decide +kernel
theorem dX12_place__38 : decode cX12_place_ 38 = .ok (.imul, 1) := by decide +kernel
theorem dX12_place__39 : decode cX12_place_ 39 = .ok (.aload_n 0, 1) := by decide +kernel
theorem dX12_place__40 : decode cX12_place_ 40 = .ok (.getfield 47, 3) := by decide +kernel
theorem dX12_place__43 : decode cX12_place_ 43 = .ok (.getfield 328, 3) := by decide +kernel
theorem dX12_place__46 : decode cX12_place_ 46 = .ok (.iload_n 1, 1) := by decide +kernel
theorem dX12_place__47 : decode cX12_place_ 47 = .ok (.iaload, 1) := by decide +kernel
theorem dX12_place__48 : decode cX12_place_ 48 = .ok (.iadd, 1) := by decide +kernel
theorem dX12_place__49 : decode cX12_place_ 49 = .ok (.istore 4, 2) := by decide +kernel
theorem dX12_place__51 : decode cX12_place_ 51 = .ok (.aload_n 0, 1) := by decide +kernel
theorem dX12_place__52 : decode cX12_place_ 52 = .ok (.getfield 47, 3) := by decide +kernel
theorem dX12_place__55 : decode cX12_place_ 55 = .ok (.getfield 328, 3) := by decide +kernel
theorem dX12_place__58 : decode cX12_place_ 58 = .ok (.iload_n 1, 1) := by decide +kernel
theorem dX12_place__59 : decode cX12_place_ 59 = .ok (.iload_n 2, 1) := by decide +kernel
theorem dX12_place__60 : decode cX12_place_ 60 = .ok (.iastore, 1) := by decide +kernel
theorem dX12_place__61 : decode cX12_place_ 61 = .ok (.aload_n 0, 1) := by decide +kernel
theorem dX12_place__62 : decode cX12_place_ 62 = .ok (.getfield 47, 3) := by decide +kernel
theorem dX12_place__65 : decode cX12_place_ 65 = .ok (.getfield 329, 3) := by decide +kernel
theorem dX12_place__68 : decode cX12_place_ 68 = .ok (.iload_n 1, 1) := by decide +kernel
theorem dX12_place__69 : decode cX12_place_ 69 = .ok (.iload_n 3, 1) := by decide +kernel
theorem dX12_place__70 : decode cX12_place_ 70 = .ok (.iastore, 1) := by decide +kernel
theorem dX12_place__71 : decode cX12_place_ 71 = .ok (.aload_n 0, 1) := by decide +kernel
theorem dX12_place__72 : decode cX12_place_ 72 = .ok (.getfield 47, 3) := by decide +kernel
theorem dX12_place__75 : decode cX12_place_ 75 = .ok (.iload_n 1, 1) := by decide +kernel
theorem dX12_place__76 : decode cX12_place_ 76 = .ok (.invokevirtual 356, 3) := by decide +kernel
theorem dX12_place__79 : decode cX12_place_ 79 = .ok (.iload 4, 2) := by decide +kernel
theorem dX12_place__81 : decode cX12_place_ 81 = .ok (.ireturn, 1) := by decide +kernel
set_option maxRecDepth 20000 in
theorem ggX12_pass_X12_isIn : GoodIn wsX12_pass wsX12_isIn := goodIn_r _ [6] (by decide +kernel) (by decide +kernel)
set_option maxRecDepth 20000 in
theorem gX12_pass_X12_isIn : GoodIn wsX12_pass (va_wsS RX12 60 yX12_isIn wsX12_isIn) := goodIn_app (goodIn_of _ (by decide +kernel)) ggX12_pass_X12_isIn
set_option maxRecDepth 20000 in
theorem ggX12_pass_X12_no : GoodIn wsX12_pass wsX12_no := goodIn_r _ [10, 1, 100, 101, 102, 103, 104, 105, 106, 107, 108, 109, 110, 111, 112, 113, 114] (by decide +kernel) (by decide +kernel)
set_option maxRecDepth 20000 in
theorem gX12_pass_X12_no : GoodIn wsX12_pass (wsV RX12 305 RX12 yX12_no wsX12_no) := goodIn_app (goodIn_of _ (by decide +kernel)) ggX12_pass_X12_no
set_option maxRecDepth 20000 in
theorem ggX12_pass_X11_dark : GoodIn wsX12_pass wsX11_dark := goodIn_r _ [15, 16, 115, 116, 117, 118, 119, 120, 121, 122, 123, 124, 125, 126, 127, 128, 129, 130] (by decide +kernel) (by decide +kernel)
set_option maxRecDepth 20000 in
theorem gX12_pass_X11_dark : GoodIn wsX12_pass (wsV RX12 359 RX11 yX11_dark wsX11_dark) := goodIn_app (goodIn_of _ (by decide +kernel)) ggX12_pass_X11_dark
set_option maxRecDepth 20000 in
theorem ggX12_pass_X11_pass__c1 : GoodIn wsX12_pass (.code yX11_pass_ cX11_pass_ 3 (some (.object "FlagAntsModel$State")) :: wsX11_pass__r1) := goodIn_r _ [20, 21, 22, 23, 14, 24, 25, 26, 27, 28, 29, 30, 31, 32, 33, 34, 16, 35, 12, 13, 15, 36, 5, 37, 3] (by decide +kernel) (by decide +kernel)
set_option maxRecDepth 20000 in
theorem ggX12_pass_X11_pass__c2 : GoodIn wsX12_pass wsX11_pass__r2 := goodIn_r _ [4, 6, 38, 39, 40, 41, 42, 43, 44, 45, 46, 47, 48, 49, 50, 51, 52, 53, 54, 55, 56, 57, 58, 59] (by decide +kernel) (by decide +kernel)
set_option maxRecDepth 20000 in
theorem ggX12_pass_X11_pass__c3 : GoodIn wsX12_pass wsX11_pass__r3 := goodIn_r _ [60, 61, 62, 63, 64, 65, 66, 67, 68, 69, 70, 71, 72, 73, 74, 75, 76, 77, 78, 79, 80, 81, 82, 83] (by decide +kernel) (by decide +kernel)
set_option maxRecDepth 20000 in
theorem ggX12_pass_X11_pass__c4 : GoodIn wsX12_pass wsX11_pass__r4 := goodIn_r _ [84, 85, 86, 87, 88, 89, 90, 91, 92, 93, 94, 95, 96, 97, 98, 99] (by decide +kernel) (by decide +kernel)
set_option maxRecDepth 20000 in
theorem ggX12_pass_X11_pass__c5 : GoodIn wsX12_pass wsX110 := goodIn_r _ [115, 116, 117, 118, 119, 120, 121, 122, 123, 124, 125, 126, 127, 128, 129, 130] (by decide +kernel) (by decide +kernel)
set_option maxRecDepth 20000 in
theorem ggX12_pass_X11_pass__c6 : GoodIn wsX12_pass wsX120 := goodIn_r _ [100, 101, 102, 103, 104, 105, 106, 107, 108, 109, 110, 111, 112, 113, 114] (by decide +kernel) (by decide +kernel)
set_option maxRecDepth 20000 in
theorem ggX12_pass_X11_pass__c7 : GoodIn wsX12_pass wsX100 := goodIn_r _ [131, 132, 133, 134, 135, 136, 137, 138, 139, 140, 141, 142, 143, 144, 145, 146, 147, 148, 149, 150, 151, 152] (by decide +kernel) (by decide +kernel)
set_option maxRecDepth 20000 in
theorem ggX12_pass_X11_pass_ : GoodIn wsX12_pass wsX11_pass_ := (goodIn_ca (goodIn_ca (goodIn_ca (goodIn_ca ggX12_pass_X11_pass__c1 (goodIn_app ggX12_pass_X11_pass__c2 (goodIn_app ggX12_pass_X11_pass__c3 ggX12_pass_X11_pass__c4))) ggX12_pass_X11_pass__c5) ggX12_pass_X11_pass__c6) ggX12_pass_X11_pass__c7)
set_option maxRecDepth 20000 in
theorem gX12_pass_X11_pass_ : GoodIn wsX12_pass (wsV RX12 362 RX11 yX11_pass_ wsX11_pass_) := goodIn_app (goodIn_of _ (by decide +kernel)) ggX12_pass_X11_pass_
theorem dX12_pass_0 : decode cX12_pass 0 = .ok (.aload_n 0, 1) := by decide +kernel
theorem dX12_pass_1 : decode cX12_pass 1 = .ok (.iconst 0, 1) := by decide +kernel
theorem dX12_pass_2 : decode cX12_pass 2 = .ok (.putfield 57, 3) := by decide +kernel
theorem dX12_pass_5 : decode cX12_pass 5 = .ok (.iload_n 1, 1) := by decide +kernel
theorem dX12_pass_6 : decode cX12_pass 6 = .ok (.iconst 1, 1) := by decide +kernel
theorem dX12_pass_7 : decode cX12_pass 7 = .ok (.sipush 1000, 3) := by decide +kernel
theorem dX12_pass_10 : decode cX12_pass 10 = .ok (.invokestatic 60, 3) := by decide +kernel
theorem dX12_pass_13 : decode cX12_pass 13 = .ok (.ifCond .ne 9, 3) := by decide +kernel
theorem dX12_pass_16 : decode cX12_pass 16 = .ok (.aload_n 0, 1) := by decide +kernel
theorem dX12_pass_17 : decode cX12_pass 17 = .ok (.iconst 1, 1) := by decide +kernel
theorem dX12_pass_18 : decode cX12_pass 18 = .ok (.invokevirtual 305, 3) := by decide +kernel
theorem dX12_pass_21 : decode cX12_pass 21 = .ok (.ireturn, 1) := by decide +kernel
theorem dX12_pass_22 : decode cX12_pass 22 = .ok (.aload_n 0, 1) := by decide +kernel
theorem dX12_pass_23 : decode cX12_pass 23 = .ok (.getfield 47, 3) := by decide +kernel
theorem dX12_pass_26 : decode cX12_pass 26 = .ok (.invokevirtual 359, 3) := by decide +kernel
theorem dX12_pass_29 : decode cX12_pass 29 = .ok (.istore_n 2, 1) := by decide +kernel
theorem dX12_pass_30 : decode cX12_pass 30 = .ok (.aload_n 0, 1) := by decide +kernel
theorem dX12_pass_31 : decode cX12_pass 31 = .ok (.getfield 47, 3) := by decide +kernel
theorem dX12_pass_34 : decode cX12_pass 34 = .ok (.iload_n 1, 1) := by decide +kernel
theorem dX12_pass_35 : decode cX12_pass 35 = .ok (.invokevirtual 362, 3) := by decide +kernel
theorem dX12_pass_38 : decode cX12_pass 38 = .ok (.invokevirtual 359, 3) := by decide +kernel
theorem dX12_pass_41 : decode cX12_pass 41 = .ok (.iload_n 2, 1) := by decide +kernel
theorem dX12_pass_42 : decode cX12_pass 42 = .ok (.isub, 1) := by decide +kernel
theorem dX12_pass_43 : decode cX12_pass 43 = .ok (.ireturn, 1) := by decide +kernel
set_option maxRecDepth 20000 in
theorem ggX12_foresee_X12_isIn : GoodIn wsX12_foresee wsX12_isIn := goodIn_r _ [7] (by decide +kernel) (by decide +kernel)
set_option maxRecDepth 20000 in
theorem gX12_foresee_X12_isIn : GoodIn wsX12_foresee (va_wsS RX12 60 yX12_isIn wsX12_isIn) := goodIn_app (goodIn_of _ (by decide +kernel)) ggX12_foresee_X12_isIn
set_option maxRecDepth 20000 in
theorem ggX12_foresee_X12_no : GoodIn wsX12_foresee wsX12_no := goodIn_r _ [11, 1, 124, 125, 126, 127, 128, 129, 130, 131, 132, 133, 134, 135, 136, 137, 138] (by decide +kernel) (by decide +kernel)
set_option maxRecDepth 20000 in
theorem gX12_foresee_X12_no : GoodIn wsX12_foresee (wsV RX12 305 RX12 yX12_no wsX12_no) := goodIn_app (goodIn_of _ (by decide +kernel)) ggX12_foresee_X12_no
set_option maxRecDepth 20000 in
theorem ggX12_foresee_X11_become : GoodIn wsX12_foresee wsX11_become := goodIn_r _ [16, 17, 18, 19, 20, 21, 22, 23, 24, 25, 26, 27, 28, 29, 30, 31, 32, 33, 15, 34, 35, 36, 37, 38, 139, 140, 141, 142, 143, 144, 145, 146, 147, 148, 149, 150, 151, 152, 153, 154] (by decide +kernel) (by decide +kernel)
set_option maxRecDepth 20000 in
theorem gX12_foresee_X11_become : GoodIn wsX12_foresee (wsV RX12 366 RX11 yX11_become wsX11_become) := goodIn_app (goodIn_of _ (by decide +kernel)) ggX12_foresee_X11_become
set_option maxRecDepth 20000 in
theorem ggX12_foresee_X11_pass__c1 : GoodIn wsX12_foresee (.code yX11_pass_ cX11_pass_ 3 (some (.object "FlagAntsModel$State")) :: wsX11_pass__r1) := goodIn_r _ [42, 43, 44, 45, 15, 46, 47, 20, 26, 18, 17, 48, 49, 50, 51, 52, 22, 53, 54, 55, 56, 57, 6, 58, 4] (by decide +kernel) (by decide +kernel)
set_option maxRecDepth 20000 in
theorem ggX12_foresee_X11_pass__c2 : GoodIn wsX12_foresee wsX11_pass__r2 := goodIn_r _ [5, 7, 59, 60, 61, 62, 23, 24, 63, 64, 65, 66, 30, 67, 68, 69, 70, 29, 28, 71, 72, 73, 74, 75] (by decide +kernel) (by decide +kernel)
set_option maxRecDepth 20000 in
theorem ggX12_foresee_X11_pass__c3 : GoodIn wsX12_foresee wsX11_pass__r3 := goodIn_r _ [76, 77, 78, 79, 80, 81, 82, 83, 84, 85, 86, 87, 88, 89, 90, 91, 25, 92, 93, 94, 95, 19, 96, 97] (by decide +kernel) (by decide +kernel)
set_option maxRecDepth 20000 in
theorem ggX12_foresee_X11_pass__c4 : GoodIn wsX12_foresee wsX11_pass__r4 := goodIn_r _ [98, 99, 21, 100, 101, 102, 103, 104, 105, 106, 107, 108, 109, 110, 111, 27] (by decide +kernel) (by decide +kernel)
set_option maxRecDepth 20000 in
theorem ggX12_foresee_X11_pass__c5 : GoodIn wsX12_foresee wsX110 := goodIn_r _ [139, 140, 141, 142, 143, 144, 145, 146, 147, 148, 149, 150, 151, 152, 153, 154] (by decide +kernel) (by decide +kernel)
set_option maxRecDepth 20000 in
theorem ggX12_foresee_X11_pass__c6 : GoodIn wsX12_foresee wsX120 := goodIn_r _ [124, 125, 126, 127, 128, 129, 130, 131, 132, 133, 134, 135, 136, 137, 138] (by decide +kernel) (by decide +kernel)
set_option maxRecDepth 20000 in
theorem ggX12_foresee_X11_pass__c7 : GoodIn wsX12_foresee wsX100 := goodIn_r _ [155, 156, 157, 158, 159, 160, 161, 162, 163, 164, 165, 166, 167, 168, 169, 170, 171, 172, 173, 174, 175, 176] (by decide +kernel) (by decide +kernel)
set_option maxRecDepth 20000 in
theorem ggX12_foresee_X11_pass_ : GoodIn wsX12_foresee wsX11_pass_ := (goodIn_ca (goodIn_ca (goodIn_ca (goodIn_ca ggX12_foresee_X11_pass__c1 (goodIn_app ggX12_foresee_X11_pass__c2 (goodIn_app ggX12_foresee_X11_pass__c3 ggX12_foresee_X11_pass__c4))) ggX12_foresee_X11_pass__c5) ggX12_foresee_X11_pass__c6) ggX12_foresee_X11_pass__c7)
set_option maxRecDepth 20000 in
theorem gX12_foresee_X11_pass_ : GoodIn wsX12_foresee (wsV RX12 362 RX11 yX11_pass_ wsX11_pass_) := goodIn_app (goodIn_of _ (by decide +kernel)) ggX12_foresee_X11_pass_
set_option maxRecDepth 20000 in
theorem ggX12_foresee_X11_counted_c1 : GoodIn wsX12_foresee (.code yX11_counted cX11_counted 2 (some .int) :: [.fieldLink RX11 59 "FlagAntsModel$State" "meetings" "I", .fieldLink RX11 62 "FlagAntsModel$State" "washed" "I", .fieldLink RX11 65 "FlagAntsModel$State" "carried" "I", .methodLink RX11 147 yX11_dark, .instanceMethod yX11_dark, .selects RX11 yX11_dark yX11_dark, .initialized RX11, .code yX11_dark cX11_dark 6 (some .int), .fieldLink RX11 19 "FlagAntsModel$State" "darkIn" "[I", .methodLink RX11 151 yX11_sum, .instanceMethod yX11_sum, .selects RX11 yX11_sum yX11_sum, .code yX11_sum cX11_sum 6 (some .int), .fieldLink RX11 15 "FlagAntsModel$State" "colours" "[I", .methodLink RX11 154 yX11_walkers, .instanceMethod yX11_walkers, .selects RX11 yX11_walkers yX11_walkers, .code yX11_walkers cX11_walkers 3 (some .int), .fieldLink RX11 3 "FlagAntsModel$State" "this$0" "LFlagAntsModel;", .fieldLink RX11 31 "FlagAntsModel$State" "rests" "[I"]) := goodIn_r _ [115, 18, 19, 20, 53, 54, 55, 15, 56, 22, 116, 117, 118, 119, 21, 120, 121, 122, 123, 47, 26] (by decide +kernel) (by decide +kernel)
set_option maxRecDepth 20000 in
theorem ggX12_foresee_X11_counted_c2 : GoodIn wsX12_foresee wsX110 := goodIn_r _ [139, 140, 141, 142, 143, 144, 145, 146, 147, 148, 149, 150, 151, 152, 153, 154] (by decide +kernel) (by decide +kernel)
set_option maxRecDepth 20000 in
theorem ggX12_foresee_X11_counted_c3 : GoodIn wsX12_foresee wsX120 := goodIn_r _ [124, 125, 126, 127, 128, 129, 130, 131, 132, 133, 134, 135, 136, 137, 138] (by decide +kernel) (by decide +kernel)
set_option maxRecDepth 20000 in
theorem ggX12_foresee_X11_counted_c4 : GoodIn wsX12_foresee wsX100 := goodIn_r _ [155, 156, 157, 158, 159, 160, 161, 162, 163, 164, 165, 166, 167, 168, 169, 170, 171, 172, 173, 174, 175, 176] (by decide +kernel) (by decide +kernel)
set_option maxRecDepth 20000 in
theorem ggX12_foresee_X11_counted : GoodIn wsX12_foresee wsX11_counted := (goodIn_ca (goodIn_ca (goodIn_ca ggX12_foresee_X11_counted_c1 ggX12_foresee_X11_counted_c2) ggX12_foresee_X11_counted_c3) ggX12_foresee_X11_counted_c4)
set_option maxRecDepth 20000 in
theorem gX12_foresee_X11_counted : GoodIn wsX12_foresee (wsV RX12 311 RX11 yX11_counted wsX11_counted) := goodIn_app (goodIn_of _ (by decide +kernel)) ggX12_foresee_X11_counted
theorem dX12_foresee_0 : decode cX12_foresee 0 = .ok (.aload_n 0, 1) := by decide +kernel
theorem dX12_foresee_1 : decode cX12_foresee 1 = .ok (.iconst 0, 1) := by decide +kernel
theorem dX12_foresee_2 : decode cX12_foresee 2 = .ok (.putfield 57, 3) := by decide +kernel
theorem dX12_foresee_5 : decode cX12_foresee 5 = .ok (.iload_n 1, 1) := by decide +kernel
theorem dX12_foresee_6 : decode cX12_foresee 6 = .ok (.iconst 1, 1) := by decide +kernel
theorem dX12_foresee_7 : decode cX12_foresee 7 = .ok (.sipush 1000, 3) := by decide +kernel
theorem dX12_foresee_10 : decode cX12_foresee 10 = .ok (.invokestatic 60, 3) := by decide +kernel
theorem dX12_foresee_13 : decode cX12_foresee 13 = .ok (.ifCond .ne 9, 3) := by decide +kernel
theorem dX12_foresee_16 : decode cX12_foresee 16 = .ok (.aload_n 0, 1) := by decide +kernel
theorem dX12_foresee_17 : decode cX12_foresee 17 = .ok (.iconst 1, 1) := by decide +kernel
theorem dX12_foresee_18 : decode cX12_foresee 18 = .ok (.invokevirtual 305, 3) := by decide +kernel
theorem dX12_foresee_21 : decode cX12_foresee 21 = .ok (.ireturn, 1) := by decide +kernel
theorem dX12_foresee_22 : decode cX12_foresee 22 = .ok (.iload_n 2, 1) := by decide +kernel
theorem dX12_foresee_23 : decode cX12_foresee 23 = .ok (.iconst 4, 1) := by decide +kernel
theorem dX12_foresee_24 : decode cX12_foresee 24 = .ok (.bipush 9, 2) := by decide +kernel
theorem dX12_foresee_26 : decode cX12_foresee 26 = .ok (.invokestatic 60, 3) := by decide +kernel
theorem dX12_foresee_29 : decode cX12_foresee 29 = .ok (.ifCond .eq 25, 3) := by decide +kernel
theorem dX12_foresee_32 : decode cX12_foresee 32 = .ok (.aload_n 0, 1) := by decide +kernel
theorem dX12_foresee_33 : decode cX12_foresee 33 = .ok (.getfield 51, 3) := by decide +kernel
theorem dX12_foresee_36 : decode cX12_foresee 36 = .ok (.aload_n 0, 1) := by decide +kernel
theorem dX12_foresee_37 : decode cX12_foresee 37 = .ok (.getfield 47, 3) := by decide +kernel
theorem dX12_foresee_40 : decode cX12_foresee 40 = .ok (.invokevirtual 366, 3) := by decide +kernel
theorem dX12_foresee_43 : decode cX12_foresee 43 = .ok (.iload_n 1, 1) := by decide +kernel
theorem dX12_foresee_44 : decode cX12_foresee 44 = .ok (.invokevirtual 362, 3) := by decide +kernel
theorem dX12_foresee_47 : decode cX12_foresee 47 = .ok (.iload_n 2, 1) := by decide +kernel
theorem dX12_foresee_48 : decode cX12_foresee 48 = .ok (.invokevirtual 311, 3) := by decide +kernel
theorem dX12_foresee_51 : decode cX12_foresee 51 = .ok (.goto 8, 3) := by decide +kernel
theorem dX12_foresee_54 : decode cX12_foresee 54 = .ok (.aload_n 0, 1) := by decide +kernel
theorem dX12_foresee_55 : decode cX12_foresee 55 = .ok (.iconst 2, 1) := by decide +kernel
theorem dX12_foresee_56 : decode cX12_foresee 56 = .ok (.invokevirtual 305, 3) := by decide +kernel
theorem dX12_foresee_59 : decode cX12_foresee 59 = .ok (.ireturn, 1) := by decide +kernel
set_option maxRecDepth 20000 in
theorem ggX12_until_X12_isAnt : GoodIn wsX12_until wsX12_isAnt := goodIn_r _ [8, 9, 10, 11, 7, 12, 116, 117, 118, 119, 120, 121, 122, 123, 124, 125, 126, 127, 128, 129, 130, 147, 148, 149, 150, 151, 152, 153, 154, 155, 156, 157, 158, 159, 160, 161, 162, 163, 164, 165, 166, 167, 168] (by decide +kernel) (by decide +kernel)
set_option maxRecDepth 20000 in
theorem gX12_until_X12_isAnt : GoodIn wsX12_until (wsV RX12 343 RX12 yX12_isAnt wsX12_isAnt) := goodIn_app (goodIn_of _ (by decide +kernel)) ggX12_until_X12_isAnt
set_option maxRecDepth 20000 in
theorem ggX12_until_X12_isStone : GoodIn wsX12_until wsX12_isStone := goodIn_r _ [15, 10, 11, 7, 12] (by decide +kernel) (by decide +kernel)
set_option maxRecDepth 20000 in
theorem gX12_until_X12_isStone : GoodIn wsX12_until (va_wsS RX12 318 yX12_isStone wsX12_isStone) := goodIn_app (goodIn_of _ (by decide +kernel)) ggX12_until_X12_isStone
set_option maxRecDepth 20000 in
theorem ggX12_until_X12_no : GoodIn wsX12_until wsX12_no := goodIn_r _ [19, 1, 116, 117, 118, 119, 120, 121, 122, 123, 124, 125, 126, 127, 128, 129, 130] (by decide +kernel) (by decide +kernel)
set_option maxRecDepth 20000 in
theorem gX12_until_X12_no : GoodIn wsX12_until (wsV RX12 305 RX12 yX12_no wsX12_no) := goodIn_app (goodIn_of _ (by decide +kernel)) ggX12_until_X12_no
set_option maxRecDepth 20000 in
theorem ggX12_until_X11_become : GoodIn wsX12_until wsX11_become := goodIn_r _ [24, 25, 26, 27, 28, 29, 30, 31, 32, 33, 34, 35, 36, 37, 38, 39, 40, 41, 23, 42, 43, 44, 45, 46, 131, 132, 133, 134, 135, 136, 137, 138, 139, 140, 141, 142, 143, 144, 145, 146] (by decide +kernel) (by decide +kernel)
set_option maxRecDepth 20000 in
theorem gX12_until_X11_become : GoodIn wsX12_until (wsV RX12 366 RX11 yX11_become wsX11_become) := goodIn_app (goodIn_of _ (by decide +kernel)) ggX12_until_X11_become
set_option maxRecDepth 20000 in
theorem ggX12_until_X11_pass_c1 : GoodIn wsX12_until (.code yX11_pass cX11_pass 3 none :: wsX11_pass_r1) := goodIn_r _ [50, 51, 28, 34, 26, 25, 52, 53, 54, 23, 55, 56, 30, 57, 58, 59, 60, 61, 7, 62, 10, 11, 12, 63, 64] (by decide +kernel) (by decide +kernel)
set_option maxRecDepth 20000 in
theorem ggX12_until_X11_pass_c2 : GoodIn wsX12_until wsX11_pass_r2 := goodIn_r _ [65, 66, 31, 32, 67, 68, 69, 70, 38, 71, 72, 73, 74, 37, 36, 75, 76, 77, 78, 79, 80, 81, 82, 83] (by decide +kernel) (by decide +kernel)
set_option maxRecDepth 20000 in
theorem ggX12_until_X11_pass_c3 : GoodIn wsX12_until wsX11_pass_r3 := goodIn_r _ [84, 85, 86, 87, 88, 89, 90, 91, 92, 93, 94, 95, 33, 96, 97, 98, 99, 27, 100, 101, 102, 103, 29, 104] (by decide +kernel) (by decide +kernel)
set_option maxRecDepth 20000 in
theorem ggX12_until_X11_pass_c4 : GoodIn wsX12_until wsX11_pass_r4 := goodIn_r _ [105, 106, 107, 108, 109, 110, 111, 112, 113, 114, 115, 35] (by decide +kernel) (by decide +kernel)
set_option maxRecDepth 20000 in
theorem ggX12_until_X11_pass_c5 : GoodIn wsX12_until wsX110 := goodIn_r _ [131, 132, 133, 134, 135, 136, 137, 138, 139, 140, 141, 142, 143, 144, 145, 146] (by decide +kernel) (by decide +kernel)
set_option maxRecDepth 20000 in
theorem ggX12_until_X11_pass_c6 : GoodIn wsX12_until wsX120 := goodIn_r _ [116, 117, 118, 119, 120, 121, 122, 123, 124, 125, 126, 127, 128, 129, 130] (by decide +kernel) (by decide +kernel)
set_option maxRecDepth 20000 in
theorem ggX12_until_X11_pass_c7 : GoodIn wsX12_until wsX100 := goodIn_r _ [147, 148, 149, 150, 151, 152, 153, 154, 155, 156, 157, 158, 159, 160, 161, 162, 163, 164, 165, 166, 167, 168] (by decide +kernel) (by decide +kernel)
set_option maxRecDepth 20000 in
theorem ggX12_until_X11_pass : GoodIn wsX12_until wsX11_pass := (goodIn_ca (goodIn_ca (goodIn_ca (goodIn_ca ggX12_until_X11_pass_c1 (goodIn_app ggX12_until_X11_pass_c2 (goodIn_app ggX12_until_X11_pass_c3 ggX12_until_X11_pass_c4))) ggX12_until_X11_pass_c5) ggX12_until_X11_pass_c6) ggX12_until_X11_pass_c7)
set_option maxRecDepth 20000 in
theorem gX12_until_X11_pass : GoodIn wsX12_until (wsV RX12 370 RX11 yX11_pass wsX11_pass) := goodIn_app (goodIn_of _ (by decide +kernel)) ggX12_until_X11_pass
theorem dX12_until_0 : decode cX12_until 0 = .ok (.aload_n 0, 1) := by decide +kernel
theorem dX12_until_1 : decode cX12_until 1 = .ok (.iconst 0, 1) := by decide +kernel
theorem dX12_until_2 : decode cX12_until 2 = .ok (.putfield 57, 3) := by decide +kernel
theorem dX12_until_5 : decode cX12_until 5 = .ok (.aload_n 0, 1) := by decide +kernel
theorem dX12_until_6 : decode cX12_until 6 = .ok (.iload_n 1, 1) := by decide +kernel
theorem dX12_until_7 : decode cX12_until 7 = .ok (.invokevirtual 343, 3) := by decide +kernel
theorem dX12_until_10 : decode cX12_until 10 = .ok (.ifCond .eq 11, 3) := by decide +kernel
theorem dX12_until_13 : decode cX12_until 13 = .ok (.iload_n 2, 1) := by decide +kernel
theorem dX12_until_14 : decode cX12_until 14 = .ok (.iload_n 3, 1) := by decide +kernel
theorem dX12_until_15 : decode cX12_until 15 = .ok (.invokestatic 318, 3) := by decide +kernel
theorem dX12_until_18 : decode cX12_until 18 = .ok (.ifCond .ne 9, 3) := by decide +kernel
theorem dX12_until_21 : decode cX12_until 21 = .ok (.aload_n 0, 1) := by decide +kernel
theorem dX12_until_22 : decode cX12_until 22 = .ok (.iconst 1, 1) := by decide +kernel
theorem dX12_until_23 : decode cX12_until 23 = .ok (.invokevirtual 305, 3) := by decide +kernel
theorem dX12_until_26 : decode cX12_until 26 = .ok (.ireturn, 1) := by decide +kernel
theorem dX12_until_27 : decode cX12_until 27 = .ok (.aload_n 0, 1) := by decide +kernel
theorem dX12_until_28 : decode cX12_until 28 = .ok (.getfield 51, 3) := by decide +kernel
theorem dX12_until_31 : decode cX12_until 31 = .ok (.aload_n 0, 1) := by decide +kernel
theorem dX12_until_32 : decode cX12_until 32 = .ok (.getfield 47, 3) := by decide +kernel
theorem dX12_until_35 : decode cX12_until 35 = .ok (.invokevirtual 366, 3) := by decide +kernel
theorem dX12_until_38 : decode cX12_until 38 = .ok (.pop, 1) := by decide +kernel
theorem dX12_until_39 : decode cX12_until 39 = .ok (.iconst 0, 1) := by decide +kernel
theorem dX12_until_40 : decode cX12_until 40 = .ok (.istore 4, 2) := by decide +kernel
theorem dX12_until_42 : decode cX12_until 42 = .ok (.iload 4, 2) := by decide +kernel
theorem dX12_until_44 : decode cX12_until 44 = .ok (.sipush 2000, 3) := by decide +kernel
theorem dX12_until_47 : decode cX12_until 47 = .ok (.if_icmp .gt 45, 3) := by decide +kernel
theorem dX12_until_50 : decode cX12_until 50 = .ok (.aload_n 0, 1) := by decide +kernel
theorem dX12_until_51 : decode cX12_until 51 = .ok (.getfield 51, 3) := by decide +kernel
theorem dX12_until_54 : decode cX12_until 54 = .ok (.getfield 328, 3) := by decide +kernel
theorem dX12_until_57 : decode cX12_until 57 = .ok (.iload_n 1, 1) := by decide +kernel
theorem dX12_until_58 : decode cX12_until 58 = .ok (.iaload, 1) := by decide +kernel
theorem dX12_until_59 : decode cX12_until 59 = .ok (.iload_n 2, 1) := by decide +kernel
theorem dX12_until_60 : decode cX12_until 60 = .ok (.if_icmp .ne 19, 3) := by decide +kernel
theorem dX12_until_63 : decode cX12_until 63 = .ok (.aload_n 0, 1) := by decide +kernel
theorem dX12_until_64 : decode cX12_until 64 = .ok (.getfield 51, 3) := by decide +kernel
theorem dX12_until_67 : decode cX12_until 67 = .ok (.getfield 329, 3) := by decide +kernel
theorem dX12_until_70 : decode cX12_until 70 = .ok (.iload_n 1, 1) := by decide +kernel
theorem dX12_until_71 : decode cX12_until 71 = .ok (.iaload, 1) := by decide +kernel
theorem dX12_until_72 : decode cX12_until 72 = .ok (.iload_n 3, 1) := by decide +kernel
theorem dX12_until_73 : decode cX12_until 73 = .ok (.if_icmp .ne 6, 3) := by decide +kernel
theorem dX12_until_76 : decode cX12_until 76 = .ok (.iload 4, 2) := by decide +kernel
theorem dX12_until_78 : decode cX12_until 78 = .ok (.ireturn, 1) := by decide +kernel
theorem dX12_until_79 : decode cX12_until 79 = .ok (.aload_n 0, 1) := by decide +kernel
theorem dX12_until_80 : decode cX12_until 80 = .ok (.getfield 51, 3) := by decide +kernel
theorem dX12_until_83 : decode cX12_until 83 = .ok (.invokevirtual 370, 3) := by decide +kernel
theorem dX12_until_86 : decode cX12_until 86 = .ok (.iinc 4 1, 3) := by decide +kernel
theorem dX12_until_89 : decode cX12_until 89 = .ok (.goto (-47), 3) := by decide +kernel
theorem dX12_until_92 : decode cX12_until 92 = .ok (.iconst (-1), 1) := by decide +kernel
theorem dX12_until_93 : decode cX12_until 93 = .ok (.ireturn, 1) := by decide +kernel
set_option maxRecDepth 20000 in
theorem ggX12_found_X11_become : GoodIn wsX12_found wsX11_become := goodIn_r _ [8, 9, 10, 11, 12, 13, 14, 15, 16, 17, 18, 19, 20, 21, 22, 23, 24, 25, 7, 26, 27, 28, 29, 30, 123, 124, 125, 126, 127, 128, 129, 130, 131, 132, 133, 134, 135, 136, 137, 138] (by decide +kernel) (by decide +kernel)
set_option maxRecDepth 20000 in
theorem gX12_found_X11_become : GoodIn wsX12_found (wsV RX12 366 RX11 yX11_become wsX11_become) := goodIn_app (goodIn_of _ (by decide +kernel)) ggX12_found_X11_become
set_option maxRecDepth 20000 in
theorem ggX12_found_X11_isAnyOnHighway_c1 : GoodIn wsX12_found (.code yX11_isAnyOnHighway cX11_isAnyOnHighway 2 (some .boolean) :: [.fieldLink RX11 3 "FlagAntsModel$State" "this$0" "LFlagAntsModel;", .methodLink RX11 157 yX11_period, .instanceMethod yX11_period, .selects RX11 yX11_period yX11_period, .initialized RX11, .code yX11_period cX11_period 3 (some .int), .fieldLink RX11 43 "FlagAntsModel$State" "runs" "[I", .methodLink RX11 90 yX11_led, .instanceMethod yX11_led, .selects RX11 yX11_led yX11_led, .code yX11_led cX11_led 7 (some .int), .fieldLink RX11 40 "FlagAntsModel$State" "ring" "[I", .fieldLink RX11 37 "FlagAntsModel$State" "length" "[I"]) := goodIn_r _ [34, 35, 36, 37, 38, 7, 39, 22, 40, 41, 42, 43, 21, 20] (by decide +kernel) (by decide +kernel)
set_option maxRecDepth 20000 in
theorem ggX12_found_X11_isAnyOnHighway_c2 : GoodIn wsX12_found wsX110 := goodIn_r _ [123, 124, 125, 126, 127, 128, 129, 130, 131, 132, 133, 134, 135, 136, 137, 138] (by decide +kernel) (by decide +kernel)
set_option maxRecDepth 20000 in
theorem ggX12_found_X11_isAnyOnHighway_c3 : GoodIn wsX12_found wsX120 := goodIn_r _ [108, 109, 110, 111, 112, 113, 114, 115, 116, 117, 118, 119, 120, 121, 122] (by decide +kernel) (by decide +kernel)
set_option maxRecDepth 20000 in
theorem ggX12_found_X11_isAnyOnHighway_c4 : GoodIn wsX12_found wsX100 := goodIn_r _ [139, 140, 141, 142, 143, 144, 145, 146, 147, 148, 149, 150, 151, 152, 153, 154, 155, 156, 157, 158, 159, 160] (by decide +kernel) (by decide +kernel)
set_option maxRecDepth 20000 in
theorem ggX12_found_X11_isAnyOnHighway : GoodIn wsX12_found wsX11_isAnyOnHighway := (goodIn_ca (goodIn_ca (goodIn_ca ggX12_found_X11_isAnyOnHighway_c1 ggX12_found_X11_isAnyOnHighway_c2) ggX12_found_X11_isAnyOnHighway_c3) ggX12_found_X11_isAnyOnHighway_c4)
set_option maxRecDepth 20000 in
theorem gX12_found_X11_isAnyOnHighway : GoodIn wsX12_found (wsV RX12 372 RX11 yX11_isAnyOnHighway wsX11_isAnyOnHighway) := goodIn_app (goodIn_of _ (by decide +kernel)) ggX12_found_X11_isAnyOnHighway
set_option maxRecDepth 20000 in
theorem ggX12_found_X11_pass_c1 : GoodIn wsX12_found (.code yX11_pass cX11_pass 3 none :: wsX11_pass_r1) := goodIn_r _ [47, 35, 12, 18, 10, 9, 48, 49, 50, 7, 51, 52, 14, 53, 54, 55, 56, 57, 58, 59, 60, 61, 62, 63, 64] (by decide +kernel) (by decide +kernel)
set_option maxRecDepth 20000 in
theorem ggX12_found_X11_pass_c2 : GoodIn wsX12_found wsX11_pass_r2 := goodIn_r _ [65, 66, 15, 16, 36, 37, 38, 39, 22, 40, 41, 42, 43, 21, 20, 67, 68, 69, 70, 71, 72, 73, 74, 75] (by decide +kernel) (by decide +kernel)
set_option maxRecDepth 20000 in
theorem ggX12_found_X11_pass_c3 : GoodIn wsX12_found wsX11_pass_r3 := goodIn_r _ [76, 77, 78, 79, 80, 81, 82, 83, 84, 85, 86, 87, 17, 88, 89, 90, 91, 11, 92, 93, 94, 95, 13, 96] (by decide +kernel) (by decide +kernel)
set_option maxRecDepth 20000 in
theorem ggX12_found_X11_pass_c4 : GoodIn wsX12_found wsX11_pass_r4 := goodIn_r _ [97, 98, 99, 100, 101, 102, 103, 104, 105, 106, 107, 19] (by decide +kernel) (by decide +kernel)
set_option maxRecDepth 20000 in
theorem ggX12_found_X11_pass_c5 : GoodIn wsX12_found wsX110 := goodIn_r _ [123, 124, 125, 126, 127, 128, 129, 130, 131, 132, 133, 134, 135, 136, 137, 138] (by decide +kernel) (by decide +kernel)
set_option maxRecDepth 20000 in
theorem ggX12_found_X11_pass_c6 : GoodIn wsX12_found wsX120 := goodIn_r _ [108, 109, 110, 111, 112, 113, 114, 115, 116, 117, 118, 119, 120, 121, 122] (by decide +kernel) (by decide +kernel)
set_option maxRecDepth 20000 in
theorem ggX12_found_X11_pass_c7 : GoodIn wsX12_found wsX100 := goodIn_r _ [139, 140, 141, 142, 143, 144, 145, 146, 147, 148, 149, 150, 151, 152, 153, 154, 155, 156, 157, 158, 159, 160] (by decide +kernel) (by decide +kernel)
set_option maxRecDepth 20000 in
theorem ggX12_found_X11_pass : GoodIn wsX12_found wsX11_pass := (goodIn_ca (goodIn_ca (goodIn_ca (goodIn_ca ggX12_found_X11_pass_c1 (goodIn_app ggX12_found_X11_pass_c2 (goodIn_app ggX12_found_X11_pass_c3 ggX12_found_X11_pass_c4))) ggX12_found_X11_pass_c5) ggX12_found_X11_pass_c6) ggX12_found_X11_pass_c7)
set_option maxRecDepth 20000 in
theorem gX12_found_X11_pass : GoodIn wsX12_found (wsV RX12 370 RX11 yX11_pass wsX11_pass) := goodIn_app (goodIn_of _ (by decide +kernel)) ggX12_found_X11_pass
theorem dX12_found_0 : decode cX12_found 0 = .ok (.aload_n 0, 1) := by decide +kernel
theorem dX12_found_1 : decode cX12_found 1 = .ok (.iconst 0, 1) := by decide +kernel
theorem dX12_found_2 : decode cX12_found 2 = .ok (.putfield 57, 3) := by decide +kernel
theorem dX12_found_5 : decode cX12_found 5 = .ok (.aload_n 0, 1) := by decide +kernel
theorem dX12_found_6 : decode cX12_found 6 = .ok (.getfield 51, 3) := by decide +kernel
theorem dX12_found_9 : decode cX12_found 9 = .ok (.aload_n 0, 1) := by decide +kernel
theorem dX12_found_10 : decode cX12_found 10 = .ok (.getfield 47, 3) := by decide +kernel
theorem dX12_found_13 : decode cX12_found 13 = .ok (.invokevirtual 366, 3) := by decide +kernel
theorem dX12_found_16 : decode cX12_found 16 = .ok (.pop, 1) := by decide +kernel
theorem dX12_found_17 : decode cX12_found 17 = .ok (.iconst 0, 1) := by decide +kernel
theorem dX12_found_18 : decode cX12_found 18 = .ok (.istore_n 1, 1) := by decide +kernel
theorem dX12_found_19 : decode cX12_found 19 = .ok (.iload_n 1, 1) := by decide +kernel
theorem dX12_found_20 : decode cX12_found 20 = .ok (.sipush 2000, 3) := by decide +kernel
theorem dX12_found_23 : decode cX12_found 23 = .ok (.if_icmp .gt 28, 3) := by decide +kernel
theorem dX12_found_26 : decode cX12_found 26 = .ok (.aload_n 0, 1) := by decide +kernel
theorem dX12_found_27 : decode cX12_found 27 = .ok (.getfield 51, 3) := by decide +kernel
theorem dX12_found_30 : decode cX12_found 30 = .ok (.invokevirtual 372, 3) := by decide +kernel
theorem dX12_found_33 : decode cX12_found 33 = .ok (.ifCond .eq 5, 3) := by decide +kernel
theorem dX12_found_36 : decode cX12_found 36 = .ok (.iload_n 1, 1) := by decide +kernel
theorem dX12_found_37 : decode cX12_found 37 = .ok (.ireturn, 1) := by decide +kernel
theorem dX12_found_38 : decode cX12_found 38 = .ok (.aload_n 0, 1) := by decide +kernel
theorem dX12_found_39 : decode cX12_found 39 = .ok (.getfield 51, 3) := by decide +kernel
theorem dX12_found_42 : decode cX12_found 42 = .ok (.invokevirtual 370, 3) := by decide +kernel
theorem dX12_found_45 : decode cX12_found 45 = .ok (.iinc 1 1, 3) := by decide +kernel
theorem dX12_found_48 : decode cX12_found 48 = .ok (.goto (-29), 3) := by decide +kernel
theorem dX12_found_51 : decode cX12_found 51 = .ok (.iconst (-1), 1) := by decide +kernel
theorem dX12_found_52 : decode cX12_found 52 = .ok (.ireturn, 1) := by decide +kernel
set_option maxRecDepth 20000 in
theorem ggX12_advise_X12_isIn : GoodIn wsX12_advise wsX12_isIn := goodIn_r _ [7] (by decide +kernel) (by decide +kernel)
set_option maxRecDepth 20000 in
theorem gX12_advise_X12_isIn : GoodIn wsX12_advise (va_wsS RX12 60 yX12_isIn wsX12_isIn) := goodIn_app (goodIn_of _ (by decide +kernel)) ggX12_advise_X12_isIn
set_option maxRecDepth 20000 in
theorem ggX12_advise_X12_no : GoodIn wsX12_advise wsX12_no := goodIn_r _ [11, 1, 114, 115, 116, 117, 118, 119, 120, 121, 122, 123, 124, 125, 126, 127, 128] (by decide +kernel) (by decide +kernel)
set_option maxRecDepth 20000 in
theorem gX12_advise_X12_no : GoodIn wsX12_advise (wsV RX12 305 RX12 yX12_no wsX12_no) := goodIn_app (goodIn_of _ (by decide +kernel)) ggX12_advise_X12_no
set_option maxRecDepth 20000 in
theorem ggX12_advise_X11_become : GoodIn wsX12_advise wsX11_become := goodIn_r _ [16, 17, 18, 19, 20, 21, 22, 23, 24, 25, 26, 27, 28, 29, 30, 31, 32, 33, 15, 34, 35, 36, 37, 38, 129, 130, 131, 132, 133, 134, 135, 136, 137, 138, 139, 140, 141, 142, 143, 144] (by decide +kernel) (by decide +kernel)
set_option maxRecDepth 20000 in
theorem gX12_advise_X11_become : GoodIn wsX12_advise (wsV RX12 366 RX11 yX11_become wsX11_become) := goodIn_app (goodIn_of _ (by decide +kernel)) ggX12_advise_X11_become
set_option maxRecDepth 20000 in
theorem ggX12_advise_X11_pass__c1 : GoodIn wsX12_advise (.code yX11_pass_ cX11_pass_ 3 (some (.object "FlagAntsModel$State")) :: wsX11_pass__r1) := goodIn_r _ [42, 43, 44, 45, 15, 46, 47, 20, 26, 18, 17, 48, 49, 50, 51, 52, 22, 53, 54, 55, 56, 57, 6, 58, 4] (by decide +kernel) (by decide +kernel)
set_option maxRecDepth 20000 in
theorem ggX12_advise_X11_pass__c2 : GoodIn wsX12_advise wsX11_pass__r2 := goodIn_r _ [5, 7, 59, 60, 61, 62, 23, 24, 63, 64, 65, 66, 30, 67, 68, 69, 70, 29, 28, 71, 72, 73, 74, 75] (by decide +kernel) (by decide +kernel)
set_option maxRecDepth 20000 in
theorem ggX12_advise_X11_pass__c3 : GoodIn wsX12_advise wsX11_pass__r3 := goodIn_r _ [76, 77, 78, 79, 80, 81, 82, 83, 84, 85, 86, 87, 88, 89, 90, 91, 25, 92, 93, 94, 95, 19, 96, 97] (by decide +kernel) (by decide +kernel)
set_option maxRecDepth 20000 in
theorem ggX12_advise_X11_pass__c4 : GoodIn wsX12_advise wsX11_pass__r4 := goodIn_r _ [98, 99, 21, 100, 101, 102, 103, 104, 105, 106, 107, 108, 109, 110, 111, 27] (by decide +kernel) (by decide +kernel)
set_option maxRecDepth 20000 in
theorem ggX12_advise_X11_pass__c5 : GoodIn wsX12_advise wsX110 := goodIn_r _ [129, 130, 131, 132, 133, 134, 135, 136, 137, 138, 139, 140, 141, 142, 143, 144] (by decide +kernel) (by decide +kernel)
set_option maxRecDepth 20000 in
theorem ggX12_advise_X11_pass__c6 : GoodIn wsX12_advise wsX120 := goodIn_r _ [114, 115, 116, 117, 118, 119, 120, 121, 122, 123, 124, 125, 126, 127, 128] (by decide +kernel) (by decide +kernel)
set_option maxRecDepth 20000 in
theorem ggX12_advise_X11_pass__c7 : GoodIn wsX12_advise wsX100 := goodIn_r _ [145, 146, 147, 148, 149, 150, 151, 152, 153, 154, 155, 156, 157, 158, 159, 160, 161, 162, 163, 164, 165, 166] (by decide +kernel) (by decide +kernel)
set_option maxRecDepth 20000 in
theorem ggX12_advise_X11_pass_ : GoodIn wsX12_advise wsX11_pass_ := (goodIn_ca (goodIn_ca (goodIn_ca (goodIn_ca ggX12_advise_X11_pass__c1 (goodIn_app ggX12_advise_X11_pass__c2 (goodIn_app ggX12_advise_X11_pass__c3 ggX12_advise_X11_pass__c4))) ggX12_advise_X11_pass__c5) ggX12_advise_X11_pass__c6) ggX12_advise_X11_pass__c7)
set_option maxRecDepth 20000 in
theorem gX12_advise_X11_pass_ : GoodIn wsX12_advise (wsV RX12 362 RX11 yX11_pass_ wsX11_pass_) := goodIn_app (goodIn_of _ (by decide +kernel)) ggX12_advise_X11_pass_
set_option maxRecDepth 20000 in
theorem ggX12_advise_X11_dark : GoodIn wsX12_advise wsX11_dark := goodIn_r _ [56, 22, 129, 130, 131, 132, 133, 134, 135, 136, 137, 138, 139, 140, 141, 142, 143, 144] (by decide +kernel) (by decide +kernel)
set_option maxRecDepth 20000 in
theorem gX12_advise_X11_dark : GoodIn wsX12_advise (wsV RX12 359 RX11 yX11_dark wsX11_dark) := goodIn_app (goodIn_of _ (by decide +kernel)) ggX12_advise_X11_dark
set_option maxRecDepth 20000 in
theorem ggX12_advise_X11_wash : GoodIn wsX12_advise wsX11_wash := goodIn_r _ [95, 22, 19, 96, 97, 98, 15, 99, 21, 129, 130, 131, 132, 133, 134, 135, 136, 137, 138, 139, 140, 141, 142, 143, 144] (by decide +kernel) (by decide +kernel)
set_option maxRecDepth 20000 in
theorem gX12_advise_X11_wash : GoodIn wsX12_advise (wsV RX12 353 RX11 yX11_wash wsX11_wash) := goodIn_app (goodIn_of _ (by decide +kernel)) ggX12_advise_X11_wash
theorem dX12_advise_0 : decode cX12_advise 0 = .ok (.aload_n 0, 1) := by decide +kernel
theorem dX12_advise_1 : decode cX12_advise 1 = .ok (.iconst 0, 1) := by decide +kernel
theorem dX12_advise_2 : decode cX12_advise 2 = .ok (.putfield 57, 3) := by decide +kernel
theorem dX12_advise_5 : decode cX12_advise 5 = .ok (.iload_n 1, 1) := by decide +kernel
theorem dX12_advise_6 : decode cX12_advise 6 = .ok (.iconst 1, 1) := by decide +kernel
theorem dX12_advise_7 : decode cX12_advise 7 = .ok (.sipush 300, 3) := by decide +kernel
theorem dX12_advise_10 : decode cX12_advise 10 = .ok (.invokestatic 60, 3) := by decide +kernel
theorem dX12_advise_13 : decode cX12_advise 13 = .ok (.ifCond .ne 9, 3) := by decide +kernel
theorem dX12_advise_16 : decode cX12_advise 16 = .ok (.aload_n 0, 1) := by decide +kernel
theorem dX12_advise_17 : decode cX12_advise 17 = .ok (.iconst 1, 1) := by decide +kernel
theorem dX12_advise_18 : decode cX12_advise 18 = .ok (.invokevirtual 305, 3) := by decide +kernel
theorem dX12_advise_21 : decode cX12_advise 21 = .ok (.ireturn, 1) := by decide +kernel
theorem dX12_advise_22 : decode cX12_advise 22 = .ok (.iconst (-1), 1) := by decide +kernel
theorem dX12_advise_23 : decode cX12_advise 23 = .ok (.istore_n 2, 1) := by decide +kernel
theorem dX12_advise_24 : decode cX12_advise 24 = .ok (.aload_n 0, 1) := by decide +kernel
theorem dX12_advise_25 : decode cX12_advise 25 = .ok (.getfield 51, 3) := by decide +kernel
theorem dX12_advise_28 : decode cX12_advise 28 = .ok (.aload_n 0, 1) := by decide +kernel
theorem dX12_advise_29 : decode cX12_advise 29 = .ok (.getfield 47, 3) := by decide +kernel
theorem dX12_advise_32 : decode cX12_advise 32 = .ok (.invokevirtual 366, 3) := by decide +kernel
theorem dX12_advise_35 : decode cX12_advise 35 = .ok (.iload_n 1, 1) := by decide +kernel
theorem dX12_advise_36 : decode cX12_advise 36 = .ok (.invokevirtual 362, 3) := by decide +kernel
theorem dX12_advise_39 : decode cX12_advise 39 = .ok (.invokevirtual 359, 3) := by decide +kernel
theorem dX12_advise_42 : decode cX12_advise 42 = .ok (.istore_n 3, 1) := by decide +kernel
theorem dX12_advise_43 : decode cX12_advise 43 = .ok (.iconst 0, 1) := by decide +kernel
theorem dX12_advise_44 : decode cX12_advise 44 = .ok (.istore 4, 2) := by decide +kernel
theorem dX12_advise_46 : decode cX12_advise 46 = .ok (.iload 4, 2) := by decide +kernel
theorem dX12_advise_48 : decode cX12_advise 48 = .ok (.bipush 64, 2) := by decide +kernel
theorem dX12_advise_50 : decode cX12_advise 50 = .ok (.if_icmp .ge 59, 3) := by decide +kernel
theorem dX12_advise_53 : decode cX12_advise 53 = .ok (.aload_n 0, 1) := by decide +kernel
theorem dX12_advise_54 : decode cX12_advise 54 = .ok (.getfield 51, 3) := by decide +kernel
theorem dX12_advise_57 : decode cX12_advise 57 = .ok (.aload_n 0, 1) := by decide +kernel
theorem dX12_advise_58 : decode cX12_advise 58 = .ok (.getfield 47, 3) := by decide +kernel
theorem dX12_advise_61 : decode cX12_advise 61 = .ok (.invokevirtual 366, 3) := by decide +kernel
theorem dX12_advise_64 : decode cX12_advise 64 = .ok (.iload 4, 2) := by decide +kernel
theorem dX12_advise_66 : decode cX12_advise 66 = .ok (.iload 4, 2) := by decide +kernel
theorem dX12_advise_68 : decode cX12_advise 68 = .ok (.bipush 7, 2) := by decide +kernel
theorem dX12_advise_70 : decode cX12_advise 70 = .ok (.iadd, 1) := by decide +kernel
theorem dX12_advise_71 : decode cX12_advise 71 = .ok (.invokevirtual 353, 3) := by decide +kernel
theorem dX12_advise_74 : decode cX12_advise 74 = .ok (.pop, 1) := by decide +kernel
theorem dX12_advise_75 : decode cX12_advise 75 = .ok (.aload_n 0, 1) := by decide +kernel
theorem dX12_advise_76 : decode cX12_advise 76 = .ok (.getfield 51, 3) := by decide +kernel
theorem dX12_advise_79 : decode cX12_advise 79 = .ok (.iload_n 1, 1) := by decide +kernel
theorem dX12_advise_80 : decode cX12_advise 80 = .ok (.invokevirtual 362, 3) := by decide +kernel
theorem dX12_advise_83 : decode cX12_advise 83 = .ok (.invokevirtual 359, 3) := by decide +kernel
theorem dX12_advise_86 : decode cX12_advise 86 = .ok (.istore 5, 2) := by decide +kernel
theorem dX12_advise_88 : decode cX12_advise 88 = .ok (.iload 5, 2) := by decide +kernel
theorem dX12_advise_90 : decode cX12_advise 90 = .ok (.iload_n 3, 1) := by decide +kernel
theorem dX12_advise_91 : decode cX12_advise 91 = .ok (.if_icmp .lt 6, 3) := by decide +kernel
theorem dX12_advise_94 : decode cX12_advise 94 = .ok (.goto 9, 3) := by decide +kernel
theorem dX12_advise_97 : decode cX12_advise 97 = .ok (.iload 4, 2) := by decide +kernel
theorem dX12_advise_99 : decode cX12_advise 99 = .ok (.istore_n 2, 1) := by decide +kernel
theorem dX12_advise_100 : decode cX12_advise 100 = .ok (.iload 5, 2) := by decide +kernel
theorem dX12_advise_102 : decode cX12_advise 102 = .ok (.istore_n 3, 1) := by decide +kernel
theorem dX12_advise_103 : decode cX12_advise 103 = .ok (.iinc 4 8, 3) := by decide +kernel
theorem dX12_advise_106 : decode cX12_advise 106 = .ok (.goto (-60), 3) := by decide +kernel
theorem dX12_advise_109 : decode cX12_advise 109 = .ok (.iload_n 2, 1) := by decide +kernel
theorem dX12_advise_110 : decode cX12_advise 110 = .ok (.ireturn, 1) := by decide +kernel
set_option maxRecDepth 20000 in
theorem ggX12_mean_X11_sum : GoodIn wsX12_mean wsX11_sum := goodIn_r _ [7, 8, 24, 25, 26, 27, 28, 29, 30, 31, 32, 33, 34, 35, 36, 37, 38, 39] (by decide +kernel) (by decide +kernel)
set_option maxRecDepth 20000 in
theorem gX12_mean_X11_sum_n375 : GoodIn wsX12_mean (wsX11_sum) := ggX12_mean_X11_sum
theorem dX12_mean_0 : decode cX12_mean 0 = .ok (.aload_n 0, 1) := by decide +kernel
theorem dX12_mean_1 : decode cX12_mean 1 = .ok (.iconst 0, 1) := by decide +kernel
theorem dX12_mean_2 : decode cX12_mean 2 = .ok (.putfield 57, 3) := by decide +kernel
theorem dX12_mean_5 : decode cX12_mean 5 = .ok (.aload_n 0, 1) := by decide +kernel
theorem dX12_mean_6 : decode cX12_mean 6 = .ok (.getfield 47, 3) := by decide +kernel
theorem dX12_mean_9 : decode cX12_mean 9 = .ok (.invokevirtual 375, 3) := by decide +kernel
theorem dX12_mean_12 : decode cX12_mean 12 = .ok (.i2d, 1) := by decide +kernel
theorem dX12_mean_13 : decode cX12_mean 13 = .ok (.ldc2_w 378, 3) := by decide +kernel
theorem dX12_mean_16 : decode cX12_mean 16 = .ok (.ddiv, 1) := by decide +kernel
theorem dX12_mean_17 : decode cX12_mean 17 = .ok (.dreturn, 1) := by decide +kernel
set_option maxRecDepth 20000 in
theorem ggX12_digest_X12_counted_c1 : GoodIn wsX12_digest (.code yX12_counted cX12_counted 3 (some .int) :: wsX12_counted_r1) := goodIn_r _ [10, 5, 11, 4, 12, 13, 14, 9, 15, 16, 17, 18, 19, 20, 21, 22, 23, 24, 25, 26, 27, 28, 29, 30, 31] (by decide +kernel) (by decide +kernel)
set_option maxRecDepth 20000 in
theorem ggX12_digest_X12_counted_c2 : GoodIn wsX12_digest wsX12_counted_r2 := goodIn_r _ [32, 33, 34, 35, 36, 37, 38, 39] (by decide +kernel) (by decide +kernel)
set_option maxRecDepth 20000 in
theorem ggX12_digest_X12_counted_c3 : GoodIn wsX12_digest wsX120 := goodIn_r _ [56, 57, 58, 59, 60, 61, 62, 63, 64, 65, 66, 67, 68, 69, 70] (by decide +kernel) (by decide +kernel)
set_option maxRecDepth 20000 in
theorem ggX12_digest_X12_counted_c4 : GoodIn wsX12_digest wsX110 := goodIn_r _ [93, 94, 95, 96, 97, 98, 99, 100, 101, 102, 103, 104, 105, 106, 107, 108] (by decide +kernel) (by decide +kernel)
set_option maxRecDepth 20000 in
theorem ggX12_digest_X12_counted_c5 : GoodIn wsX12_digest wsX100 := goodIn_r _ [71, 72, 73, 74, 75, 76, 77, 78, 79, 80, 81, 82, 83, 84, 85, 86, 87, 88, 89, 90, 91, 92] (by decide +kernel) (by decide +kernel)
set_option maxRecDepth 20000 in
theorem ggX12_digest_X12_counted : GoodIn wsX12_digest wsX12_counted := (goodIn_ca (goodIn_ca (goodIn_ca (goodIn_ca ggX12_digest_X12_counted_c1 ggX12_digest_X12_counted_c2) ggX12_digest_X12_counted_c3) ggX12_digest_X12_counted_c4) ggX12_digest_X12_counted_c5)
set_option maxRecDepth 20000 in
theorem gX12_digest_X12_counted : GoodIn wsX12_digest (wsV RX12 317 RX12 yX12_counted wsX12_counted) := goodIn_app (goodIn_of _ (by decide +kernel)) ggX12_digest_X12_counted
set_option maxRecDepth 20000 in
theorem ggX12_digest_X12_antTold_c1 : GoodIn wsX12_digest (.code yX12_antTold cX12_antTold 3 (some .int) :: [.fieldLink RX12 35 "FlagAntsModel" "plan" "LFlagAntsModel$Plan;", .fieldLink RX12 47 "FlagAntsModel" "s" "LFlagAntsModel$State;", .methodLink RX12 337 yX11_period, .instanceMethod yX11_period, .selects RX11 yX11_period yX11_period, .initialized RX11, .code yX11_period cX11_period 3 (some .int), .fieldLink RX11 43 "FlagAntsModel$State" "runs" "[I", .methodLink RX11 90 yX11_led, .instanceMethod yX11_led, .selects RX11 yX11_led yX11_led, .code yX11_led cX11_led 7 (some .int), .fieldLink RX11 40 "FlagAntsModel$State" "ring" "[I", .fieldLink RX11 37 "FlagAntsModel$State" "length" "[I", .methodLink RX12 340 yX11_led]) := goodIn_r _ [43, 4, 5, 44, 45, 46, 19, 47, 48, 49, 50, 51, 52, 53, 54, 55] (by decide +kernel) (by decide +kernel)
set_option maxRecDepth 20000 in
theorem ggX12_digest_X12_antTold_c2 : GoodIn wsX12_digest wsX120 := goodIn_r _ [56, 57, 58, 59, 60, 61, 62, 63, 64, 65, 66, 67, 68, 69, 70] (by decide +kernel) (by decide +kernel)
set_option maxRecDepth 20000 in
theorem ggX12_digest_X12_antTold_c3 : GoodIn wsX12_digest wsX100 := goodIn_r _ [71, 72, 73, 74, 75, 76, 77, 78, 79, 80, 81, 82, 83, 84, 85, 86, 87, 88, 89, 90, 91, 92] (by decide +kernel) (by decide +kernel)
set_option maxRecDepth 20000 in
theorem ggX12_digest_X12_antTold_c4 : GoodIn wsX12_digest wsX110 := goodIn_r _ [93, 94, 95, 96, 97, 98, 99, 100, 101, 102, 103, 104, 105, 106, 107, 108] (by decide +kernel) (by decide +kernel)
set_option maxRecDepth 20000 in
theorem ggX12_digest_X12_antTold : GoodIn wsX12_digest wsX12_antTold := (goodIn_ca (goodIn_ca (goodIn_ca ggX12_digest_X12_antTold_c1 ggX12_digest_X12_antTold_c2) ggX12_digest_X12_antTold_c3) ggX12_digest_X12_antTold_c4)
set_option maxRecDepth 20000 in
theorem gX12_digest_X12_antTold : GoodIn wsX12_digest (wsV RX12 346 RX12 yX12_antTold wsX12_antTold) := goodIn_app (goodIn_of _ (by decide +kernel)) ggX12_digest_X12_antTold
theorem dX12_digest_0 : decode cX12_digest 0 = .ok (.aload_n 0, 1) := by decide +kernel
theorem dX12_digest_1 : decode cX12_digest 1 = .ok (.iconst 0, 1) := by decide +kernel
theorem dX12_digest_2 : decode cX12_digest 2 = .ok (.putfield 57, 3) := by decide +kernel
theorem dX12_digest_5 : decode cX12_digest 5 = .ok (.ldc2_w 380, 3) := by decide +kernel
theorem dX12_digest_8 : decode cX12_digest 8 = .ok (.lstore_n 1, 1) := by decide +kernel
theorem dX12_digest_9 : decode cX12_digest 9 = .ok (.iconst 0, 1) := by decide +kernel
theorem dX12_digest_10 : decode cX12_digest 10 = .ok (.istore_n 3, 1) := by decide +kernel
theorem dX12_digest_11 : decode cX12_digest 11 = .ok (.iload_n 3, 1) := by decide +kernel
theorem dX12_digest_12 : decode cX12_digest 12 = .ok (.bipush 10, 2) := by decide +kernel
theorem dX12_digest_14 : decode cX12_digest 14 = .ok (.if_icmp .gt 22, 3) := by decide +kernel
theorem dX12_digest_17 : decode cX12_digest 17 = .ok (.lload_n 1, 1) := by decide +kernel
theorem dX12_digest_18 : decode cX12_digest 18 = .ok (.ldc2_w 382, 3) := by decide +kernel
theorem dX12_digest_21 : decode cX12_digest 21 = .ok (.lmul, 1) := by decide +kernel
theorem dX12_digest_22 : decode cX12_digest 22 = .ok (.aload_n 0, 1) := by decide +kernel
theorem dX12_digest_23 : decode cX12_digest 23 = .ok (.iload_n 3, 1) := by decide +kernel
theorem dX12_digest_24 : decode cX12_digest 24 = .ok (.invokevirtual 317, 3) := by decide +kernel
theorem dX12_digest_27 : decode cX12_digest 27 = .ok (.i2l, 1) := by decide +kernel
theorem dX12_digest_28 : decode cX12_digest 28 = .ok (.ladd, 1) := by decide +kernel
theorem dX12_digest_29 : decode cX12_digest 29 = .ok (.lstore_n 1, 1) := by decide +kernel
theorem dX12_digest_30 : decode cX12_digest 30 = .ok (.iinc 3 1, 3) := by decide +kernel
theorem dX12_digest_33 : decode cX12_digest 33 = .ok (.goto (-22), 3) := by decide +kernel
theorem dX12_digest_36 : decode cX12_digest 36 = .ok (.iconst 0, 1) := by decide +kernel
theorem dX12_digest_37 : decode cX12_digest 37 = .ok (.istore_n 3, 1) := by decide +kernel
theorem dX12_digest_38 : decode cX12_digest 38 = .ok (.iload_n 3, 1) := by decide +kernel
theorem dX12_digest_39 : decode cX12_digest 39 = .ok (.aload_n 0, 1) := by decide +kernel
theorem dX12_digest_40 : decode cX12_digest 40 = .ok (.getfield 35, 3) := by decide +kernel
theorem dX12_digest_43 : decode cX12_digest 43 = .ok (.getfield 220, 3) := by decide +kernel
theorem dX12_digest_46 : decode cX12_digest 46 = .ok (.if_icmp .ge 57, 3) := by decide +kernel
theorem dX12_digest_49 : decode cX12_digest 49 = .ok (.iconst 0, 1) := by decide +kernel
theorem dX12_digest_50 : decode cX12_digest 50 = .ok (.istore 4, 2) := by decide +kernel
theorem dX12_digest_52 : decode cX12_digest 52 = .ok (.iload 4, 2) := by decide +kernel
theorem dX12_digest_54 : decode cX12_digest 54 = .ok (.iconst 5, 1) := by decide +kernel
theorem dX12_digest_55 : decode cX12_digest 55 = .ok (.if_icmp .gt 42, 3) := by decide +kernel
theorem dX12_digest_58 : decode cX12_digest 58 = .ok (.lload_n 1, 1) := by decide +kernel
theorem dX12_digest_59 : decode cX12_digest 59 = .ok (.ldc2_w 382, 3) := by decide +kernel
theorem dX12_digest_62 : decode cX12_digest 62 = .ok (.lmul, 1) := by decide +kernel
theorem dX12_digest_63 : decode cX12_digest 63 = .ok (.aload_n 0, 1) := by decide +kernel
theorem dX12_digest_64 : decode cX12_digest 64 = .ok (.getfield 35, 3) := by decide +kernel
theorem dX12_digest_67 : decode cX12_digest 67 = .ok (.getfield 230, 3) := by decide +kernel
theorem dX12_digest_70 : decode cX12_digest 70 = .ok (.bipush 6, 2) := by decide +kernel
theorem dX12_digest_72 : decode cX12_digest 72 = .ok (.iload_n 3, 1) := by decide +kernel
theorem dX12_digest_73 : decode cX12_digest 73 = .ok (.imul, 1) := by decide +kernel
theorem dX12_digest_74 : decode cX12_digest 74 = .ok (.iload 4, 2) := by decide +kernel
theorem dX12_digest_76 : decode cX12_digest 76 = .ok (.aload_n 0, 1) := by decide +kernel
theorem dX12_digest_77 : decode cX12_digest 77 = .ok (.getfield 35, 3) := by decide +kernel
theorem dX12_digest_80 : decode cX12_digest 80 = .ok (.getfield 227, 3) := by decide +kernel
theorem dX12_digest_83 : decode cX12_digest 83 = .ok (.iload_n 3, 1) := by decide +kernel
theorem dX12_digest_84 : decode cX12_digest 84 = .ok (.iaload, 1) := by decide +kernel
theorem dX12_digest_85 : decode cX12_digest 85 = .ok (.irem, 1) := by decide +kernel
theorem dX12_digest_86 : decode cX12_digest 86 = .ok (.iadd, 1) := by decide +kernel
theorem dX12_digest_87 : decode cX12_digest 87 = .ok (.iaload, 1) := by decide +kernel
theorem dX12_digest_88 : decode cX12_digest 88 = .ok (.i2l, 1) := by decide +kernel
theorem dX12_digest_89 : decode cX12_digest 89 = .ok (.ladd, 1) := by decide +kernel
theorem dX12_digest_90 : decode cX12_digest 90 = .ok (.lstore_n 1, 1) := by decide +kernel
theorem dX12_digest_91 : decode cX12_digest 91 = .ok (.iinc 4 1, 3) := by decide +kernel
theorem dX12_digest_94 : decode cX12_digest 94 = .ok (.goto (-42), 3) := by decide +kernel
theorem dX12_digest_97 : decode cX12_digest 97 = .ok (.iinc 3 1, 3) := by decide +kernel
theorem dX12_digest_100 : decode cX12_digest 100 = .ok (.goto (-62), 3) := by decide +kernel
theorem dX12_digest_103 : decode cX12_digest 103 = .ok (.iconst 0, 1) := by decide +kernel
theorem dX12_digest_104 : decode cX12_digest 104 = .ok (.istore_n 3, 1) := by decide +kernel
theorem dX12_digest_105 : decode cX12_digest 105 = .ok (.iload_n 3, 1) := by decide +kernel
theorem dX12_digest_106 : decode cX12_digest 106 = .ok (.aload_n 0, 1) := by decide +kernel
theorem dX12_digest_107 : decode cX12_digest 107 = .ok (.getfield 35, 3) := by decide +kernel
theorem dX12_digest_110 : decode cX12_digest 110 = .ok (.getfield 64, 3) := by decide +kernel
theorem dX12_digest_113 : decode cX12_digest 113 = .ok (.if_icmp .ge 40, 3) := by decide +kernel
theorem dX12_digest_116 : decode cX12_digest 116 = .ok (.iconst 0, 1) := by decide +kernel
theorem dX12_digest_117 : decode cX12_digest 117 = .ok (.istore 4, 2) := by decide +kernel
theorem dX12_digest_119 : decode cX12_digest 119 = .ok (.iload 4, 2) := by decide +kernel
theorem dX12_digest_121 : decode cX12_digest 121 = .ok (.bipush 8, 2) := by decide +kernel
theorem dX12_digest_123 : decode cX12_digest 123 = .ok (.if_icmp .gt 24, 3) := by decide +kernel
theorem dX12_digest_126 : decode cX12_digest 126 = .ok (.lload_n 1, 1) := by decide +kernel
theorem dX12_digest_127 : decode cX12_digest 127 = .ok (.ldc2_w 382, 3) := by decide +kernel
theorem dX12_digest_130 : decode cX12_digest 130 = .ok (.lmul, 1) := by decide +kernel
theorem dX12_digest_131 : decode cX12_digest 131 = .ok (.aload_n 0, 1) := by decide +kernel
theorem dX12_digest_132 : decode cX12_digest 132 = .ok (.iload_n 3, 1) := by decide +kernel
theorem dX12_digest_133 : decode cX12_digest 133 = .ok (.iload 4, 2) := by decide +kernel
theorem dX12_digest_135 : decode cX12_digest 135 = .ok (.invokevirtual 346, 3) := by decide +kernel
theorem dX12_digest_138 : decode cX12_digest 138 = .ok (.i2l, 1) := by decide +kernel
theorem dX12_digest_139 : decode cX12_digest 139 = .ok (.ladd, 1) := by decide +kernel
theorem dX12_digest_140 : decode cX12_digest 140 = .ok (.lstore_n 1, 1) := by decide +kernel
theorem dX12_digest_141 : decode cX12_digest 141 = .ok (.iinc 4 1, 3) := by decide +kernel
theorem dX12_digest_144 : decode cX12_digest 144 = .ok (.goto (-25), 3) := by decide +kernel
theorem dX12_digest_147 : decode cX12_digest 147 = .ok (.iinc 3 1, 3) := by decide +kernel
theorem dX12_digest_150 : decode cX12_digest 150 = .ok (.goto (-45), 3) := by decide +kernel
theorem dX12_digest_153 : decode cX12_digest 153 = .ok (.aload_n 0, 1) := by decide +kernel
theorem dX12_digest_154 : decode cX12_digest 154 = .ok (.getfield 47, 3) := by decide +kernel
theorem dX12_digest_157 : decode cX12_digest 157 = .ok (.getfield 321, 3) := by decide +kernel
theorem dX12_digest_160 : decode cX12_digest 160 = .ok (.astore_n 3, 1) := by decide +kernel
theorem dX12_digest_161 : decode cX12_digest 161 = .ok (.aload_n 3, 1) := by decide +kernel
theorem dX12_digest_162 : decode cX12_digest 162 = .ok (.arraylength, 1) := by decide +kernel
theorem dX12_digest_163 : decode cX12_digest 163 = .ok (.istore 4, 2) := by decide +kernel
theorem dX12_digest_165 : decode cX12_digest 165 = .ok (.iconst 0, 1) := by decide +kernel
theorem dX12_digest_166 : decode cX12_digest 166 = .ok (.istore 5, 2) := by decide +kernel
theorem dX12_digest_168 : decode cX12_digest 168 = .ok (.iload 5, 2) := by decide +kernel
theorem dX12_digest_170 : decode cX12_digest 170 = .ok (.iload 4, 2) := by decide +kernel
theorem dX12_digest_172 : decode cX12_digest 172 = .ok (.if_icmp .ge 25, 3) := by decide +kernel
theorem dX12_digest_175 : decode cX12_digest 175 = .ok (.aload_n 3, 1) := by decide +kernel
theorem dX12_digest_176 : decode cX12_digest 176 = .ok (.iload 5, 2) := by decide +kernel
theorem dX12_digest_178 : decode cX12_digest 178 = .ok (.iaload, 1) := by decide +kernel
theorem dX12_digest_179 : decode cX12_digest 179 = .ok (.istore 6, 2) := by decide +kernel
theorem dX12_digest_181 : decode cX12_digest 181 = .ok (.lload_n 1, 1) := by decide +kernel
theorem dX12_digest_182 : decode cX12_digest 182 = .ok (.ldc2_w 382, 3) := by decide +kernel
theorem dX12_digest_185 : decode cX12_digest 185 = .ok (.lmul, 1) := by decide +kernel
theorem dX12_digest_186 : decode cX12_digest 186 = .ok (.iload 6, 2) := by decide +kernel
theorem dX12_digest_188 : decode cX12_digest 188 = .ok (.i2l, 1) := by decide +kernel
theorem dX12_digest_189 : decode cX12_digest 189 = .ok (.ladd, 1) := by decide +kernel
theorem dX12_digest_190 : decode cX12_digest 190 = .ok (.lstore_n 1, 1) := by decide +kernel
theorem dX12_digest_191 : decode cX12_digest 191 = .ok (.iinc 5 1, 3) := by decide +kernel
theorem dX12_digest_194 : decode cX12_digest 194 = .ok (.goto (-26), 3) := by decide +kernel
theorem dX12_digest_197 : decode cX12_digest 197 = .ok (.lload_n 1, 1) := by decide +kernel
theorem dX12_digest_198 : decode cX12_digest 198 = .ok (.lreturn, 1) := by decide +kernel
