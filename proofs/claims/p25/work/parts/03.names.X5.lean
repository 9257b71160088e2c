set_option maxRecDepth 20000 in
theorem ggX5_init_X4_init : GoodIn wsX5_init wsX4_init := goodIn_r _ [10, 11, 2, 3, 12, 13, 14, 15] (by decide +kernel) (by decide +kernel)
set_option maxRecDepth 20000 in
theorem gX5_init_X4_init_n9 : GoodIn wsX5_init (wsX4_init) := ggX5_init_X4_init
theorem dX5_init_0 : decode cX5_init 0 = .ok (.aload_n 0, 1) := by decide +kernel
theorem dX5_init_1 : decode cX5_init 1 = .ok (.invokespecial 1, 3) := by decide +kernel
theorem dX5_init_4 : decode cX5_init 4 = .ok (.aload_n 0, 1) := by decide +kernel
theorem dX5_init_5 : decode cX5_init 5 = .ok (.new 7, 3) := by decide +kernel
theorem dX5_init_8 : decode cX5_init 8 = .ok (.dup, 1) := by decide +kernel
theorem dX5_init_9 : decode cX5_init 9 = .ok (.invokespecial 9, 3) := by decide +kernel
theorem dX5_init_12 : decode cX5_init 12 = .ok (.putfield 10, 3) := by decide +kernel
theorem dX5_init_15 : decode cX5_init 15 = .ok (.aload_n 0, 1) := by decide +kernel
theorem dX5_init_16 : decode cX5_init 16 = .ok (.aload_n 1, 1) := by decide +kernel
theorem dX5_init_17 : decode cX5_init 17 = .ok (.putfield 16, 3) := by decide +kernel
theorem dX5_init_20 : decode cX5_init 20 = .ok (.return_, 1) := by decide +kernel
set_option maxRecDepth 20000 in
theorem ggX5_makeSteps_X5_makeStep : GoodIn wsX5_makeSteps wsX5_makeStep := goodIn_r _ [5, 6, 7, 8, 9, 10, 11, 12, 13, 14, 15, 16, 17, 18, 19, 20, 21, 22, 23, 24, 25, 26, 27, 28, 29, 30, 31, 32, 33, 34, 35, 36, 37, 38, 39, 40, 41, 42, 43, 44, 45, 46, 47, 48, 49, 50, 51, 52, 53, 54, 55, 56, 57, 58, 59, 60, 61, 62, 63, 64, 65, 66, 67, 68, 69, 70, 71, 72, 73, 74, 75, 76, 77, 78, 79, 80, 81, 82, 83, 84, 85, 86, 87, 88, 89, 90, 91, 92, 93, 94, 95, 96, 97, 98, 99, 100, 101, 4, 102, 103, 104, 105, 106, 107, 108, 109, 110, 111, 112, 113, 114, 115, 116, 117, 118, 119, 120, 121, 122, 123, 124, 125, 126, 127, 128, 129, 130, 131, 132, 133, 134, 135, 136, 137, 138, 139, 140, 141, 142, 143, 144, 145, 146, 147, 148, 149, 150, 151, 152, 153, 154, 155, 156, 157, 158, 159, 160, 161, 162, 163, 164, 165, 166, 167, 168, 169, 170, 171, 172, 173, 174, 175, 176, 177, 178, 179, 180, 181, 182, 183, 184, 185, 186, 187, 188, 189, 190, 191, 192, 193, 194, 195, 196, 197, 198, 199, 200, 201, 202, 203, 204, 205, 206, 207] (by decide +kernel) (by decide +kernel)
set_option maxRecDepth 20000 in
theorem gX5_makeSteps_X5_makeStep : GoodIn wsX5_makeSteps (wsV RX5 20 RX5 yX5_makeStep wsX5_makeStep) := goodIn_app (goodIn_of _ (by decide +kernel)) ggX5_makeSteps_X5_makeStep
theorem dX5_makeSteps_0 : decode cX5_makeSteps 0 = .ok (.iconst 0, 1) := by decide +kernel
theorem dX5_makeSteps_1 : decode cX5_makeSteps 1 = .ok (.istore_n 3, 1) := by decide +kernel
theorem dX5_makeSteps_2 : decode cX5_makeSteps 2 = .ok (.iload_n 3, 1) := by decide +kernel
theorem dX5_makeSteps_3 : decode cX5_makeSteps 3 = .ok (.iload_n 2, 1) := by decide +kernel
theorem dX5_makeSteps_4 : decode cX5_makeSteps 4 = .ok (.if_icmp .ge 14, 3) := by decide +kernel
theorem dX5_makeSteps_7 : decode cX5_makeSteps 7 = .ok (.aload_n 0, 1) := by decide +kernel
theorem dX5_makeSteps_8 : decode cX5_makeSteps 8 = .ok (.aload_n 1, 1) := by decide +kernel
theorem dX5_makeSteps_9 : decode cX5_makeSteps 9 = .ok (.invokevirtual 20, 3) := by decide +kernel
theorem dX5_makeSteps_12 : decode cX5_makeSteps 12 = .ok (.iinc 3 1, 3) := by decide +kernel
theorem dX5_makeSteps_15 : decode cX5_makeSteps 15 = .ok (.goto (-13), 3) := by decide +kernel
theorem dX5_makeSteps_18 : decode cX5_makeSteps 18 = .ok (.return_, 1) := by decide +kernel
set_option maxRecDepth 20000 in
theorem ggX5_makeStep_X4_holds : GoodIn wsX5_makeStep wsX4_holds := goodIn_r _ [13, 14, 15, 16, 17, 18, 19, 20, 12, 21, 22, 23, 24, 25, 26, 27, 28, 29, 30, 31, 32, 33, 34, 35, 36, 37, 38, 39, 40, 41, 42, 43, 44, 45, 46, 47, 48, 49, 50, 51, 52, 53, 54, 55, 56, 57, 58, 59, 60, 61, 62, 63, 64, 65, 66, 67, 68, 69, 70, 71, 72, 73, 74, 75, 76, 77, 78, 79, 80, 81, 82, 83, 84, 85, 86, 87, 88, 89, 90, 91, 92, 93, 202, 203, 173, 174, 175, 176, 177, 178, 179, 180, 181, 182, 183, 184, 185, 186, 187, 188, 189, 190, 191, 192, 193, 194, 195, 196, 197, 198, 199, 200, 201] (by decide +kernel) (by decide +kernel)
set_option maxRecDepth 20000 in
theorem gX5_makeStep_X4_holds : GoodIn wsX5_makeStep (wsV RX5 30 RX4 yX4_holds wsX4_holds) := goodIn_app (goodIn_of _ (by decide +kernel)) ggX5_makeStep_X4_holds
set_option maxRecDepth 20000 in
theorem ggX5_makeStep_X5_carryOut : GoodIn wsX5_makeStep wsX5_carryOut := goodIn_r _ [98, 1, 99, 100, 101, 6, 7, 102, 103, 104, 31, 105, 106, 92, 89, 93, 42, 107, 108, 29, 30, 32, 33, 109, 110, 111, 112, 113, 114, 115, 116, 117, 118, 119, 120, 121, 122, 123, 124, 125, 44, 45, 46, 47, 126, 127, 97, 128, 129, 130, 131, 132, 58, 133, 134, 135, 136, 137, 138, 61, 60, 171, 172, 173, 174, 175, 176, 177, 178, 179, 180, 181, 182, 183, 184, 185, 186, 187, 188, 189, 190, 191, 192, 193, 194, 195, 196, 197, 198, 199, 200, 201] (by decide +kernel) (by decide +kernel)
set_option maxRecDepth 20000 in
theorem gX5_makeStep_X5_carryOut : GoodIn wsX5_makeStep (wsV RX5 34 RX5 yX5_carryOut wsX5_carryOut) := goodIn_app (goodIn_of _ (by decide +kernel)) ggX5_makeStep_X5_carryOut
set_option maxRecDepth 20000 in
theorem ggX5_makeStep_X5_moveAnt : GoodIn wsX5_makeStep wsX5_moveAnt := goodIn_r _ [142, 1, 143, 144, 79, 80, 58, 81, 82, 83, 145, 119, 120, 31, 121, 117, 146, 147, 148, 149, 150, 151, 152, 153, 154, 155, 156, 157, 158, 159, 114, 115, 116, 33, 42, 118, 122, 123, 124, 160, 161, 162, 163, 134, 164, 62, 63, 68, 61, 165, 60, 171, 172, 193, 194, 195, 196, 197, 198, 199, 200, 201, 184, 185, 186, 187, 188, 189, 190, 191, 192, 173, 174, 175, 176, 177, 178, 179, 180, 181, 182, 183] (by decide +kernel) (by decide +kernel)
set_option maxRecDepth 20000 in
theorem gX5_makeStep_X5_moveAnt : GoodIn wsX5_makeStep (wsV RX5 56 RX5 yX5_moveAnt wsX5_moveAnt) := goodIn_app (goodIn_of _ (by decide +kernel)) ggX5_makeStep_X5_moveAnt
set_option maxRecDepth 20000 in
theorem ggX5_makeStep_X8_countMeetings : GoodIn wsX5_makeStep wsX8_countMeetings := goodIn_r _ [169, 47, 170, 77, 78, 79, 80, 58, 81, 82, 83, 184, 185, 186, 187, 188, 189, 190, 191, 192, 193, 194, 195, 196, 197, 198, 199, 200, 201] (by decide +kernel) (by decide +kernel)
set_option maxRecDepth 20000 in
theorem gX5_makeStep_X8_countMeetings : GoodIn wsX5_makeStep (wsV RX5 60 RX8 yX8_countMeetings wsX8_countMeetings) := goodIn_app (goodIn_of _ (by decide +kernel)) ggX5_makeStep_X8_countMeetings
theorem dX5_makeStep_0 : decode cX5_makeStep 0 = .ok (.iconst 0, 1) := by decide +kernel
theorem dX5_makeStep_1 : decode cX5_makeStep 1 = .ok (.istore_n 2, 1) := by decide +kernel
theorem dX5_makeStep_2 : decode cX5_makeStep 2 = .ok (.iload_n 2, 1) := by decide +kernel
theorem dX5_makeStep_3 : decode cX5_makeStep 3 = .ok (.aload_n 0, 1) := by decide +kernel
theorem dX5_makeStep_4 : decode cX5_makeStep 4 = .ok (.getfield 16, 3) := by decide +kernel
theorem dX5_makeStep_7 : decode cX5_makeStep 7 = .ok (.getfield 24, 3) := by decide +kernel
theorem dX5_makeStep_10 : decode cX5_makeStep 10 = .ok (.if_icmp .ge 50, 3) := by decide +kernel
theorem dX5_makeStep_13 : decode cX5_makeStep 13 = .ok (.iload_n 2, 1) := by decide +kernel
theorem dX5_makeStep_14 : decode cX5_makeStep 14 = .ok (.bipush 20, 2) := by decide +kernel
theorem dX5_makeStep_16 : decode cX5_makeStep 16 = .ok (.if_icmp .ge 44, 3) := by decide +kernel
theorem dX5_makeStep_19 : decode cX5_makeStep 19 = .ok (.aload_n 0, 1) := by decide +kernel
theorem dX5_makeStep_20 : decode cX5_makeStep 20 = .ok (.getfield 10, 3) := by decide +kernel
theorem dX5_makeStep_23 : decode cX5_makeStep 23 = .ok (.aload_n 0, 1) := by decide +kernel
theorem dX5_makeStep_24 : decode cX5_makeStep 24 = .ok (.getfield 16, 3) := by decide +kernel
theorem dX5_makeStep_27 : decode cX5_makeStep 27 = .ok (.iload_n 2, 1) := by decide +kernel
theorem dX5_makeStep_28 : decode cX5_makeStep 28 = .ok (.aload_n 1, 1) := by decide +kernel
theorem dX5_makeStep_29 : decode cX5_makeStep 29 = .ok (.invokevirtual 30, 3) := by decide +kernel
theorem dX5_makeStep_32 : decode cX5_makeStep 32 = .ok (.ifCond .eq 22, 3) := by decide +kernel
theorem dX5_makeStep_35 : decode cX5_makeStep 35 = .ok (.aload_n 0, 1) := by decide +kernel
theorem dX5_makeStep_36 : decode cX5_makeStep 36 = .ok (.iload_n 2, 1) := by decide +kernel
theorem dX5_makeStep_37 : decode cX5_makeStep 37 = .ok (.aload_n 1, 1) := by decide +kernel
theorem dX5_makeStep_38 : decode cX5_makeStep 38 = .ok (.invokevirtual 34, 3) := by decide +kernel
theorem dX5_makeStep_41 : decode cX5_makeStep 41 = .ok (.ifCond .eq 13, 3) := by decide +kernel
theorem dX5_makeStep_44 : decode cX5_makeStep 44 = .ok (.aload_n 1, 1) := by decide +kernel
theorem dX5_makeStep_45 : decode cX5_makeStep 45 = .ok (.dup, 1) := by decide +kernel
theorem dX5_makeStep_46 : decode cX5_makeStep 46 = .ok (.getfield 38, 3) := by decide +kernel
theorem dX5_makeStep_49 : decode cX5_makeStep 49 = .ok (.iconst 1, 1) := by decide +kernel
theorem dX5_makeStep_50 : decode cX5_makeStep 50 = .ok (.iadd, 1) := by decide +kernel
theorem dX5_makeStep_51 : decode cX5_makeStep 51 = .ok (.putfield 38, 3) := by decide +kernel
theorem dX5_makeStep_54 : decode cX5_makeStep 54 = .ok (.iinc 2 1, 3) := by decide +kernel
theorem dX5_makeStep_57 : decode cX5_makeStep 57 = .ok (.goto (-55), 3) := by decide +kernel
theorem dX5_makeStep_60 : decode cX5_makeStep 60 = .ok (.iconst 0, 1) := by decide +kernel
theorem dX5_makeStep_61 : decode cX5_makeStep 61 = .ok (.istore_n 2, 1) := by decide +kernel
theorem dX5_makeStep_62 : decode cX5_makeStep 62 = .ok (.iload_n 2, 1) := by decide +kernel
theorem dX5_makeStep_63 : decode cX5_makeStep 63 = .ok (.aload_n 1, 1) := by decide +kernel
theorem dX5_makeStep_64 : decode cX5_makeStep 64 = .ok (.getfield 43, 3) := by decide +kernel
theorem dX5_makeStep_67 : decode cX5_makeStep 67 = .ok (.if_icmp .ge 38, 3) := by decide +kernel
theorem dX5_makeStep_70 : decode cX5_makeStep 70 = .ok (.iload_n 2, 1) := by decide +kernel
theorem dX5_makeStep_71 : decode cX5_makeStep 71 = .ok (.bipush 6, 2) := by decide +kernel
theorem dX5_makeStep_73 : decode cX5_makeStep 73 = .ok (.if_icmp .ge 32, 3) := by decide +kernel
theorem dX5_makeStep_76 : decode cX5_makeStep 76 = .ok (.aload_n 1, 1) := by decide +kernel
theorem dX5_makeStep_77 : decode cX5_makeStep 77 = .ok (.getfield 46, 3) := by decide +kernel
theorem dX5_makeStep_80 : decode cX5_makeStep 80 = .ok (.iload_n 2, 1) := by decide +kernel
theorem dX5_makeStep_81 : decode cX5_makeStep 81 = .ok (.aaload, 1) := by decide +kernel
theorem dX5_makeStep_82 : decode cX5_makeStep 82 = .ok (.getfield 50, 3) := by decide +kernel
theorem dX5_makeStep_85 : decode cX5_makeStep 85 = .ok (.ifCond .eq 14, 3) := by decide +kernel
theorem dX5_makeStep_88 : decode cX5_makeStep 88 = .ok (.aload_n 0, 1) := by decide +kernel
theorem dX5_makeStep_89 : decode cX5_makeStep 89 = .ok (.aload_n 1, 1) := by decide +kernel
theorem dX5_makeStep_90 : decode cX5_makeStep 90 = .ok (.getfield 46, 3) := by decide +kernel
theorem dX5_makeStep_93 : decode cX5_makeStep 93 = .ok (.iload_n 2, 1) := by decide +kernel
theorem dX5_makeStep_94 : decode cX5_makeStep 94 = .ok (.aaload, 1) := by decide +kernel
theorem dX5_makeStep_95 : decode cX5_makeStep 95 = .ok (.aload_n 1, 1) := by decide +kernel
theorem dX5_makeStep_96 : decode cX5_makeStep 96 = .ok (.invokevirtual 56, 3) := by decide +kernel
theorem dX5_makeStep_99 : decode cX5_makeStep 99 = .ok (.iinc 2 1, 3) := by decide +kernel
theorem dX5_makeStep_102 : decode cX5_makeStep 102 = .ok (.goto (-40), 3) := by decide +kernel
theorem dX5_makeStep_105 : decode cX5_makeStep 105 = .ok (.aload_n 1, 1) := by decide +kernel
theorem dX5_makeStep_106 : decode cX5_makeStep 106 = .ok (.invokevirtual 60, 3) := by decide +kernel
theorem dX5_makeStep_109 : decode cX5_makeStep 109 = .ok (.aload_n 1, 1) := by decide +kernel
theorem dX5_makeStep_110 : decode cX5_makeStep 110 = .ok (.dup, 1) := by decide +kernel
theorem dX5_makeStep_111 : decode cX5_makeStep 111 = .ok (.getfield 63, 3) := by decide +kernel
theorem dX5_makeStep_114 : decode cX5_makeStep 114 = .ok (.iconst 1, 1) := by decide +kernel
theorem dX5_makeStep_115 : decode cX5_makeStep 115 = .ok (.iadd, 1) := by decide +kernel
theorem dX5_makeStep_116 : decode cX5_makeStep 116 = .ok (.putfield 63, 3) := by decide +kernel
theorem dX5_makeStep_119 : decode cX5_makeStep 119 = .ok (.return_, 1) := by decide +kernel
set_option maxRecDepth 20000 in
theorem ggX5_moveAnt_X0_stoneUnder : GoodIn wsX5_moveAnt wsX0_stoneUnder := goodIn_r _ [7, 8, 9, 53, 54, 55, 56, 57, 58, 59, 60, 61] (by decide +kernel) (by decide +kernel)
set_option maxRecDepth 20000 in
theorem gX5_moveAnt_X0_stoneUnder : GoodIn wsX5_moveAnt (wsV RX5 66 RX0 yX0_stoneUnder wsX0_stoneUnder) := goodIn_app (goodIn_of _ (by decide +kernel)) ggX5_moveAnt_X0_stoneUnder
set_option maxRecDepth 20000 in
theorem ggX5_moveAnt_X8_colourAt : GoodIn wsX5_moveAnt wsX8_colourAt := goodIn_r _ [14, 15, 62, 63, 64, 65, 66, 67, 68, 69, 70] (by decide +kernel) (by decide +kernel)
set_option maxRecDepth 20000 in
theorem gX5_moveAnt_X8_colourAt : GoodIn wsX5_moveAnt (wsV RX5 70 RX8 yX8_colourAt wsX8_colourAt) := goodIn_app (goodIn_of _ (by decide +kernel)) ggX5_moveAnt_X8_colourAt
set_option maxRecDepth 20000 in
theorem ggX5_moveAnt_X3_turnFor : GoodIn wsX5_moveAnt wsX3_turnFor := goodIn_r _ [20, 21, 22, 23, 24, 25, 19, 26, 27, 71, 72, 73, 74, 75, 76, 77, 78, 79, 80, 81] (by decide +kernel) (by decide +kernel)
set_option maxRecDepth 20000 in
theorem gX5_moveAnt_X3_turnFor : GoodIn wsX5_moveAnt (wsV RX5 77 RX3 yX3_turnFor wsX3_turnFor) := goodIn_app (goodIn_of _ (by decide +kernel)) ggX5_moveAnt_X3_turnFor
set_option maxRecDepth 20000 in
theorem ggX5_moveAnt_X3_remainder : GoodIn wsX5_moveAnt wsX3_remainder := goodIn_r _ [26, 21, 27, 71, 72, 73, 74, 75, 76, 77, 78, 79, 80, 81] (by decide +kernel) (by decide +kernel)
set_option maxRecDepth 20000 in
theorem gX5_moveAnt_X3_remainder : GoodIn wsX5_moveAnt (wsV RX5 81 RX3 yX3_remainder wsX3_remainder) := goodIn_app (goodIn_of _ (by decide +kernel)) ggX5_moveAnt_X3_remainder
set_option maxRecDepth 20000 in
theorem ggX5_moveAnt_X8_setStone : GoodIn wsX5_moveAnt wsX8_setStone := goodIn_r _ [32, 15, 33, 34, 35, 11, 12, 13, 14, 36, 37, 38, 62, 63, 64, 65, 66, 67, 68, 69, 70] (by decide +kernel) (by decide +kernel)
set_option maxRecDepth 20000 in
theorem gX5_moveAnt_X8_setStone : GoodIn wsX5_moveAnt (wsV RX5 84 RX8 yX8_setStone wsX8_setStone) := goodIn_app (goodIn_of _ (by decide +kernel)) ggX5_moveAnt_X8_setStone
set_option maxRecDepth 20000 in
theorem ggX5_moveAnt_X0_go : GoodIn wsX5_moveAnt wsX0_go := goodIn_r _ [42, 43, 44, 9, 45, 8, 46, 47, 48, 49, 50, 53, 54, 55, 56, 57, 58, 59, 60, 61] (by decide +kernel) (by decide +kernel)
set_option maxRecDepth 20000 in
theorem gX5_moveAnt_X0_go : GoodIn wsX5_moveAnt (wsV RX5 88 RX0 yX0_go wsX0_go) := goodIn_app (goodIn_of _ (by decide +kernel)) ggX5_moveAnt_X0_go
theorem dX5_moveAnt_0 : decode cX5_moveAnt 0 = .ok (.aload_n 1, 1) := by decide +kernel
theorem dX5_moveAnt_1 : decode cX5_moveAnt 1 = .ok (.invokevirtual 66, 3) := by decide +kernel
theorem dX5_moveAnt_4 : decode cX5_moveAnt 4 = .ok (.istore_n 3, 1) := by decide +kernel
theorem dX5_moveAnt_5 : decode cX5_moveAnt 5 = .ok (.aload_n 2, 1) := by decide +kernel
theorem dX5_moveAnt_6 : decode cX5_moveAnt 6 = .ok (.iload_n 3, 1) := by decide +kernel
theorem dX5_moveAnt_7 : decode cX5_moveAnt 7 = .ok (.invokevirtual 70, 3) := by decide +kernel
theorem dX5_moveAnt_10 : decode cX5_moveAnt 10 = .ok (.istore 4, 2) := by decide +kernel
theorem dX5_moveAnt_12 : decode cX5_moveAnt 12 = .ok (.aload_n 0, 1) := by decide +kernel
theorem dX5_moveAnt_13 : decode cX5_moveAnt 13 = .ok (.getfield 16, 3) := by decide +kernel
theorem dX5_moveAnt_16 : decode cX5_moveAnt 16 = .ok (.aload_n 1, 1) := by decide +kernel
theorem dX5_moveAnt_17 : decode cX5_moveAnt 17 = .ok (.getfield 74, 3) := by decide +kernel
theorem dX5_moveAnt_20 : decode cX5_moveAnt 20 = .ok (.iload 4, 2) := by decide +kernel
theorem dX5_moveAnt_22 : decode cX5_moveAnt 22 = .ok (.invokevirtual 77, 3) := by decide +kernel
theorem dX5_moveAnt_25 : decode cX5_moveAnt 25 = .ok (.istore 5, 2) := by decide +kernel
theorem dX5_moveAnt_27 : decode cX5_moveAnt 27 = .ok (.aload_n 2, 1) := by decide +kernel
theorem dX5_moveAnt_28 : decode cX5_moveAnt 28 = .ok (.iload_n 3, 1) := by decide +kernel
theorem dX5_moveAnt_29 : decode cX5_moveAnt 29 = .ok (.aload_n 0, 1) := by decide +kernel
theorem dX5_moveAnt_30 : decode cX5_moveAnt 30 = .ok (.getfield 16, 3) := by decide +kernel
theorem dX5_moveAnt_33 : decode cX5_moveAnt 33 = .ok (.aload_n 1, 1) := by decide +kernel
theorem dX5_moveAnt_34 : decode cX5_moveAnt 34 = .ok (.getfield 74, 3) := by decide +kernel
theorem dX5_moveAnt_37 : decode cX5_moveAnt 37 = .ok (.iload 4, 2) := by decide +kernel
theorem dX5_moveAnt_39 : decode cX5_moveAnt 39 = .ok (.iconst 1, 1) := by decide +kernel
theorem dX5_moveAnt_40 : decode cX5_moveAnt 40 = .ok (.iadd, 1) := by decide +kernel
theorem dX5_moveAnt_41 : decode cX5_moveAnt 41 = .ok (.invokevirtual 81, 3) := by decide +kernel
theorem dX5_moveAnt_44 : decode cX5_moveAnt 44 = .ok (.invokevirtual 84, 3) := by decide +kernel
theorem dX5_moveAnt_47 : decode cX5_moveAnt 47 = .ok (.aload_n 1, 1) := by decide +kernel
theorem dX5_moveAnt_48 : decode cX5_moveAnt 48 = .ok (.iload 5, 2) := by decide +kernel
theorem dX5_moveAnt_50 : decode cX5_moveAnt 50 = .ok (.invokevirtual 88, 3) := by decide +kernel
theorem dX5_moveAnt_53 : decode cX5_moveAnt 53 = .ok (.return_, 1) := by decide +kernel
set_option maxRecDepth 20000 in
theorem ggX5_carryOut_X8_washRows : GoodIn wsX5_carryOut wsX8_washRows := goodIn_r _ [11, 12, 13, 14, 15, 16, 17, 18, 19, 20, 10, 21, 22, 23, 24, 25, 26, 27, 28, 29, 30, 31, 32, 33, 34, 35, 36, 37, 38, 74, 75, 76, 77, 78, 79, 80, 81, 82] (by decide +kernel) (by decide +kernel)
set_option maxRecDepth 20000 in
theorem gX5_carryOut_X8_washRows : GoodIn wsX5_carryOut (wsV RX5 104 RX8 yX8_washRows wsX8_washRows) := goodIn_app (goodIn_of _ (by decide +kernel)) ggX5_carryOut_X8_washRows
set_option maxRecDepth 20000 in
theorem ggX5_carryOut_X8_hasAnt : GoodIn wsX5_carryOut wsX8_hasAnt := goodIn_r _ [42, 43, 74, 75, 76, 77, 78, 79, 80, 81, 82] (by decide +kernel) (by decide +kernel)
set_option maxRecDepth 20000 in
theorem gX5_carryOut_X8_hasAnt : GoodIn wsX5_carryOut (wsV RX5 107 RX8 yX8_hasAnt wsX8_hasAnt) := goodIn_app (goodIn_of _ (by decide +kernel)) ggX5_carryOut_X8_hasAnt
set_option maxRecDepth 20000 in
theorem ggX5_carryOut_X5_faceOther : GoodIn wsX5_carryOut wsX5_faceOther := goodIn_r _ [47, 48, 49, 50, 51, 52, 53, 54, 55, 56, 57, 58, 59, 60, 83, 84, 85, 86, 87, 88, 89, 90, 91] (by decide +kernel) (by decide +kernel)
set_option maxRecDepth 20000 in
theorem gX5_carryOut_X5_faceOther : GoodIn wsX5_carryOut (va_wsS RX5 111 yX5_faceOther wsX5_faceOther) := goodIn_app (goodIn_of _ (by decide +kernel)) ggX5_carryOut_X5_faceOther
theorem dX5_carryOut_0 : decode cX5_carryOut 0 = .ok (.aload_n 0, 1) := by decide +kernel
theorem dX5_carryOut_1 : decode cX5_carryOut 1 = .ok (.getfield 16, 3) := by decide +kernel
theorem dX5_carryOut_4 : decode cX5_carryOut 4 = .ok (.getfield 92, 3) := by decide +kernel
theorem dX5_carryOut_7 : decode cX5_carryOut 7 = .ok (.iload_n 1, 1) := by decide +kernel
theorem dX5_carryOut_8 : decode cX5_carryOut 8 = .ok (.iaload, 1) := by decide +kernel
theorem dX5_carryOut_9 : decode cX5_carryOut 9 = .ok (.istore_n 3, 1) := by decide +kernel
theorem dX5_carryOut_10 : decode cX5_carryOut 10 = .ok (.aload_n 0, 1) := by decide +kernel
theorem dX5_carryOut_11 : decode cX5_carryOut 11 = .ok (.getfield 16, 3) := by decide +kernel
theorem dX5_carryOut_14 : decode cX5_carryOut 14 = .ok (.getfield 96, 3) := by decide +kernel
theorem dX5_carryOut_17 : decode cX5_carryOut 17 = .ok (.iload_n 1, 1) := by decide +kernel
theorem dX5_carryOut_18 : decode cX5_carryOut 18 = .ok (.iaload, 1) := by decide +kernel
theorem dX5_carryOut_19 : decode cX5_carryOut 19 = .ok (.istore 4, 2) := by decide +kernel
theorem dX5_carryOut_21 : decode cX5_carryOut 21 = .ok (.aload_n 0, 1) := by decide +kernel
theorem dX5_carryOut_22 : decode cX5_carryOut 22 = .ok (.getfield 16, 3) := by decide +kernel
theorem dX5_carryOut_25 : decode cX5_carryOut 25 = .ok (.getfield 99, 3) := by decide +kernel
theorem dX5_carryOut_28 : decode cX5_carryOut 28 = .ok (.iload_n 1, 1) := by decide +kernel
theorem dX5_carryOut_29 : decode cX5_carryOut 29 = .ok (.iaload, 1) := by decide +kernel
theorem dX5_carryOut_30 : decode cX5_carryOut 30 = .ok (.istore 5, 2) := by decide +kernel
theorem dX5_carryOut_32 : decode cX5_carryOut 32 = .ok (.iload 5, 2) := by decide +kernel
theorem dX5_carryOut_34 : decode cX5_carryOut 34 = .ok (.sipush 214, 3) := by decide +kernel
theorem dX5_carryOut_37 : decode cX5_carryOut 37 = .ok (.if_icmp .ne 19, 3) := by decide +kernel
theorem dX5_carryOut_40 : decode cX5_carryOut 40 = .ok (.aload_n 2, 1) := by decide +kernel
theorem dX5_carryOut_41 : decode cX5_carryOut 41 = .ok (.iload_n 3, 1) := by decide +kernel
theorem dX5_carryOut_42 : decode cX5_carryOut 42 = .ok (.iload 4, 2) := by decide +kernel
theorem dX5_carryOut_44 : decode cX5_carryOut 44 = .ok (.invokevirtual 104, 3) := by decide +kernel
theorem dX5_carryOut_47 : decode cX5_carryOut 47 = .ok (.ifCond .le 7, 3) := by decide +kernel
theorem dX5_carryOut_50 : decode cX5_carryOut 50 = .ok (.iconst 1, 1) := by decide +kernel
theorem dX5_carryOut_51 : decode cX5_carryOut 51 = .ok (.goto 4, 3) := by decide +kernel
theorem dX5_carryOut_54 : decode cX5_carryOut 54 = .ok (.iconst 0, 1) := by decide +kernel
theorem dX5_carryOut_55 : decode cX5_carryOut 55 = .ok (.ireturn, 1) := by decide +kernel
theorem dX5_carryOut_56 : decode cX5_carryOut 56 = .ok (.aload_n 2, 1) := by decide +kernel
theorem dX5_carryOut_57 : decode cX5_carryOut 57 = .ok (.iload_n 3, 1) := by decide +kernel
theorem dX5_carryOut_58 : decode cX5_carryOut 58 = .ok (.invokevirtual 107, 3) := by decide +kernel
theorem dX5_carryOut_61 : decode cX5_carryOut 61 = .ok (.ifCond .ne 5, 3) := by decide +kernel
theorem dX5_carryOut_64 : decode cX5_carryOut 64 = .ok (.iconst 0, 1) := by decide +kernel
theorem dX5_carryOut_65 : decode cX5_carryOut 65 = .ok (.ireturn, 1) := by decide +kernel
theorem dX5_carryOut_66 : decode cX5_carryOut 66 = .ok (.aload_n 2, 1) := by decide +kernel
theorem dX5_carryOut_67 : decode cX5_carryOut 67 = .ok (.getfield 46, 3) := by decide +kernel
theorem dX5_carryOut_70 : decode cX5_carryOut 70 = .ok (.iload_n 3, 1) := by decide +kernel
theorem dX5_carryOut_71 : decode cX5_carryOut 71 = .ok (.aaload, 1) := by decide +kernel
theorem dX5_carryOut_72 : decode cX5_carryOut 72 = .ok (.astore 6, 2) := by decide +kernel
theorem dX5_carryOut_74 : decode cX5_carryOut 74 = .ok (.iload 5, 2) := by decide +kernel
theorem dX5_carryOut_76 : decode cX5_carryOut 76 = .ok (.sipush 216, 3) := by decide +kernel
theorem dX5_carryOut_79 : decode cX5_carryOut 79 = .ok (.if_icmp .ne 11, 3) := by decide +kernel
theorem dX5_carryOut_82 : decode cX5_carryOut 82 = .ok (.aload 6, 2) := by decide +kernel
theorem dX5_carryOut_84 : decode cX5_carryOut 84 = .ok (.iload 4, 2) := by decide +kernel
theorem dX5_carryOut_86 : decode cX5_carryOut 86 = .ok (.invokestatic 111, 3) := by decide +kernel
theorem dX5_carryOut_89 : decode cX5_carryOut 89 = .ok (.ireturn, 1) := by decide +kernel
theorem dX5_carryOut_90 : decode cX5_carryOut 90 = .ok (.iload 5, 2) := by decide +kernel
theorem dX5_carryOut_92 : decode cX5_carryOut 92 = .ok (.sipush 218, 3) := by decide +kernel
theorem dX5_carryOut_95 : decode cX5_carryOut 95 = .ok (.if_icmp .ne 7, 3) := by decide +kernel
theorem dX5_carryOut_98 : decode cX5_carryOut 98 = .ok (.iconst 1, 1) := by decide +kernel
theorem dX5_carryOut_99 : decode cX5_carryOut 99 = .ok (.goto 4, 3) := by decide +kernel
theorem dX5_carryOut_102 : decode cX5_carryOut 102 = .ok (.iconst 0, 1) := by decide +kernel
theorem dX5_carryOut_103 : decode cX5_carryOut 103 = .ok (.istore 7, 2) := by decide +kernel
theorem dX5_carryOut_105 : decode cX5_carryOut 105 = .ok (.aload 6, 2) := by decide +kernel
theorem dX5_carryOut_107 : decode cX5_carryOut 107 = .ok (.getfield 50, 3) := by decide +kernel
theorem dX5_carryOut_110 : decode cX5_carryOut 110 = .ok (.iload 7, 2) := by decide +kernel
theorem dX5_carryOut_112 : decode cX5_carryOut 112 = .ok (.if_icmp .eq 7, 3) := by decide +kernel
theorem dX5_carryOut_115 : decode cX5_carryOut 115 = .ok (.iconst 1, 1) := by decide +kernel
theorem dX5_carryOut_116 : decode cX5_carryOut 116 = .ok (.goto 4, 3) := by decide +kernel
theorem dX5_carryOut_119 : decode cX5_carryOut 119 = .ok (.iconst 0, 1) := by decide +kernel
theorem dX5_carryOut_120 : decode cX5_carryOut 120 = .ok (.istore 8, 2) := by decide +kernel
theorem dX5_carryOut_122 : decode cX5_carryOut 122 = .ok (.aload 6, 2) := by decide +kernel
theorem dX5_carryOut_124 : decode cX5_carryOut 124 = .ok (.iload 7, 2) := by decide +kernel
theorem dX5_carryOut_126 : decode cX5_carryOut 126 = .ok (.putfield 50, 3) := by decide +kernel
theorem dX5_carryOut_129 : decode cX5_carryOut 129 = .ok (.iload 8, 2) := by decide +kernel
theorem dX5_carryOut_131 : decode cX5_carryOut 131 = .ok (.ireturn, 1) := by decide +kernel
set_option maxRecDepth 20000 in
theorem ggX5_faceOther_X0_turnTo : GoodIn wsX5_faceOther wsX0_turnTo := goodIn_r _ [6, 7, 8, 9, 10, 5, 11, 12, 13, 14, 15, 16, 17, 18, 19, 20, 21, 22] (by decide +kernel) (by decide +kernel)
set_option maxRecDepth 20000 in
theorem gX5_faceOther_X0_turnTo : GoodIn wsX5_faceOther (wsV RX5 118 RX0 yX0_turnTo wsX0_turnTo) := goodIn_app (goodIn_of _ (by decide +kernel)) ggX5_faceOther_X0_turnTo
theorem dX5_faceOther_0 : decode cX5_faceOther 0 = .ok (.aload_n 0, 1) := by decide +kernel
theorem dX5_faceOther_1 : decode cX5_faceOther 1 = .ok (.getfield 115, 3) := by decide +kernel
theorem dX5_faceOther_4 : decode cX5_faceOther 4 = .ok (.iload_n 1, 1) := by decide +kernel
theorem dX5_faceOther_5 : decode cX5_faceOther 5 = .ok (.if_icmp .ne 5, 3) := by decide +kernel
theorem dX5_faceOther_8 : decode cX5_faceOther 8 = .ok (.iconst 0, 1) := by decide +kernel
theorem dX5_faceOther_9 : decode cX5_faceOther 9 = .ok (.ireturn, 1) := by decide +kernel
theorem dX5_faceOther_10 : decode cX5_faceOther 10 = .ok (.aload_n 0, 1) := by decide +kernel
theorem dX5_faceOther_11 : decode cX5_faceOther 11 = .ok (.iload_n 1, 1) := by decide +kernel
theorem dX5_faceOther_12 : decode cX5_faceOther 12 = .ok (.invokevirtual 118, 3) := by decide +kernel
theorem dX5_faceOther_15 : decode cX5_faceOther 15 = .ok (.iconst 1, 1) := by decide +kernel
theorem dX5_faceOther_16 : decode cX5_faceOther 16 = .ok (.ireturn, 1) := by decide +kernel
