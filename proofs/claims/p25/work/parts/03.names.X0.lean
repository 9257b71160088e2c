theorem dX0_init_0 : decode cX0_init 0 = .ok (.aload_n 0, 1) := by decide +kernel
theorem dX0_init_1 : decode cX0_init 1 = .ok (.invokespecial 3, 3) := by decide +kernel
theorem dX0_init_4 : decode cX0_init 4 = .ok (.aload_n 0, 1) := by decide +kernel
theorem dX0_init_5 : decode cX0_init 5 = .ok (.sipush 512, 3) := by decide +kernel
theorem dX0_init_8 : decode cX0_init 8 = .ok (.newarray .int, 2) := by decide +kernel
theorem dX0_init_10 : decode cX0_init 10 = .ok (.putfield 11, 3) := by decide +kernel
theorem dX0_init_13 : decode cX0_init 13 = .ok (.return_, 1) := by decide +kernel
set_option maxRecDepth 20000 in
theorem ggX0_clear_X0_beginPath : GoodIn wsX0_clear wsX0_beginPath := goodIn_r _ [11, 12, 13, 14, 15, 16, 17, 18, 19, 20, 21, 22] (by decide +kernel) (by decide +kernel)
set_option maxRecDepth 20000 in
theorem gX0_clear_X0_beginPath : GoodIn wsX0_clear (wsV RX0 35 RX0 yX0_beginPath wsX0_beginPath) := goodIn_app (goodIn_of _ (by decide +kernel)) ggX0_clear_X0_beginPath
theorem dX0_clear_0 : decode cX0_clear 0 = .ok (.aload_n 0, 1) := by decide +kernel
theorem dX0_clear_1 : decode cX0_clear 1 = .ok (.iconst 0, 1) := by decide +kernel
theorem dX0_clear_2 : decode cX0_clear 2 = .ok (.putfield 15, 3) := by decide +kernel
theorem dX0_clear_5 : decode cX0_clear 5 = .ok (.aload_n 0, 1) := by decide +kernel
theorem dX0_clear_6 : decode cX0_clear 6 = .ok (.iconst 0, 1) := by decide +kernel
theorem dX0_clear_7 : decode cX0_clear 7 = .ok (.putfield 19, 3) := by decide +kernel
theorem dX0_clear_10 : decode cX0_clear 10 = .ok (.aload_n 0, 1) := by decide +kernel
theorem dX0_clear_11 : decode cX0_clear 11 = .ok (.iconst 0, 1) := by decide +kernel
theorem dX0_clear_12 : decode cX0_clear 12 = .ok (.putfield 22, 3) := by decide +kernel
theorem dX0_clear_15 : decode cX0_clear 15 = .ok (.aload_n 0, 1) := by decide +kernel
theorem dX0_clear_16 : decode cX0_clear 16 = .ok (.iconst 0, 1) := by decide +kernel
theorem dX0_clear_17 : decode cX0_clear 17 = .ok (.putfield 25, 3) := by decide +kernel
theorem dX0_clear_20 : decode cX0_clear 20 = .ok (.aload_n 0, 1) := by decide +kernel
theorem dX0_clear_21 : decode cX0_clear 21 = .ok (.iconst 1, 1) := by decide +kernel
theorem dX0_clear_22 : decode cX0_clear 22 = .ok (.putfield 28, 3) := by decide +kernel
theorem dX0_clear_25 : decode cX0_clear 25 = .ok (.aload_n 0, 1) := by decide +kernel
theorem dX0_clear_26 : decode cX0_clear 26 = .ok (.iconst 0, 1) := by decide +kernel
theorem dX0_clear_27 : decode cX0_clear 27 = .ok (.putfield 32, 3) := by decide +kernel
theorem dX0_clear_30 : decode cX0_clear 30 = .ok (.aload_n 0, 1) := by decide +kernel
theorem dX0_clear_31 : decode cX0_clear 31 = .ok (.invokevirtual 35, 3) := by decide +kernel
theorem dX0_clear_34 : decode cX0_clear 34 = .ok (.return_, 1) := by decide +kernel
theorem dX0_copyFrom_0 : decode cX0_copyFrom 0 = .ok (.aload_n 0, 1) := by decide +kernel
theorem dX0_copyFrom_1 : decode cX0_copyFrom 1 = .ok (.aload_n 1, 1) := by decide +kernel
theorem dX0_copyFrom_2 : decode cX0_copyFrom 2 = .ok (.getfield 15, 3) := by decide +kernel
theorem dX0_copyFrom_5 : decode cX0_copyFrom 5 = .ok (.putfield 15, 3) := by decide +kernel
theorem dX0_copyFrom_8 : decode cX0_copyFrom 8 = .ok (.aload_n 0, 1) := by decide +kernel
theorem dX0_copyFrom_9 : decode cX0_copyFrom 9 = .ok (.aload_n 1, 1) := by decide +kernel
theorem dX0_copyFrom_10 : decode cX0_copyFrom 10 = .ok (.getfield 19, 3) := by decide +kernel
theorem dX0_copyFrom_13 : decode cX0_copyFrom 13 = .ok (.putfield 19, 3) := by decide +kernel
theorem dX0_copyFrom_16 : decode cX0_copyFrom 16 = .ok (.aload_n 0, 1) := by decide +kernel
theorem dX0_copyFrom_17 : decode cX0_copyFrom 17 = .ok (.aload_n 1, 1) := by decide +kernel
theorem dX0_copyFrom_18 : decode cX0_copyFrom 18 = .ok (.getfield 22, 3) := by decide +kernel
theorem dX0_copyFrom_21 : decode cX0_copyFrom 21 = .ok (.putfield 22, 3) := by decide +kernel
theorem dX0_copyFrom_24 : decode cX0_copyFrom 24 = .ok (.aload_n 0, 1) := by decide +kernel
theorem dX0_copyFrom_25 : decode cX0_copyFrom 25 = .ok (.aload_n 1, 1) := by decide +kernel
theorem dX0_copyFrom_26 : decode cX0_copyFrom 26 = .ok (.getfield 25, 3) := by decide +kernel
theorem dX0_copyFrom_29 : decode cX0_copyFrom 29 = .ok (.putfield 25, 3) := by decide +kernel
theorem dX0_copyFrom_32 : decode cX0_copyFrom 32 = .ok (.aload_n 0, 1) := by decide +kernel
theorem dX0_copyFrom_33 : decode cX0_copyFrom 33 = .ok (.aload_n 1, 1) := by decide +kernel
theorem dX0_copyFrom_34 : decode cX0_copyFrom 34 = .ok (.getfield 28, 3) := by decide +kernel
theorem dX0_copyFrom_37 : decode cX0_copyFrom 37 = .ok (.putfield 28, 3) := by decide +kernel
theorem dX0_copyFrom_40 : decode cX0_copyFrom 40 = .ok (.aload_n 0, 1) := by decide +kernel
theorem dX0_copyFrom_41 : decode cX0_copyFrom 41 = .ok (.aload_n 1, 1) := by decide +kernel
theorem dX0_copyFrom_42 : decode cX0_copyFrom 42 = .ok (.getfield 32, 3) := by decide +kernel
theorem dX0_copyFrom_45 : decode cX0_copyFrom 45 = .ok (.putfield 32, 3) := by decide +kernel
theorem dX0_copyFrom_48 : decode cX0_copyFrom 48 = .ok (.aload_n 0, 1) := by decide +kernel
theorem dX0_copyFrom_49 : decode cX0_copyFrom 49 = .ok (.aload_n 1, 1) := by decide +kernel
theorem dX0_copyFrom_50 : decode cX0_copyFrom 50 = .ok (.getfield 38, 3) := by decide +kernel
theorem dX0_copyFrom_53 : decode cX0_copyFrom 53 = .ok (.putfield 38, 3) := by decide +kernel
theorem dX0_copyFrom_56 : decode cX0_copyFrom 56 = .ok (.aload_n 0, 1) := by decide +kernel
theorem dX0_copyFrom_57 : decode cX0_copyFrom 57 = .ok (.aload_n 1, 1) := by decide +kernel
theorem dX0_copyFrom_58 : decode cX0_copyFrom 58 = .ok (.getfield 41, 3) := by decide +kernel
theorem dX0_copyFrom_61 : decode cX0_copyFrom 61 = .ok (.putfield 41, 3) := by decide +kernel
theorem dX0_copyFrom_64 : decode cX0_copyFrom 64 = .ok (.aload_n 1, 1) := by decide +kernel
theorem dX0_copyFrom_65 : decode cX0_copyFrom 65 = .ok (.getfield 11, 3) := by decide +kernel
theorem dX0_copyFrom_68 : decode cX0_copyFrom 68 = .ok (.iconst 0, 1) := by decide +kernel
theorem dX0_copyFrom_69 : decode cX0_copyFrom 69 = .ok (.aload_n 0, 1) := by decide +kernel
theorem dX0_copyFrom_70 : decode cX0_copyFrom 70 = .ok (.getfield 11, 3) := by decide +kernel
theorem dX0_copyFrom_73 : decode cX0_copyFrom 73 = .ok (.iconst 0, 1) := by decide +kernel
theorem dX0_copyFrom_74 : decode cX0_copyFrom 74 = .ok (.sipush 512, 3) := by decide +kernel
theorem dX0_copyFrom_77 : decode cX0_copyFrom 77 = .ok (.invokestatic 44, 3) := by decide +kernel
theorem dX0_copyFrom_80 : decode cX0_copyFrom 80 = .ok (.return_, 1) := by decide +kernel
theorem dX0_beginPath_0 : decode cX0_beginPath 0 = .ok (.aload_n 0, 1) := by decide +kernel
theorem dX0_beginPath_1 : decode cX0_beginPath 1 = .ok (.iconst 0, 1) := by decide +kernel
theorem dX0_beginPath_2 : decode cX0_beginPath 2 = .ok (.putfield 38, 3) := by decide +kernel
theorem dX0_beginPath_5 : decode cX0_beginPath 5 = .ok (.aload_n 0, 1) := by decide +kernel
theorem dX0_beginPath_6 : decode cX0_beginPath 6 = .ok (.iconst 0, 1) := by decide +kernel
theorem dX0_beginPath_7 : decode cX0_beginPath 7 = .ok (.putfield 41, 3) := by decide +kernel
theorem dX0_beginPath_10 : decode cX0_beginPath 10 = .ok (.return_, 1) := by decide +kernel
theorem dX0_stoneUnder_0 : decode cX0_stoneUnder 0 = .ok (.aload_n 0, 1) := by decide +kernel
theorem dX0_stoneUnder_1 : decode cX0_stoneUnder 1 = .ok (.getfield 22, 3) := by decide +kernel
theorem dX0_stoneUnder_4 : decode cX0_stoneUnder 4 = .ok (.bipush 64, 2) := by decide +kernel
theorem dX0_stoneUnder_6 : decode cX0_stoneUnder 6 = .ok (.imul, 1) := by decide +kernel
theorem dX0_stoneUnder_7 : decode cX0_stoneUnder 7 = .ok (.aload_n 0, 1) := by decide +kernel
theorem dX0_stoneUnder_8 : decode cX0_stoneUnder 8 = .ok (.getfield 19, 3) := by decide +kernel
theorem dX0_stoneUnder_11 : decode cX0_stoneUnder 11 = .ok (.iadd, 1) := by decide +kernel
theorem dX0_stoneUnder_12 : decode cX0_stoneUnder 12 = .ok (.ireturn, 1) := by decide +kernel
set_option maxRecDepth 20000 in
theorem ggX0_moveTo_X0_beginPath : GoodIn wsX0_moveTo wsX0_beginPath := goodIn_r _ [7, 8, 9, 10, 11, 12, 13, 14, 15, 16, 17, 18] (by decide +kernel) (by decide +kernel)
set_option maxRecDepth 20000 in
theorem gX0_moveTo_X0_beginPath : GoodIn wsX0_moveTo (wsV RX0 35 RX0 yX0_beginPath wsX0_beginPath) := goodIn_app (goodIn_of _ (by decide +kernel)) ggX0_moveTo_X0_beginPath
theorem dX0_moveTo_0 : decode cX0_moveTo 0 = .ok (.aload_n 0, 1) := by decide +kernel
theorem dX0_moveTo_1 : decode cX0_moveTo 1 = .ok (.iload_n 1, 1) := by decide +kernel
theorem dX0_moveTo_2 : decode cX0_moveTo 2 = .ok (.putfield 19, 3) := by decide +kernel
theorem dX0_moveTo_5 : decode cX0_moveTo 5 = .ok (.aload_n 0, 1) := by decide +kernel
theorem dX0_moveTo_6 : decode cX0_moveTo 6 = .ok (.iload_n 2, 1) := by decide +kernel
theorem dX0_moveTo_7 : decode cX0_moveTo 7 = .ok (.putfield 22, 3) := by decide +kernel
theorem dX0_moveTo_10 : decode cX0_moveTo 10 = .ok (.aload_n 0, 1) := by decide +kernel
theorem dX0_moveTo_11 : decode cX0_moveTo 11 = .ok (.invokevirtual 35, 3) := by decide +kernel
theorem dX0_moveTo_14 : decode cX0_moveTo 14 = .ok (.return_, 1) := by decide +kernel
set_option maxRecDepth 20000 in
theorem ggX0_turnTo_X0_beginPath : GoodIn wsX0_turnTo wsX0_beginPath := goodIn_r _ [6, 7, 8, 9, 10, 11, 12, 13, 14, 15, 16, 17] (by decide +kernel) (by decide +kernel)
set_option maxRecDepth 20000 in
theorem gX0_turnTo_X0_beginPath : GoodIn wsX0_turnTo (wsV RX0 35 RX0 yX0_beginPath wsX0_beginPath) := goodIn_app (goodIn_of _ (by decide +kernel)) ggX0_turnTo_X0_beginPath
theorem dX0_turnTo_0 : decode cX0_turnTo 0 = .ok (.aload_n 0, 1) := by decide +kernel
theorem dX0_turnTo_1 : decode cX0_turnTo 1 = .ok (.iload_n 1, 1) := by decide +kernel
theorem dX0_turnTo_2 : decode cX0_turnTo 2 = .ok (.putfield 25, 3) := by decide +kernel
theorem dX0_turnTo_5 : decode cX0_turnTo 5 = .ok (.aload_n 0, 1) := by decide +kernel
theorem dX0_turnTo_6 : decode cX0_turnTo 6 = .ok (.invokevirtual 35, 3) := by decide +kernel
theorem dX0_turnTo_9 : decode cX0_turnTo 9 = .ok (.return_, 1) := by decide +kernel
theorem dX0_go_0 : decode cX0_go 0 = .ok (.aload_n 0, 1) := by decide +kernel
theorem dX0_go_1 : decode cX0_go 1 = .ok (.aload_n 0, 1) := by decide +kernel
theorem dX0_go_2 : decode cX0_go 2 = .ok (.getfield 25, 3) := by decide +kernel
theorem dX0_go_5 : decode cX0_go 5 = .ok (.getstatic 50, 3) := by decide +kernel
theorem dX0_go_8 : decode cX0_go 8 = .ok (.iload_n 1, 1) := by decide +kernel
theorem dX0_go_9 : decode cX0_go 9 = .ok (.iconst 3, 1) := by decide +kernel
theorem dX0_go_10 : decode cX0_go 10 = .ok (.iand, 1) := by decide +kernel
theorem dX0_go_11 : decode cX0_go 11 = .ok (.iaload, 1) := by decide +kernel
theorem dX0_go_12 : decode cX0_go 12 = .ok (.iadd, 1) := by decide +kernel
theorem dX0_go_13 : decode cX0_go 13 = .ok (.iconst 3, 1) := by decide +kernel
theorem dX0_go_14 : decode cX0_go 14 = .ok (.iand, 1) := by decide +kernel
theorem dX0_go_15 : decode cX0_go 15 = .ok (.putfield 25, 3) := by decide +kernel
theorem dX0_go_18 : decode cX0_go 18 = .ok (.aload_n 0, 1) := by decide +kernel
theorem dX0_go_19 : decode cX0_go 19 = .ok (.aload_n 0, 1) := by decide +kernel
theorem dX0_go_20 : decode cX0_go 20 = .ok (.getfield 19, 3) := by decide +kernel
theorem dX0_go_23 : decode cX0_go 23 = .ok (.getstatic 53, 3) := by decide +kernel
theorem dX0_go_26 : decode cX0_go 26 = .ok (.aload_n 0, 1) := by decide +kernel
theorem dX0_go_27 : decode cX0_go 27 = .ok (.getfield 25, 3) := by decide +kernel
theorem dX0_go_30 : decode cX0_go 30 = .ok (.iaload, 1) := by decide +kernel
theorem dX0_go_31 : decode cX0_go 31 = .ok (.iadd, 1) := by decide +kernel
theorem dX0_go_32 : decode cX0_go 32 = .ok (.bipush 63, 2) := by decide +kernel
theorem dX0_go_34 : decode cX0_go 34 = .ok (.iand, 1) := by decide +kernel
theorem dX0_go_35 : decode cX0_go 35 = .ok (.putfield 19, 3) := by decide +kernel
theorem dX0_go_38 : decode cX0_go 38 = .ok (.aload_n 0, 1) := by decide +kernel
theorem dX0_go_39 : decode cX0_go 39 = .ok (.aload_n 0, 1) := by decide +kernel
theorem dX0_go_40 : decode cX0_go 40 = .ok (.getfield 22, 3) := by decide +kernel
theorem dX0_go_43 : decode cX0_go 43 = .ok (.getstatic 56, 3) := by decide +kernel
theorem dX0_go_46 : decode cX0_go 46 = .ok (.aload_n 0, 1) := by decide +kernel
theorem dX0_go_47 : decode cX0_go 47 = .ok (.getfield 25, 3) := by decide +kernel
theorem dX0_go_50 : decode cX0_go 50 = .ok (.iaload, 1) := by decide +kernel
theorem dX0_go_51 : decode cX0_go 51 = .ok (.iadd, 1) := by decide +kernel
theorem dX0_go_52 : decode cX0_go 52 = .ok (.bipush 63, 2) := by decide +kernel
theorem dX0_go_54 : decode cX0_go 54 = .ok (.iand, 1) := by decide +kernel
theorem dX0_go_55 : decode cX0_go 55 = .ok (.putfield 22, 3) := by decide +kernel
theorem dX0_go_58 : decode cX0_go 58 = .ok (.aload_n 0, 1) := by decide +kernel
theorem dX0_go_59 : decode cX0_go 59 = .ok (.getfield 11, 3) := by decide +kernel
theorem dX0_go_62 : decode cX0_go 62 = .ok (.aload_n 0, 1) := by decide +kernel
theorem dX0_go_63 : decode cX0_go 63 = .ok (.getfield 38, 3) := by decide +kernel
theorem dX0_go_66 : decode cX0_go 66 = .ok (.sipush 511, 3) := by decide +kernel
theorem dX0_go_69 : decode cX0_go 69 = .ok (.iand, 1) := by decide +kernel
theorem dX0_go_70 : decode cX0_go 70 = .ok (.aload_n 0, 1) := by decide +kernel
theorem dX0_go_71 : decode cX0_go 71 = .ok (.getfield 25, 3) := by decide +kernel
theorem dX0_go_74 : decode cX0_go 74 = .ok (.iastore, 1) := by decide +kernel
theorem dX0_go_75 : decode cX0_go 75 = .ok (.aload_n 0, 1) := by decide +kernel
theorem dX0_go_76 : decode cX0_go 76 = .ok (.dup, 1) := by decide +kernel
theorem dX0_go_77 : decode cX0_go 77 = .ok (.getfield 38, 3) := by decide +kernel
theorem dX0_go_80 : decode cX0_go 80 = .ok (.iconst 1, 1) := by decide +kernel
theorem dX0_go_81 : decode cX0_go 81 = .ok (.iadd, 1) := by decide +kernel
theorem dX0_go_82 : decode cX0_go 82 = .ok (.putfield 38, 3) := by decide +kernel
theorem dX0_go_85 : decode cX0_go 85 = .ok (.aload_n 0, 1) := by decide +kernel
theorem dX0_go_86 : decode cX0_go 86 = .ok (.dup, 1) := by decide +kernel
theorem dX0_go_87 : decode cX0_go 87 = .ok (.getfield 32, 3) := by decide +kernel
theorem dX0_go_90 : decode cX0_go 90 = .ok (.iconst 1, 1) := by decide +kernel
theorem dX0_go_91 : decode cX0_go 91 = .ok (.iadd, 1) := by decide +kernel
theorem dX0_go_92 : decode cX0_go 92 = .ok (.putfield 32, 3) := by decide +kernel
theorem dX0_go_95 : decode cX0_go 95 = .ok (.aload_n 0, 1) := by decide +kernel
theorem dX0_go_96 : decode cX0_go 96 = .ok (.iconst (-1), 1) := by decide +kernel
theorem dX0_go_97 : decode cX0_go 97 = .ok (.putfield 41, 3) := by decide +kernel
theorem dX0_go_100 : decode cX0_go 100 = .ok (.return_, 1) := by decide +kernel
set_option maxRecDepth 20000 in
theorem ggX0_period_X0_sideOfStep : GoodIn wsX0_period wsX0_sideOfStep := goodIn_r _ [9, 10, 2, 15, 16, 17, 18, 19, 20, 21, 22, 23] (by decide +kernel) (by decide +kernel)
set_option maxRecDepth 20000 in
theorem gX0_period_X0_sideOfStep : GoodIn wsX0_period (wsV RX0 59 RX0 yX0_sideOfStep wsX0_sideOfStep) := goodIn_app (goodIn_of _ (by decide +kernel)) ggX0_period_X0_sideOfStep
set_option maxRecDepth 20000 in
theorem ggX0_period_X0_repeats : GoodIn wsX0_period wsX0_repeats := goodIn_r _ [14, 2, 10, 15, 16, 17, 18, 19, 20, 21, 22, 23] (by decide +kernel) (by decide +kernel)
set_option maxRecDepth 20000 in
theorem gX0_period_X0_repeats : GoodIn wsX0_period (wsV RX0 63 RX0 yX0_repeats wsX0_repeats) := goodIn_app (goodIn_of _ (by decide +kernel)) ggX0_period_X0_repeats
theorem dX0_period_0 : decode cX0_period 0 = .ok (.aload_n 0, 1) := by decide +kernel
theorem dX0_period_1 : decode cX0_period 1 = .ok (.getfield 41, 3) := by decide +kernel
theorem dX0_period_4 : decode cX0_period 4 = .ok (.iconst (-1), 1) := by decide +kernel
theorem dX0_period_5 : decode cX0_period 5 = .ok (.if_icmp .eq 8, 3) := by decide +kernel
theorem dX0_period_8 : decode cX0_period 8 = .ok (.aload_n 0, 1) := by decide +kernel
theorem dX0_period_9 : decode cX0_period 9 = .ok (.getfield 41, 3) := by decide +kernel
theorem dX0_period_12 : decode cX0_period 12 = .ok (.ireturn, 1) := by decide +kernel
theorem dX0_period_13 : decode cX0_period 13 = .ok (.aload_n 0, 1) := by decide +kernel
theorem dX0_period_14 : decode cX0_period 14 = .ok (.iconst 0, 1) := by decide +kernel
theorem dX0_period_15 : decode cX0_period 15 = .ok (.putfield 41, 3) := by decide +kernel
theorem dX0_period_18 : decode cX0_period 18 = .ok (.iconst 0, 1) := by decide +kernel
theorem dX0_period_19 : decode cX0_period 19 = .ok (.istore_n 1, 1) := by decide +kernel
theorem dX0_period_20 : decode cX0_period 20 = .ok (.iconst 0, 1) := by decide +kernel
theorem dX0_period_21 : decode cX0_period 21 = .ok (.istore_n 2, 1) := by decide +kernel
theorem dX0_period_22 : decode cX0_period 22 = .ok (.iconst 1, 1) := by decide +kernel
theorem dX0_period_23 : decode cX0_period 23 = .ok (.istore_n 3, 1) := by decide +kernel
theorem dX0_period_24 : decode cX0_period 24 = .ok (.iload_n 3, 1) := by decide +kernel
theorem dX0_period_25 : decode cX0_period 25 = .ok (.bipush 120, 2) := by decide +kernel
theorem dX0_period_27 : decode cX0_period 27 = .ok (.if_icmp .gt 72, 3) := by decide +kernel
theorem dX0_period_30 : decode cX0_period 30 = .ok (.iconst 3, 1) := by decide +kernel
theorem dX0_period_31 : decode cX0_period 31 = .ok (.iload_n 3, 1) := by decide +kernel
theorem dX0_period_32 : decode cX0_period 32 = .ok (.imul, 1) := by decide +kernel
theorem dX0_period_33 : decode cX0_period 33 = .ok (.aload_n 0, 1) := by decide +kernel
theorem dX0_period_34 : decode cX0_period 34 = .ok (.getfield 38, 3) := by decide +kernel
theorem dX0_period_37 : decode cX0_period 37 = .ok (.if_icmp .gt 62, 3) := by decide +kernel
theorem dX0_period_40 : decode cX0_period 40 = .ok (.aload_n 0, 1) := by decide +kernel
theorem dX0_period_41 : decode cX0_period 41 = .ok (.getfield 41, 3) := by decide +kernel
theorem dX0_period_44 : decode cX0_period 44 = .ok (.ifCond .ne 55, 3) := by decide +kernel
theorem dX0_period_47 : decode cX0_period 47 = .ok (.aload_n 0, 1) := by decide +kernel
theorem dX0_period_48 : decode cX0_period 48 = .ok (.iload_n 3, 1) := by decide +kernel
theorem dX0_period_49 : decode cX0_period 49 = .ok (.invokevirtual 59, 3) := by decide +kernel
theorem dX0_period_52 : decode cX0_period 52 = .ok (.istore 4, 2) := by decide +kernel
theorem dX0_period_54 : decode cX0_period 54 = .ok (.iload_n 1, 1) := by decide +kernel
theorem dX0_period_55 : decode cX0_period 55 = .ok (.getstatic 53, 3) := by decide +kernel
theorem dX0_period_58 : decode cX0_period 58 = .ok (.iload 4, 2) := by decide +kernel
theorem dX0_period_60 : decode cX0_period 60 = .ok (.iaload, 1) := by decide +kernel
theorem dX0_period_61 : decode cX0_period 61 = .ok (.iadd, 1) := by decide +kernel
theorem dX0_period_62 : decode cX0_period 62 = .ok (.istore_n 1, 1) := by decide +kernel
theorem dX0_period_63 : decode cX0_period 63 = .ok (.iload_n 2, 1) := by decide +kernel
theorem dX0_period_64 : decode cX0_period 64 = .ok (.getstatic 56, 3) := by decide +kernel
theorem dX0_period_67 : decode cX0_period 67 = .ok (.iload 4, 2) := by decide +kernel
theorem dX0_period_69 : decode cX0_period 69 = .ok (.iaload, 1) := by decide +kernel
theorem dX0_period_70 : decode cX0_period 70 = .ok (.iadd, 1) := by decide +kernel
theorem dX0_period_71 : decode cX0_period 71 = .ok (.istore_n 2, 1) := by decide +kernel
theorem dX0_period_72 : decode cX0_period 72 = .ok (.iload_n 1, 1) := by decide +kernel
theorem dX0_period_73 : decode cX0_period 73 = .ok (.ifCond .ne 7, 3) := by decide +kernel
theorem dX0_period_76 : decode cX0_period 76 = .ok (.iload_n 2, 1) := by decide +kernel
theorem dX0_period_77 : decode cX0_period 77 = .ok (.ifCond .eq 16, 3) := by decide +kernel
theorem dX0_period_80 : decode cX0_period 80 = .ok (.aload_n 0, 1) := by decide +kernel
theorem dX0_period_81 : decode cX0_period 81 = .ok (.iload_n 3, 1) := by decide +kernel
theorem dX0_period_82 : decode cX0_period 82 = .ok (.invokevirtual 63, 3) := by decide +kernel
theorem dX0_period_85 : decode cX0_period 85 = .ok (.ifCond .eq 8, 3) := by decide +kernel
theorem dX0_period_88 : decode cX0_period 88 = .ok (.aload_n 0, 1) := by decide +kernel
theorem dX0_period_89 : decode cX0_period 89 = .ok (.iload_n 3, 1) := by decide +kernel
theorem dX0_period_90 : decode cX0_period 90 = .ok (.putfield 41, 3) := by decide +kernel
theorem dX0_period_93 : decode cX0_period 93 = .ok (.iinc 3 1, 3) := by decide +kernel
theorem dX0_period_96 : decode cX0_period 96 = .ok (.goto (-72), 3) := by decide +kernel
theorem dX0_period_99 : decode cX0_period 99 = .ok (.aload_n 0, 1) := by decide +kernel
theorem dX0_period_100 : decode cX0_period 100 = .ok (.getfield 41, 3) := by decide +kernel
theorem dX0_period_103 : decode cX0_period 103 = .ok (.ireturn, 1) := by decide +kernel
theorem dX0_sideOfStep_0 : decode cX0_sideOfStep 0 = .ok (.aload_n 0, 1) := by decide +kernel
theorem dX0_sideOfStep_1 : decode cX0_sideOfStep 1 = .ok (.getfield 11, 3) := by decide +kernel
theorem dX0_sideOfStep_4 : decode cX0_sideOfStep 4 = .ok (.aload_n 0, 1) := by decide +kernel
theorem dX0_sideOfStep_5 : decode cX0_sideOfStep 5 = .ok (.getfield 38, 3) := by decide +kernel
theorem dX0_sideOfStep_8 : decode cX0_sideOfStep 8 = .ok (.iload_n 1, 1) := by decide +kernel
theorem dX0_sideOfStep_9 : decode cX0_sideOfStep 9 = .ok (.isub, 1) := by decide +kernel
theorem dX0_sideOfStep_10 : decode cX0_sideOfStep 10 = .ok (.sipush 511, 3) := by decide +kernel
theorem dX0_sideOfStep_13 : decode cX0_sideOfStep 13 = .ok (.iand, 1) := by decide +kernel
theorem dX0_sideOfStep_14 : decode cX0_sideOfStep 14 = .ok (.iaload, 1) := by decide +kernel
theorem dX0_sideOfStep_15 : decode cX0_sideOfStep 15 = .ok (.iconst 3, 1) := by decide +kernel
theorem dX0_sideOfStep_16 : decode cX0_sideOfStep 16 = .ok (.iand, 1) := by decide +kernel
theorem dX0_sideOfStep_17 : decode cX0_sideOfStep 17 = .ok (.ireturn, 1) := by decide +kernel
theorem dX0_repeats_0 : decode cX0_repeats 0 = .ok (.aload_n 0, 1) := by decide +kernel
theorem dX0_repeats_1 : decode cX0_repeats 1 = .ok (.getfield 38, 3) := by decide +kernel
theorem dX0_repeats_4 : decode cX0_repeats 4 = .ok (.iload_n 1, 1) := by decide +kernel
theorem dX0_repeats_5 : decode cX0_repeats 5 = .ok (.isub, 1) := by decide +kernel
theorem dX0_repeats_6 : decode cX0_repeats 6 = .ok (.istore_n 2, 1) := by decide +kernel
theorem dX0_repeats_7 : decode cX0_repeats 7 = .ok (.iconst 1, 1) := by decide +kernel
theorem dX0_repeats_8 : decode cX0_repeats 8 = .ok (.istore_n 3, 1) := by decide +kernel
theorem dX0_repeats_9 : decode cX0_repeats 9 = .ok (.iload_n 3, 1) := by decide +kernel
theorem dX0_repeats_10 : decode cX0_repeats 10 = .ok (.iconst 2, 1) := by decide +kernel
theorem dX0_repeats_11 : decode cX0_repeats 11 = .ok (.iload_n 1, 1) := by decide +kernel
theorem dX0_repeats_12 : decode cX0_repeats 12 = .ok (.imul, 1) := by decide +kernel
theorem dX0_repeats_13 : decode cX0_repeats 13 = .ok (.if_icmp .gt 41, 3) := by decide +kernel
theorem dX0_repeats_16 : decode cX0_repeats 16 = .ok (.aload_n 0, 1) := by decide +kernel
theorem dX0_repeats_17 : decode cX0_repeats 17 = .ok (.getfield 11, 3) := by decide +kernel
theorem dX0_repeats_20 : decode cX0_repeats 20 = .ok (.aload_n 0, 1) := by decide +kernel
theorem dX0_repeats_21 : decode cX0_repeats 21 = .ok (.getfield 38, 3) := by decide +kernel
theorem dX0_repeats_24 : decode cX0_repeats 24 = .ok (.iload_n 3, 1) := by decide +kernel
theorem dX0_repeats_25 : decode cX0_repeats 25 = .ok (.isub, 1) := by decide +kernel
theorem dX0_repeats_26 : decode cX0_repeats 26 = .ok (.sipush 511, 3) := by decide +kernel
theorem dX0_repeats_29 : decode cX0_repeats 29 = .ok (.iand, 1) := by decide +kernel
theorem dX0_repeats_30 : decode cX0_repeats 30 = .ok (.iaload, 1) := by decide +kernel
theorem dX0_repeats_31 : decode cX0_repeats 31 = .ok (.aload_n 0, 1) := by decide +kernel
theorem dX0_repeats_32 : decode cX0_repeats 32 = .ok (.getfield 11, 3) := by decide +kernel
theorem dX0_repeats_35 : decode cX0_repeats 35 = .ok (.iload_n 2, 1) := by decide +kernel
theorem dX0_repeats_36 : decode cX0_repeats 36 = .ok (.iload_n 3, 1) := by decide +kernel
theorem dX0_repeats_37 : decode cX0_repeats 37 = .ok (.isub, 1) := by decide +kernel
theorem dX0_repeats_38 : decode cX0_repeats 38 = .ok (.sipush 511, 3) := by decide +kernel
theorem dX0_repeats_41 : decode cX0_repeats 41 = .ok (.iand, 1) := by decide +kernel
theorem dX0_repeats_42 : decode cX0_repeats 42 = .ok (.iaload, 1) := by decide +kernel
theorem dX0_repeats_43 : decode cX0_repeats 43 = .ok (.if_icmp .eq 5, 3) := by decide +kernel
theorem dX0_repeats_46 : decode cX0_repeats 46 = .ok (.iconst 0, 1) := by decide +kernel
theorem dX0_repeats_47 : decode cX0_repeats 47 = .ok (.ireturn, 1) := by decide +kernel
theorem dX0_repeats_48 : decode cX0_repeats 48 = .ok (.iinc 3 1, 3) := by decide +kernel
theorem dX0_repeats_51 : decode cX0_repeats 51 = .ok (.goto (-42), 3) := by decide +kernel
theorem dX0_repeats_54 : decode cX0_repeats 54 = .ok (.iconst 1, 1) := by decide +kernel
theorem dX0_repeats_55 : decode cX0_repeats 55 = .ok (.ireturn, 1) := by decide +kernel
set_option maxRecDepth 20000 in
theorem ggX0_eastOfPeriod_X0_period : GoodIn wsX0_eastOfPeriod wsX0_period := goodIn_r _ [6, 7, 8, 1, 9, 10, 11, 12, 5, 13, 14, 15, 16, 17, 18, 19, 20, 21, 22, 23, 24, 25, 26, 27] (by decide +kernel) (by decide +kernel)
set_option maxRecDepth 20000 in
theorem gX0_eastOfPeriod_X0_period : GoodIn wsX0_eastOfPeriod (wsV RX0 67 RX0 yX0_period wsX0_period) := goodIn_app (goodIn_of _ (by decide +kernel)) ggX0_eastOfPeriod_X0_period
set_option maxRecDepth 20000 in
theorem ggX0_eastOfPeriod_X0_sideOfStep : GoodIn wsX0_eastOfPeriod wsX0_sideOfStep := goodIn_r _ [13, 14, 8, 19, 20, 21, 22, 23, 24, 25, 26, 27] (by decide +kernel) (by decide +kernel)
set_option maxRecDepth 20000 in
theorem gX0_eastOfPeriod_X0_sideOfStep : GoodIn wsX0_eastOfPeriod (wsV RX0 59 RX0 yX0_sideOfStep wsX0_sideOfStep) := goodIn_app (goodIn_of _ (by decide +kernel)) ggX0_eastOfPeriod_X0_sideOfStep
theorem dX0_eastOfPeriod_0 : decode cX0_eastOfPeriod 0 = .ok (.iconst 0, 1) := by decide +kernel
theorem dX0_eastOfPeriod_1 : decode cX0_eastOfPeriod 1 = .ok (.istore_n 1, 1) := by decide +kernel
theorem dX0_eastOfPeriod_2 : decode cX0_eastOfPeriod 2 = .ok (.aload_n 0, 1) := by decide +kernel
theorem dX0_eastOfPeriod_3 : decode cX0_eastOfPeriod 3 = .ok (.invokevirtual 67, 3) := by decide +kernel
theorem dX0_eastOfPeriod_6 : decode cX0_eastOfPeriod 6 = .ok (.istore_n 2, 1) := by decide +kernel
theorem dX0_eastOfPeriod_7 : decode cX0_eastOfPeriod 7 = .ok (.iload_n 2, 1) := by decide +kernel
theorem dX0_eastOfPeriod_8 : decode cX0_eastOfPeriod 8 = .ok (.ifCond .le 21, 3) := by decide +kernel
theorem dX0_eastOfPeriod_11 : decode cX0_eastOfPeriod 11 = .ok (.iload_n 1, 1) := by decide +kernel
theorem dX0_eastOfPeriod_12 : decode cX0_eastOfPeriod 12 = .ok (.getstatic 53, 3) := by decide +kernel
theorem dX0_eastOfPeriod_15 : decode cX0_eastOfPeriod 15 = .ok (.aload_n 0, 1) := by decide +kernel
theorem dX0_eastOfPeriod_16 : decode cX0_eastOfPeriod 16 = .ok (.iload_n 2, 1) := by decide +kernel
theorem dX0_eastOfPeriod_17 : decode cX0_eastOfPeriod 17 = .ok (.invokevirtual 59, 3) := by decide +kernel
theorem dX0_eastOfPeriod_20 : decode cX0_eastOfPeriod 20 = .ok (.iaload, 1) := by decide +kernel
theorem dX0_eastOfPeriod_21 : decode cX0_eastOfPeriod 21 = .ok (.iadd, 1) := by decide +kernel
theorem dX0_eastOfPeriod_22 : decode cX0_eastOfPeriod 22 = .ok (.istore_n 1, 1) := by decide +kernel
theorem dX0_eastOfPeriod_23 : decode cX0_eastOfPeriod 23 = .ok (.iinc 2 (-1), 3) := by decide +kernel
theorem dX0_eastOfPeriod_26 : decode cX0_eastOfPeriod 26 = .ok (.goto (-19), 3) := by decide +kernel
theorem dX0_eastOfPeriod_29 : decode cX0_eastOfPeriod 29 = .ok (.iload_n 1, 1) := by decide +kernel
theorem dX0_eastOfPeriod_30 : decode cX0_eastOfPeriod 30 = .ok (.ireturn, 1) := by decide +kernel
set_option maxRecDepth 20000 in
theorem ggX0_southOfPeriod_X0_period : GoodIn wsX0_southOfPeriod wsX0_period := goodIn_r _ [6, 7, 8, 9, 1, 10, 11, 12, 5, 13, 14, 15, 16, 17, 18, 19, 20, 21, 22, 23, 24, 25, 26, 27] (by decide +kernel) (by decide +kernel)
set_option maxRecDepth 20000 in
theorem gX0_southOfPeriod_X0_period : GoodIn wsX0_southOfPeriod (wsV RX0 67 RX0 yX0_period wsX0_period) := goodIn_app (goodIn_of _ (by decide +kernel)) ggX0_southOfPeriod_X0_period
set_option maxRecDepth 20000 in
theorem ggX0_southOfPeriod_X0_sideOfStep : GoodIn wsX0_southOfPeriod wsX0_sideOfStep := goodIn_r _ [13, 14, 8, 19, 20, 21, 22, 23, 24, 25, 26, 27] (by decide +kernel) (by decide +kernel)
set_option maxRecDepth 20000 in
theorem gX0_southOfPeriod_X0_sideOfStep : GoodIn wsX0_southOfPeriod (wsV RX0 59 RX0 yX0_sideOfStep wsX0_sideOfStep) := goodIn_app (goodIn_of _ (by decide +kernel)) ggX0_southOfPeriod_X0_sideOfStep
theorem dX0_southOfPeriod_0 : decode cX0_southOfPeriod 0 = .ok (.iconst 0, 1) := by decide +kernel
theorem dX0_southOfPeriod_1 : decode cX0_southOfPeriod 1 = .ok (.istore_n 1, 1) := by decide +kernel
theorem dX0_southOfPeriod_2 : decode cX0_southOfPeriod 2 = .ok (.aload_n 0, 1) := by decide +kernel
theorem dX0_southOfPeriod_3 : decode cX0_southOfPeriod 3 = .ok (.invokevirtual 67, 3) := by decide +kernel
theorem dX0_southOfPeriod_6 : decode cX0_southOfPeriod 6 = .ok (.istore_n 2, 1) := by decide +kernel
theorem dX0_southOfPeriod_7 : decode cX0_southOfPeriod 7 = .ok (.iload_n 2, 1) := by decide +kernel
theorem dX0_southOfPeriod_8 : decode cX0_southOfPeriod 8 = .ok (.ifCond .le 21, 3) := by decide +kernel
theorem dX0_southOfPeriod_11 : decode cX0_southOfPeriod 11 = .ok (.iload_n 1, 1) := by decide +kernel
theorem dX0_southOfPeriod_12 : decode cX0_southOfPeriod 12 = .ok (.getstatic 56, 3) := by decide +kernel
theorem dX0_southOfPeriod_15 : decode cX0_southOfPeriod 15 = .ok (.aload_n 0, 1) := by decide +kernel
theorem dX0_southOfPeriod_16 : decode cX0_southOfPeriod 16 = .ok (.iload_n 2, 1) := by decide +kernel
theorem dX0_southOfPeriod_17 : decode cX0_southOfPeriod 17 = .ok (.invokevirtual 59, 3) := by decide +kernel
theorem dX0_southOfPeriod_20 : decode cX0_southOfPeriod 20 = .ok (.iaload, 1) := by decide +kernel
theorem dX0_southOfPeriod_21 : decode cX0_southOfPeriod 21 = .ok (.iadd, 1) := by decide +kernel
theorem dX0_southOfPeriod_22 : decode cX0_southOfPeriod 22 = .ok (.istore_n 1, 1) := by decide +kernel
theorem dX0_southOfPeriod_23 : decode cX0_southOfPeriod 23 = .ok (.iinc 2 (-1), 3) := by decide +kernel
theorem dX0_southOfPeriod_26 : decode cX0_southOfPeriod 26 = .ok (.goto (-19), 3) := by decide +kernel
theorem dX0_southOfPeriod_29 : decode cX0_southOfPeriod 29 = .ok (.iload_n 1, 1) := by decide +kernel
theorem dX0_southOfPeriod_30 : decode cX0_southOfPeriod 30 = .ok (.ireturn, 1) := by decide +kernel
set_option maxRecDepth 20000 in
theorem ggX0_answer_X0_period : GoodIn wsX0_answer wsX0_period := goodIn_r _ [11, 12, 13, 14, 15, 16, 17, 18, 10, 19, 20, 21, 22, 23, 24, 33, 34, 35, 36, 37, 38, 39, 40, 41] (by decide +kernel) (by decide +kernel)
set_option maxRecDepth 20000 in
theorem gX0_answer_X0_period : GoodIn wsX0_answer (wsV RX0 67 RX0 yX0_period wsX0_period) := goodIn_app (goodIn_of _ (by decide +kernel)) ggX0_answer_X0_period
set_option maxRecDepth 20000 in
theorem ggX0_answer_X0_eastOfPeriod : GoodIn wsX0_answer wsX0_eastOfPeriod := goodIn_r _ [28, 14, 7, 8, 9, 10, 11, 12, 13, 15, 16, 17, 18, 19, 20, 21, 22, 23, 24, 33, 34, 35, 36, 37, 38, 39, 40, 41] (by decide +kernel) (by decide +kernel)
set_option maxRecDepth 20000 in
theorem gX0_answer_X0_eastOfPeriod : GoodIn wsX0_answer (wsV RX0 71 RX0 yX0_eastOfPeriod wsX0_eastOfPeriod) := goodIn_app (goodIn_of _ (by decide +kernel)) ggX0_answer_X0_eastOfPeriod
set_option maxRecDepth 20000 in
theorem ggX0_answer_X0_southOfPeriod : GoodIn wsX0_answer wsX0_southOfPeriod := goodIn_r _ [32, 15, 7, 8, 9, 10, 11, 12, 13, 14, 16, 17, 18, 19, 20, 21, 22, 23, 24, 33, 34, 35, 36, 37, 38, 39, 40, 41] (by decide +kernel) (by decide +kernel)
set_option maxRecDepth 20000 in
theorem gX0_answer_X0_southOfPeriod : GoodIn wsX0_answer (wsV RX0 74 RX0 yX0_southOfPeriod wsX0_southOfPeriod) := goodIn_app (goodIn_of _ (by decide +kernel)) ggX0_answer_X0_southOfPeriod
theorem dX0_answer_0 : decode cX0_answer 0 = .ok (.iload_n 1, 1) := by decide +kernel
theorem dX0_answer_1 : decode cX0_answer 1 = .ok (.tableswitch 104 0 8 #[51, 56, 61, 66, 71, 84, 89, 94, 99], 51) := by decide +kernel
theorem dX0_answer_52 : decode cX0_answer 52 = .ok (.aload_n 0, 1) := by decide +kernel
theorem dX0_answer_53 : decode cX0_answer 53 = .ok (.getfield 15, 3) := by decide +kernel
theorem dX0_answer_56 : decode cX0_answer 56 = .ok (.ireturn, 1) := by decide +kernel
theorem dX0_answer_57 : decode cX0_answer 57 = .ok (.aload_n 0, 1) := by decide +kernel
theorem dX0_answer_58 : decode cX0_answer 58 = .ok (.getfield 19, 3) := by decide +kernel
theorem dX0_answer_61 : decode cX0_answer 61 = .ok (.ireturn, 1) := by decide +kernel
theorem dX0_answer_62 : decode cX0_answer 62 = .ok (.aload_n 0, 1) := by decide +kernel
theorem dX0_answer_63 : decode cX0_answer 63 = .ok (.getfield 22, 3) := by decide +kernel
theorem dX0_answer_66 : decode cX0_answer 66 = .ok (.ireturn, 1) := by decide +kernel
theorem dX0_answer_67 : decode cX0_answer 67 = .ok (.aload_n 0, 1) := by decide +kernel
theorem dX0_answer_68 : decode cX0_answer 68 = .ok (.getfield 25, 3) := by decide +kernel
theorem dX0_answer_71 : decode cX0_answer 71 = .ok (.ireturn, 1) := by decide +kernel
theorem dX0_answer_72 : decode cX0_answer 72 = .ok (.aload_n 0, 1) := by decide +kernel
theorem dX0_answer_73 : decode cX0_answer 73 = .ok (.getfield 28, 3) := by decide +kernel
theorem dX0_answer_76 : decode cX0_answer 76 = .ok (.ifCond .eq 7, 3) := by decide +kernel
theorem dX0_answer_79 : decode cX0_answer 79 = .ok (.iconst 1, 1) := by decide +kernel
theorem dX0_answer_80 : decode cX0_answer 80 = .ok (.goto 4, 3) := by decide +kernel
theorem dX0_answer_83 : decode cX0_answer 83 = .ok (.iconst 0, 1) := by decide +kernel
theorem dX0_answer_84 : decode cX0_answer 84 = .ok (.ireturn, 1) := by decide +kernel
theorem dX0_answer_85 : decode cX0_answer 85 = .ok (.aload_n 0, 1) := by decide +kernel
theorem dX0_answer_86 : decode cX0_answer 86 = .ok (.getfield 32, 3) := by decide +kernel
theorem dX0_answer_89 : decode cX0_answer 89 = .ok (.ireturn, 1) := by decide +kernel
theorem dX0_answer_90 : decode cX0_answer 90 = .ok (.aload_n 0, 1) := by decide +kernel
theorem dX0_answer_91 : decode cX0_answer 91 = .ok (.invokevirtual 67, 3) := by decide +kernel
theorem dX0_answer_94 : decode cX0_answer 94 = .ok (.ireturn, 1) := by decide +kernel
theorem dX0_answer_95 : decode cX0_answer 95 = .ok (.aload_n 0, 1) := by decide +kernel
theorem dX0_answer_96 : decode cX0_answer 96 = .ok (.invokevirtual 71, 3) := by decide +kernel
theorem dX0_answer_99 : decode cX0_answer 99 = .ok (.ireturn, 1) := by decide +kernel
theorem dX0_answer_100 : decode cX0_answer 100 = .ok (.aload_n 0, 1) := by decide +kernel
theorem dX0_answer_101 : decode cX0_answer 101 = .ok (.invokevirtual 74, 3) := by decide +kernel
theorem dX0_answer_104 : decode cX0_answer 104 = .ok (.ireturn, 1) := by decide +kernel
theorem dX0_answer_105 : decode cX0_answer 105 = .ok (.iconst 0, 1) := by decide +kernel
theorem dX0_answer_106 : decode cX0_answer 106 = .ok (.ireturn, 1) := by decide +kernel
