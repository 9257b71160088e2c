set_option maxRecDepth 20000 in
theorem ggX8_init_X0_init : GoodIn wsX8_init wsX0_init := goodIn_r _ [13, 14, 2, 3, 4, 15, 25, 26, 27, 28, 29, 30, 31, 32, 33] (by decide +kernel) (by decide +kernel)
set_option maxRecDepth 20000 in
theorem gX8_init_X0_init_n27 : GoodIn wsX8_init (wsX0_init) := ggX8_init_X0_init
theorem dX8_init_0 : decode cX8_init 0 = .ok (.aload_n 0, 1) := by decide +kernel
theorem dX8_init_1 : decode cX8_init 1 = .ok (.invokespecial 3, 3) := by decide +kernel
theorem dX8_init_4 : decode cX8_init 4 = .ok (.aload_n 0, 1) := by decide +kernel
theorem dX8_init_5 : decode cX8_init 5 = .ok (.sipush 4096, 3) := by decide +kernel
theorem dX8_init_8 : decode cX8_init 8 = .ok (.newarray .int, 2) := by decide +kernel
theorem dX8_init_10 : decode cX8_init 10 = .ok (.putfield 9, 3) := by decide +kernel
theorem dX8_init_13 : decode cX8_init 13 = .ok (.aload_n 0, 1) := by decide +kernel
theorem dX8_init_14 : decode cX8_init 14 = .ok (.bipush 64, 2) := by decide +kernel
theorem dX8_init_16 : decode cX8_init 16 = .ok (.newarray .int, 2) := by decide +kernel
theorem dX8_init_18 : decode cX8_init 18 = .ok (.putfield 15, 3) := by decide +kernel
theorem dX8_init_21 : decode cX8_init 21 = .ok (.aload_n 0, 1) := by decide +kernel
theorem dX8_init_22 : decode cX8_init 22 = .ok (.bipush 6, 2) := by decide +kernel
theorem dX8_init_24 : decode cX8_init 24 = .ok (.newarray .int, 2) := by decide +kernel
theorem dX8_init_26 : decode cX8_init 26 = .ok (.putfield 18, 3) := by decide +kernel
theorem dX8_init_29 : decode cX8_init 29 = .ok (.aload_n 0, 1) := by decide +kernel
theorem dX8_init_30 : decode cX8_init 30 = .ok (.bipush 6, 2) := by decide +kernel
theorem dX8_init_32 : decode cX8_init 32 = .ok (.anewarray 21, 3) := by decide +kernel
theorem dX8_init_35 : decode cX8_init 35 = .ok (.putfield 23, 3) := by decide +kernel
theorem dX8_init_38 : decode cX8_init 38 = .ok (.iconst 0, 1) := by decide +kernel
theorem dX8_init_39 : decode cX8_init 39 = .ok (.istore_n 1, 1) := by decide +kernel
theorem dX8_init_40 : decode cX8_init 40 = .ok (.iload_n 1, 1) := by decide +kernel
theorem dX8_init_41 : decode cX8_init 41 = .ok (.bipush 6, 2) := by decide +kernel
theorem dX8_init_43 : decode cX8_init 43 = .ok (.if_icmp .ge 22, 3) := by decide +kernel
theorem dX8_init_46 : decode cX8_init 46 = .ok (.aload_n 0, 1) := by decide +kernel
theorem dX8_init_47 : decode cX8_init 47 = .ok (.getfield 23, 3) := by decide +kernel
theorem dX8_init_50 : decode cX8_init 50 = .ok (.iload_n 1, 1) := by decide +kernel
theorem dX8_init_51 : decode cX8_init 51 = .ok (.new 21, 3) := by decide +kernel
theorem dX8_init_54 : decode cX8_init 54 = .ok (.dup, 1) := by decide +kernel
theorem dX8_init_55 : decode cX8_init 55 = .ok (.invokespecial 27, 3) := by decide +kernel
theorem dX8_init_58 : decode cX8_init 58 = .ok (.aastore, 1) := by decide +kernel
theorem dX8_init_59 : decode cX8_init 59 = .ok (.iinc 1 1, 3) := by decide +kernel
theorem dX8_init_62 : decode cX8_init 62 = .ok (.goto (-22), 3) := by decide +kernel
theorem dX8_init_65 : decode cX8_init 65 = .ok (.aload_n 0, 1) := by decide +kernel
theorem dX8_init_66 : decode cX8_init 66 = .ok (.getfield 18, 3) := by decide +kernel
theorem dX8_init_69 : decode cX8_init 69 = .ok (.iconst 0, 1) := by decide +kernel
theorem dX8_init_70 : decode cX8_init 70 = .ok (.sipush 4096, 3) := by decide +kernel
theorem dX8_init_73 : decode cX8_init 73 = .ok (.iastore, 1) := by decide +kernel
theorem dX8_init_74 : decode cX8_init 74 = .ok (.return_, 1) := by decide +kernel
theorem dX8_clear_0 : decode cX8_clear 0 = .ok (.iconst 0, 1) := by decide +kernel
theorem dX8_clear_1 : decode cX8_clear 1 = .ok (.istore_n 1, 1) := by decide +kernel
theorem dX8_clear_2 : decode cX8_clear 2 = .ok (.iload_n 1, 1) := by decide +kernel
theorem dX8_clear_3 : decode cX8_clear 3 = .ok (.sipush 4096, 3) := by decide +kernel
theorem dX8_clear_6 : decode cX8_clear 6 = .ok (.if_icmp .ge 16, 3) := by decide +kernel
theorem dX8_clear_9 : decode cX8_clear 9 = .ok (.aload_n 0, 1) := by decide +kernel
theorem dX8_clear_10 : decode cX8_clear 10 = .ok (.getfield 9, 3) := by decide +kernel
theorem dX8_clear_13 : decode cX8_clear 13 = .ok (.iload_n 1, 1) := by decide +kernel
theorem dX8_clear_14 : decode cX8_clear 14 = .ok (.iconst 0, 1) := by decide +kernel
theorem dX8_clear_15 : decode cX8_clear 15 = .ok (.iastore, 1) := by decide +kernel
theorem dX8_clear_16 : decode cX8_clear 16 = .ok (.iinc 1 1, 3) := by decide +kernel
theorem dX8_clear_19 : decode cX8_clear 19 = .ok (.goto (-17), 3) := by decide +kernel
theorem dX8_clear_22 : decode cX8_clear 22 = .ok (.iconst 0, 1) := by decide +kernel
theorem dX8_clear_23 : decode cX8_clear 23 = .ok (.istore_n 1, 1) := by decide +kernel
theorem dX8_clear_24 : decode cX8_clear 24 = .ok (.iload_n 1, 1) := by decide +kernel
theorem dX8_clear_25 : decode cX8_clear 25 = .ok (.bipush 64, 2) := by decide +kernel
theorem dX8_clear_27 : decode cX8_clear 27 = .ok (.if_icmp .ge 16, 3) := by decide +kernel
theorem dX8_clear_30 : decode cX8_clear 30 = .ok (.aload_n 0, 1) := by decide +kernel
theorem dX8_clear_31 : decode cX8_clear 31 = .ok (.getfield 15, 3) := by decide +kernel
theorem dX8_clear_34 : decode cX8_clear 34 = .ok (.iload_n 1, 1) := by decide +kernel
theorem dX8_clear_35 : decode cX8_clear 35 = .ok (.iconst 0, 1) := by decide +kernel
theorem dX8_clear_36 : decode cX8_clear 36 = .ok (.iastore, 1) := by decide +kernel
theorem dX8_clear_37 : decode cX8_clear 37 = .ok (.iinc 1 1, 3) := by decide +kernel
theorem dX8_clear_40 : decode cX8_clear 40 = .ok (.goto (-16), 3) := by decide +kernel
theorem dX8_clear_43 : decode cX8_clear 43 = .ok (.iconst 1, 1) := by decide +kernel
theorem dX8_clear_44 : decode cX8_clear 44 = .ok (.istore_n 1, 1) := by decide +kernel
theorem dX8_clear_45 : decode cX8_clear 45 = .ok (.iload_n 1, 1) := by decide +kernel
theorem dX8_clear_46 : decode cX8_clear 46 = .ok (.bipush 6, 2) := by decide +kernel
theorem dX8_clear_48 : decode cX8_clear 48 = .ok (.if_icmp .ge 16, 3) := by decide +kernel
theorem dX8_clear_51 : decode cX8_clear 51 = .ok (.aload_n 0, 1) := by decide +kernel
theorem dX8_clear_52 : decode cX8_clear 52 = .ok (.getfield 18, 3) := by decide +kernel
theorem dX8_clear_55 : decode cX8_clear 55 = .ok (.iload_n 1, 1) := by decide +kernel
theorem dX8_clear_56 : decode cX8_clear 56 = .ok (.iconst 0, 1) := by decide +kernel
theorem dX8_clear_57 : decode cX8_clear 57 = .ok (.iastore, 1) := by decide +kernel
theorem dX8_clear_58 : decode cX8_clear 58 = .ok (.iinc 1 1, 3) := by decide +kernel
theorem dX8_clear_61 : decode cX8_clear 61 = .ok (.goto (-16), 3) := by decide +kernel
theorem dX8_clear_64 : decode cX8_clear 64 = .ok (.aload_n 0, 1) := by decide +kernel
theorem dX8_clear_65 : decode cX8_clear 65 = .ok (.getfield 18, 3) := by decide +kernel
theorem dX8_clear_68 : decode cX8_clear 68 = .ok (.iconst 0, 1) := by decide +kernel
theorem dX8_clear_69 : decode cX8_clear 69 = .ok (.sipush 4096, 3) := by decide +kernel
theorem dX8_clear_72 : decode cX8_clear 72 = .ok (.iastore, 1) := by decide +kernel
theorem dX8_clear_73 : decode cX8_clear 73 = .ok (.aload_n 0, 1) := by decide +kernel
theorem dX8_clear_74 : decode cX8_clear 74 = .ok (.iconst 0, 1) := by decide +kernel
theorem dX8_clear_75 : decode cX8_clear 75 = .ok (.putfield 28, 3) := by decide +kernel
theorem dX8_clear_78 : decode cX8_clear 78 = .ok (.aload_n 0, 1) := by decide +kernel
theorem dX8_clear_79 : decode cX8_clear 79 = .ok (.iconst 0, 1) := by decide +kernel
theorem dX8_clear_80 : decode cX8_clear 80 = .ok (.putfield 32, 3) := by decide +kernel
theorem dX8_clear_83 : decode cX8_clear 83 = .ok (.aload_n 0, 1) := by decide +kernel
theorem dX8_clear_84 : decode cX8_clear 84 = .ok (.iconst 0, 1) := by decide +kernel
theorem dX8_clear_85 : decode cX8_clear 85 = .ok (.putfield 35, 3) := by decide +kernel
theorem dX8_clear_88 : decode cX8_clear 88 = .ok (.aload_n 0, 1) := by decide +kernel
theorem dX8_clear_89 : decode cX8_clear 89 = .ok (.iconst 0, 1) := by decide +kernel
theorem dX8_clear_90 : decode cX8_clear 90 = .ok (.putfield 38, 3) := by decide +kernel
theorem dX8_clear_93 : decode cX8_clear 93 = .ok (.aload_n 0, 1) := by decide +kernel
theorem dX8_clear_94 : decode cX8_clear 94 = .ok (.iconst 0, 1) := by decide +kernel
theorem dX8_clear_95 : decode cX8_clear 95 = .ok (.putfield 41, 3) := by decide +kernel
theorem dX8_clear_98 : decode cX8_clear 98 = .ok (.return_, 1) := by decide +kernel
set_option maxRecDepth 20000 in
theorem ggX8_copyFrom_X0_copyFrom : GoodIn wsX8_copyFrom wsX0_copyFrom := goodIn_r _ [18, 19, 20, 21, 22, 23, 24, 25, 26, 27, 28, 3, 4, 5, 38, 39, 40, 41, 42, 43, 44, 45, 46] (by decide +kernel) (by decide +kernel)
set_option maxRecDepth 20000 in
theorem gX8_copyFrom_X0_copyFrom : GoodIn wsX8_copyFrom (wsV RX8 50 RX0 yX0_copyFrom wsX0_copyFrom) := goodIn_app (goodIn_of _ (by decide +kernel)) ggX8_copyFrom_X0_copyFrom
theorem dX8_copyFrom_0 : decode cX8_copyFrom 0 = .ok (.aload_n 1, 1) := by decide +kernel
theorem dX8_copyFrom_1 : decode cX8_copyFrom 1 = .ok (.getfield 9, 3) := by decide +kernel
theorem dX8_copyFrom_4 : decode cX8_copyFrom 4 = .ok (.iconst 0, 1) := by decide +kernel
theorem dX8_copyFrom_5 : decode cX8_copyFrom 5 = .ok (.aload_n 0, 1) := by decide +kernel
theorem dX8_copyFrom_6 : decode cX8_copyFrom 6 = .ok (.getfield 9, 3) := by decide +kernel
theorem dX8_copyFrom_9 : decode cX8_copyFrom 9 = .ok (.iconst 0, 1) := by decide +kernel
theorem dX8_copyFrom_10 : decode cX8_copyFrom 10 = .ok (.sipush 4096, 3) := by decide +kernel
theorem dX8_copyFrom_13 : decode cX8_copyFrom 13 = .ok (.invokestatic 44, 3) := by decide +kernel
theorem dX8_copyFrom_16 : decode cX8_copyFrom 16 = .ok (.aload_n 1, 1) := by decide +kernel
theorem dX8_copyFrom_17 : decode cX8_copyFrom 17 = .ok (.getfield 15, 3) := by decide +kernel
theorem dX8_copyFrom_20 : decode cX8_copyFrom 20 = .ok (.iconst 0, 1) := by decide +kernel
theorem dX8_copyFrom_21 : decode cX8_copyFrom 21 = .ok (.aload_n 0, 1) := by decide +kernel
theorem dX8_copyFrom_22 : decode cX8_copyFrom 22 = .ok (.getfield 15, 3) := by decide +kernel
theorem dX8_copyFrom_25 : decode cX8_copyFrom 25 = .ok (.iconst 0, 1) := by decide +kernel
theorem dX8_copyFrom_26 : decode cX8_copyFrom 26 = .ok (.bipush 64, 2) := by decide +kernel
theorem dX8_copyFrom_28 : decode cX8_copyFrom 28 = .ok (.invokestatic 44, 3) := by decide +kernel
theorem dX8_copyFrom_31 : decode cX8_copyFrom 31 = .ok (.aload_n 1, 1) := by decide +kernel
theorem dX8_copyFrom_32 : decode cX8_copyFrom 32 = .ok (.getfield 18, 3) := by decide +kernel
theorem dX8_copyFrom_35 : decode cX8_copyFrom 35 = .ok (.iconst 0, 1) := by decide +kernel
theorem dX8_copyFrom_36 : decode cX8_copyFrom 36 = .ok (.aload_n 0, 1) := by decide +kernel
theorem dX8_copyFrom_37 : decode cX8_copyFrom 37 = .ok (.getfield 18, 3) := by decide +kernel
theorem dX8_copyFrom_40 : decode cX8_copyFrom 40 = .ok (.iconst 0, 1) := by decide +kernel
theorem dX8_copyFrom_41 : decode cX8_copyFrom 41 = .ok (.bipush 6, 2) := by decide +kernel
theorem dX8_copyFrom_43 : decode cX8_copyFrom 43 = .ok (.invokestatic 44, 3) := by decide +kernel
theorem dX8_copyFrom_46 : decode cX8_copyFrom 46 = .ok (.aload_n 0, 1) := by decide +kernel
theorem dX8_copyFrom_47 : decode cX8_copyFrom 47 = .ok (.aload_n 1, 1) := by decide +kernel
theorem dX8_copyFrom_48 : decode cX8_copyFrom 48 = .ok (.getfield 28, 3) := by decide +kernel
theorem dX8_copyFrom_51 : decode cX8_copyFrom 51 = .ok (.putfield 28, 3) := by decide +kernel
theorem dX8_copyFrom_54 : decode cX8_copyFrom 54 = .ok (.iconst 0, 1) := by decide +kernel
theorem dX8_copyFrom_55 : decode cX8_copyFrom 55 = .ok (.istore_n 2, 1) := by decide +kernel
theorem dX8_copyFrom_56 : decode cX8_copyFrom 56 = .ok (.iload_n 2, 1) := by decide +kernel
theorem dX8_copyFrom_57 : decode cX8_copyFrom 57 = .ok (.aload_n 0, 1) := by decide +kernel
theorem dX8_copyFrom_58 : decode cX8_copyFrom 58 = .ok (.getfield 28, 3) := by decide +kernel
theorem dX8_copyFrom_61 : decode cX8_copyFrom 61 = .ok (.if_icmp .ge 30, 3) := by decide +kernel
theorem dX8_copyFrom_64 : decode cX8_copyFrom 64 = .ok (.iload_n 2, 1) := by decide +kernel
theorem dX8_copyFrom_65 : decode cX8_copyFrom 65 = .ok (.bipush 6, 2) := by decide +kernel
theorem dX8_copyFrom_67 : decode cX8_copyFrom 67 = .ok (.if_icmp .ge 24, 3) := by decide +kernel
theorem dX8_copyFrom_70 : decode cX8_copyFrom 70 = .ok (.aload_n 0, 1) := by decide +kernel
theorem dX8_copyFrom_71 : decode cX8_copyFrom 71 = .ok (.getfield 23, 3) := by decide +kernel
theorem dX8_copyFrom_74 : decode cX8_copyFrom 74 = .ok (.iload_n 2, 1) := by decide +kernel
theorem dX8_copyFrom_75 : decode cX8_copyFrom 75 = .ok (.aaload, 1) := by decide +kernel
theorem dX8_copyFrom_76 : decode cX8_copyFrom 76 = .ok (.aload_n 1, 1) := by decide +kernel
theorem dX8_copyFrom_77 : decode cX8_copyFrom 77 = .ok (.getfield 23, 3) := by decide +kernel
theorem dX8_copyFrom_80 : decode cX8_copyFrom 80 = .ok (.iload_n 2, 1) := by decide +kernel
theorem dX8_copyFrom_81 : decode cX8_copyFrom 81 = .ok (.aaload, 1) := by decide +kernel
theorem dX8_copyFrom_82 : decode cX8_copyFrom 82 = .ok (.invokevirtual 50, 3) := by decide +kernel
theorem dX8_copyFrom_85 : decode cX8_copyFrom 85 = .ok (.iinc 2 1, 3) := by decide +kernel
theorem dX8_copyFrom_88 : decode cX8_copyFrom 88 = .ok (.goto (-32), 3) := by decide +kernel
theorem dX8_copyFrom_91 : decode cX8_copyFrom 91 = .ok (.aload_n 0, 1) := by decide +kernel
theorem dX8_copyFrom_92 : decode cX8_copyFrom 92 = .ok (.aload_n 1, 1) := by decide +kernel
theorem dX8_copyFrom_93 : decode cX8_copyFrom 93 = .ok (.getfield 32, 3) := by decide +kernel
theorem dX8_copyFrom_96 : decode cX8_copyFrom 96 = .ok (.putfield 32, 3) := by decide +kernel
theorem dX8_copyFrom_99 : decode cX8_copyFrom 99 = .ok (.aload_n 0, 1) := by decide +kernel
theorem dX8_copyFrom_100 : decode cX8_copyFrom 100 = .ok (.aload_n 1, 1) := by decide +kernel
theorem dX8_copyFrom_101 : decode cX8_copyFrom 101 = .ok (.getfield 35, 3) := by decide +kernel
theorem dX8_copyFrom_104 : decode cX8_copyFrom 104 = .ok (.putfield 35, 3) := by decide +kernel
theorem dX8_copyFrom_107 : decode cX8_copyFrom 107 = .ok (.aload_n 0, 1) := by decide +kernel
theorem dX8_copyFrom_108 : decode cX8_copyFrom 108 = .ok (.aload_n 1, 1) := by decide +kernel
theorem dX8_copyFrom_109 : decode cX8_copyFrom 109 = .ok (.getfield 38, 3) := by decide +kernel
theorem dX8_copyFrom_112 : decode cX8_copyFrom 112 = .ok (.putfield 38, 3) := by decide +kernel
theorem dX8_copyFrom_115 : decode cX8_copyFrom 115 = .ok (.aload_n 0, 1) := by decide +kernel
theorem dX8_copyFrom_116 : decode cX8_copyFrom 116 = .ok (.aload_n 1, 1) := by decide +kernel
theorem dX8_copyFrom_117 : decode cX8_copyFrom 117 = .ok (.getfield 41, 3) := by decide +kernel
theorem dX8_copyFrom_120 : decode cX8_copyFrom 120 = .ok (.putfield 41, 3) := by decide +kernel
theorem dX8_copyFrom_123 : decode cX8_copyFrom 123 = .ok (.return_, 1) := by decide +kernel
set_option maxRecDepth 20000 in
theorem ggX8_beginAnt_X0_clear : GoodIn wsX8_beginAnt wsX0_clear := goodIn_r _ [7, 8, 9, 10, 11, 12, 13, 14, 15, 16, 6, 17, 18, 19, 29, 30, 31, 32, 33, 34, 35, 36, 37] (by decide +kernel) (by decide +kernel)
set_option maxRecDepth 20000 in
theorem gX8_beginAnt_X0_clear : GoodIn wsX8_beginAnt (wsV RX8 54 RX0 yX0_clear wsX0_clear) := goodIn_app (goodIn_of _ (by decide +kernel)) ggX8_beginAnt_X0_clear
theorem dX8_beginAnt_0 : decode cX8_beginAnt 0 = .ok (.aload_n 0, 1) := by decide +kernel
theorem dX8_beginAnt_1 : decode cX8_beginAnt 1 = .ok (.getfield 28, 3) := by decide +kernel
theorem dX8_beginAnt_4 : decode cX8_beginAnt 4 = .ok (.bipush 6, 2) := by decide +kernel
theorem dX8_beginAnt_6 : decode cX8_beginAnt 6 = .ok (.if_icmp .lt 5, 3) := by decide +kernel
theorem dX8_beginAnt_9 : decode cX8_beginAnt 9 = .ok (.iconst 0, 1) := by decide +kernel
theorem dX8_beginAnt_10 : decode cX8_beginAnt 10 = .ok (.ireturn, 1) := by decide +kernel
theorem dX8_beginAnt_11 : decode cX8_beginAnt 11 = .ok (.aload_n 0, 1) := by decide +kernel
theorem dX8_beginAnt_12 : decode cX8_beginAnt 12 = .ok (.getfield 23, 3) := by decide +kernel
theorem dX8_beginAnt_15 : decode cX8_beginAnt 15 = .ok (.aload_n 0, 1) := by decide +kernel
theorem dX8_beginAnt_16 : decode cX8_beginAnt 16 = .ok (.getfield 28, 3) := by decide +kernel
theorem dX8_beginAnt_19 : decode cX8_beginAnt 19 = .ok (.aaload, 1) := by decide +kernel
theorem dX8_beginAnt_20 : decode cX8_beginAnt 20 = .ok (.invokevirtual 54, 3) := by decide +kernel
theorem dX8_beginAnt_23 : decode cX8_beginAnt 23 = .ok (.aload_n 0, 1) := by decide +kernel
theorem dX8_beginAnt_24 : decode cX8_beginAnt 24 = .ok (.dup, 1) := by decide +kernel
theorem dX8_beginAnt_25 : decode cX8_beginAnt 25 = .ok (.getfield 28, 3) := by decide +kernel
theorem dX8_beginAnt_28 : decode cX8_beginAnt 28 = .ok (.iconst 1, 1) := by decide +kernel
theorem dX8_beginAnt_29 : decode cX8_beginAnt 29 = .ok (.iadd, 1) := by decide +kernel
theorem dX8_beginAnt_30 : decode cX8_beginAnt 30 = .ok (.putfield 28, 3) := by decide +kernel
theorem dX8_beginAnt_33 : decode cX8_beginAnt 33 = .ok (.iconst 1, 1) := by decide +kernel
theorem dX8_beginAnt_34 : decode cX8_beginAnt 34 = .ok (.ireturn, 1) := by decide +kernel
theorem dX8_latestAnt_0 : decode cX8_latestAnt 0 = .ok (.aload_n 0, 1) := by decide +kernel
theorem dX8_latestAnt_1 : decode cX8_latestAnt 1 = .ok (.getfield 23, 3) := by decide +kernel
theorem dX8_latestAnt_4 : decode cX8_latestAnt 4 = .ok (.aload_n 0, 1) := by decide +kernel
theorem dX8_latestAnt_5 : decode cX8_latestAnt 5 = .ok (.getfield 28, 3) := by decide +kernel
theorem dX8_latestAnt_8 : decode cX8_latestAnt 8 = .ok (.ifCond .le 12, 3) := by decide +kernel
theorem dX8_latestAnt_11 : decode cX8_latestAnt 11 = .ok (.aload_n 0, 1) := by decide +kernel
theorem dX8_latestAnt_12 : decode cX8_latestAnt 12 = .ok (.getfield 28, 3) := by decide +kernel
theorem dX8_latestAnt_15 : decode cX8_latestAnt 15 = .ok (.iconst 1, 1) := by decide +kernel
theorem dX8_latestAnt_16 : decode cX8_latestAnt 16 = .ok (.isub, 1) := by decide +kernel
theorem dX8_latestAnt_17 : decode cX8_latestAnt 17 = .ok (.goto 4, 3) := by decide +kernel
theorem dX8_latestAnt_20 : decode cX8_latestAnt 20 = .ok (.iconst 0, 1) := by decide +kernel
theorem dX8_latestAnt_21 : decode cX8_latestAnt 21 = .ok (.aaload, 1) := by decide +kernel
theorem dX8_latestAnt_22 : decode cX8_latestAnt 22 = .ok (.areturn, 1) := by decide +kernel
theorem dX8_colourAt_0 : decode cX8_colourAt 0 = .ok (.iload_n 1, 1) := by decide +kernel
theorem dX8_colourAt_1 : decode cX8_colourAt 1 = .ok (.ifCond .lt 19, 3) := by decide +kernel
theorem dX8_colourAt_4 : decode cX8_colourAt 4 = .ok (.iload_n 1, 1) := by decide +kernel
theorem dX8_colourAt_5 : decode cX8_colourAt 5 = .ok (.sipush 4096, 3) := by decide +kernel
theorem dX8_colourAt_8 : decode cX8_colourAt 8 = .ok (.if_icmp .ge 12, 3) := by decide +kernel
theorem dX8_colourAt_11 : decode cX8_colourAt 11 = .ok (.aload_n 0, 1) := by decide +kernel
theorem dX8_colourAt_12 : decode cX8_colourAt 12 = .ok (.getfield 9, 3) := by decide +kernel
theorem dX8_colourAt_15 : decode cX8_colourAt 15 = .ok (.iload_n 1, 1) := by decide +kernel
theorem dX8_colourAt_16 : decode cX8_colourAt 16 = .ok (.iaload, 1) := by decide +kernel
theorem dX8_colourAt_17 : decode cX8_colourAt 17 = .ok (.goto 4, 3) := by decide +kernel
theorem dX8_colourAt_20 : decode cX8_colourAt 20 = .ok (.iconst 0, 1) := by decide +kernel
theorem dX8_colourAt_21 : decode cX8_colourAt 21 = .ok (.ireturn, 1) := by decide +kernel
set_option maxRecDepth 20000 in
theorem ggX8_setStone_X8_colourAt : GoodIn wsX8_setStone wsX8_colourAt := goodIn_r _ [8, 1, 12, 13, 14, 15, 16, 17, 18, 19, 20] (by decide +kernel) (by decide +kernel)
set_option maxRecDepth 20000 in
theorem gX8_setStone_X8_colourAt : GoodIn wsX8_setStone (wsV RX8 57 RX8 yX8_colourAt wsX8_colourAt) := goodIn_app (goodIn_of _ (by decide +kernel)) ggX8_setStone_X8_colourAt
set_option maxRecDepth 20000 in
theorem ggX8_setStone_X9_isColour : GoodIn wsX8_setStone wsX9_isColour := goodIn_r _ [11] (by decide +kernel) (by decide +kernel)
set_option maxRecDepth 20000 in
theorem gX8_setStone_X9_isColour_n61 : GoodIn wsX8_setStone (wsX9_isColour) := ggX8_setStone_X9_isColour
theorem dX8_setStone_0 : decode cX8_setStone 0 = .ok (.aload_n 0, 1) := by decide +kernel
theorem dX8_setStone_1 : decode cX8_setStone 1 = .ok (.iload_n 1, 1) := by decide +kernel
theorem dX8_setStone_2 : decode cX8_setStone 2 = .ok (.invokevirtual 57, 3) := by decide +kernel
theorem dX8_setStone_5 : decode cX8_setStone 5 = .ok (.istore_n 3, 1) := by decide +kernel
theorem dX8_setStone_6 : decode cX8_setStone 6 = .ok (.iload_n 1, 1) := by decide +kernel
theorem dX8_setStone_7 : decode cX8_setStone 7 = .ok (.ifCond .lt 24, 3) := by decide +kernel
theorem dX8_setStone_10 : decode cX8_setStone 10 = .ok (.iload_n 1, 1) := by decide +kernel
theorem dX8_setStone_11 : decode cX8_setStone 11 = .ok (.sipush 4096, 3) := by decide +kernel
theorem dX8_setStone_14 : decode cX8_setStone 14 = .ok (.if_icmp .ge 17, 3) := by decide +kernel
theorem dX8_setStone_17 : decode cX8_setStone 17 = .ok (.iload_n 2, 1) := by decide +kernel
theorem dX8_setStone_18 : decode cX8_setStone 18 = .ok (.invokestatic 61, 3) := by decide +kernel
theorem dX8_setStone_21 : decode cX8_setStone 21 = .ok (.ifCond .eq 10, 3) := by decide +kernel
theorem dX8_setStone_24 : decode cX8_setStone 24 = .ok (.iload_n 3, 1) := by decide +kernel
theorem dX8_setStone_25 : decode cX8_setStone 25 = .ok (.invokestatic 61, 3) := by decide +kernel
theorem dX8_setStone_28 : decode cX8_setStone 28 = .ok (.ifCond .ne 4, 3) := by decide +kernel
theorem dX8_setStone_31 : decode cX8_setStone 31 = .ok (.return_, 1) := by decide +kernel
theorem dX8_setStone_32 : decode cX8_setStone 32 = .ok (.iload_n 1, 1) := by decide +kernel
theorem dX8_setStone_33 : decode cX8_setStone 33 = .ok (.bipush 64, 2) := by decide +kernel
theorem dX8_setStone_35 : decode cX8_setStone 35 = .ok (.idiv, 1) := by decide +kernel
theorem dX8_setStone_36 : decode cX8_setStone 36 = .ok (.istore 4, 2) := by decide +kernel
theorem dX8_setStone_38 : decode cX8_setStone 38 = .ok (.aload_n 0, 1) := by decide +kernel
theorem dX8_setStone_39 : decode cX8_setStone 39 = .ok (.getfield 9, 3) := by decide +kernel
theorem dX8_setStone_42 : decode cX8_setStone 42 = .ok (.iload_n 1, 1) := by decide +kernel
theorem dX8_setStone_43 : decode cX8_setStone 43 = .ok (.iload_n 2, 1) := by decide +kernel
theorem dX8_setStone_44 : decode cX8_setStone 44 = .ok (.iastore, 1) := by decide +kernel
theorem dX8_setStone_45 : decode cX8_setStone 45 = .ok (.aload_n 0, 1) := by decide +kernel
theorem dX8_setStone_46 : decode cX8_setStone 46 = .ok (.getfield 18, 3) := by decide +kernel
theorem dX8_setStone_49 : decode cX8_setStone 49 = .ok (.iload_n 3, 1) := by decide +kernel
theorem dX8_setStone_50 : decode cX8_setStone 50 = .ok (.dup2, 1) := by decide +kernel
theorem dX8_setStone_51 : decode cX8_setStone 51 = .ok (.iaload, 1) := by decide +kernel
theorem dX8_setStone_52 : decode cX8_setStone 52 = .ok (.iconst 1, 1) := by decide +kernel
theorem dX8_setStone_53 : decode cX8_setStone 53 = .ok (.isub, 1) := by decide +kernel
theorem dX8_setStone_54 : decode cX8_setStone 54 = .ok (.iastore, 1) := by decide +kernel
theorem dX8_setStone_55 : decode cX8_setStone 55 = .ok (.aload_n 0, 1) := by decide +kernel
theorem dX8_setStone_56 : decode cX8_setStone 56 = .ok (.getfield 18, 3) := by decide +kernel
theorem dX8_setStone_59 : decode cX8_setStone 59 = .ok (.iload_n 2, 1) := by decide +kernel
theorem dX8_setStone_60 : decode cX8_setStone 60 = .ok (.dup2, 1) := by decide +kernel
theorem dX8_setStone_61 : decode cX8_setStone 61 = .ok (.iaload, 1) := by decide +kernel
theorem dX8_setStone_62 : decode cX8_setStone 62 = .ok (.iconst 1, 1) := by decide +kernel
theorem dX8_setStone_63 : decode cX8_setStone 63 = .ok (.iadd, 1) := by decide +kernel
theorem dX8_setStone_64 : decode cX8_setStone 64 = .ok (.iastore, 1) := by decide +kernel
theorem dX8_setStone_65 : decode cX8_setStone 65 = .ok (.aload_n 0, 1) := by decide +kernel
theorem dX8_setStone_66 : decode cX8_setStone 66 = .ok (.getfield 15, 3) := by decide +kernel
theorem dX8_setStone_69 : decode cX8_setStone 69 = .ok (.iload 4, 2) := by decide +kernel
theorem dX8_setStone_71 : decode cX8_setStone 71 = .ok (.dup2, 1) := by decide +kernel
theorem dX8_setStone_72 : decode cX8_setStone 72 = .ok (.iaload, 1) := by decide +kernel
theorem dX8_setStone_73 : decode cX8_setStone 73 = .ok (.iload_n 2, 1) := by decide +kernel
theorem dX8_setStone_74 : decode cX8_setStone 74 = .ok (.ifCond .eq 7, 3) := by decide +kernel
theorem dX8_setStone_77 : decode cX8_setStone 77 = .ok (.iconst 1, 1) := by decide +kernel
theorem dX8_setStone_78 : decode cX8_setStone 78 = .ok (.goto 4, 3) := by decide +kernel
theorem dX8_setStone_81 : decode cX8_setStone 81 = .ok (.iconst 0, 1) := by decide +kernel
theorem dX8_setStone_82 : decode cX8_setStone 82 = .ok (.iload_n 3, 1) := by decide +kernel
theorem dX8_setStone_83 : decode cX8_setStone 83 = .ok (.ifCond .eq 7, 3) := by decide +kernel
theorem dX8_setStone_86 : decode cX8_setStone 86 = .ok (.iconst 1, 1) := by decide +kernel
theorem dX8_setStone_87 : decode cX8_setStone 87 = .ok (.goto 4, 3) := by decide +kernel
theorem dX8_setStone_90 : decode cX8_setStone 90 = .ok (.iconst 0, 1) := by decide +kernel
theorem dX8_setStone_91 : decode cX8_setStone 91 = .ok (.isub, 1) := by decide +kernel
theorem dX8_setStone_92 : decode cX8_setStone 92 = .ok (.iadd, 1) := by decide +kernel
theorem dX8_setStone_93 : decode cX8_setStone 93 = .ok (.iastore, 1) := by decide +kernel
theorem dX8_setStone_94 : decode cX8_setStone 94 = .ok (.return_, 1) := by decide +kernel
set_option maxRecDepth 20000 in
theorem ggX8_washRows_X8_darkStones : GoodIn wsX8_washRows wsX8_darkStones := goodIn_r _ [11, 12, 29, 30, 31, 32, 33, 34, 35, 36, 37] (by decide +kernel) (by decide +kernel)
set_option maxRecDepth 20000 in
theorem gX8_washRows_X8_darkStones : GoodIn wsX8_washRows (wsV RX8 65 RX8 yX8_darkStones wsX8_darkStones) := goodIn_app (goodIn_of _ (by decide +kernel)) ggX8_washRows_X8_darkStones
set_option maxRecDepth 20000 in
theorem ggX8_washRows_X8_washRow : GoodIn wsX8_washRows wsX8_washRow := goodIn_r _ [16, 17, 18, 19, 10, 20, 21, 12, 5, 22, 23, 24, 25, 26, 27, 28, 29, 30, 31, 32, 33, 34, 35, 36, 37] (by decide +kernel) (by decide +kernel)
set_option maxRecDepth 20000 in
theorem gX8_washRows_X8_washRow : GoodIn wsX8_washRows (wsV RX8 75 RX8 yX8_washRow wsX8_washRow) := goodIn_app (goodIn_of _ (by decide +kernel)) ggX8_washRows_X8_washRow
theorem dX8_washRows_0 : decode cX8_washRows 0 = .ok (.aload_n 0, 1) := by decide +kernel
theorem dX8_washRows_1 : decode cX8_washRows 1 = .ok (.invokevirtual 65, 3) := by decide +kernel
theorem dX8_washRows_4 : decode cX8_washRows 4 = .ok (.istore_n 3, 1) := by decide +kernel
theorem dX8_washRows_5 : decode cX8_washRows 5 = .ok (.iload_n 1, 1) := by decide +kernel
theorem dX8_washRows_6 : decode cX8_washRows 6 = .ok (.iconst 0, 1) := by decide +kernel
theorem dX8_washRows_7 : decode cX8_washRows 7 = .ok (.invokestatic 69, 3) := by decide +kernel
theorem dX8_washRows_10 : decode cX8_washRows 10 = .ok (.istore 4, 2) := by decide +kernel
theorem dX8_washRows_12 : decode cX8_washRows 12 = .ok (.iload 4, 2) := by decide +kernel
theorem dX8_washRows_14 : decode cX8_washRows 14 = .ok (.iload_n 2, 1) := by decide +kernel
theorem dX8_washRows_15 : decode cX8_washRows 15 = .ok (.if_icmp .gt 32, 3) := by decide +kernel
theorem dX8_washRows_18 : decode cX8_washRows 18 = .ok (.iload 4, 2) := by decide +kernel
theorem dX8_washRows_20 : decode cX8_washRows 20 = .ok (.bipush 64, 2) := by decide +kernel
theorem dX8_washRows_22 : decode cX8_washRows 22 = .ok (.if_icmp .ge 25, 3) := by decide +kernel
theorem dX8_washRows_25 : decode cX8_washRows 25 = .ok (.aload_n 0, 1) := by decide +kernel
theorem dX8_washRows_26 : decode cX8_washRows 26 = .ok (.getfield 15, 3) := by decide +kernel
theorem dX8_washRows_29 : decode cX8_washRows 29 = .ok (.iload 4, 2) := by decide +kernel
theorem dX8_washRows_31 : decode cX8_washRows 31 = .ok (.iaload, 1) := by decide +kernel
theorem dX8_washRows_32 : decode cX8_washRows 32 = .ok (.ifCond .le 9, 3) := by decide +kernel
theorem dX8_washRows_35 : decode cX8_washRows 35 = .ok (.aload_n 0, 1) := by decide +kernel
theorem dX8_washRows_36 : decode cX8_washRows 36 = .ok (.iload 4, 2) := by decide +kernel
theorem dX8_washRows_38 : decode cX8_washRows 38 = .ok (.invokevirtual 75, 3) := by decide +kernel
theorem dX8_washRows_41 : decode cX8_washRows 41 = .ok (.iinc 4 1, 3) := by decide +kernel
theorem dX8_washRows_44 : decode cX8_washRows 44 = .ok (.goto (-32), 3) := by decide +kernel
theorem dX8_washRows_47 : decode cX8_washRows 47 = .ok (.iload_n 3, 1) := by decide +kernel
theorem dX8_washRows_48 : decode cX8_washRows 48 = .ok (.aload_n 0, 1) := by decide +kernel
theorem dX8_washRows_49 : decode cX8_washRows 49 = .ok (.invokevirtual 65, 3) := by decide +kernel
theorem dX8_washRows_52 : decode cX8_washRows 52 = .ok (.isub, 1) := by decide +kernel
theorem dX8_washRows_53 : decode cX8_washRows 53 = .ok (.istore 4, 2) := by decide +kernel
theorem dX8_washRows_55 : decode cX8_washRows 55 = .ok (.aload_n 0, 1) := by decide +kernel
theorem dX8_washRows_56 : decode cX8_washRows 56 = .ok (.dup, 1) := by decide +kernel
theorem dX8_washRows_57 : decode cX8_washRows 57 = .ok (.getfield 38, 3) := by decide +kernel
theorem dX8_washRows_60 : decode cX8_washRows 60 = .ok (.iload 4, 2) := by decide +kernel
theorem dX8_washRows_62 : decode cX8_washRows 62 = .ok (.iadd, 1) := by decide +kernel
theorem dX8_washRows_63 : decode cX8_washRows 63 = .ok (.putfield 38, 3) := by decide +kernel
theorem dX8_washRows_66 : decode cX8_washRows 66 = .ok (.iload 4, 2) := by decide +kernel
theorem dX8_washRows_68 : decode cX8_washRows 68 = .ok (.ireturn, 1) := by decide +kernel
set_option maxRecDepth 20000 in
theorem ggX8_washRow_X8_setStone : GoodIn wsX8_washRow wsX8_setStone := goodIn_r _ [5, 6, 7, 8, 9, 10, 11, 4, 12, 13, 14, 15, 16, 17, 18, 19, 20, 21, 22, 23, 24] (by decide +kernel) (by decide +kernel)
set_option maxRecDepth 20000 in
theorem gX8_washRow_X8_setStone : GoodIn wsX8_washRow (wsV RX8 79 RX8 yX8_setStone wsX8_setStone) := goodIn_app (goodIn_of _ (by decide +kernel)) ggX8_washRow_X8_setStone
theorem dX8_washRow_0 : decode cX8_washRow 0 = .ok (.iconst 0, 1) := by decide +kernel
theorem dX8_washRow_1 : decode cX8_washRow 1 = .ok (.istore_n 2, 1) := by decide +kernel
theorem dX8_washRow_2 : decode cX8_washRow 2 = .ok (.iload_n 2, 1) := by decide +kernel
theorem dX8_washRow_3 : decode cX8_washRow 3 = .ok (.bipush 64, 2) := by decide +kernel
theorem dX8_washRow_5 : decode cX8_washRow 5 = .ok (.if_icmp .ge 20, 3) := by decide +kernel
theorem dX8_washRow_8 : decode cX8_washRow 8 = .ok (.aload_n 0, 1) := by decide +kernel
theorem dX8_washRow_9 : decode cX8_washRow 9 = .ok (.iload_n 1, 1) := by decide +kernel
theorem dX8_washRow_10 : decode cX8_washRow 10 = .ok (.bipush 64, 2) := by decide +kernel
theorem dX8_washRow_12 : decode cX8_washRow 12 = .ok (.imul, 1) := by decide +kernel
theorem dX8_washRow_13 : decode cX8_washRow 13 = .ok (.iload_n 2, 1) := by decide +kernel
theorem dX8_washRow_14 : decode cX8_washRow 14 = .ok (.iadd, 1) := by decide +kernel
theorem dX8_washRow_15 : decode cX8_washRow 15 = .ok (.iconst 0, 1) := by decide +kernel
theorem dX8_washRow_16 : decode cX8_washRow 16 = .ok (.invokevirtual 79, 3) := by decide +kernel
theorem dX8_washRow_19 : decode cX8_washRow 19 = .ok (.iinc 2 1, 3) := by decide +kernel
theorem dX8_washRow_22 : decode cX8_washRow 22 = .ok (.goto (-20), 3) := by decide +kernel
theorem dX8_washRow_25 : decode cX8_washRow 25 = .ok (.return_, 1) := by decide +kernel
theorem dX8_darkStones_0 : decode cX8_darkStones 0 = .ok (.sipush 4096, 3) := by decide +kernel
theorem dX8_darkStones_3 : decode cX8_darkStones 3 = .ok (.aload_n 0, 1) := by decide +kernel
theorem dX8_darkStones_4 : decode cX8_darkStones 4 = .ok (.getfield 18, 3) := by decide +kernel
theorem dX8_darkStones_7 : decode cX8_darkStones 7 = .ok (.iconst 0, 1) := by decide +kernel
theorem dX8_darkStones_8 : decode cX8_darkStones 8 = .ok (.iaload, 1) := by decide +kernel
theorem dX8_darkStones_9 : decode cX8_darkStones 9 = .ok (.isub, 1) := by decide +kernel
theorem dX8_darkStones_10 : decode cX8_darkStones 10 = .ok (.ireturn, 1) := by decide +kernel
theorem dX8_darkInRow_0 : decode cX8_darkInRow 0 = .ok (.iload_n 1, 1) := by decide +kernel
theorem dX8_darkInRow_1 : decode cX8_darkInRow 1 = .ok (.ifCond .lt 18, 3) := by decide +kernel
theorem dX8_darkInRow_4 : decode cX8_darkInRow 4 = .ok (.iload_n 1, 1) := by decide +kernel
theorem dX8_darkInRow_5 : decode cX8_darkInRow 5 = .ok (.bipush 64, 2) := by decide +kernel
theorem dX8_darkInRow_7 : decode cX8_darkInRow 7 = .ok (.if_icmp .ge 12, 3) := by decide +kernel
theorem dX8_darkInRow_10 : decode cX8_darkInRow 10 = .ok (.aload_n 0, 1) := by decide +kernel
theorem dX8_darkInRow_11 : decode cX8_darkInRow 11 = .ok (.getfield 15, 3) := by decide +kernel
theorem dX8_darkInRow_14 : decode cX8_darkInRow 14 = .ok (.iload_n 1, 1) := by decide +kernel
theorem dX8_darkInRow_15 : decode cX8_darkInRow 15 = .ok (.iaload, 1) := by decide +kernel
theorem dX8_darkInRow_16 : decode cX8_darkInRow 16 = .ok (.goto 4, 3) := by decide +kernel
theorem dX8_darkInRow_19 : decode cX8_darkInRow 19 = .ok (.iconst 0, 1) := by decide +kernel
theorem dX8_darkInRow_20 : decode cX8_darkInRow 20 = .ok (.ireturn, 1) := by decide +kernel
theorem dX8_colourSum_0 : decode cX8_colourSum 0 = .ok (.iconst 0, 1) := by decide +kernel
theorem dX8_colourSum_1 : decode cX8_colourSum 1 = .ok (.istore_n 1, 1) := by decide +kernel
theorem dX8_colourSum_2 : decode cX8_colourSum 2 = .ok (.iconst 0, 1) := by decide +kernel
theorem dX8_colourSum_3 : decode cX8_colourSum 3 = .ok (.istore_n 2, 1) := by decide +kernel
theorem dX8_colourSum_4 : decode cX8_colourSum 4 = .ok (.iload_n 2, 1) := by decide +kernel
theorem dX8_colourSum_5 : decode cX8_colourSum 5 = .ok (.bipush 6, 2) := by decide +kernel
theorem dX8_colourSum_7 : decode cX8_colourSum 7 = .ok (.if_icmp .ge 20, 3) := by decide +kernel
theorem dX8_colourSum_10 : decode cX8_colourSum 10 = .ok (.iload_n 1, 1) := by decide +kernel
theorem dX8_colourSum_11 : decode cX8_colourSum 11 = .ok (.iload_n 2, 1) := by decide +kernel
theorem dX8_colourSum_12 : decode cX8_colourSum 12 = .ok (.aload_n 0, 1) := by decide +kernel
theorem dX8_colourSum_13 : decode cX8_colourSum 13 = .ok (.getfield 18, 3) := by decide +kernel
theorem dX8_colourSum_16 : decode cX8_colourSum 16 = .ok (.iload_n 2, 1) := by decide +kernel
theorem dX8_colourSum_17 : decode cX8_colourSum 17 = .ok (.iaload, 1) := by decide +kernel
theorem dX8_colourSum_18 : decode cX8_colourSum 18 = .ok (.imul, 1) := by decide +kernel
theorem dX8_colourSum_19 : decode cX8_colourSum 19 = .ok (.iadd, 1) := by decide +kernel
theorem dX8_colourSum_20 : decode cX8_colourSum 20 = .ok (.istore_n 1, 1) := by decide +kernel
theorem dX8_colourSum_21 : decode cX8_colourSum 21 = .ok (.iinc 2 1, 3) := by decide +kernel
theorem dX8_colourSum_24 : decode cX8_colourSum 24 = .ok (.goto (-20), 3) := by decide +kernel
theorem dX8_colourSum_27 : decode cX8_colourSum 27 = .ok (.iload_n 1, 1) := by decide +kernel
theorem dX8_colourSum_28 : decode cX8_colourSum 28 = .ok (.ireturn, 1) := by decide +kernel
theorem dX8_walkingAnts_0 : decode cX8_walkingAnts 0 = .ok (.iconst 0, 1) := by decide +kernel
theorem dX8_walkingAnts_1 : decode cX8_walkingAnts 1 = .ok (.istore_n 1, 1) := by decide +kernel
theorem dX8_walkingAnts_2 : decode cX8_walkingAnts 2 = .ok (.iconst 0, 1) := by decide +kernel
theorem dX8_walkingAnts_3 : decode cX8_walkingAnts 3 = .ok (.istore_n 2, 1) := by decide +kernel
theorem dX8_walkingAnts_4 : decode cX8_walkingAnts 4 = .ok (.iload_n 2, 1) := by decide +kernel
theorem dX8_walkingAnts_5 : decode cX8_walkingAnts 5 = .ok (.aload_n 0, 1) := by decide +kernel
theorem dX8_walkingAnts_6 : decode cX8_walkingAnts 6 = .ok (.getfield 28, 3) := by decide +kernel
theorem dX8_walkingAnts_9 : decode cX8_walkingAnts 9 = .ok (.if_icmp .ge 35, 3) := by decide +kernel
theorem dX8_walkingAnts_12 : decode cX8_walkingAnts 12 = .ok (.iload_n 2, 1) := by decide +kernel
theorem dX8_walkingAnts_13 : decode cX8_walkingAnts 13 = .ok (.bipush 6, 2) := by decide +kernel
theorem dX8_walkingAnts_15 : decode cX8_walkingAnts 15 = .ok (.if_icmp .ge 29, 3) := by decide +kernel
theorem dX8_walkingAnts_18 : decode cX8_walkingAnts 18 = .ok (.iload_n 1, 1) := by decide +kernel
theorem dX8_walkingAnts_19 : decode cX8_walkingAnts 19 = .ok (.aload_n 0, 1) := by decide +kernel
theorem dX8_walkingAnts_20 : decode cX8_walkingAnts 20 = .ok (.getfield 23, 3) := by decide +kernel
theorem dX8_walkingAnts_23 : decode cX8_walkingAnts 23 = .ok (.iload_n 2, 1) := by decide +kernel
theorem dX8_walkingAnts_24 : decode cX8_walkingAnts 24 = .ok (.aaload, 1) := by decide +kernel
theorem dX8_walkingAnts_25 : decode cX8_walkingAnts 25 = .ok (.getfield 83, 3) := by decide +kernel
theorem dX8_walkingAnts_28 : decode cX8_walkingAnts 28 = .ok (.ifCond .eq 7, 3) := by decide +kernel
theorem dX8_walkingAnts_31 : decode cX8_walkingAnts 31 = .ok (.iconst 1, 1) := by decide +kernel
theorem dX8_walkingAnts_32 : decode cX8_walkingAnts 32 = .ok (.goto 4, 3) := by decide +kernel
theorem dX8_walkingAnts_35 : decode cX8_walkingAnts 35 = .ok (.iconst 0, 1) := by decide +kernel
theorem dX8_walkingAnts_36 : decode cX8_walkingAnts 36 = .ok (.iadd, 1) := by decide +kernel
theorem dX8_walkingAnts_37 : decode cX8_walkingAnts 37 = .ok (.istore_n 1, 1) := by decide +kernel
theorem dX8_walkingAnts_38 : decode cX8_walkingAnts 38 = .ok (.iinc 2 1, 3) := by decide +kernel
theorem dX8_walkingAnts_41 : decode cX8_walkingAnts 41 = .ok (.goto (-37), 3) := by decide +kernel
theorem dX8_walkingAnts_44 : decode cX8_walkingAnts 44 = .ok (.iload_n 1, 1) := by decide +kernel
theorem dX8_walkingAnts_45 : decode cX8_walkingAnts 45 = .ok (.ireturn, 1) := by decide +kernel
set_option maxRecDepth 20000 in
theorem ggX8_total_X8_darkStones : GoodIn wsX8_total wsX8_darkStones := goodIn_r _ [8, 9, 21, 22, 23, 24, 25, 26, 27, 28, 29] (by decide +kernel) (by decide +kernel)
set_option maxRecDepth 20000 in
theorem gX8_total_X8_darkStones : GoodIn wsX8_total (wsV RX8 65 RX8 yX8_darkStones wsX8_darkStones) := goodIn_app (goodIn_of _ (by decide +kernel)) ggX8_total_X8_darkStones
set_option maxRecDepth 20000 in
theorem ggX8_total_X8_colourSum : GoodIn wsX8_total wsX8_colourSum := goodIn_r _ [13, 9, 21, 22, 23, 24, 25, 26, 27, 28, 29] (by decide +kernel) (by decide +kernel)
set_option maxRecDepth 20000 in
theorem gX8_total_X8_colourSum : GoodIn wsX8_total (wsV RX8 87 RX8 yX8_colourSum wsX8_colourSum) := goodIn_app (goodIn_of _ (by decide +kernel)) ggX8_total_X8_colourSum
set_option maxRecDepth 20000 in
theorem ggX8_total_X8_walkingAnts : GoodIn wsX8_total wsX8_walkingAnts := goodIn_r _ [17, 18, 19, 20, 21, 22, 23, 24, 25, 26, 27, 28, 29, 30, 31, 32, 33, 34, 35, 36, 37, 38] (by decide +kernel) (by decide +kernel)
set_option maxRecDepth 20000 in
theorem gX8_total_X8_walkingAnts : GoodIn wsX8_total (wsV RX8 90 RX8 yX8_walkingAnts wsX8_walkingAnts) := goodIn_app (goodIn_of _ (by decide +kernel)) ggX8_total_X8_walkingAnts
theorem dX8_total_0 : decode cX8_total 0 = .ok (.iload_n 1, 1) := by decide +kernel
theorem dX8_total_1 : decode cX8_total 1 = .ok (.tableswitch 69 4 9 #[39, 44, 49, 54, 59, 64], 39) := by decide +kernel
theorem dX8_total_40 : decode cX8_total 40 = .ok (.aload_n 0, 1) := by decide +kernel
theorem dX8_total_41 : decode cX8_total 41 = .ok (.invokevirtual 65, 3) := by decide +kernel
theorem dX8_total_44 : decode cX8_total 44 = .ok (.ireturn, 1) := by decide +kernel
theorem dX8_total_45 : decode cX8_total 45 = .ok (.aload_n 0, 1) := by decide +kernel
theorem dX8_total_46 : decode cX8_total 46 = .ok (.invokevirtual 87, 3) := by decide +kernel
theorem dX8_total_49 : decode cX8_total 49 = .ok (.ireturn, 1) := by decide +kernel
theorem dX8_total_50 : decode cX8_total 50 = .ok (.aload_n 0, 1) := by decide +kernel
theorem dX8_total_51 : decode cX8_total 51 = .ok (.invokevirtual 90, 3) := by decide +kernel
theorem dX8_total_54 : decode cX8_total 54 = .ok (.ireturn, 1) := by decide +kernel
theorem dX8_total_55 : decode cX8_total 55 = .ok (.aload_n 0, 1) := by decide +kernel
theorem dX8_total_56 : decode cX8_total 56 = .ok (.getfield 35, 3) := by decide +kernel
theorem dX8_total_59 : decode cX8_total 59 = .ok (.ireturn, 1) := by decide +kernel
theorem dX8_total_60 : decode cX8_total 60 = .ok (.aload_n 0, 1) := by decide +kernel
theorem dX8_total_61 : decode cX8_total 61 = .ok (.getfield 38, 3) := by decide +kernel
theorem dX8_total_64 : decode cX8_total 64 = .ok (.ireturn, 1) := by decide +kernel
theorem dX8_total_65 : decode cX8_total 65 = .ok (.aload_n 0, 1) := by decide +kernel
theorem dX8_total_66 : decode cX8_total 66 = .ok (.getfield 41, 3) := by decide +kernel
theorem dX8_total_69 : decode cX8_total 69 = .ok (.ireturn, 1) := by decide +kernel
theorem dX8_total_70 : decode cX8_total 70 = .ok (.iconst 0, 1) := by decide +kernel
theorem dX8_total_71 : decode cX8_total 71 = .ok (.ireturn, 1) := by decide +kernel
theorem dX8_hasAnt_0 : decode cX8_hasAnt 0 = .ok (.iload_n 1, 1) := by decide +kernel
theorem dX8_hasAnt_1 : decode cX8_hasAnt 1 = .ok (.ifCond .lt 21, 3) := by decide +kernel
theorem dX8_hasAnt_4 : decode cX8_hasAnt 4 = .ok (.iload_n 1, 1) := by decide +kernel
theorem dX8_hasAnt_5 : decode cX8_hasAnt 5 = .ok (.aload_n 0, 1) := by decide +kernel
theorem dX8_hasAnt_6 : decode cX8_hasAnt 6 = .ok (.getfield 28, 3) := by decide +kernel
theorem dX8_hasAnt_9 : decode cX8_hasAnt 9 = .ok (.if_icmp .ge 13, 3) := by decide +kernel
theorem dX8_hasAnt_12 : decode cX8_hasAnt 12 = .ok (.iload_n 1, 1) := by decide +kernel
theorem dX8_hasAnt_13 : decode cX8_hasAnt 13 = .ok (.bipush 6, 2) := by decide +kernel
theorem dX8_hasAnt_15 : decode cX8_hasAnt 15 = .ok (.if_icmp .ge 7, 3) := by decide +kernel
theorem dX8_hasAnt_18 : decode cX8_hasAnt 18 = .ok (.iconst 1, 1) := by decide +kernel
theorem dX8_hasAnt_19 : decode cX8_hasAnt 19 = .ok (.goto 4, 3) := by decide +kernel
theorem dX8_hasAnt_22 : decode cX8_hasAnt 22 = .ok (.iconst 0, 1) := by decide +kernel
theorem dX8_hasAnt_23 : decode cX8_hasAnt 23 = .ok (.ireturn, 1) := by decide +kernel
set_option maxRecDepth 20000 in
theorem ggX8_meetsAnother_X0_stoneUnder : GoodIn wsX8_meetsAnother wsX0_stoneUnder := goodIn_r _ [7, 8, 9, 19, 20, 21, 22, 23, 24, 25, 26, 27] (by decide +kernel) (by decide +kernel)
set_option maxRecDepth 20000 in
theorem gX8_meetsAnother_X0_stoneUnder : GoodIn wsX8_meetsAnother (wsV RX8 96 RX0 yX0_stoneUnder wsX0_stoneUnder) := goodIn_app (goodIn_of _ (by decide +kernel)) ggX8_meetsAnother_X0_stoneUnder
theorem dX8_meetsAnother_0 : decode cX8_meetsAnother 0 = .ok (.iconst 0, 1) := by decide +kernel
theorem dX8_meetsAnother_1 : decode cX8_meetsAnother 1 = .ok (.istore_n 2, 1) := by decide +kernel
theorem dX8_meetsAnother_2 : decode cX8_meetsAnother 2 = .ok (.iload_n 2, 1) := by decide +kernel
theorem dX8_meetsAnother_3 : decode cX8_meetsAnother 3 = .ok (.aload_n 0, 1) := by decide +kernel
theorem dX8_meetsAnother_4 : decode cX8_meetsAnother 4 = .ok (.getfield 28, 3) := by decide +kernel
theorem dX8_meetsAnother_7 : decode cX8_meetsAnother 7 = .ok (.if_icmp .ge 43, 3) := by decide +kernel
theorem dX8_meetsAnother_10 : decode cX8_meetsAnother 10 = .ok (.iload_n 2, 1) := by decide +kernel
theorem dX8_meetsAnother_11 : decode cX8_meetsAnother 11 = .ok (.bipush 6, 2) := by decide +kernel
theorem dX8_meetsAnother_13 : decode cX8_meetsAnother 13 = .ok (.if_icmp .ge 37, 3) := by decide +kernel
theorem dX8_meetsAnother_16 : decode cX8_meetsAnother 16 = .ok (.iload_n 2, 1) := by decide +kernel
theorem dX8_meetsAnother_17 : decode cX8_meetsAnother 17 = .ok (.iload_n 1, 1) := by decide +kernel
theorem dX8_meetsAnother_18 : decode cX8_meetsAnother 18 = .ok (.if_icmp .eq 26, 3) := by decide +kernel
theorem dX8_meetsAnother_21 : decode cX8_meetsAnother 21 = .ok (.aload_n 0, 1) := by decide +kernel
theorem dX8_meetsAnother_22 : decode cX8_meetsAnother 22 = .ok (.getfield 23, 3) := by decide +kernel
theorem dX8_meetsAnother_25 : decode cX8_meetsAnother 25 = .ok (.iload_n 2, 1) := by decide +kernel
theorem dX8_meetsAnother_26 : decode cX8_meetsAnother 26 = .ok (.aaload, 1) := by decide +kernel
theorem dX8_meetsAnother_27 : decode cX8_meetsAnother 27 = .ok (.invokevirtual 96, 3) := by decide +kernel
theorem dX8_meetsAnother_30 : decode cX8_meetsAnother 30 = .ok (.aload_n 0, 1) := by decide +kernel
theorem dX8_meetsAnother_31 : decode cX8_meetsAnother 31 = .ok (.getfield 23, 3) := by decide +kernel
theorem dX8_meetsAnother_34 : decode cX8_meetsAnother 34 = .ok (.iload_n 1, 1) := by decide +kernel
theorem dX8_meetsAnother_35 : decode cX8_meetsAnother 35 = .ok (.aaload, 1) := by decide +kernel
theorem dX8_meetsAnother_36 : decode cX8_meetsAnother 36 = .ok (.invokevirtual 96, 3) := by decide +kernel
theorem dX8_meetsAnother_39 : decode cX8_meetsAnother 39 = .ok (.if_icmp .ne 5, 3) := by decide +kernel
theorem dX8_meetsAnother_42 : decode cX8_meetsAnother 42 = .ok (.iconst 1, 1) := by decide +kernel
theorem dX8_meetsAnother_43 : decode cX8_meetsAnother 43 = .ok (.ireturn, 1) := by decide +kernel
theorem dX8_meetsAnother_44 : decode cX8_meetsAnother 44 = .ok (.iinc 2 1, 3) := by decide +kernel
theorem dX8_meetsAnother_47 : decode cX8_meetsAnother 47 = .ok (.goto (-45), 3) := by decide +kernel
theorem dX8_meetsAnother_50 : decode cX8_meetsAnother 50 = .ok (.iconst 0, 1) := by decide +kernel
theorem dX8_meetsAnother_51 : decode cX8_meetsAnother 51 = .ok (.ireturn, 1) := by decide +kernel
set_option maxRecDepth 20000 in
theorem ggX8_countMeetings_X0_stoneUnder : GoodIn wsX8_countMeetings wsX0_stoneUnder := goodIn_r _ [8, 9, 10, 20, 21, 22, 23, 24, 25, 26, 27, 28] (by decide +kernel) (by decide +kernel)
set_option maxRecDepth 20000 in
theorem gX8_countMeetings_X0_stoneUnder : GoodIn wsX8_countMeetings (wsV RX8 96 RX0 yX0_stoneUnder wsX0_stoneUnder) := goodIn_app (goodIn_of _ (by decide +kernel)) ggX8_countMeetings_X0_stoneUnder
theorem dX8_countMeetings_0 : decode cX8_countMeetings 0 = .ok (.iconst 0, 1) := by decide +kernel
theorem dX8_countMeetings_1 : decode cX8_countMeetings 1 = .ok (.istore_n 1, 1) := by decide +kernel
theorem dX8_countMeetings_2 : decode cX8_countMeetings 2 = .ok (.iload_n 1, 1) := by decide +kernel
theorem dX8_countMeetings_3 : decode cX8_countMeetings 3 = .ok (.aload_n 0, 1) := by decide +kernel
theorem dX8_countMeetings_4 : decode cX8_countMeetings 4 = .ok (.getfield 28, 3) := by decide +kernel
theorem dX8_countMeetings_7 : decode cX8_countMeetings 7 = .ok (.if_icmp .ge 63, 3) := by decide +kernel
theorem dX8_countMeetings_10 : decode cX8_countMeetings 10 = .ok (.iload_n 1, 1) := by decide +kernel
theorem dX8_countMeetings_11 : decode cX8_countMeetings 11 = .ok (.bipush 6, 2) := by decide +kernel
theorem dX8_countMeetings_13 : decode cX8_countMeetings 13 = .ok (.if_icmp .ge 57, 3) := by decide +kernel
theorem dX8_countMeetings_16 : decode cX8_countMeetings 16 = .ok (.iconst 0, 1) := by decide +kernel
theorem dX8_countMeetings_17 : decode cX8_countMeetings 17 = .ok (.istore_n 2, 1) := by decide +kernel
theorem dX8_countMeetings_18 : decode cX8_countMeetings 18 = .ok (.iload_n 2, 1) := by decide +kernel
theorem dX8_countMeetings_19 : decode cX8_countMeetings 19 = .ok (.iload_n 1, 1) := by decide +kernel
theorem dX8_countMeetings_20 : decode cX8_countMeetings 20 = .ok (.if_icmp .ge 44, 3) := by decide +kernel
theorem dX8_countMeetings_23 : decode cX8_countMeetings 23 = .ok (.aload_n 0, 1) := by decide +kernel
theorem dX8_countMeetings_24 : decode cX8_countMeetings 24 = .ok (.dup, 1) := by decide +kernel
theorem dX8_countMeetings_25 : decode cX8_countMeetings 25 = .ok (.getfield 35, 3) := by decide +kernel
theorem dX8_countMeetings_28 : decode cX8_countMeetings 28 = .ok (.aload_n 0, 1) := by decide +kernel
theorem dX8_countMeetings_29 : decode cX8_countMeetings 29 = .ok (.getfield 23, 3) := by decide +kernel
theorem dX8_countMeetings_32 : decode cX8_countMeetings 32 = .ok (.iload_n 1, 1) := by decide +kernel
theorem dX8_countMeetings_33 : decode cX8_countMeetings 33 = .ok (.aaload, 1) := by decide +kernel
theorem dX8_countMeetings_34 : decode cX8_countMeetings 34 = .ok (.invokevirtual 96, 3) := by decide +kernel
theorem dX8_countMeetings_37 : decode cX8_countMeetings 37 = .ok (.aload_n 0, 1) := by decide +kernel
theorem dX8_countMeetings_38 : decode cX8_countMeetings 38 = .ok (.getfield 23, 3) := by decide +kernel
theorem dX8_countMeetings_41 : decode cX8_countMeetings 41 = .ok (.iload_n 2, 1) := by decide +kernel
theorem dX8_countMeetings_42 : decode cX8_countMeetings 42 = .ok (.aaload, 1) := by decide +kernel
theorem dX8_countMeetings_43 : decode cX8_countMeetings 43 = .ok (.invokevirtual 96, 3) := by decide +kernel
theorem dX8_countMeetings_46 : decode cX8_countMeetings 46 = .ok (.if_icmp .ne 7, 3) := by decide +kernel
theorem dX8_countMeetings_49 : decode cX8_countMeetings 49 = .ok (.iconst 1, 1) := by decide +kernel
theorem dX8_countMeetings_50 : decode cX8_countMeetings 50 = .ok (.goto 4, 3) := by decide +kernel
theorem dX8_countMeetings_53 : decode cX8_countMeetings 53 = .ok (.iconst 0, 1) := by decide +kernel
theorem dX8_countMeetings_54 : decode cX8_countMeetings 54 = .ok (.iadd, 1) := by decide +kernel
theorem dX8_countMeetings_55 : decode cX8_countMeetings 55 = .ok (.putfield 35, 3) := by decide +kernel
theorem dX8_countMeetings_58 : decode cX8_countMeetings 58 = .ok (.iinc 2 1, 3) := by decide +kernel
theorem dX8_countMeetings_61 : decode cX8_countMeetings 61 = .ok (.goto (-43), 3) := by decide +kernel
theorem dX8_countMeetings_64 : decode cX8_countMeetings 64 = .ok (.iinc 1 1, 3) := by decide +kernel
theorem dX8_countMeetings_67 : decode cX8_countMeetings 67 = .ok (.goto (-65), 3) := by decide +kernel
theorem dX8_countMeetings_70 : decode cX8_countMeetings 70 = .ok (.return_, 1) := by decide +kernel
