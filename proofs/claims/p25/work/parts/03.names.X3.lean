theorem dX3_init_0 : decode cX3_init 0 = .ok (.aload_n 0, 1) := by decide +kernel
theorem dX3_init_1 : decode cX3_init 1 = .ok (.invokespecial 3, 3) := by decide +kernel
theorem dX3_init_4 : decode cX3_init 4 = .ok (.aload_n 0, 1) := by decide +kernel
theorem dX3_init_5 : decode cX3_init 5 = .ok (.iconst 5, 1) := by decide +kernel
theorem dX3_init_6 : decode cX3_init 6 = .ok (.newarray .int, 2) := by decide +kernel
theorem dX3_init_8 : decode cX3_init 8 = .ok (.putfield 11, 3) := by decide +kernel
theorem dX3_init_11 : decode cX3_init 11 = .ok (.aload_n 0, 1) := by decide +kernel
theorem dX3_init_12 : decode cX3_init 12 = .ok (.bipush 30, 2) := by decide +kernel
theorem dX3_init_14 : decode cX3_init 14 = .ok (.newarray .int, 2) := by decide +kernel
theorem dX3_init_16 : decode cX3_init 16 = .ok (.putfield 15, 3) := by decide +kernel
theorem dX3_init_19 : decode cX3_init 19 = .ok (.aload_n 0, 1) := by decide +kernel
theorem dX3_init_20 : decode cX3_init 20 = .ok (.bipush 20, 2) := by decide +kernel
theorem dX3_init_22 : decode cX3_init 22 = .ok (.newarray .int, 2) := by decide +kernel
theorem dX3_init_24 : decode cX3_init 24 = .ok (.putfield 18, 3) := by decide +kernel
theorem dX3_init_27 : decode cX3_init 27 = .ok (.aload_n 0, 1) := by decide +kernel
theorem dX3_init_28 : decode cX3_init 28 = .ok (.bipush 20, 2) := by decide +kernel
theorem dX3_init_30 : decode cX3_init 30 = .ok (.newarray .int, 2) := by decide +kernel
theorem dX3_init_32 : decode cX3_init 32 = .ok (.putfield 21, 3) := by decide +kernel
theorem dX3_init_35 : decode cX3_init 35 = .ok (.aload_n 0, 1) := by decide +kernel
theorem dX3_init_36 : decode cX3_init 36 = .ok (.bipush 20, 2) := by decide +kernel
theorem dX3_init_38 : decode cX3_init 38 = .ok (.newarray .int, 2) := by decide +kernel
theorem dX3_init_40 : decode cX3_init 40 = .ok (.putfield 24, 3) := by decide +kernel
theorem dX3_init_43 : decode cX3_init 43 = .ok (.aload_n 0, 1) := by decide +kernel
theorem dX3_init_44 : decode cX3_init 44 = .ok (.bipush 20, 2) := by decide +kernel
theorem dX3_init_46 : decode cX3_init 46 = .ok (.newarray .int, 2) := by decide +kernel
theorem dX3_init_48 : decode cX3_init 48 = .ok (.putfield 27, 3) := by decide +kernel
theorem dX3_init_51 : decode cX3_init 51 = .ok (.aload_n 0, 1) := by decide +kernel
theorem dX3_init_52 : decode cX3_init 52 = .ok (.sipush 400, 3) := by decide +kernel
theorem dX3_init_55 : decode cX3_init 55 = .ok (.newarray .int, 2) := by decide +kernel
theorem dX3_init_57 : decode cX3_init 57 = .ok (.putfield 30, 3) := by decide +kernel
theorem dX3_init_60 : decode cX3_init 60 = .ok (.aload_n 0, 1) := by decide +kernel
theorem dX3_init_61 : decode cX3_init 61 = .ok (.sipush 400, 3) := by decide +kernel
theorem dX3_init_64 : decode cX3_init 64 = .ok (.newarray .int, 2) := by decide +kernel
theorem dX3_init_66 : decode cX3_init 66 = .ok (.putfield 33, 3) := by decide +kernel
theorem dX3_init_69 : decode cX3_init 69 = .ok (.return_, 1) := by decide +kernel
theorem dX3_clear_0 : decode cX3_clear 0 = .ok (.aload_n 0, 1) := by decide +kernel
theorem dX3_clear_1 : decode cX3_clear 1 = .ok (.iconst 0, 1) := by decide +kernel
theorem dX3_clear_2 : decode cX3_clear 2 = .ok (.putfield 36, 3) := by decide +kernel
theorem dX3_clear_5 : decode cX3_clear 5 = .ok (.aload_n 0, 1) := by decide +kernel
theorem dX3_clear_6 : decode cX3_clear 6 = .ok (.iconst 0, 1) := by decide +kernel
theorem dX3_clear_7 : decode cX3_clear 7 = .ok (.putfield 40, 3) := by decide +kernel
theorem dX3_clear_10 : decode cX3_clear 10 = .ok (.aload_n 0, 1) := by decide +kernel
theorem dX3_clear_11 : decode cX3_clear 11 = .ok (.iconst 0, 1) := by decide +kernel
theorem dX3_clear_12 : decode cX3_clear 12 = .ok (.putfield 43, 3) := by decide +kernel
theorem dX3_clear_15 : decode cX3_clear 15 = .ok (.return_, 1) := by decide +kernel
theorem dX3_copyFrom_0 : decode cX3_copyFrom 0 = .ok (.aload_n 0, 1) := by decide +kernel
theorem dX3_copyFrom_1 : decode cX3_copyFrom 1 = .ok (.aload_n 1, 1) := by decide +kernel
theorem dX3_copyFrom_2 : decode cX3_copyFrom 2 = .ok (.getfield 36, 3) := by decide +kernel
theorem dX3_copyFrom_5 : decode cX3_copyFrom 5 = .ok (.putfield 36, 3) := by decide +kernel
theorem dX3_copyFrom_8 : decode cX3_copyFrom 8 = .ok (.aload_n 1, 1) := by decide +kernel
theorem dX3_copyFrom_9 : decode cX3_copyFrom 9 = .ok (.getfield 11, 3) := by decide +kernel
theorem dX3_copyFrom_12 : decode cX3_copyFrom 12 = .ok (.iconst 0, 1) := by decide +kernel
theorem dX3_copyFrom_13 : decode cX3_copyFrom 13 = .ok (.aload_n 0, 1) := by decide +kernel
theorem dX3_copyFrom_14 : decode cX3_copyFrom 14 = .ok (.getfield 11, 3) := by decide +kernel
theorem dX3_copyFrom_17 : decode cX3_copyFrom 17 = .ok (.iconst 0, 1) := by decide +kernel
theorem dX3_copyFrom_18 : decode cX3_copyFrom 18 = .ok (.iconst 5, 1) := by decide +kernel
theorem dX3_copyFrom_19 : decode cX3_copyFrom 19 = .ok (.invokestatic 46, 3) := by decide +kernel
theorem dX3_copyFrom_22 : decode cX3_copyFrom 22 = .ok (.aload_n 1, 1) := by decide +kernel
theorem dX3_copyFrom_23 : decode cX3_copyFrom 23 = .ok (.getfield 15, 3) := by decide +kernel
theorem dX3_copyFrom_26 : decode cX3_copyFrom 26 = .ok (.iconst 0, 1) := by decide +kernel
theorem dX3_copyFrom_27 : decode cX3_copyFrom 27 = .ok (.aload_n 0, 1) := by decide +kernel
theorem dX3_copyFrom_28 : decode cX3_copyFrom 28 = .ok (.getfield 15, 3) := by decide +kernel
theorem dX3_copyFrom_31 : decode cX3_copyFrom 31 = .ok (.iconst 0, 1) := by decide +kernel
theorem dX3_copyFrom_32 : decode cX3_copyFrom 32 = .ok (.bipush 30, 2) := by decide +kernel
theorem dX3_copyFrom_34 : decode cX3_copyFrom 34 = .ok (.invokestatic 46, 3) := by decide +kernel
theorem dX3_copyFrom_37 : decode cX3_copyFrom 37 = .ok (.aload_n 0, 1) := by decide +kernel
theorem dX3_copyFrom_38 : decode cX3_copyFrom 38 = .ok (.aload_n 1, 1) := by decide +kernel
theorem dX3_copyFrom_39 : decode cX3_copyFrom 39 = .ok (.getfield 40, 3) := by decide +kernel
theorem dX3_copyFrom_42 : decode cX3_copyFrom 42 = .ok (.putfield 40, 3) := by decide +kernel
theorem dX3_copyFrom_45 : decode cX3_copyFrom 45 = .ok (.aload_n 1, 1) := by decide +kernel
theorem dX3_copyFrom_46 : decode cX3_copyFrom 46 = .ok (.getfield 18, 3) := by decide +kernel
theorem dX3_copyFrom_49 : decode cX3_copyFrom 49 = .ok (.iconst 0, 1) := by decide +kernel
theorem dX3_copyFrom_50 : decode cX3_copyFrom 50 = .ok (.aload_n 0, 1) := by decide +kernel
theorem dX3_copyFrom_51 : decode cX3_copyFrom 51 = .ok (.getfield 18, 3) := by decide +kernel
theorem dX3_copyFrom_54 : decode cX3_copyFrom 54 = .ok (.iconst 0, 1) := by decide +kernel
theorem dX3_copyFrom_55 : decode cX3_copyFrom 55 = .ok (.bipush 20, 2) := by decide +kernel
theorem dX3_copyFrom_57 : decode cX3_copyFrom 57 = .ok (.invokestatic 46, 3) := by decide +kernel
theorem dX3_copyFrom_60 : decode cX3_copyFrom 60 = .ok (.aload_n 1, 1) := by decide +kernel
theorem dX3_copyFrom_61 : decode cX3_copyFrom 61 = .ok (.getfield 21, 3) := by decide +kernel
theorem dX3_copyFrom_64 : decode cX3_copyFrom 64 = .ok (.iconst 0, 1) := by decide +kernel
theorem dX3_copyFrom_65 : decode cX3_copyFrom 65 = .ok (.aload_n 0, 1) := by decide +kernel
theorem dX3_copyFrom_66 : decode cX3_copyFrom 66 = .ok (.getfield 21, 3) := by decide +kernel
theorem dX3_copyFrom_69 : decode cX3_copyFrom 69 = .ok (.iconst 0, 1) := by decide +kernel
theorem dX3_copyFrom_70 : decode cX3_copyFrom 70 = .ok (.bipush 20, 2) := by decide +kernel
theorem dX3_copyFrom_72 : decode cX3_copyFrom 72 = .ok (.invokestatic 46, 3) := by decide +kernel
theorem dX3_copyFrom_75 : decode cX3_copyFrom 75 = .ok (.aload_n 1, 1) := by decide +kernel
theorem dX3_copyFrom_76 : decode cX3_copyFrom 76 = .ok (.getfield 24, 3) := by decide +kernel
theorem dX3_copyFrom_79 : decode cX3_copyFrom 79 = .ok (.iconst 0, 1) := by decide +kernel
theorem dX3_copyFrom_80 : decode cX3_copyFrom 80 = .ok (.aload_n 0, 1) := by decide +kernel
theorem dX3_copyFrom_81 : decode cX3_copyFrom 81 = .ok (.getfield 24, 3) := by decide +kernel
theorem dX3_copyFrom_84 : decode cX3_copyFrom 84 = .ok (.iconst 0, 1) := by decide +kernel
theorem dX3_copyFrom_85 : decode cX3_copyFrom 85 = .ok (.bipush 20, 2) := by decide +kernel
theorem dX3_copyFrom_87 : decode cX3_copyFrom 87 = .ok (.invokestatic 46, 3) := by decide +kernel
theorem dX3_copyFrom_90 : decode cX3_copyFrom 90 = .ok (.aload_n 1, 1) := by decide +kernel
theorem dX3_copyFrom_91 : decode cX3_copyFrom 91 = .ok (.getfield 27, 3) := by decide +kernel
theorem dX3_copyFrom_94 : decode cX3_copyFrom 94 = .ok (.iconst 0, 1) := by decide +kernel
theorem dX3_copyFrom_95 : decode cX3_copyFrom 95 = .ok (.aload_n 0, 1) := by decide +kernel
theorem dX3_copyFrom_96 : decode cX3_copyFrom 96 = .ok (.getfield 27, 3) := by decide +kernel
theorem dX3_copyFrom_99 : decode cX3_copyFrom 99 = .ok (.iconst 0, 1) := by decide +kernel
theorem dX3_copyFrom_100 : decode cX3_copyFrom 100 = .ok (.bipush 20, 2) := by decide +kernel
theorem dX3_copyFrom_102 : decode cX3_copyFrom 102 = .ok (.invokestatic 46, 3) := by decide +kernel
theorem dX3_copyFrom_105 : decode cX3_copyFrom 105 = .ok (.aload_n 0, 1) := by decide +kernel
theorem dX3_copyFrom_106 : decode cX3_copyFrom 106 = .ok (.aload_n 1, 1) := by decide +kernel
theorem dX3_copyFrom_107 : decode cX3_copyFrom 107 = .ok (.getfield 43, 3) := by decide +kernel
theorem dX3_copyFrom_110 : decode cX3_copyFrom 110 = .ok (.putfield 43, 3) := by decide +kernel
theorem dX3_copyFrom_113 : decode cX3_copyFrom 113 = .ok (.aload_n 1, 1) := by decide +kernel
theorem dX3_copyFrom_114 : decode cX3_copyFrom 114 = .ok (.getfield 30, 3) := by decide +kernel
theorem dX3_copyFrom_117 : decode cX3_copyFrom 117 = .ok (.iconst 0, 1) := by decide +kernel
theorem dX3_copyFrom_118 : decode cX3_copyFrom 118 = .ok (.aload_n 0, 1) := by decide +kernel
theorem dX3_copyFrom_119 : decode cX3_copyFrom 119 = .ok (.getfield 30, 3) := by decide +kernel
theorem dX3_copyFrom_122 : decode cX3_copyFrom 122 = .ok (.iconst 0, 1) := by decide +kernel
theorem dX3_copyFrom_123 : decode cX3_copyFrom 123 = .ok (.sipush 400, 3) := by decide +kernel
theorem dX3_copyFrom_126 : decode cX3_copyFrom 126 = .ok (.invokestatic 46, 3) := by decide +kernel
theorem dX3_copyFrom_129 : decode cX3_copyFrom 129 = .ok (.aload_n 1, 1) := by decide +kernel
theorem dX3_copyFrom_130 : decode cX3_copyFrom 130 = .ok (.getfield 33, 3) := by decide +kernel
theorem dX3_copyFrom_133 : decode cX3_copyFrom 133 = .ok (.iconst 0, 1) := by decide +kernel
theorem dX3_copyFrom_134 : decode cX3_copyFrom 134 = .ok (.aload_n 0, 1) := by decide +kernel
theorem dX3_copyFrom_135 : decode cX3_copyFrom 135 = .ok (.getfield 33, 3) := by decide +kernel
theorem dX3_copyFrom_138 : decode cX3_copyFrom 138 = .ok (.iconst 0, 1) := by decide +kernel
theorem dX3_copyFrom_139 : decode cX3_copyFrom 139 = .ok (.sipush 400, 3) := by decide +kernel
theorem dX3_copyFrom_142 : decode cX3_copyFrom 142 = .ok (.invokestatic 46, 3) := by decide +kernel
theorem dX3_copyFrom_145 : decode cX3_copyFrom 145 = .ok (.return_, 1) := by decide +kernel
theorem dX3_beginRule_0 : decode cX3_beginRule 0 = .ok (.aload_n 0, 1) := by decide +kernel
theorem dX3_beginRule_1 : decode cX3_beginRule 1 = .ok (.getfield 36, 3) := by decide +kernel
theorem dX3_beginRule_4 : decode cX3_beginRule 4 = .ok (.iconst 5, 1) := by decide +kernel
theorem dX3_beginRule_5 : decode cX3_beginRule 5 = .ok (.if_icmp .lt 5, 3) := by decide +kernel
theorem dX3_beginRule_8 : decode cX3_beginRule 8 = .ok (.iconst 0, 1) := by decide +kernel
theorem dX3_beginRule_9 : decode cX3_beginRule 9 = .ok (.ireturn, 1) := by decide +kernel
theorem dX3_beginRule_10 : decode cX3_beginRule 10 = .ok (.aload_n 0, 1) := by decide +kernel
theorem dX3_beginRule_11 : decode cX3_beginRule 11 = .ok (.getfield 11, 3) := by decide +kernel
theorem dX3_beginRule_14 : decode cX3_beginRule 14 = .ok (.aload_n 0, 1) := by decide +kernel
theorem dX3_beginRule_15 : decode cX3_beginRule 15 = .ok (.getfield 36, 3) := by decide +kernel
theorem dX3_beginRule_18 : decode cX3_beginRule 18 = .ok (.iconst 0, 1) := by decide +kernel
theorem dX3_beginRule_19 : decode cX3_beginRule 19 = .ok (.iastore, 1) := by decide +kernel
theorem dX3_beginRule_20 : decode cX3_beginRule 20 = .ok (.aload_n 0, 1) := by decide +kernel
theorem dX3_beginRule_21 : decode cX3_beginRule 21 = .ok (.dup, 1) := by decide +kernel
theorem dX3_beginRule_22 : decode cX3_beginRule 22 = .ok (.getfield 36, 3) := by decide +kernel
theorem dX3_beginRule_25 : decode cX3_beginRule 25 = .ok (.iconst 1, 1) := by decide +kernel
theorem dX3_beginRule_26 : decode cX3_beginRule 26 = .ok (.iadd, 1) := by decide +kernel
theorem dX3_beginRule_27 : decode cX3_beginRule 27 = .ok (.putfield 36, 3) := by decide +kernel
theorem dX3_beginRule_30 : decode cX3_beginRule 30 = .ok (.iconst 1, 1) := by decide +kernel
theorem dX3_beginRule_31 : decode cX3_beginRule 31 = .ok (.ireturn, 1) := by decide +kernel
theorem dX3_addTurn_0 : decode cX3_addTurn 0 = .ok (.aload_n 0, 1) := by decide +kernel
theorem dX3_addTurn_1 : decode cX3_addTurn 1 = .ok (.getfield 36, 3) := by decide +kernel
theorem dX3_addTurn_4 : decode cX3_addTurn 4 = .ok (.iconst 1, 1) := by decide +kernel
theorem dX3_addTurn_5 : decode cX3_addTurn 5 = .ok (.isub, 1) := by decide +kernel
theorem dX3_addTurn_6 : decode cX3_addTurn 6 = .ok (.istore_n 2, 1) := by decide +kernel
theorem dX3_addTurn_7 : decode cX3_addTurn 7 = .ok (.iload_n 2, 1) := by decide +kernel
theorem dX3_addTurn_8 : decode cX3_addTurn 8 = .ok (.ifCond .lt 14, 3) := by decide +kernel
theorem dX3_addTurn_11 : decode cX3_addTurn 11 = .ok (.aload_n 0, 1) := by decide +kernel
theorem dX3_addTurn_12 : decode cX3_addTurn 12 = .ok (.getfield 11, 3) := by decide +kernel
theorem dX3_addTurn_15 : decode cX3_addTurn 15 = .ok (.iload_n 2, 1) := by decide +kernel
theorem dX3_addTurn_16 : decode cX3_addTurn 16 = .ok (.iaload, 1) := by decide +kernel
theorem dX3_addTurn_17 : decode cX3_addTurn 17 = .ok (.bipush 6, 2) := by decide +kernel
theorem dX3_addTurn_19 : decode cX3_addTurn 19 = .ok (.if_icmp .lt 5, 3) := by decide +kernel
theorem dX3_addTurn_22 : decode cX3_addTurn 22 = .ok (.iconst 0, 1) := by decide +kernel
theorem dX3_addTurn_23 : decode cX3_addTurn 23 = .ok (.ireturn, 1) := by decide +kernel
theorem dX3_addTurn_24 : decode cX3_addTurn 24 = .ok (.aload_n 0, 1) := by decide +kernel
theorem dX3_addTurn_25 : decode cX3_addTurn 25 = .ok (.getfield 15, 3) := by decide +kernel
theorem dX3_addTurn_28 : decode cX3_addTurn 28 = .ok (.iload_n 2, 1) := by decide +kernel
theorem dX3_addTurn_29 : decode cX3_addTurn 29 = .ok (.bipush 6, 2) := by decide +kernel
theorem dX3_addTurn_31 : decode cX3_addTurn 31 = .ok (.imul, 1) := by decide +kernel
theorem dX3_addTurn_32 : decode cX3_addTurn 32 = .ok (.aload_n 0, 1) := by decide +kernel
theorem dX3_addTurn_33 : decode cX3_addTurn 33 = .ok (.getfield 11, 3) := by decide +kernel
theorem dX3_addTurn_36 : decode cX3_addTurn 36 = .ok (.iload_n 2, 1) := by decide +kernel
theorem dX3_addTurn_37 : decode cX3_addTurn 37 = .ok (.iaload, 1) := by decide +kernel
theorem dX3_addTurn_38 : decode cX3_addTurn 38 = .ok (.iadd, 1) := by decide +kernel
theorem dX3_addTurn_39 : decode cX3_addTurn 39 = .ok (.iload_n 1, 1) := by decide +kernel
theorem dX3_addTurn_40 : decode cX3_addTurn 40 = .ok (.iastore, 1) := by decide +kernel
theorem dX3_addTurn_41 : decode cX3_addTurn 41 = .ok (.aload_n 0, 1) := by decide +kernel
theorem dX3_addTurn_42 : decode cX3_addTurn 42 = .ok (.getfield 11, 3) := by decide +kernel
theorem dX3_addTurn_45 : decode cX3_addTurn 45 = .ok (.iload_n 2, 1) := by decide +kernel
theorem dX3_addTurn_46 : decode cX3_addTurn 46 = .ok (.dup2, 1) := by decide +kernel
theorem dX3_addTurn_47 : decode cX3_addTurn 47 = .ok (.iaload, 1) := by decide +kernel
theorem dX3_addTurn_48 : decode cX3_addTurn 48 = .ok (.iconst 1, 1) := by decide +kernel
theorem dX3_addTurn_49 : decode cX3_addTurn 49 = .ok (.iadd, 1) := by decide +kernel
theorem dX3_addTurn_50 : decode cX3_addTurn 50 = .ok (.iastore, 1) := by decide +kernel
theorem dX3_addTurn_51 : decode cX3_addTurn 51 = .ok (.iconst 1, 1) := by decide +kernel
theorem dX3_addTurn_52 : decode cX3_addTurn 52 = .ok (.ireturn, 1) := by decide +kernel
theorem dX3_remainder_0 : decode cX3_remainder 0 = .ok (.iload_n 1, 1) := by decide +kernel
theorem dX3_remainder_1 : decode cX3_remainder 1 = .ok (.ifCond .lt 20, 3) := by decide +kernel
theorem dX3_remainder_4 : decode cX3_remainder 4 = .ok (.iload_n 1, 1) := by decide +kernel
theorem dX3_remainder_5 : decode cX3_remainder 5 = .ok (.aload_n 0, 1) := by decide +kernel
theorem dX3_remainder_6 : decode cX3_remainder 6 = .ok (.getfield 36, 3) := by decide +kernel
theorem dX3_remainder_9 : decode cX3_remainder 9 = .ok (.if_icmp .ge 12, 3) := by decide +kernel
theorem dX3_remainder_12 : decode cX3_remainder 12 = .ok (.aload_n 0, 1) := by decide +kernel
theorem dX3_remainder_13 : decode cX3_remainder 13 = .ok (.getfield 11, 3) := by decide +kernel
theorem dX3_remainder_16 : decode cX3_remainder 16 = .ok (.iload_n 1, 1) := by decide +kernel
theorem dX3_remainder_17 : decode cX3_remainder 17 = .ok (.iaload, 1) := by decide +kernel
theorem dX3_remainder_18 : decode cX3_remainder 18 = .ok (.goto 4, 3) := by decide +kernel
theorem dX3_remainder_21 : decode cX3_remainder 21 = .ok (.iconst 0, 1) := by decide +kernel
theorem dX3_remainder_22 : decode cX3_remainder 22 = .ok (.istore_n 3, 1) := by decide +kernel
theorem dX3_remainder_23 : decode cX3_remainder 23 = .ok (.iload_n 3, 1) := by decide +kernel
theorem dX3_remainder_24 : decode cX3_remainder 24 = .ok (.ifCond .le 13, 3) := by decide +kernel
theorem dX3_remainder_27 : decode cX3_remainder 27 = .ok (.iload_n 2, 1) := by decide +kernel
theorem dX3_remainder_28 : decode cX3_remainder 28 = .ok (.ifCond .lt 9, 3) := by decide +kernel
theorem dX3_remainder_31 : decode cX3_remainder 31 = .ok (.iload_n 2, 1) := by decide +kernel
theorem dX3_remainder_32 : decode cX3_remainder 32 = .ok (.iload_n 3, 1) := by decide +kernel
theorem dX3_remainder_33 : decode cX3_remainder 33 = .ok (.irem, 1) := by decide +kernel
theorem dX3_remainder_34 : decode cX3_remainder 34 = .ok (.goto 4, 3) := by decide +kernel
theorem dX3_remainder_37 : decode cX3_remainder 37 = .ok (.iconst 0, 1) := by decide +kernel
theorem dX3_remainder_38 : decode cX3_remainder 38 = .ok (.ireturn, 1) := by decide +kernel
set_option maxRecDepth 20000 in
theorem ggX3_turnFor_X3_remainder : GoodIn wsX3_turnFor wsX3_remainder := goodIn_r _ [7, 1, 8, 9, 10, 11, 12, 13, 14, 15, 16, 17, 18, 19] (by decide +kernel) (by decide +kernel)
set_option maxRecDepth 20000 in
theorem gX3_turnFor_X3_remainder : GoodIn wsX3_turnFor (wsV RX3 52 RX3 yX3_remainder wsX3_remainder) := goodIn_app (goodIn_of _ (by decide +kernel)) ggX3_turnFor_X3_remainder
theorem dX3_turnFor_0 : decode cX3_turnFor 0 = .ok (.iload_n 1, 1) := by decide +kernel
theorem dX3_turnFor_1 : decode cX3_turnFor 1 = .ok (.ifCond .lt 30, 3) := by decide +kernel
theorem dX3_turnFor_4 : decode cX3_turnFor 4 = .ok (.iload_n 1, 1) := by decide +kernel
theorem dX3_turnFor_5 : decode cX3_turnFor 5 = .ok (.aload_n 0, 1) := by decide +kernel
theorem dX3_turnFor_6 : decode cX3_turnFor 6 = .ok (.getfield 36, 3) := by decide +kernel
theorem dX3_turnFor_9 : decode cX3_turnFor 9 = .ok (.if_icmp .ge 22, 3) := by decide +kernel
theorem dX3_turnFor_12 : decode cX3_turnFor 12 = .ok (.aload_n 0, 1) := by decide +kernel
theorem dX3_turnFor_13 : decode cX3_turnFor 13 = .ok (.getfield 15, 3) := by decide +kernel
theorem dX3_turnFor_16 : decode cX3_turnFor 16 = .ok (.iload_n 1, 1) := by decide +kernel
theorem dX3_turnFor_17 : decode cX3_turnFor 17 = .ok (.bipush 6, 2) := by decide +kernel
theorem dX3_turnFor_19 : decode cX3_turnFor 19 = .ok (.imul, 1) := by decide +kernel
theorem dX3_turnFor_20 : decode cX3_turnFor 20 = .ok (.aload_n 0, 1) := by decide +kernel
theorem dX3_turnFor_21 : decode cX3_turnFor 21 = .ok (.iload_n 1, 1) := by decide +kernel
theorem dX3_turnFor_22 : decode cX3_turnFor 22 = .ok (.iload_n 2, 1) := by decide +kernel
theorem dX3_turnFor_23 : decode cX3_turnFor 23 = .ok (.invokevirtual 52, 3) := by decide +kernel
theorem dX3_turnFor_26 : decode cX3_turnFor 26 = .ok (.iadd, 1) := by decide +kernel
theorem dX3_turnFor_27 : decode cX3_turnFor 27 = .ok (.iaload, 1) := by decide +kernel
theorem dX3_turnFor_28 : decode cX3_turnFor 28 = .ok (.goto 4, 3) := by decide +kernel
theorem dX3_turnFor_31 : decode cX3_turnFor 31 = .ok (.iconst 0, 1) := by decide +kernel
theorem dX3_turnFor_32 : decode cX3_turnFor 32 = .ok (.ireturn, 1) := by decide +kernel
theorem dX3_beginOrder_0 : decode cX3_beginOrder 0 = .ok (.aload_n 0, 1) := by decide +kernel
theorem dX3_beginOrder_1 : decode cX3_beginOrder 1 = .ok (.getfield 40, 3) := by decide +kernel
theorem dX3_beginOrder_4 : decode cX3_beginOrder 4 = .ok (.bipush 20, 2) := by decide +kernel
theorem dX3_beginOrder_6 : decode cX3_beginOrder 6 = .ok (.if_icmp .lt 5, 3) := by decide +kernel
theorem dX3_beginOrder_9 : decode cX3_beginOrder 9 = .ok (.iconst 0, 1) := by decide +kernel
theorem dX3_beginOrder_10 : decode cX3_beginOrder 10 = .ok (.ireturn, 1) := by decide +kernel
theorem dX3_beginOrder_11 : decode cX3_beginOrder 11 = .ok (.aload_n 0, 1) := by decide +kernel
theorem dX3_beginOrder_12 : decode cX3_beginOrder 12 = .ok (.getfield 18, 3) := by decide +kernel
theorem dX3_beginOrder_15 : decode cX3_beginOrder 15 = .ok (.aload_n 0, 1) := by decide +kernel
theorem dX3_beginOrder_16 : decode cX3_beginOrder 16 = .ok (.getfield 40, 3) := by decide +kernel
theorem dX3_beginOrder_19 : decode cX3_beginOrder 19 = .ok (.iload_n 1, 1) := by decide +kernel
theorem dX3_beginOrder_20 : decode cX3_beginOrder 20 = .ok (.iastore, 1) := by decide +kernel
theorem dX3_beginOrder_21 : decode cX3_beginOrder 21 = .ok (.aload_n 0, 1) := by decide +kernel
theorem dX3_beginOrder_22 : decode cX3_beginOrder 22 = .ok (.getfield 21, 3) := by decide +kernel
theorem dX3_beginOrder_25 : decode cX3_beginOrder 25 = .ok (.aload_n 0, 1) := by decide +kernel
theorem dX3_beginOrder_26 : decode cX3_beginOrder 26 = .ok (.getfield 40, 3) := by decide +kernel
theorem dX3_beginOrder_29 : decode cX3_beginOrder 29 = .ok (.iconst 0, 1) := by decide +kernel
theorem dX3_beginOrder_30 : decode cX3_beginOrder 30 = .ok (.iastore, 1) := by decide +kernel
theorem dX3_beginOrder_31 : decode cX3_beginOrder 31 = .ok (.aload_n 0, 1) := by decide +kernel
theorem dX3_beginOrder_32 : decode cX3_beginOrder 32 = .ok (.getfield 24, 3) := by decide +kernel
theorem dX3_beginOrder_35 : decode cX3_beginOrder 35 = .ok (.aload_n 0, 1) := by decide +kernel
theorem dX3_beginOrder_36 : decode cX3_beginOrder 36 = .ok (.getfield 40, 3) := by decide +kernel
theorem dX3_beginOrder_39 : decode cX3_beginOrder 39 = .ok (.iconst 0, 1) := by decide +kernel
theorem dX3_beginOrder_40 : decode cX3_beginOrder 40 = .ok (.iastore, 1) := by decide +kernel
theorem dX3_beginOrder_41 : decode cX3_beginOrder 41 = .ok (.aload_n 0, 1) := by decide +kernel
theorem dX3_beginOrder_42 : decode cX3_beginOrder 42 = .ok (.getfield 27, 3) := by decide +kernel
theorem dX3_beginOrder_45 : decode cX3_beginOrder 45 = .ok (.aload_n 0, 1) := by decide +kernel
theorem dX3_beginOrder_46 : decode cX3_beginOrder 46 = .ok (.getfield 40, 3) := by decide +kernel
theorem dX3_beginOrder_49 : decode cX3_beginOrder 49 = .ok (.aload_n 0, 1) := by decide +kernel
theorem dX3_beginOrder_50 : decode cX3_beginOrder 50 = .ok (.getfield 43, 3) := by decide +kernel
theorem dX3_beginOrder_53 : decode cX3_beginOrder 53 = .ok (.iastore, 1) := by decide +kernel
theorem dX3_beginOrder_54 : decode cX3_beginOrder 54 = .ok (.aload_n 0, 1) := by decide +kernel
theorem dX3_beginOrder_55 : decode cX3_beginOrder 55 = .ok (.dup, 1) := by decide +kernel
theorem dX3_beginOrder_56 : decode cX3_beginOrder 56 = .ok (.getfield 40, 3) := by decide +kernel
theorem dX3_beginOrder_59 : decode cX3_beginOrder 59 = .ok (.iconst 1, 1) := by decide +kernel
theorem dX3_beginOrder_60 : decode cX3_beginOrder 60 = .ok (.iadd, 1) := by decide +kernel
theorem dX3_beginOrder_61 : decode cX3_beginOrder 61 = .ok (.putfield 40, 3) := by decide +kernel
theorem dX3_beginOrder_64 : decode cX3_beginOrder 64 = .ok (.iconst 1, 1) := by decide +kernel
theorem dX3_beginOrder_65 : decode cX3_beginOrder 65 = .ok (.ireturn, 1) := by decide +kernel
theorem dX3_setOrderNumbers_0 : decode cX3_setOrderNumbers 0 = .ok (.aload_n 0, 1) := by decide +kernel
theorem dX3_setOrderNumbers_1 : decode cX3_setOrderNumbers 1 = .ok (.getfield 40, 3) := by decide +kernel
theorem dX3_setOrderNumbers_4 : decode cX3_setOrderNumbers 4 = .ok (.ifCond .le 27, 3) := by decide +kernel
theorem dX3_setOrderNumbers_7 : decode cX3_setOrderNumbers 7 = .ok (.aload_n 0, 1) := by decide +kernel
theorem dX3_setOrderNumbers_8 : decode cX3_setOrderNumbers 8 = .ok (.getfield 21, 3) := by decide +kernel
theorem dX3_setOrderNumbers_11 : decode cX3_setOrderNumbers 11 = .ok (.aload_n 0, 1) := by decide +kernel
theorem dX3_setOrderNumbers_12 : decode cX3_setOrderNumbers 12 = .ok (.getfield 40, 3) := by decide +kernel
theorem dX3_setOrderNumbers_15 : decode cX3_setOrderNumbers 15 = .ok (.iconst 1, 1) := by decide +kernel
theorem dX3_setOrderNumbers_16 : decode cX3_setOrderNumbers 16 = .ok (.isub, 1) := by decide +kernel
theorem dX3_setOrderNumbers_17 : decode cX3_setOrderNumbers 17 = .ok (.iload_n 1, 1) := by decide +kernel
theorem dX3_setOrderNumbers_18 : decode cX3_setOrderNumbers 18 = .ok (.iastore, 1) := by decide +kernel
theorem dX3_setOrderNumbers_19 : decode cX3_setOrderNumbers 19 = .ok (.aload_n 0, 1) := by decide +kernel
theorem dX3_setOrderNumbers_20 : decode cX3_setOrderNumbers 20 = .ok (.getfield 24, 3) := by decide +kernel
theorem dX3_setOrderNumbers_23 : decode cX3_setOrderNumbers 23 = .ok (.aload_n 0, 1) := by decide +kernel
theorem dX3_setOrderNumbers_24 : decode cX3_setOrderNumbers 24 = .ok (.getfield 40, 3) := by decide +kernel
theorem dX3_setOrderNumbers_27 : decode cX3_setOrderNumbers 27 = .ok (.iconst 1, 1) := by decide +kernel
theorem dX3_setOrderNumbers_28 : decode cX3_setOrderNumbers 28 = .ok (.isub, 1) := by decide +kernel
theorem dX3_setOrderNumbers_29 : decode cX3_setOrderNumbers 29 = .ok (.iload_n 2, 1) := by decide +kernel
theorem dX3_setOrderNumbers_30 : decode cX3_setOrderNumbers 30 = .ok (.iastore, 1) := by decide +kernel
theorem dX3_setOrderNumbers_31 : decode cX3_setOrderNumbers 31 = .ok (.return_, 1) := by decide +kernel
theorem dX3_addOperation_0 : decode cX3_addOperation 0 = .ok (.aload_n 0, 1) := by decide +kernel
theorem dX3_addOperation_1 : decode cX3_addOperation 1 = .ok (.getfield 40, 3) := by decide +kernel
theorem dX3_addOperation_4 : decode cX3_addOperation 4 = .ok (.ifCond .le 58, 3) := by decide +kernel
theorem dX3_addOperation_7 : decode cX3_addOperation 7 = .ok (.aload_n 0, 1) := by decide +kernel
theorem dX3_addOperation_8 : decode cX3_addOperation 8 = .ok (.getfield 43, 3) := by decide +kernel
theorem dX3_addOperation_11 : decode cX3_addOperation 11 = .ok (.sipush 400, 3) := by decide +kernel
theorem dX3_addOperation_14 : decode cX3_addOperation 14 = .ok (.if_icmp .ge 48, 3) := by decide +kernel
theorem dX3_addOperation_17 : decode cX3_addOperation 17 = .ok (.aload_n 0, 1) := by decide +kernel
theorem dX3_addOperation_18 : decode cX3_addOperation 18 = .ok (.getfield 30, 3) := by decide +kernel
theorem dX3_addOperation_21 : decode cX3_addOperation 21 = .ok (.aload_n 0, 1) := by decide +kernel
theorem dX3_addOperation_22 : decode cX3_addOperation 22 = .ok (.getfield 43, 3) := by decide +kernel
theorem dX3_addOperation_25 : decode cX3_addOperation 25 = .ok (.iload_n 1, 1) := by decide +kernel
theorem dX3_addOperation_26 : decode cX3_addOperation 26 = .ok (.iastore, 1) := by decide +kernel
theorem dX3_addOperation_27 : decode cX3_addOperation 27 = .ok (.aload_n 0, 1) := by decide +kernel
theorem dX3_addOperation_28 : decode cX3_addOperation 28 = .ok (.getfield 33, 3) := by decide +kernel
theorem dX3_addOperation_31 : decode cX3_addOperation 31 = .ok (.aload_n 0, 1) := by decide +kernel
theorem dX3_addOperation_32 : decode cX3_addOperation 32 = .ok (.getfield 43, 3) := by decide +kernel
theorem dX3_addOperation_35 : decode cX3_addOperation 35 = .ok (.iload_n 2, 1) := by decide +kernel
theorem dX3_addOperation_36 : decode cX3_addOperation 36 = .ok (.iastore, 1) := by decide +kernel
theorem dX3_addOperation_37 : decode cX3_addOperation 37 = .ok (.aload_n 0, 1) := by decide +kernel
theorem dX3_addOperation_38 : decode cX3_addOperation 38 = .ok (.dup, 1) := by decide +kernel
theorem dX3_addOperation_39 : decode cX3_addOperation 39 = .ok (.getfield 43, 3) := by decide +kernel
theorem dX3_addOperation_42 : decode cX3_addOperation 42 = .ok (.iconst 1, 1) := by decide +kernel
theorem dX3_addOperation_43 : decode cX3_addOperation 43 = .ok (.iadd, 1) := by decide +kernel
theorem dX3_addOperation_44 : decode cX3_addOperation 44 = .ok (.putfield 43, 3) := by decide +kernel
theorem dX3_addOperation_47 : decode cX3_addOperation 47 = .ok (.aload_n 0, 1) := by decide +kernel
theorem dX3_addOperation_48 : decode cX3_addOperation 48 = .ok (.getfield 27, 3) := by decide +kernel
theorem dX3_addOperation_51 : decode cX3_addOperation 51 = .ok (.aload_n 0, 1) := by decide +kernel
theorem dX3_addOperation_52 : decode cX3_addOperation 52 = .ok (.getfield 40, 3) := by decide +kernel
theorem dX3_addOperation_55 : decode cX3_addOperation 55 = .ok (.iconst 1, 1) := by decide +kernel
theorem dX3_addOperation_56 : decode cX3_addOperation 56 = .ok (.isub, 1) := by decide +kernel
theorem dX3_addOperation_57 : decode cX3_addOperation 57 = .ok (.aload_n 0, 1) := by decide +kernel
theorem dX3_addOperation_58 : decode cX3_addOperation 58 = .ok (.getfield 43, 3) := by decide +kernel
theorem dX3_addOperation_61 : decode cX3_addOperation 61 = .ok (.iastore, 1) := by decide +kernel
theorem dX3_addOperation_62 : decode cX3_addOperation 62 = .ok (.return_, 1) := by decide +kernel
