theorem dX10_init_0 : decode cX10_init 0 = .ok (.aload_n 0, 1) := by decide +kernel
theorem dX10_init_1 : decode cX10_init 1 = .ok (.invokespecial 1, 3) := by decide +kernel
theorem dX10_init_4 : decode cX10_init 4 = .ok (.aload_n 0, 1) := by decide +kernel
theorem dX10_init_5 : decode cX10_init 5 = .ok (.iconst 0, 1) := by decide +kernel
theorem dX10_init_6 : decode cX10_init 6 = .ok (.anewarray 7, 3) := by decide +kernel
theorem dX10_init_9 : decode cX10_init 9 = .ok (.putfield 9, 3) := by decide +kernel
theorem dX10_init_12 : decode cX10_init 12 = .ok (.aload_n 0, 1) := by decide +kernel
theorem dX10_init_13 : decode cX10_init 13 = .ok (.bipush 64, 2) := by decide +kernel
theorem dX10_init_15 : decode cX10_init 15 = .ok (.bipush 64, 2) := by decide +kernel
theorem dX10_init_17 : decode cX10_init 17 = .ok (.multianewarray 15 2, 4) := by decide +kernel
theorem dX10_init_21 : decode cX10_init 21 = .ok (.putfield 16, 3) := by decide +kernel
theorem dX10_init_24 : decode cX10_init 24 = .ok (.aload_n 0, 1) := by decide +kernel
theorem dX10_init_25 : decode cX10_init 25 = .ok (.iconst 0, 1) := by decide +kernel
theorem dX10_init_26 : decode cX10_init 26 = .ok (.anewarray 7, 3) := by decide +kernel
theorem dX10_init_29 : decode cX10_init 29 = .ok (.putfield 19, 3) := by decide +kernel
theorem dX10_init_32 : decode cX10_init 32 = .ok (.aload_n 0, 1) := by decide +kernel
theorem dX10_init_33 : decode cX10_init 33 = .ok (.iconst 0, 1) := by decide +kernel
theorem dX10_init_34 : decode cX10_init 34 = .ok (.anewarray 7, 3) := by decide +kernel
theorem dX10_init_37 : decode cX10_init 37 = .ok (.putfield 22, 3) := by decide +kernel
theorem dX10_init_40 : decode cX10_init 40 = .ok (.aload_n 0, 1) := by decide +kernel
theorem dX10_init_41 : decode cX10_init 41 = .ok (.iconst 0, 1) := by decide +kernel
theorem dX10_init_42 : decode cX10_init 42 = .ok (.anewarray 7, 3) := by decide +kernel
theorem dX10_init_45 : decode cX10_init 45 = .ok (.putfield 25, 3) := by decide +kernel
theorem dX10_init_48 : decode cX10_init 48 = .ok (.return_, 1) := by decide +kernel
theorem dX10_with_0 : decode cX10_with 0 = .ok (.aload_n 0, 1) := by decide +kernel
theorem dX10_with_1 : decode cX10_with 1 = .ok (.arraylength, 1) := by decide +kernel
theorem dX10_with_2 : decode cX10_with 2 = .ok (.iconst 1, 1) := by decide +kernel
theorem dX10_with_3 : decode cX10_with 3 = .ok (.iadd, 1) := by decide +kernel
theorem dX10_with_4 : decode cX10_with 4 = .ok (.anewarray 7, 3) := by decide +kernel
theorem dX10_with_7 : decode cX10_with 7 = .ok (.astore_n 2, 1) := by decide +kernel
theorem dX10_with_8 : decode cX10_with 8 = .ok (.iconst 0, 1) := by decide +kernel
theorem dX10_with_9 : decode cX10_with 9 = .ok (.istore_n 3, 1) := by decide +kernel
theorem dX10_with_10 : decode cX10_with 10 = .ok (.iload_n 3, 1) := by decide +kernel
theorem dX10_with_11 : decode cX10_with 11 = .ok (.aload_n 0, 1) := by decide +kernel
theorem dX10_with_12 : decode cX10_with 12 = .ok (.arraylength, 1) := by decide +kernel
theorem dX10_with_13 : decode cX10_with 13 = .ok (.if_icmp .ge 15, 3) := by decide +kernel
theorem dX10_with_16 : decode cX10_with 16 = .ok (.aload_n 2, 1) := by decide +kernel
theorem dX10_with_17 : decode cX10_with 17 = .ok (.iload_n 3, 1) := by decide +kernel
theorem dX10_with_18 : decode cX10_with 18 = .ok (.aload_n 0, 1) := by decide +kernel
theorem dX10_with_19 : decode cX10_with 19 = .ok (.iload_n 3, 1) := by decide +kernel
theorem dX10_with_20 : decode cX10_with 20 = .ok (.aaload, 1) := by decide +kernel
theorem dX10_with_21 : decode cX10_with 21 = .ok (.aastore, 1) := by decide +kernel
theorem dX10_with_22 : decode cX10_with 22 = .ok (.iinc 3 1, 3) := by decide +kernel
theorem dX10_with_25 : decode cX10_with 25 = .ok (.goto (-15), 3) := by decide +kernel
theorem dX10_with_28 : decode cX10_with 28 = .ok (.aload_n 2, 1) := by decide +kernel
theorem dX10_with_29 : decode cX10_with 29 = .ok (.aload_n 0, 1) := by decide +kernel
theorem dX10_with_30 : decode cX10_with 30 = .ok (.arraylength, 1) := by decide +kernel
theorem dX10_with_31 : decode cX10_with 31 = .ok (.aload_n 1, 1) := by decide +kernel
theorem dX10_with_32 : decode cX10_with 32 = .ok (.aastore, 1) := by decide +kernel
theorem dX10_with_33 : decode cX10_with 33 = .ok (.aload_n 2, 1) := by decide +kernel
theorem dX10_with_34 : decode cX10_with 34 = .ok (.areturn, 1) := by decide +kernel
theorem dX10_darkIn_0 : decode cX10_darkIn 0 = .ok (.iconst 0, 1) := by decide +kernel
theorem dX10_darkIn_1 : decode cX10_darkIn 1 = .ok (.istore_n 2, 1) := by decide +kernel
theorem dX10_darkIn_2 : decode cX10_darkIn 2 = .ok (.aload_n 0, 1) := by decide +kernel
theorem dX10_darkIn_3 : decode cX10_darkIn 3 = .ok (.getfield 16, 3) := by decide +kernel
theorem dX10_darkIn_6 : decode cX10_darkIn 6 = .ok (.iload_n 1, 1) := by decide +kernel
theorem dX10_darkIn_7 : decode cX10_darkIn 7 = .ok (.aaload, 1) := by decide +kernel
theorem dX10_darkIn_8 : decode cX10_darkIn 8 = .ok (.astore_n 3, 1) := by decide +kernel
theorem dX10_darkIn_9 : decode cX10_darkIn 9 = .ok (.aload_n 3, 1) := by decide +kernel
theorem dX10_darkIn_10 : decode cX10_darkIn 10 = .ok (.arraylength, 1) := by decide +kernel
theorem dX10_darkIn_11 : decode cX10_darkIn 11 = .ok (.istore 4, 2) := by decide +kernel
theorem dX10_darkIn_13 : decode cX10_darkIn 13 = .ok (.iconst 0, 1) := by decide +kernel
theorem dX10_darkIn_14 : decode cX10_darkIn 14 = .ok (.istore 5, 2) := by decide +kernel
theorem dX10_darkIn_16 : decode cX10_darkIn 16 = .ok (.iload 5, 2) := by decide +kernel
theorem dX10_darkIn_18 : decode cX10_darkIn 18 = .ok (.iload 4, 2) := by decide +kernel
theorem dX10_darkIn_20 : decode cX10_darkIn 20 = .ok (.if_icmp .ge 28, 3) := by decide +kernel
theorem dX10_darkIn_23 : decode cX10_darkIn 23 = .ok (.aload_n 3, 1) := by decide +kernel
theorem dX10_darkIn_24 : decode cX10_darkIn 24 = .ok (.iload 5, 2) := by decide +kernel
theorem dX10_darkIn_26 : decode cX10_darkIn 26 = .ok (.iaload, 1) := by decide +kernel
theorem dX10_darkIn_27 : decode cX10_darkIn 27 = .ok (.istore 6, 2) := by decide +kernel
theorem dX10_darkIn_29 : decode cX10_darkIn 29 = .ok (.iload_n 2, 1) := by decide +kernel
theorem dX10_darkIn_30 : decode cX10_darkIn 30 = .ok (.iload 6, 2) := by decide +kernel
theorem dX10_darkIn_32 : decode cX10_darkIn 32 = .ok (.ifCond .le 7, 3) := by decide +kernel
theorem dX10_darkIn_35 : decode cX10_darkIn 35 = .ok (.iconst 1, 1) := by decide +kernel
theorem dX10_darkIn_36 : decode cX10_darkIn 36 = .ok (.goto 4, 3) := by decide +kernel
theorem dX10_darkIn_39 : decode cX10_darkIn 39 = .ok (.iconst 0, 1) := by decide +kernel
theorem dX10_darkIn_40 : decode cX10_darkIn 40 = .ok (.iadd, 1) := by decide +kernel
theorem dX10_darkIn_41 : decode cX10_darkIn 41 = .ok (.istore_n 2, 1) := by decide +kernel
theorem dX10_darkIn_42 : decode cX10_darkIn 42 = .ok (.iinc 5 1, 3) := by decide +kernel
theorem dX10_darkIn_45 : decode cX10_darkIn 45 = .ok (.goto (-29), 3) := by decide +kernel
theorem dX10_darkIn_48 : decode cX10_darkIn 48 = .ok (.iload_n 2, 1) := by decide +kernel
theorem dX10_darkIn_49 : decode cX10_darkIn 49 = .ok (.ireturn, 1) := by decide +kernel
set_option maxRecDepth 20000 in
theorem ggX10_dark_X10_darkIn : GoodIn wsX10_dark wsX10_darkIn := goodIn_r _ [5, 6, 7, 8, 9, 10, 11, 12, 13, 14, 15] (by decide +kernel) (by decide +kernel)
set_option maxRecDepth 20000 in
theorem gX10_dark_X10_darkIn : GoodIn wsX10_dark (wsV RX10 50 RX10 yX10_darkIn wsX10_darkIn) := goodIn_app (goodIn_of _ (by decide +kernel)) ggX10_dark_X10_darkIn
theorem dX10_dark_0 : decode cX10_dark 0 = .ok (.iconst 0, 1) := by decide +kernel
theorem dX10_dark_1 : decode cX10_dark 1 = .ok (.istore_n 1, 1) := by decide +kernel
theorem dX10_dark_2 : decode cX10_dark 2 = .ok (.iconst 0, 1) := by decide +kernel
theorem dX10_dark_3 : decode cX10_dark 3 = .ok (.istore_n 2, 1) := by decide +kernel
theorem dX10_dark_4 : decode cX10_dark 4 = .ok (.iload_n 2, 1) := by decide +kernel
theorem dX10_dark_5 : decode cX10_dark 5 = .ok (.bipush 64, 2) := by decide +kernel
theorem dX10_dark_7 : decode cX10_dark 7 = .ok (.if_icmp .ge 17, 3) := by decide +kernel
theorem dX10_dark_10 : decode cX10_dark 10 = .ok (.iload_n 1, 1) := by decide +kernel
theorem dX10_dark_11 : decode cX10_dark 11 = .ok (.aload_n 0, 1) := by decide +kernel
theorem dX10_dark_12 : decode cX10_dark 12 = .ok (.iload_n 2, 1) := by decide +kernel
theorem dX10_dark_13 : decode cX10_dark 13 = .ok (.invokevirtual 50, 3) := by decide +kernel
theorem dX10_dark_16 : decode cX10_dark 16 = .ok (.iadd, 1) := by decide +kernel
theorem dX10_dark_17 : decode cX10_dark 17 = .ok (.istore_n 1, 1) := by decide +kernel
theorem dX10_dark_18 : decode cX10_dark 18 = .ok (.iinc 2 1, 3) := by decide +kernel
theorem dX10_dark_21 : decode cX10_dark 21 = .ok (.goto (-17), 3) := by decide +kernel
theorem dX10_dark_24 : decode cX10_dark 24 = .ok (.iload_n 1, 1) := by decide +kernel
theorem dX10_dark_25 : decode cX10_dark 25 = .ok (.ireturn, 1) := by decide +kernel
set_option maxRecDepth 20000 in
theorem ggX10_wash_X10_darkIn : GoodIn wsX10_wash wsX10_darkIn := goodIn_r _ [8, 1, 9, 10, 11, 12, 13, 14, 15, 16, 17] (by decide +kernel) (by decide +kernel)
set_option maxRecDepth 20000 in
theorem gX10_wash_X10_darkIn : GoodIn wsX10_wash (wsV RX10 50 RX10 yX10_darkIn wsX10_darkIn) := goodIn_app (goodIn_of _ (by decide +kernel)) ggX10_wash_X10_darkIn
theorem dX10_wash_0 : decode cX10_wash 0 = .ok (.iconst 0, 1) := by decide +kernel
theorem dX10_wash_1 : decode cX10_wash 1 = .ok (.istore_n 3, 1) := by decide +kernel
theorem dX10_wash_2 : decode cX10_wash 2 = .ok (.iload_n 1, 1) := by decide +kernel
theorem dX10_wash_3 : decode cX10_wash 3 = .ok (.istore 4, 2) := by decide +kernel
theorem dX10_wash_5 : decode cX10_wash 5 = .ok (.iload 4, 2) := by decide +kernel
theorem dX10_wash_7 : decode cX10_wash 7 = .ok (.iload_n 2, 1) := by decide +kernel
theorem dX10_wash_8 : decode cX10_wash 8 = .ok (.if_icmp .gt 29, 3) := by decide +kernel
theorem dX10_wash_11 : decode cX10_wash 11 = .ok (.iload_n 3, 1) := by decide +kernel
theorem dX10_wash_12 : decode cX10_wash 12 = .ok (.aload_n 0, 1) := by decide +kernel
theorem dX10_wash_13 : decode cX10_wash 13 = .ok (.iload 4, 2) := by decide +kernel
theorem dX10_wash_15 : decode cX10_wash 15 = .ok (.invokevirtual 50, 3) := by decide +kernel
theorem dX10_wash_18 : decode cX10_wash 18 = .ok (.iadd, 1) := by decide +kernel
theorem dX10_wash_19 : decode cX10_wash 19 = .ok (.istore_n 3, 1) := by decide +kernel
theorem dX10_wash_20 : decode cX10_wash 20 = .ok (.aload_n 0, 1) := by decide +kernel
theorem dX10_wash_21 : decode cX10_wash 21 = .ok (.getfield 16, 3) := by decide +kernel
theorem dX10_wash_24 : decode cX10_wash 24 = .ok (.iload 4, 2) := by decide +kernel
theorem dX10_wash_26 : decode cX10_wash 26 = .ok (.bipush 64, 2) := by decide +kernel
theorem dX10_wash_28 : decode cX10_wash 28 = .ok (.newarray .int, 2) := by decide +kernel
theorem dX10_wash_30 : decode cX10_wash 30 = .ok (.aastore, 1) := by decide +kernel
theorem dX10_wash_31 : decode cX10_wash 31 = .ok (.iinc 4 1, 3) := by decide +kernel
theorem dX10_wash_34 : decode cX10_wash 34 = .ok (.goto (-29), 3) := by decide +kernel
theorem dX10_wash_37 : decode cX10_wash 37 = .ok (.aload_n 0, 1) := by decide +kernel
theorem dX10_wash_38 : decode cX10_wash 38 = .ok (.dup, 1) := by decide +kernel
theorem dX10_wash_39 : decode cX10_wash 39 = .ok (.getfield 40, 3) := by decide +kernel
theorem dX10_wash_42 : decode cX10_wash 42 = .ok (.iload_n 3, 1) := by decide +kernel
theorem dX10_wash_43 : decode cX10_wash 43 = .ok (.iadd, 1) := by decide +kernel
theorem dX10_wash_44 : decode cX10_wash 44 = .ok (.putfield 40, 3) := by decide +kernel
theorem dX10_wash_47 : decode cX10_wash 47 = .ok (.iload_n 3, 1) := by decide +kernel
theorem dX10_wash_48 : decode cX10_wash 48 = .ok (.ireturn, 1) := by decide +kernel
set_option maxRecDepth 20000 in
theorem ggX10_period_X10_led : GoodIn wsX10_period wsX10_led := goodIn_r _ [6, 1, 7, 8, 9, 10, 11, 12, 13, 14, 15] (by decide +kernel) (by decide +kernel)
set_option maxRecDepth 20000 in
theorem gX10_period_X10_led : GoodIn wsX10_period (wsV RX10 54 RX10 yX10_led wsX10_led) := goodIn_app (goodIn_of _ (by decide +kernel)) ggX10_period_X10_led
theorem dX10_period_0 : decode cX10_period 0 = .ok (.aload_n 0, 1) := by decide +kernel
theorem dX10_period_1 : decode cX10_period 1 = .ok (.getfield 22, 3) := by decide +kernel
theorem dX10_period_4 : decode cX10_period 4 = .ok (.iload_n 1, 1) := by decide +kernel
theorem dX10_period_5 : decode cX10_period 5 = .ok (.aaload, 1) := by decide +kernel
theorem dX10_period_6 : decode cX10_period 6 = .ok (.astore_n 2, 1) := by decide +kernel
theorem dX10_period_7 : decode cX10_period 7 = .ok (.iconst 1, 1) := by decide +kernel
theorem dX10_period_8 : decode cX10_period 8 = .ok (.istore_n 3, 1) := by decide +kernel
theorem dX10_period_9 : decode cX10_period 9 = .ok (.iload_n 3, 1) := by decide +kernel
theorem dX10_period_10 : decode cX10_period 10 = .ok (.bipush 120, 2) := by decide +kernel
theorem dX10_period_12 : decode cX10_period 12 = .ok (.if_icmp .gt 93, 3) := by decide +kernel
theorem dX10_period_15 : decode cX10_period 15 = .ok (.iconst 3, 1) := by decide +kernel
theorem dX10_period_16 : decode cX10_period 16 = .ok (.iload_n 3, 1) := by decide +kernel
theorem dX10_period_17 : decode cX10_period 17 = .ok (.imul, 1) := by decide +kernel
theorem dX10_period_18 : decode cX10_period 18 = .ok (.aload_n 2, 1) := by decide +kernel
theorem dX10_period_19 : decode cX10_period 19 = .ok (.arraylength, 1) := by decide +kernel
theorem dX10_period_20 : decode cX10_period 20 = .ok (.if_icmp .gt 85, 3) := by decide +kernel
theorem dX10_period_23 : decode cX10_period 23 = .ok (.iconst 1, 1) := by decide +kernel
theorem dX10_period_24 : decode cX10_period 24 = .ok (.istore 4, 2) := by decide +kernel
theorem dX10_period_26 : decode cX10_period 26 = .ok (.aload_n 2, 1) := by decide +kernel
theorem dX10_period_27 : decode cX10_period 27 = .ok (.arraylength, 1) := by decide +kernel
theorem dX10_period_28 : decode cX10_period 28 = .ok (.iconst 2, 1) := by decide +kernel
theorem dX10_period_29 : decode cX10_period 29 = .ok (.iload_n 3, 1) := by decide +kernel
theorem dX10_period_30 : decode cX10_period 30 = .ok (.imul, 1) := by decide +kernel
theorem dX10_period_31 : decode cX10_period 31 = .ok (.isub, 1) := by decide +kernel
theorem dX10_period_32 : decode cX10_period 32 = .ok (.istore 5, 2) := by decide +kernel
theorem dX10_period_34 : decode cX10_period 34 = .ok (.iload 5, 2) := by decide +kernel
theorem dX10_period_36 : decode cX10_period 36 = .ok (.aload_n 2, 1) := by decide +kernel
theorem dX10_period_37 : decode cX10_period 37 = .ok (.arraylength, 1) := by decide +kernel
theorem dX10_period_38 : decode cX10_period 38 = .ok (.if_icmp .ge 34, 3) := by decide +kernel
theorem dX10_period_41 : decode cX10_period 41 = .ok (.iload 4, 2) := by decide +kernel
theorem dX10_period_43 : decode cX10_period 43 = .ok (.ifCond .eq 29, 3) := by decide +kernel
theorem dX10_period_46 : decode cX10_period 46 = .ok (.aload_n 2, 1) := by decide +kernel
theorem dX10_period_47 : decode cX10_period 47 = .ok (.iload 5, 2) := by decide +kernel
theorem dX10_period_49 : decode cX10_period 49 = .ok (.iaload, 1) := by decide +kernel
theorem dX10_period_50 : decode cX10_period 50 = .ok (.aload_n 2, 1) := by decide +kernel
theorem dX10_period_51 : decode cX10_period 51 = .ok (.iload 5, 2) := by decide +kernel
theorem dX10_period_53 : decode cX10_period 53 = .ok (.iload_n 3, 1) := by decide +kernel
theorem dX10_period_54 : decode cX10_period 54 = .ok (.isub, 1) := by decide +kernel
theorem dX10_period_55 : decode cX10_period 55 = .ok (.iaload, 1) := by decide +kernel
theorem dX10_period_56 : decode cX10_period 56 = .ok (.if_icmp .ne 7, 3) := by decide +kernel
theorem dX10_period_59 : decode cX10_period 59 = .ok (.iconst 1, 1) := by decide +kernel
theorem dX10_period_60 : decode cX10_period 60 = .ok (.goto 4, 3) := by decide +kernel
theorem dX10_period_63 : decode cX10_period 63 = .ok (.iconst 0, 1) := by decide +kernel
theorem dX10_period_64 : decode cX10_period 64 = .ok (.istore 4, 2) := by decide +kernel
theorem dX10_period_66 : decode cX10_period 66 = .ok (.iinc 5 1, 3) := by decide +kernel
theorem dX10_period_69 : decode cX10_period 69 = .ok (.goto (-35), 3) := by decide +kernel
theorem dX10_period_72 : decode cX10_period 72 = .ok (.iload 4, 2) := by decide +kernel
theorem dX10_period_74 : decode cX10_period 74 = .ok (.ifCond .eq 25, 3) := by decide +kernel
theorem dX10_period_77 : decode cX10_period 77 = .ok (.aload_n 0, 1) := by decide +kernel
theorem dX10_period_78 : decode cX10_period 78 = .ok (.iload_n 1, 1) := by decide +kernel
theorem dX10_period_79 : decode cX10_period 79 = .ok (.iload_n 3, 1) := by decide +kernel
theorem dX10_period_80 : decode cX10_period 80 = .ok (.iconst 1, 1) := by decide +kernel
theorem dX10_period_81 : decode cX10_period 81 = .ok (.invokevirtual 54, 3) := by decide +kernel
theorem dX10_period_84 : decode cX10_period 84 = .ok (.ifCond .ne 13, 3) := by decide +kernel
theorem dX10_period_87 : decode cX10_period 87 = .ok (.aload_n 0, 1) := by decide +kernel
theorem dX10_period_88 : decode cX10_period 88 = .ok (.iload_n 1, 1) := by decide +kernel
theorem dX10_period_89 : decode cX10_period 89 = .ok (.iload_n 3, 1) := by decide +kernel
theorem dX10_period_90 : decode cX10_period 90 = .ok (.iconst 2, 1) := by decide +kernel
theorem dX10_period_91 : decode cX10_period 91 = .ok (.invokevirtual 54, 3) := by decide +kernel
theorem dX10_period_94 : decode cX10_period 94 = .ok (.ifCond .eq 5, 3) := by decide +kernel
theorem dX10_period_97 : decode cX10_period 97 = .ok (.iload_n 3, 1) := by decide +kernel
theorem dX10_period_98 : decode cX10_period 98 = .ok (.ireturn, 1) := by decide +kernel
theorem dX10_period_99 : decode cX10_period 99 = .ok (.iinc 3 1, 3) := by decide +kernel
theorem dX10_period_102 : decode cX10_period 102 = .ok (.goto (-93), 3) := by decide +kernel
theorem dX10_period_105 : decode cX10_period 105 = .ok (.iconst 0, 1) := by decide +kernel
theorem dX10_period_106 : decode cX10_period 106 = .ok (.ireturn, 1) := by decide +kernel
theorem dX10_led_0 : decode cX10_led 0 = .ok (.aload_n 0, 1) := by decide +kernel
theorem dX10_led_1 : decode cX10_led 1 = .ok (.getfield 22, 3) := by decide +kernel
theorem dX10_led_4 : decode cX10_led 4 = .ok (.iload_n 1, 1) := by decide +kernel
theorem dX10_led_5 : decode cX10_led 5 = .ok (.aaload, 1) := by decide +kernel
theorem dX10_led_6 : decode cX10_led 6 = .ok (.astore 4, 2) := by decide +kernel
theorem dX10_led_8 : decode cX10_led 8 = .ok (.iconst 0, 1) := by decide +kernel
theorem dX10_led_9 : decode cX10_led 9 = .ok (.istore 5, 2) := by decide +kernel
theorem dX10_led_11 : decode cX10_led 11 = .ok (.aload 4, 2) := by decide +kernel
theorem dX10_led_13 : decode cX10_led 13 = .ok (.arraylength, 1) := by decide +kernel
theorem dX10_led_14 : decode cX10_led 14 = .ok (.iload_n 2, 1) := by decide +kernel
theorem dX10_led_15 : decode cX10_led 15 = .ok (.isub, 1) := by decide +kernel
theorem dX10_led_16 : decode cX10_led 16 = .ok (.istore 6, 2) := by decide +kernel
theorem dX10_led_18 : decode cX10_led 18 = .ok (.iload 6, 2) := by decide +kernel
theorem dX10_led_20 : decode cX10_led 20 = .ok (.aload 4, 2) := by decide +kernel
theorem dX10_led_22 : decode cX10_led 22 = .ok (.arraylength, 1) := by decide +kernel
theorem dX10_led_23 : decode cX10_led 23 = .ok (.if_icmp .ge 45, 3) := by decide +kernel
theorem dX10_led_26 : decode cX10_led 26 = .ok (.iload 5, 2) := by decide +kernel
theorem dX10_led_28 : decode cX10_led 28 = .ok (.aload 4, 2) := by decide +kernel
theorem dX10_led_30 : decode cX10_led 30 = .ok (.iload 6, 2) := by decide +kernel
theorem dX10_led_32 : decode cX10_led 32 = .ok (.iaload, 1) := by decide +kernel
theorem dX10_led_33 : decode cX10_led 33 = .ok (.iload_n 3, 1) := by decide +kernel
theorem dX10_led_34 : decode cX10_led 34 = .ok (.if_icmp .ne 7, 3) := by decide +kernel
theorem dX10_led_37 : decode cX10_led 37 = .ok (.iconst 1, 1) := by decide +kernel
theorem dX10_led_38 : decode cX10_led 38 = .ok (.goto 21, 3) := by decide +kernel
theorem dX10_led_41 : decode cX10_led 41 = .ok (.aload 4, 2) := by decide +kernel
theorem dX10_led_43 : decode cX10_led 43 = .ok (.iload 6, 2) := by decide +kernel
theorem dX10_led_45 : decode cX10_led 45 = .ok (.iaload, 1) := by decide +kernel
theorem dX10_led_46 : decode cX10_led 46 = .ok (.iload_n 3, 1) := by decide +kernel
theorem dX10_led_47 : decode cX10_led 47 = .ok (.iconst 2, 1) := by decide +kernel
theorem dX10_led_48 : decode cX10_led 48 = .ok (.iadd, 1) := by decide +kernel
theorem dX10_led_49 : decode cX10_led 49 = .ok (.iconst 4, 1) := by decide +kernel
theorem dX10_led_50 : decode cX10_led 50 = .ok (.irem, 1) := by decide +kernel
theorem dX10_led_51 : decode cX10_led 51 = .ok (.if_icmp .ne 7, 3) := by decide +kernel
theorem dX10_led_54 : decode cX10_led 54 = .ok (.iconst (-1), 1) := by decide +kernel
theorem dX10_led_55 : decode cX10_led 55 = .ok (.goto 4, 3) := by decide +kernel
theorem dX10_led_58 : decode cX10_led 58 = .ok (.iconst 0, 1) := by decide +kernel
theorem dX10_led_59 : decode cX10_led 59 = .ok (.iadd, 1) := by decide +kernel
theorem dX10_led_60 : decode cX10_led 60 = .ok (.istore 5, 2) := by decide +kernel
theorem dX10_led_62 : decode cX10_led 62 = .ok (.iinc 6 1, 3) := by decide +kernel
theorem dX10_led_65 : decode cX10_led 65 = .ok (.goto (-47), 3) := by decide +kernel
theorem dX10_led_68 : decode cX10_led 68 = .ok (.iload 5, 2) := by decide +kernel
theorem dX10_led_70 : decode cX10_led 70 = .ok (.ireturn, 1) := by decide +kernel
theorem dX10_isAt_0 : decode cX10_isAt 0 = .ok (.aload_n 0, 1) := by decide +kernel
theorem dX10_isAt_1 : decode cX10_isAt 1 = .ok (.getfield 19, 3) := by decide +kernel
theorem dX10_isAt_4 : decode cX10_isAt 4 = .ok (.iload_n 1, 1) := by decide +kernel
theorem dX10_isAt_5 : decode cX10_isAt 5 = .ok (.aaload, 1) := by decide +kernel
theorem dX10_isAt_6 : decode cX10_isAt 6 = .ok (.iconst 1, 1) := by decide +kernel
theorem dX10_isAt_7 : decode cX10_isAt 7 = .ok (.iaload, 1) := by decide +kernel
theorem dX10_isAt_8 : decode cX10_isAt 8 = .ok (.aload_n 0, 1) := by decide +kernel
theorem dX10_isAt_9 : decode cX10_isAt 9 = .ok (.getfield 19, 3) := by decide +kernel
theorem dX10_isAt_12 : decode cX10_isAt 12 = .ok (.iload_n 2, 1) := by decide +kernel
theorem dX10_isAt_13 : decode cX10_isAt 13 = .ok (.aaload, 1) := by decide +kernel
theorem dX10_isAt_14 : decode cX10_isAt 14 = .ok (.iconst 1, 1) := by decide +kernel
theorem dX10_isAt_15 : decode cX10_isAt 15 = .ok (.iaload, 1) := by decide +kernel
theorem dX10_isAt_16 : decode cX10_isAt 16 = .ok (.if_icmp .ne 26, 3) := by decide +kernel
theorem dX10_isAt_19 : decode cX10_isAt 19 = .ok (.aload_n 0, 1) := by decide +kernel
theorem dX10_isAt_20 : decode cX10_isAt 20 = .ok (.getfield 19, 3) := by decide +kernel
theorem dX10_isAt_23 : decode cX10_isAt 23 = .ok (.iload_n 1, 1) := by decide +kernel
theorem dX10_isAt_24 : decode cX10_isAt 24 = .ok (.aaload, 1) := by decide +kernel
theorem dX10_isAt_25 : decode cX10_isAt 25 = .ok (.iconst 2, 1) := by decide +kernel
theorem dX10_isAt_26 : decode cX10_isAt 26 = .ok (.iaload, 1) := by decide +kernel
theorem dX10_isAt_27 : decode cX10_isAt 27 = .ok (.aload_n 0, 1) := by decide +kernel
theorem dX10_isAt_28 : decode cX10_isAt 28 = .ok (.getfield 19, 3) := by decide +kernel
theorem dX10_isAt_31 : decode cX10_isAt 31 = .ok (.iload_n 2, 1) := by decide +kernel
theorem dX10_isAt_32 : decode cX10_isAt 32 = .ok (.aaload, 1) := by decide +kernel
theorem dX10_isAt_33 : decode cX10_isAt 33 = .ok (.iconst 2, 1) := by decide +kernel
theorem dX10_isAt_34 : decode cX10_isAt 34 = .ok (.iaload, 1) := by decide +kernel
theorem dX10_isAt_35 : decode cX10_isAt 35 = .ok (.if_icmp .ne 7, 3) := by decide +kernel
theorem dX10_isAt_38 : decode cX10_isAt 38 = .ok (.iconst 1, 1) := by decide +kernel
theorem dX10_isAt_39 : decode cX10_isAt 39 = .ok (.goto 4, 3) := by decide +kernel
theorem dX10_isAt_42 : decode cX10_isAt 42 = .ok (.iconst 0, 1) := by decide +kernel
theorem dX10_isAt_43 : decode cX10_isAt 43 = .ok (.ireturn, 1) := by decide +kernel
set_option maxRecDepth 20000 in
theorem ggX10_meets_X10_isAt : GoodIn wsX10_meets wsX10_isAt := goodIn_r _ [6, 1, 7, 8, 9, 10, 11, 12, 13, 14, 15] (by decide +kernel) (by decide +kernel)
set_option maxRecDepth 20000 in
theorem gX10_meets_X10_isAt : GoodIn wsX10_meets (wsV RX10 58 RX10 yX10_isAt wsX10_isAt) := goodIn_app (goodIn_of _ (by decide +kernel)) ggX10_meets_X10_isAt
theorem dX10_meets_0 : decode cX10_meets 0 = .ok (.iconst 0, 1) := by decide +kernel
theorem dX10_meets_1 : decode cX10_meets 1 = .ok (.istore_n 2, 1) := by decide +kernel
theorem dX10_meets_2 : decode cX10_meets 2 = .ok (.iconst 0, 1) := by decide +kernel
theorem dX10_meets_3 : decode cX10_meets 3 = .ok (.istore_n 3, 1) := by decide +kernel
theorem dX10_meets_4 : decode cX10_meets 4 = .ok (.iload_n 3, 1) := by decide +kernel
theorem dX10_meets_5 : decode cX10_meets 5 = .ok (.aload_n 0, 1) := by decide +kernel
theorem dX10_meets_6 : decode cX10_meets 6 = .ok (.getfield 19, 3) := by decide +kernel
theorem dX10_meets_9 : decode cX10_meets 9 = .ok (.arraylength, 1) := by decide +kernel
theorem dX10_meets_10 : decode cX10_meets 10 = .ok (.if_icmp .ge 31, 3) := by decide +kernel
theorem dX10_meets_13 : decode cX10_meets 13 = .ok (.iload_n 2, 1) := by decide +kernel
theorem dX10_meets_14 : decode cX10_meets 14 = .ok (.iload_n 3, 1) := by decide +kernel
theorem dX10_meets_15 : decode cX10_meets 15 = .ok (.iload_n 1, 1) := by decide +kernel
theorem dX10_meets_16 : decode cX10_meets 16 = .ok (.if_icmp .eq 16, 3) := by decide +kernel
theorem dX10_meets_19 : decode cX10_meets 19 = .ok (.aload_n 0, 1) := by decide +kernel
theorem dX10_meets_20 : decode cX10_meets 20 = .ok (.iload_n 1, 1) := by decide +kernel
theorem dX10_meets_21 : decode cX10_meets 21 = .ok (.iload_n 3, 1) := by decide +kernel
theorem dX10_meets_22 : decode cX10_meets 22 = .ok (.invokevirtual 58, 3) := by decide +kernel
theorem dX10_meets_25 : decode cX10_meets 25 = .ok (.ifCond .eq 7, 3) := by decide +kernel
theorem dX10_meets_28 : decode cX10_meets 28 = .ok (.iconst 1, 1) := by decide +kernel
theorem dX10_meets_29 : decode cX10_meets 29 = .ok (.goto 4, 3) := by decide +kernel
theorem dX10_meets_32 : decode cX10_meets 32 = .ok (.iconst 0, 1) := by decide +kernel
theorem dX10_meets_33 : decode cX10_meets 33 = .ok (.ior, 1) := by decide +kernel
theorem dX10_meets_34 : decode cX10_meets 34 = .ok (.istore_n 2, 1) := by decide +kernel
theorem dX10_meets_35 : decode cX10_meets 35 = .ok (.iinc 3 1, 3) := by decide +kernel
theorem dX10_meets_38 : decode cX10_meets 38 = .ok (.goto (-34), 3) := by decide +kernel
theorem dX10_meets_41 : decode cX10_meets 41 = .ok (.iload_n 2, 1) := by decide +kernel
theorem dX10_meets_42 : decode cX10_meets 42 = .ok (.ireturn, 1) := by decide +kernel
set_option maxRecDepth 20000 in
theorem ggX10_holds_X10_dark : GoodIn wsX10_holds wsX10_dark := goodIn_r _ [7, 8, 9, 10, 6, 11, 12, 30, 31, 32, 33, 34, 35, 36, 37, 38] (by decide +kernel) (by decide +kernel)
set_option maxRecDepth 20000 in
theorem gX10_holds_X10_dark : GoodIn wsX10_holds (wsV RX10 62 RX10 yX10_dark wsX10_dark) := goodIn_app (goodIn_of _ (by decide +kernel)) ggX10_holds_X10_dark
set_option maxRecDepth 20000 in
theorem ggX10_holds_X10_meets : GoodIn wsX10_holds wsX10_meets := goodIn_r _ [16, 2, 17, 18, 19, 6, 20, 30, 31, 32, 33, 34, 35, 36, 37, 38] (by decide +kernel) (by decide +kernel)
set_option maxRecDepth 20000 in
theorem gX10_holds_X10_meets : GoodIn wsX10_holds (wsV RX10 66 RX10 yX10_meets wsX10_meets) := goodIn_app (goodIn_of _ (by decide +kernel)) ggX10_holds_X10_meets
set_option maxRecDepth 20000 in
theorem ggX10_holds_X10_period : GoodIn wsX10_holds wsX10_period := goodIn_r _ [24, 25, 26, 27, 28, 6, 29, 30, 31, 32, 33, 34, 35, 36, 37, 38] (by decide +kernel) (by decide +kernel)
set_option maxRecDepth 20000 in
theorem gX10_holds_X10_period : GoodIn wsX10_holds (wsV RX10 70 RX10 yX10_period wsX10_period) := goodIn_app (goodIn_of _ (by decide +kernel)) ggX10_holds_X10_period
set_option maxRecDepth 20000 in
theorem ggX10_holds_X10_darkIn : GoodIn wsX10_holds wsX10_darkIn := goodIn_r _ [11, 12, 30, 31, 32, 33, 34, 35, 36, 37, 38] (by decide +kernel) (by decide +kernel)
set_option maxRecDepth 20000 in
theorem gX10_holds_X10_darkIn : GoodIn wsX10_holds (wsV RX10 50 RX10 yX10_darkIn wsX10_darkIn) := goodIn_app (goodIn_of _ (by decide +kernel)) ggX10_holds_X10_darkIn
theorem dX10_holds_0 : decode cX10_holds 0 = .ok (.aload_n 1, 1) := by decide +kernel
theorem dX10_holds_1 : decode cX10_holds 1 = .ok (.iconst 3, 1) := by decide +kernel
theorem dX10_holds_2 : decode cX10_holds 2 = .ok (.iaload, 1) := by decide +kernel
theorem dX10_holds_3 : decode cX10_holds 3 = .ok (.tableswitch 127 0 3 #[29, 45, 65, 97], 29) := by decide +kernel
theorem dX10_holds_32 : decode cX10_holds 32 = .ok (.aload_n 0, 1) := by decide +kernel
theorem dX10_holds_33 : decode cX10_holds 33 = .ok (.invokevirtual 62, 3) := by decide +kernel
theorem dX10_holds_36 : decode cX10_holds 36 = .ok (.aload_n 1, 1) := by decide +kernel
theorem dX10_holds_37 : decode cX10_holds 37 = .ok (.iconst 4, 1) := by decide +kernel
theorem dX10_holds_38 : decode cX10_holds 38 = .ok (.iaload, 1) := by decide +kernel
theorem dX10_holds_39 : decode cX10_holds 39 = .ok (.if_icmp .le 7, 3) := by decide +kernel
theorem dX10_holds_42 : decode cX10_holds 42 = .ok (.iconst 1, 1) := by decide +kernel
theorem dX10_holds_43 : decode cX10_holds 43 = .ok (.goto 4, 3) := by decide +kernel
theorem dX10_holds_46 : decode cX10_holds 46 = .ok (.iconst 0, 1) := by decide +kernel
theorem dX10_holds_47 : decode cX10_holds 47 = .ok (.ireturn, 1) := by decide +kernel
theorem dX10_holds_48 : decode cX10_holds 48 = .ok (.aload_n 0, 1) := by decide +kernel
theorem dX10_holds_49 : decode cX10_holds 49 = .ok (.getfield 33, 3) := by decide +kernel
theorem dX10_holds_52 : decode cX10_holds 52 = .ok (.aload_n 1, 1) := by decide +kernel
theorem dX10_holds_53 : decode cX10_holds 53 = .ok (.iconst 4, 1) := by decide +kernel
theorem dX10_holds_54 : decode cX10_holds 54 = .ok (.iaload, 1) := by decide +kernel
theorem dX10_holds_55 : decode cX10_holds 55 = .ok (.irem, 1) := by decide +kernel
theorem dX10_holds_56 : decode cX10_holds 56 = .ok (.aload_n 1, 1) := by decide +kernel
theorem dX10_holds_57 : decode cX10_holds 57 = .ok (.iconst 5, 1) := by decide +kernel
theorem dX10_holds_58 : decode cX10_holds 58 = .ok (.iaload, 1) := by decide +kernel
theorem dX10_holds_59 : decode cX10_holds 59 = .ok (.if_icmp .ne 7, 3) := by decide +kernel
theorem dX10_holds_62 : decode cX10_holds 62 = .ok (.iconst 1, 1) := by decide +kernel
theorem dX10_holds_63 : decode cX10_holds 63 = .ok (.goto 4, 3) := by decide +kernel
theorem dX10_holds_66 : decode cX10_holds 66 = .ok (.iconst 0, 1) := by decide +kernel
theorem dX10_holds_67 : decode cX10_holds 67 = .ok (.ireturn, 1) := by decide +kernel
theorem dX10_holds_68 : decode cX10_holds 68 = .ok (.aload_n 0, 1) := by decide +kernel
theorem dX10_holds_69 : decode cX10_holds 69 = .ok (.getfield 19, 3) := by decide +kernel
theorem dX10_holds_72 : decode cX10_holds 72 = .ok (.aload_n 1, 1) := by decide +kernel
theorem dX10_holds_73 : decode cX10_holds 73 = .ok (.iconst 4, 1) := by decide +kernel
theorem dX10_holds_74 : decode cX10_holds 74 = .ok (.iaload, 1) := by decide +kernel
theorem dX10_holds_75 : decode cX10_holds 75 = .ok (.aaload, 1) := by decide +kernel
theorem dX10_holds_76 : decode cX10_holds 76 = .ok (.iconst 1, 1) := by decide +kernel
theorem dX10_holds_77 : decode cX10_holds 77 = .ok (.iaload, 1) := by decide +kernel
theorem dX10_holds_78 : decode cX10_holds 78 = .ok (.aload_n 1, 1) := by decide +kernel
theorem dX10_holds_79 : decode cX10_holds 79 = .ok (.iconst 5, 1) := by decide +kernel
theorem dX10_holds_80 : decode cX10_holds 80 = .ok (.iaload, 1) := by decide +kernel
theorem dX10_holds_81 : decode cX10_holds 81 = .ok (.if_icmp .lt 13, 3) := by decide +kernel
theorem dX10_holds_84 : decode cX10_holds 84 = .ok (.aload_n 0, 1) := by decide +kernel
theorem dX10_holds_85 : decode cX10_holds 85 = .ok (.aload_n 1, 1) := by decide +kernel
theorem dX10_holds_86 : decode cX10_holds 86 = .ok (.iconst 4, 1) := by decide +kernel
theorem dX10_holds_87 : decode cX10_holds 87 = .ok (.iaload, 1) := by decide +kernel
theorem dX10_holds_88 : decode cX10_holds 88 = .ok (.invokevirtual 66, 3) := by decide +kernel
theorem dX10_holds_91 : decode cX10_holds 91 = .ok (.ifCond .eq 7, 3) := by decide +kernel
theorem dX10_holds_94 : decode cX10_holds 94 = .ok (.iconst 1, 1) := by decide +kernel
theorem dX10_holds_95 : decode cX10_holds 95 = .ok (.goto 4, 3) := by decide +kernel
theorem dX10_holds_98 : decode cX10_holds 98 = .ok (.iconst 0, 1) := by decide +kernel
theorem dX10_holds_99 : decode cX10_holds 99 = .ok (.ireturn, 1) := by decide +kernel
theorem dX10_holds_100 : decode cX10_holds 100 = .ok (.aload_n 0, 1) := by decide +kernel
theorem dX10_holds_101 : decode cX10_holds 101 = .ok (.aload_n 1, 1) := by decide +kernel
theorem dX10_holds_102 : decode cX10_holds 102 = .ok (.iconst 4, 1) := by decide +kernel
theorem dX10_holds_103 : decode cX10_holds 103 = .ok (.iaload, 1) := by decide +kernel
theorem dX10_holds_104 : decode cX10_holds 104 = .ok (.invokevirtual 70, 3) := by decide +kernel
theorem dX10_holds_107 : decode cX10_holds 107 = .ok (.ifCond .le 21, 3) := by decide +kernel
theorem dX10_holds_110 : decode cX10_holds 110 = .ok (.aload_n 0, 1) := by decide +kernel
theorem dX10_holds_111 : decode cX10_holds 111 = .ok (.getfield 19, 3) := by decide +kernel
theorem dX10_holds_114 : decode cX10_holds 114 = .ok (.aload_n 1, 1) := by decide +kernel
theorem dX10_holds_115 : decode cX10_holds 115 = .ok (.iconst 4, 1) := by decide +kernel
theorem dX10_holds_116 : decode cX10_holds 116 = .ok (.iaload, 1) := by decide +kernel
theorem dX10_holds_117 : decode cX10_holds 117 = .ok (.aaload, 1) := by decide +kernel
theorem dX10_holds_118 : decode cX10_holds 118 = .ok (.iconst 4, 1) := by decide +kernel
theorem dX10_holds_119 : decode cX10_holds 119 = .ok (.iaload, 1) := by decide +kernel
theorem dX10_holds_120 : decode cX10_holds 120 = .ok (.iconst 1, 1) := by decide +kernel
theorem dX10_holds_121 : decode cX10_holds 121 = .ok (.if_icmp .ne 7, 3) := by decide +kernel
theorem dX10_holds_124 : decode cX10_holds 124 = .ok (.iconst 1, 1) := by decide +kernel
theorem dX10_holds_125 : decode cX10_holds 125 = .ok (.goto 4, 3) := by decide +kernel
theorem dX10_holds_128 : decode cX10_holds 128 = .ok (.iconst 0, 1) := by decide +kernel
theorem dX10_holds_129 : decode cX10_holds 129 = .ok (.ireturn, 1) := by decide +kernel
theorem dX10_holds_130 : decode cX10_holds 130 = .ok (.aload_n 0, 1) := by decide +kernel
theorem dX10_holds_131 : decode cX10_holds 131 = .ok (.aload_n 1, 1) := by decide +kernel
theorem dX10_holds_132 : decode cX10_holds 132 = .ok (.iconst 4, 1) := by decide +kernel
theorem dX10_holds_133 : decode cX10_holds 133 = .ok (.iaload, 1) := by decide +kernel
theorem dX10_holds_134 : decode cX10_holds 134 = .ok (.invokevirtual 50, 3) := by decide +kernel
theorem dX10_holds_137 : decode cX10_holds 137 = .ok (.aload_n 0, 1) := by decide +kernel
theorem dX10_holds_138 : decode cX10_holds 138 = .ok (.getfield 19, 3) := by decide +kernel
theorem dX10_holds_141 : decode cX10_holds 141 = .ok (.aload_n 1, 1) := by decide +kernel
theorem dX10_holds_142 : decode cX10_holds 142 = .ok (.iconst 5, 1) := by decide +kernel
theorem dX10_holds_143 : decode cX10_holds 143 = .ok (.iaload, 1) := by decide +kernel
theorem dX10_holds_144 : decode cX10_holds 144 = .ok (.aaload, 1) := by decide +kernel
theorem dX10_holds_145 : decode cX10_holds 145 = .ok (.iconst 2, 1) := by decide +kernel
theorem dX10_holds_146 : decode cX10_holds 146 = .ok (.iaload, 1) := by decide +kernel
theorem dX10_holds_147 : decode cX10_holds 147 = .ok (.bipush 8, 2) := by decide +kernel
theorem dX10_holds_149 : decode cX10_holds 149 = .ok (.idiv, 1) := by decide +kernel
theorem dX10_holds_150 : decode cX10_holds 150 = .ok (.iadd, 1) := by decide +kernel
theorem dX10_holds_151 : decode cX10_holds 151 = .ok (.iconst 5, 1) := by decide +kernel
theorem dX10_holds_152 : decode cX10_holds 152 = .ok (.if_icmp .lt 7, 3) := by decide +kernel
theorem dX10_holds_155 : decode cX10_holds 155 = .ok (.iconst 1, 1) := by decide +kernel
theorem dX10_holds_156 : decode cX10_holds 156 = .ok (.goto 4, 3) := by decide +kernel
theorem dX10_holds_159 : decode cX10_holds 159 = .ok (.iconst 0, 1) := by decide +kernel
theorem dX10_holds_160 : decode cX10_holds 160 = .ok (.ireturn, 1) := by decide +kernel
set_option maxRecDepth 20000 in
theorem ggX10_does_X10_wash : GoodIn wsX10_does wsX10_wash := goodIn_r _ [8, 9, 3, 10, 11, 12, 13, 7, 14, 15, 16, 17, 18, 19, 20, 21, 22, 23] (by decide +kernel) (by decide +kernel)
set_option maxRecDepth 20000 in
theorem gX10_does_X10_wash : GoodIn wsX10_does (wsV RX10 73 RX10 yX10_wash wsX10_wash) := goodIn_app (goodIn_of _ (by decide +kernel)) ggX10_does_X10_wash
theorem dX10_does_0 : decode cX10_does 0 = .ok (.aload_n 1, 1) := by decide +kernel
theorem dX10_does_1 : decode cX10_does 1 = .ok (.iconst 0, 1) := by decide +kernel
theorem dX10_does_2 : decode cX10_does 2 = .ok (.iaload, 1) := by decide +kernel
theorem dX10_does_3 : decode cX10_does 3 = .ok (.ifCond .ne 22, 3) := by decide +kernel
theorem dX10_does_6 : decode cX10_does 6 = .ok (.aload_n 0, 1) := by decide +kernel
theorem dX10_does_7 : decode cX10_does 7 = .ok (.aload_n 1, 1) := by decide +kernel
theorem dX10_does_8 : decode cX10_does 8 = .ok (.iconst 1, 1) := by decide +kernel
theorem dX10_does_9 : decode cX10_does 9 = .ok (.iaload, 1) := by decide +kernel
theorem dX10_does_10 : decode cX10_does 10 = .ok (.aload_n 1, 1) := by decide +kernel
theorem dX10_does_11 : decode cX10_does 11 = .ok (.iconst 2, 1) := by decide +kernel
theorem dX10_does_12 : decode cX10_does 12 = .ok (.iaload, 1) := by decide +kernel
theorem dX10_does_13 : decode cX10_does 13 = .ok (.invokevirtual 73, 3) := by decide +kernel
theorem dX10_does_16 : decode cX10_does 16 = .ok (.ifCond .le 7, 3) := by decide +kernel
theorem dX10_does_19 : decode cX10_does 19 = .ok (.iconst 1, 1) := by decide +kernel
theorem dX10_does_20 : decode cX10_does 20 = .ok (.goto 4, 3) := by decide +kernel
theorem dX10_does_23 : decode cX10_does 23 = .ok (.iconst 0, 1) := by decide +kernel
theorem dX10_does_24 : decode cX10_does 24 = .ok (.ireturn, 1) := by decide +kernel
theorem dX10_does_25 : decode cX10_does 25 = .ok (.aload_n 0, 1) := by decide +kernel
theorem dX10_does_26 : decode cX10_does 26 = .ok (.getfield 19, 3) := by decide +kernel
theorem dX10_does_29 : decode cX10_does 29 = .ok (.aload_n 1, 1) := by decide +kernel
theorem dX10_does_30 : decode cX10_does 30 = .ok (.iconst 1, 1) := by decide +kernel
theorem dX10_does_31 : decode cX10_does 31 = .ok (.iaload, 1) := by decide +kernel
theorem dX10_does_32 : decode cX10_does 32 = .ok (.aaload, 1) := by decide +kernel
theorem dX10_does_33 : decode cX10_does 33 = .ok (.astore_n 2, 1) := by decide +kernel
theorem dX10_does_34 : decode cX10_does 34 = .ok (.aload_n 1, 1) := by decide +kernel
theorem dX10_does_35 : decode cX10_does 35 = .ok (.iconst 0, 1) := by decide +kernel
theorem dX10_does_36 : decode cX10_does 36 = .ok (.iaload, 1) := by decide +kernel
theorem dX10_does_37 : decode cX10_does 37 = .ok (.iconst 1, 1) := by decide +kernel
theorem dX10_does_38 : decode cX10_does 38 = .ok (.if_icmp .ne 33, 3) := by decide +kernel
theorem dX10_does_41 : decode cX10_does 41 = .ok (.aload_n 2, 1) := by decide +kernel
theorem dX10_does_42 : decode cX10_does 42 = .ok (.iconst 3, 1) := by decide +kernel
theorem dX10_does_43 : decode cX10_does 43 = .ok (.iaload, 1) := by decide +kernel
theorem dX10_does_44 : decode cX10_does 44 = .ok (.aload_n 1, 1) := by decide +kernel
theorem dX10_does_45 : decode cX10_does 45 = .ok (.iconst 2, 1) := by decide +kernel
theorem dX10_does_46 : decode cX10_does 46 = .ok (.iaload, 1) := by decide +kernel
theorem dX10_does_47 : decode cX10_does 47 = .ok (.if_icmp .ne 5, 3) := by decide +kernel
theorem dX10_does_50 : decode cX10_does 50 = .ok (.iconst 0, 1) := by decide +kernel
theorem dX10_does_51 : decode cX10_does 51 = .ok (.ireturn, 1) := by decide +kernel
theorem dX10_does_52 : decode cX10_does 52 = .ok (.aload_n 2, 1) := by decide +kernel
theorem dX10_does_53 : decode cX10_does 53 = .ok (.iconst 3, 1) := by decide +kernel
theorem dX10_does_54 : decode cX10_does 54 = .ok (.aload_n 1, 1) := by decide +kernel
theorem dX10_does_55 : decode cX10_does 55 = .ok (.iconst 2, 1) := by decide +kernel
theorem dX10_does_56 : decode cX10_does 56 = .ok (.iaload, 1) := by decide +kernel
theorem dX10_does_57 : decode cX10_does 57 = .ok (.iastore, 1) := by decide +kernel
theorem dX10_does_58 : decode cX10_does 58 = .ok (.aload_n 0, 1) := by decide +kernel
theorem dX10_does_59 : decode cX10_does 59 = .ok (.getfield 22, 3) := by decide +kernel
theorem dX10_does_62 : decode cX10_does 62 = .ok (.aload_n 1, 1) := by decide +kernel
theorem dX10_does_63 : decode cX10_does 63 = .ok (.iconst 1, 1) := by decide +kernel
theorem dX10_does_64 : decode cX10_does 64 = .ok (.iaload, 1) := by decide +kernel
theorem dX10_does_65 : decode cX10_does 65 = .ok (.iconst 0, 1) := by decide +kernel
theorem dX10_does_66 : decode cX10_does 66 = .ok (.newarray .int, 2) := by decide +kernel
theorem dX10_does_68 : decode cX10_does 68 = .ok (.aastore, 1) := by decide +kernel
theorem dX10_does_69 : decode cX10_does 69 = .ok (.iconst 1, 1) := by decide +kernel
theorem dX10_does_70 : decode cX10_does 70 = .ok (.ireturn, 1) := by decide +kernel
theorem dX10_does_71 : decode cX10_does 71 = .ok (.aload_n 1, 1) := by decide +kernel
theorem dX10_does_72 : decode cX10_does 72 = .ok (.iconst 0, 1) := by decide +kernel
theorem dX10_does_73 : decode cX10_does 73 = .ok (.iaload, 1) := by decide +kernel
theorem dX10_does_74 : decode cX10_does 74 = .ok (.iconst 3, 1) := by decide +kernel
theorem dX10_does_75 : decode cX10_does 75 = .ok (.if_icmp .ne 7, 3) := by decide +kernel
theorem dX10_does_78 : decode cX10_does 78 = .ok (.iconst 1, 1) := by decide +kernel
theorem dX10_does_79 : decode cX10_does 79 = .ok (.goto 4, 3) := by decide +kernel
theorem dX10_does_82 : decode cX10_does 82 = .ok (.iconst 0, 1) := by decide +kernel
theorem dX10_does_83 : decode cX10_does 83 = .ok (.istore_n 3, 1) := by decide +kernel
theorem dX10_does_84 : decode cX10_does 84 = .ok (.aload_n 2, 1) := by decide +kernel
theorem dX10_does_85 : decode cX10_does 85 = .ok (.iconst 4, 1) := by decide +kernel
theorem dX10_does_86 : decode cX10_does 86 = .ok (.iaload, 1) := by decide +kernel
theorem dX10_does_87 : decode cX10_does 87 = .ok (.iload_n 3, 1) := by decide +kernel
theorem dX10_does_88 : decode cX10_does 88 = .ok (.if_icmp .eq 7, 3) := by decide +kernel
theorem dX10_does_91 : decode cX10_does 91 = .ok (.iconst 1, 1) := by decide +kernel
theorem dX10_does_92 : decode cX10_does 92 = .ok (.goto 4, 3) := by decide +kernel
theorem dX10_does_95 : decode cX10_does 95 = .ok (.iconst 0, 1) := by decide +kernel
theorem dX10_does_96 : decode cX10_does 96 = .ok (.istore 4, 2) := by decide +kernel
theorem dX10_does_98 : decode cX10_does 98 = .ok (.aload_n 2, 1) := by decide +kernel
theorem dX10_does_99 : decode cX10_does 99 = .ok (.iconst 4, 1) := by decide +kernel
theorem dX10_does_100 : decode cX10_does 100 = .ok (.iload_n 3, 1) := by decide +kernel
theorem dX10_does_101 : decode cX10_does 101 = .ok (.iastore, 1) := by decide +kernel
theorem dX10_does_102 : decode cX10_does 102 = .ok (.iload 4, 2) := by decide +kernel
theorem dX10_does_104 : decode cX10_does 104 = .ok (.ireturn, 1) := by decide +kernel
set_option maxRecDepth 20000 in
theorem ggX10_go_X10_holds : GoodIn wsX10_go wsX10_holds := goodIn_r _ [18, 13, 3, 19, 20, 21, 17, 22, 23, 24, 25, 26, 5, 27, 28, 29, 30, 31, 32, 33, 34, 35, 36, 37, 38, 7, 39, 40, 41, 42, 52, 53, 54, 55, 56, 57, 58, 59, 60] (by decide +kernel) (by decide +kernel)
set_option maxRecDepth 20000 in
theorem gX10_go_X10_holds : GoodIn wsX10_go (wsV RX10 77 RX10 yX10_holds wsX10_holds) := goodIn_app (goodIn_of _ (by decide +kernel)) ggX10_go_X10_holds
set_option maxRecDepth 20000 in
theorem ggX10_go_X10_does : GoodIn wsX10_go wsX10_does := goodIn_r _ [46, 3, 7, 6, 47, 48, 49, 17, 50, 5, 51, 23, 24, 25, 26, 52, 53, 54, 55, 56, 57, 58, 59, 60] (by decide +kernel) (by decide +kernel)
set_option maxRecDepth 20000 in
theorem gX10_go_X10_does : GoodIn wsX10_go (wsV RX10 81 RX10 yX10_does wsX10_does) := goodIn_app (goodIn_of _ (by decide +kernel)) ggX10_go_X10_does
set_option maxRecDepth 20000 in
theorem ggX10_go_X10_isAt : GoodIn wsX10_go wsX10_isAt := goodIn_r _ [34, 3, 52, 53, 54, 55, 56, 57, 58, 59, 60] (by decide +kernel) (by decide +kernel)
set_option maxRecDepth 20000 in
theorem gX10_go_X10_isAt : GoodIn wsX10_go (wsV RX10 58 RX10 yX10_isAt wsX10_isAt) := goodIn_app (goodIn_of _ (by decide +kernel)) ggX10_go_X10_isAt
theorem dX10_go_0 : decode cX10_go 0 = .ok (.aload_n 0, 1) := by decide +kernel
theorem dX10_go_1 : decode cX10_go 1 = .ok (.getfield 25, 3) := by decide +kernel
theorem dX10_go_4 : decode cX10_go 4 = .ok (.astore_n 1, 1) := by decide +kernel
theorem dX10_go_5 : decode cX10_go 5 = .ok (.aload_n 1, 1) := by decide +kernel
theorem dX10_go_6 : decode cX10_go 6 = .ok (.arraylength, 1) := by decide +kernel
theorem dX10_go_7 : decode cX10_go 7 = .ok (.istore_n 2, 1) := by decide +kernel
theorem dX10_go_8 : decode cX10_go 8 = .ok (.iconst 0, 1) := by decide +kernel
theorem dX10_go_9 : decode cX10_go 9 = .ok (.istore_n 3, 1) := by decide +kernel
theorem dX10_go_10 : decode cX10_go 10 = .ok (.iload_n 3, 1) := by decide +kernel
theorem dX10_go_11 : decode cX10_go 11 = .ok (.iload_n 2, 1) := by decide +kernel
theorem dX10_go_12 : decode cX10_go 12 = .ok (.if_icmp .ge 42, 3) := by decide +kernel
theorem dX10_go_15 : decode cX10_go 15 = .ok (.aload_n 1, 1) := by decide +kernel
theorem dX10_go_16 : decode cX10_go 16 = .ok (.iload_n 3, 1) := by decide +kernel
theorem dX10_go_17 : decode cX10_go 17 = .ok (.aaload, 1) := by decide +kernel
theorem dX10_go_18 : decode cX10_go 18 = .ok (.astore 4, 2) := by decide +kernel
theorem dX10_go_20 : decode cX10_go 20 = .ok (.aload_n 0, 1) := by decide +kernel
theorem dX10_go_21 : decode cX10_go 21 = .ok (.aload 4, 2) := by decide +kernel
theorem dX10_go_23 : decode cX10_go 23 = .ok (.invokevirtual 77, 3) := by decide +kernel
theorem dX10_go_26 : decode cX10_go 26 = .ok (.ifCond .eq 22, 3) := by decide +kernel
theorem dX10_go_29 : decode cX10_go 29 = .ok (.aload_n 0, 1) := by decide +kernel
theorem dX10_go_30 : decode cX10_go 30 = .ok (.aload 4, 2) := by decide +kernel
theorem dX10_go_32 : decode cX10_go 32 = .ok (.invokevirtual 81, 3) := by decide +kernel
theorem dX10_go_35 : decode cX10_go 35 = .ok (.ifCond .eq 13, 3) := by decide +kernel
theorem dX10_go_38 : decode cX10_go 38 = .ok (.aload_n 0, 1) := by decide +kernel
theorem dX10_go_39 : decode cX10_go 39 = .ok (.dup, 1) := by decide +kernel
theorem dX10_go_40 : decode cX10_go 40 = .ok (.getfield 43, 3) := by decide +kernel
theorem dX10_go_43 : decode cX10_go 43 = .ok (.iconst 1, 1) := by decide +kernel
theorem dX10_go_44 : decode cX10_go 44 = .ok (.iadd, 1) := by decide +kernel
theorem dX10_go_45 : decode cX10_go 45 = .ok (.putfield 43, 3) := by decide +kernel
theorem dX10_go_48 : decode cX10_go 48 = .ok (.iinc 3 1, 3) := by decide +kernel
theorem dX10_go_51 : decode cX10_go 51 = .ok (.goto (-41), 3) := by decide +kernel
theorem dX10_go_54 : decode cX10_go 54 = .ok (.iconst 0, 1) := by decide +kernel
theorem dX10_go_55 : decode cX10_go 55 = .ok (.istore_n 1, 1) := by decide +kernel
theorem dX10_go_56 : decode cX10_go 56 = .ok (.iload_n 1, 1) := by decide +kernel
theorem dX10_go_57 : decode cX10_go 57 = .ok (.aload_n 0, 1) := by decide +kernel
theorem dX10_go_58 : decode cX10_go 58 = .ok (.getfield 19, 3) := by decide +kernel
theorem dX10_go_61 : decode cX10_go 61 = .ok (.arraylength, 1) := by decide +kernel
theorem dX10_go_62 : decode cX10_go 62 = .ok (.if_icmp .ge 236, 3) := by decide +kernel
theorem dX10_go_65 : decode cX10_go 65 = .ok (.aload_n 0, 1) := by decide +kernel
theorem dX10_go_66 : decode cX10_go 66 = .ok (.getfield 19, 3) := by decide +kernel
theorem dX10_go_69 : decode cX10_go 69 = .ok (.iload_n 1, 1) := by decide +kernel
theorem dX10_go_70 : decode cX10_go 70 = .ok (.aaload, 1) := by decide +kernel
theorem dX10_go_71 : decode cX10_go 71 = .ok (.astore_n 2, 1) := by decide +kernel
theorem dX10_go_72 : decode cX10_go 72 = .ok (.aload_n 2, 1) := by decide +kernel
theorem dX10_go_73 : decode cX10_go 73 = .ok (.iconst 4, 1) := by decide +kernel
theorem dX10_go_74 : decode cX10_go 74 = .ok (.iaload, 1) := by decide +kernel
theorem dX10_go_75 : decode cX10_go 75 = .ok (.ifCond .ne 6, 3) := by decide +kernel
theorem dX10_go_78 : decode cX10_go 78 = .ok (.goto 214, 3) := by decide +kernel
theorem dX10_go_81 : decode cX10_go 81 = .ok (.aload_n 0, 1) := by decide +kernel
theorem dX10_go_82 : decode cX10_go 82 = .ok (.getfield 9, 3) := by decide +kernel
theorem dX10_go_85 : decode cX10_go 85 = .ok (.aload_n 2, 1) := by decide +kernel
theorem dX10_go_86 : decode cX10_go 86 = .ok (.iconst 0, 1) := by decide +kernel
theorem dX10_go_87 : decode cX10_go 87 = .ok (.iaload, 1) := by decide +kernel
theorem dX10_go_88 : decode cX10_go 88 = .ok (.aaload, 1) := by decide +kernel
theorem dX10_go_89 : decode cX10_go 89 = .ok (.astore_n 3, 1) := by decide +kernel
theorem dX10_go_90 : decode cX10_go 90 = .ok (.aload_n 0, 1) := by decide +kernel
theorem dX10_go_91 : decode cX10_go 91 = .ok (.getfield 16, 3) := by decide +kernel
theorem dX10_go_94 : decode cX10_go 94 = .ok (.aload_n 2, 1) := by decide +kernel
theorem dX10_go_95 : decode cX10_go 95 = .ok (.iconst 2, 1) := by decide +kernel
theorem dX10_go_96 : decode cX10_go 96 = .ok (.iaload, 1) := by decide +kernel
theorem dX10_go_97 : decode cX10_go 97 = .ok (.aaload, 1) := by decide +kernel
theorem dX10_go_98 : decode cX10_go 98 = .ok (.aload_n 2, 1) := by decide +kernel
theorem dX10_go_99 : decode cX10_go 99 = .ok (.iconst 1, 1) := by decide +kernel
theorem dX10_go_100 : decode cX10_go 100 = .ok (.iaload, 1) := by decide +kernel
theorem dX10_go_101 : decode cX10_go 101 = .ok (.iaload, 1) := by decide +kernel
theorem dX10_go_102 : decode cX10_go 102 = .ok (.aload_n 3, 1) := by decide +kernel
theorem dX10_go_103 : decode cX10_go 103 = .ok (.arraylength, 1) := by decide +kernel
theorem dX10_go_104 : decode cX10_go 104 = .ok (.irem, 1) := by decide +kernel
theorem dX10_go_105 : decode cX10_go 105 = .ok (.istore 4, 2) := by decide +kernel
theorem dX10_go_107 : decode cX10_go 107 = .ok (.iconst 4, 1) := by decide +kernel
theorem dX10_go_108 : decode cX10_go 108 = .ok (.newarray .int, 2) := by decide +kernel
theorem dX10_go_110 : decode cX10_go 110 = .ok (.dup, 1) := by decide +kernel
theorem dX10_go_111 : decode cX10_go 111 = .ok (.iconst 0, 1) := by decide +kernel
theorem dX10_go_112 : decode cX10_go 112 = .ok (.iconst (-1), 1) := by decide +kernel
theorem dX10_go_113 : decode cX10_go 113 = .ok (.iastore, 1) := by decide +kernel
theorem dX10_go_114 : decode cX10_go 114 = .ok (.dup, 1) := by decide +kernel
theorem dX10_go_115 : decode cX10_go 115 = .ok (.iconst 1, 1) := by decide +kernel
theorem dX10_go_116 : decode cX10_go 116 = .ok (.iconst 1, 1) := by decide +kernel
theorem dX10_go_117 : decode cX10_go 117 = .ok (.iastore, 1) := by decide +kernel
theorem dX10_go_118 : decode cX10_go 118 = .ok (.dup, 1) := by decide +kernel
theorem dX10_go_119 : decode cX10_go 119 = .ok (.iconst 2, 1) := by decide +kernel
theorem dX10_go_120 : decode cX10_go 120 = .ok (.iconst 0, 1) := by decide +kernel
theorem dX10_go_121 : decode cX10_go 121 = .ok (.iastore, 1) := by decide +kernel
theorem dX10_go_122 : decode cX10_go 122 = .ok (.dup, 1) := by decide +kernel
theorem dX10_go_123 : decode cX10_go 123 = .ok (.iconst 3, 1) := by decide +kernel
theorem dX10_go_124 : decode cX10_go 124 = .ok (.iconst 2, 1) := by decide +kernel
theorem dX10_go_125 : decode cX10_go 125 = .ok (.iastore, 1) := by decide +kernel
theorem dX10_go_126 : decode cX10_go 126 = .ok (.astore 5, 2) := by decide +kernel
theorem dX10_go_128 : decode cX10_go 128 = .ok (.aload_n 2, 1) := by decide +kernel
theorem dX10_go_129 : decode cX10_go 129 = .ok (.iconst 3, 1) := by decide +kernel
theorem dX10_go_130 : decode cX10_go 130 = .ok (.aload_n 2, 1) := by decide +kernel
theorem dX10_go_131 : decode cX10_go 131 = .ok (.iconst 3, 1) := by decide +kernel
theorem dX10_go_132 : decode cX10_go 132 = .ok (.iaload, 1) := by decide +kernel
theorem dX10_go_133 : decode cX10_go 133 = .ok (.aload 5, 2) := by decide +kernel
theorem dX10_go_135 : decode cX10_go 135 = .ok (.aload_n 3, 1) := by decide +kernel
theorem dX10_go_136 : decode cX10_go 136 = .ok (.iload 4, 2) := by decide +kernel
theorem dX10_go_138 : decode cX10_go 138 = .ok (.iaload, 1) := by decide +kernel
theorem dX10_go_139 : decode cX10_go 139 = .ok (.iaload, 1) := by decide +kernel
theorem dX10_go_140 : decode cX10_go 140 = .ok (.iadd, 1) := by decide +kernel
theorem dX10_go_141 : decode cX10_go 141 = .ok (.iconst 4, 1) := by decide +kernel
theorem dX10_go_142 : decode cX10_go 142 = .ok (.iadd, 1) := by decide +kernel
theorem dX10_go_143 : decode cX10_go 143 = .ok (.iconst 4, 1) := by decide +kernel
theorem dX10_go_144 : decode cX10_go 144 = .ok (.irem, 1) := by decide +kernel
theorem dX10_go_145 : decode cX10_go 145 = .ok (.iastore, 1) := by decide +kernel
theorem dX10_go_146 : decode cX10_go 146 = .ok (.aload_n 0, 1) := by decide +kernel
theorem dX10_go_147 : decode cX10_go 147 = .ok (.getfield 16, 3) := by decide +kernel
theorem dX10_go_150 : decode cX10_go 150 = .ok (.aload_n 2, 1) := by decide +kernel
theorem dX10_go_151 : decode cX10_go 151 = .ok (.iconst 2, 1) := by decide +kernel
theorem dX10_go_152 : decode cX10_go 152 = .ok (.iaload, 1) := by decide +kernel
theorem dX10_go_153 : decode cX10_go 153 = .ok (.aaload, 1) := by decide +kernel
theorem dX10_go_154 : decode cX10_go 154 = .ok (.aload_n 2, 1) := by decide +kernel
theorem dX10_go_155 : decode cX10_go 155 = .ok (.iconst 1, 1) := by decide +kernel
theorem dX10_go_156 : decode cX10_go 156 = .ok (.iaload, 1) := by decide +kernel
theorem dX10_go_157 : decode cX10_go 157 = .ok (.iload 4, 2) := by decide +kernel
theorem dX10_go_159 : decode cX10_go 159 = .ok (.iconst 1, 1) := by decide +kernel
theorem dX10_go_160 : decode cX10_go 160 = .ok (.iadd, 1) := by decide +kernel
theorem dX10_go_161 : decode cX10_go 161 = .ok (.aload_n 3, 1) := by decide +kernel
theorem dX10_go_162 : decode cX10_go 162 = .ok (.arraylength, 1) := by decide +kernel
theorem dX10_go_163 : decode cX10_go 163 = .ok (.if_icmp .ne 7, 3) := by decide +kernel
theorem dX10_go_166 : decode cX10_go 166 = .ok (.iconst 0, 1) := by decide +kernel
theorem dX10_go_167 : decode cX10_go 167 = .ok (.goto 7, 3) := by decide +kernel
theorem dX10_go_170 : decode cX10_go 170 = .ok (.iload 4, 2) := by decide +kernel
theorem dX10_go_172 : decode cX10_go 172 = .ok (.iconst 1, 1) := by decide +kernel
theorem dX10_go_173 : decode cX10_go 173 = .ok (.iadd, 1) := by decide +kernel
theorem dX10_go_174 : decode cX10_go 174 = .ok (.iastore, 1) := by decide +kernel
theorem dX10_go_175 : decode cX10_go 175 = .ok (.aload_n 2, 1) := by decide +kernel
theorem dX10_go_176 : decode cX10_go 176 = .ok (.iconst 3, 1) := by decide +kernel
theorem dX10_go_177 : decode cX10_go 177 = .ok (.iaload, 1) := by decide +kernel
theorem dX10_go_178 : decode cX10_go 178 = .ok (.iconst 2, 1) := by decide +kernel
theorem dX10_go_179 : decode cX10_go 179 = .ok (.irem, 1) := by decide +kernel
theorem dX10_go_180 : decode cX10_go 180 = .ok (.ifCond .ne 28, 3) := by decide +kernel
theorem dX10_go_183 : decode cX10_go 183 = .ok (.aload_n 2, 1) := by decide +kernel
theorem dX10_go_184 : decode cX10_go 184 = .ok (.iconst 2, 1) := by decide +kernel
theorem dX10_go_185 : decode cX10_go 185 = .ok (.aload_n 2, 1) := by decide +kernel
theorem dX10_go_186 : decode cX10_go 186 = .ok (.iconst 2, 1) := by decide +kernel
theorem dX10_go_187 : decode cX10_go 187 = .ok (.iaload, 1) := by decide +kernel
theorem dX10_go_188 : decode cX10_go 188 = .ok (.aload_n 2, 1) := by decide +kernel
theorem dX10_go_189 : decode cX10_go 189 = .ok (.iconst 3, 1) := by decide +kernel
theorem dX10_go_190 : decode cX10_go 190 = .ok (.iaload, 1) := by decide +kernel
theorem dX10_go_191 : decode cX10_go 191 = .ok (.ifCond .ne 8, 3) := by decide +kernel
theorem dX10_go_194 : decode cX10_go 194 = .ok (.bipush 63, 2) := by decide +kernel
theorem dX10_go_196 : decode cX10_go 196 = .ok (.goto 4, 3) := by decide +kernel
theorem dX10_go_199 : decode cX10_go 199 = .ok (.iconst 1, 1) := by decide +kernel
theorem dX10_go_200 : decode cX10_go 200 = .ok (.iadd, 1) := by decide +kernel
theorem dX10_go_201 : decode cX10_go 201 = .ok (.bipush 64, 2) := by decide +kernel
theorem dX10_go_203 : decode cX10_go 203 = .ok (.irem, 1) := by decide +kernel
theorem dX10_go_204 : decode cX10_go 204 = .ok (.iastore, 1) := by decide +kernel
theorem dX10_go_205 : decode cX10_go 205 = .ok (.goto 26, 3) := by decide +kernel
theorem dX10_go_208 : decode cX10_go 208 = .ok (.aload_n 2, 1) := by decide +kernel
theorem dX10_go_209 : decode cX10_go 209 = .ok (.iconst 1, 1) := by decide +kernel
theorem dX10_go_210 : decode cX10_go 210 = .ok (.aload_n 2, 1) := by decide +kernel
theorem dX10_go_211 : decode cX10_go 211 = .ok (.iconst 1, 1) := by decide +kernel
theorem dX10_go_212 : decode cX10_go 212 = .ok (.iaload, 1) := by decide +kernel
theorem dX10_go_213 : decode cX10_go 213 = .ok (.aload_n 2, 1) := by decide +kernel
theorem dX10_go_214 : decode cX10_go 214 = .ok (.iconst 3, 1) := by decide +kernel
theorem dX10_go_215 : decode cX10_go 215 = .ok (.iaload, 1) := by decide +kernel
theorem dX10_go_216 : decode cX10_go 216 = .ok (.iconst 1, 1) := by decide +kernel
theorem dX10_go_217 : decode cX10_go 217 = .ok (.if_icmp .ne 7, 3) := by decide +kernel
theorem dX10_go_220 : decode cX10_go 220 = .ok (.iconst 1, 1) := by decide +kernel
theorem dX10_go_221 : decode cX10_go 221 = .ok (.goto 5, 3) := by decide +kernel
theorem dX10_go_224 : decode cX10_go 224 = .ok (.bipush 63, 2) := by decide +kernel
theorem dX10_go_226 : decode cX10_go 226 = .ok (.iadd, 1) := by decide +kernel
theorem dX10_go_227 : decode cX10_go 227 = .ok (.bipush 64, 2) := by decide +kernel
theorem dX10_go_229 : decode cX10_go 229 = .ok (.irem, 1) := by decide +kernel
theorem dX10_go_230 : decode cX10_go 230 = .ok (.iastore, 1) := by decide +kernel
theorem dX10_go_231 : decode cX10_go 231 = .ok (.aload_n 2, 1) := by decide +kernel
theorem dX10_go_232 : decode cX10_go 232 = .ok (.iconst 5, 1) := by decide +kernel
theorem dX10_go_233 : decode cX10_go 233 = .ok (.dup2, 1) := by decide +kernel
theorem dX10_go_234 : decode cX10_go 234 = .ok (.iaload, 1) := by decide +kernel
theorem dX10_go_235 : decode cX10_go 235 = .ok (.iconst 1, 1) := by decide +kernel
theorem dX10_go_236 : decode cX10_go 236 = .ok (.iadd, 1) := by decide +kernel
theorem dX10_go_237 : decode cX10_go 237 = .ok (.iastore, 1) := by decide +kernel
theorem dX10_go_238 : decode cX10_go 238 = .ok (.aload_n 0, 1) := by decide +kernel
theorem dX10_go_239 : decode cX10_go 239 = .ok (.getfield 22, 3) := by decide +kernel
theorem dX10_go_242 : decode cX10_go 242 = .ok (.iload_n 1, 1) := by decide +kernel
theorem dX10_go_243 : decode cX10_go 243 = .ok (.aaload, 1) := by decide +kernel
theorem dX10_go_244 : decode cX10_go 244 = .ok (.arraylength, 1) := by decide +kernel
theorem dX10_go_245 : decode cX10_go 245 = .ok (.iconst 1, 1) := by decide +kernel
theorem dX10_go_246 : decode cX10_go 246 = .ok (.iadd, 1) := by decide +kernel
theorem dX10_go_247 : decode cX10_go 247 = .ok (.newarray .int, 2) := by decide +kernel
theorem dX10_go_249 : decode cX10_go 249 = .ok (.astore 6, 2) := by decide +kernel
theorem dX10_go_251 : decode cX10_go 251 = .ok (.aload_n 0, 1) := by decide +kernel
theorem dX10_go_252 : decode cX10_go 252 = .ok (.getfield 22, 3) := by decide +kernel
theorem dX10_go_255 : decode cX10_go 255 = .ok (.iload_n 1, 1) := by decide +kernel
theorem dX10_go_256 : decode cX10_go 256 = .ok (.aaload, 1) := by decide +kernel
theorem dX10_go_257 : decode cX10_go 257 = .ok (.iconst 0, 1) := by decide +kernel
theorem dX10_go_258 : decode cX10_go 258 = .ok (.aload 6, 2) := by decide +kernel
theorem dX10_go_260 : decode cX10_go 260 = .ok (.iconst 0, 1) := by decide +kernel
theorem dX10_go_261 : decode cX10_go 261 = .ok (.aload_n 0, 1) := by decide +kernel
theorem dX10_go_262 : decode cX10_go 262 = .ok (.getfield 22, 3) := by decide +kernel
theorem dX10_go_265 : decode cX10_go 265 = .ok (.iload_n 1, 1) := by decide +kernel
theorem dX10_go_266 : decode cX10_go 266 = .ok (.aaload, 1) := by decide +kernel
theorem dX10_go_267 : decode cX10_go 267 = .ok (.arraylength, 1) := by decide +kernel
theorem dX10_go_268 : decode cX10_go 268 = .ok (.invokestatic 84, 3) := by decide +kernel
theorem dX10_go_271 : decode cX10_go 271 = .ok (.aload 6, 2) := by decide +kernel
theorem dX10_go_273 : decode cX10_go 273 = .ok (.aload_n 0, 1) := by decide +kernel
theorem dX10_go_274 : decode cX10_go 274 = .ok (.getfield 22, 3) := by decide +kernel
theorem dX10_go_277 : decode cX10_go 277 = .ok (.iload_n 1, 1) := by decide +kernel
theorem dX10_go_278 : decode cX10_go 278 = .ok (.aaload, 1) := by decide +kernel
theorem dX10_go_279 : decode cX10_go 279 = .ok (.arraylength, 1) := by decide +kernel
theorem dX10_go_280 : decode cX10_go 280 = .ok (.aload_n 2, 1) := by decide +kernel
theorem dX10_go_281 : decode cX10_go 281 = .ok (.iconst 3, 1) := by decide +kernel
theorem dX10_go_282 : decode cX10_go 282 = .ok (.iaload, 1) := by decide +kernel
theorem dX10_go_283 : decode cX10_go 283 = .ok (.iastore, 1) := by decide +kernel
theorem dX10_go_284 : decode cX10_go 284 = .ok (.aload_n 0, 1) := by decide +kernel
theorem dX10_go_285 : decode cX10_go 285 = .ok (.getfield 22, 3) := by decide +kernel
theorem dX10_go_288 : decode cX10_go 288 = .ok (.iload_n 1, 1) := by decide +kernel
theorem dX10_go_289 : decode cX10_go 289 = .ok (.aload 6, 2) := by decide +kernel
theorem dX10_go_291 : decode cX10_go 291 = .ok (.aastore, 1) := by decide +kernel
theorem dX10_go_292 : decode cX10_go 292 = .ok (.iinc 1 1, 3) := by decide +kernel
theorem dX10_go_295 : decode cX10_go 295 = .ok (.goto (-239), 3) := by decide +kernel
theorem dX10_go_298 : decode cX10_go 298 = .ok (.iconst 0, 1) := by decide +kernel
theorem dX10_go_299 : decode cX10_go 299 = .ok (.istore_n 1, 1) := by decide +kernel
theorem dX10_go_300 : decode cX10_go 300 = .ok (.iload_n 1, 1) := by decide +kernel
theorem dX10_go_301 : decode cX10_go 301 = .ok (.aload_n 0, 1) := by decide +kernel
theorem dX10_go_302 : decode cX10_go 302 = .ok (.getfield 19, 3) := by decide +kernel
theorem dX10_go_305 : decode cX10_go 305 = .ok (.arraylength, 1) := by decide +kernel
theorem dX10_go_306 : decode cX10_go 306 = .ok (.if_icmp .ge 45, 3) := by decide +kernel
theorem dX10_go_309 : decode cX10_go 309 = .ok (.iconst 0, 1) := by decide +kernel
theorem dX10_go_310 : decode cX10_go 310 = .ok (.istore_n 2, 1) := by decide +kernel
theorem dX10_go_311 : decode cX10_go 311 = .ok (.iload_n 2, 1) := by decide +kernel
theorem dX10_go_312 : decode cX10_go 312 = .ok (.iload_n 1, 1) := by decide +kernel
theorem dX10_go_313 : decode cX10_go 313 = .ok (.if_icmp .ge 32, 3) := by decide +kernel
theorem dX10_go_316 : decode cX10_go 316 = .ok (.aload_n 0, 1) := by decide +kernel
theorem dX10_go_317 : decode cX10_go 317 = .ok (.dup, 1) := by decide +kernel
theorem dX10_go_318 : decode cX10_go 318 = .ok (.getfield 37, 3) := by decide +kernel
theorem dX10_go_321 : decode cX10_go 321 = .ok (.aload_n 0, 1) := by decide +kernel
theorem dX10_go_322 : decode cX10_go 322 = .ok (.iload_n 1, 1) := by decide +kernel
theorem dX10_go_323 : decode cX10_go 323 = .ok (.iload_n 2, 1) := by decide +kernel
theorem dX10_go_324 : decode cX10_go 324 = .ok (.invokevirtual 58, 3) := by decide +kernel
theorem dX10_go_327 : decode cX10_go 327 = .ok (.ifCond .eq 7, 3) := by decide +kernel
theorem dX10_go_330 : decode cX10_go 330 = .ok (.iconst 1, 1) := by decide +kernel
theorem dX10_go_331 : decode cX10_go 331 = .ok (.goto 4, 3) := by decide +kernel
theorem dX10_go_334 : decode cX10_go 334 = .ok (.iconst 0, 1) := by decide +kernel
theorem dX10_go_335 : decode cX10_go 335 = .ok (.iadd, 1) := by decide +kernel
theorem dX10_go_336 : decode cX10_go 336 = .ok (.putfield 37, 3) := by decide +kernel
theorem dX10_go_339 : decode cX10_go 339 = .ok (.iinc 2 1, 3) := by decide +kernel
theorem dX10_go_342 : decode cX10_go 342 = .ok (.goto (-31), 3) := by decide +kernel
theorem dX10_go_345 : decode cX10_go 345 = .ok (.iinc 1 1, 3) := by decide +kernel
theorem dX10_go_348 : decode cX10_go 348 = .ok (.goto (-48), 3) := by decide +kernel
theorem dX10_go_351 : decode cX10_go 351 = .ok (.aload_n 0, 1) := by decide +kernel
theorem dX10_go_352 : decode cX10_go 352 = .ok (.dup, 1) := by decide +kernel
theorem dX10_go_353 : decode cX10_go 353 = .ok (.getfield 33, 3) := by decide +kernel
theorem dX10_go_356 : decode cX10_go 356 = .ok (.iconst 1, 1) := by decide +kernel
theorem dX10_go_357 : decode cX10_go 357 = .ok (.iadd, 1) := by decide +kernel
theorem dX10_go_358 : decode cX10_go 358 = .ok (.putfield 33, 3) := by decide +kernel
theorem dX10_go_361 : decode cX10_go 361 = .ok (.return_, 1) := by decide +kernel
theorem dX10_sum_0 : decode cX10_sum 0 = .ok (.iconst 0, 1) := by decide +kernel
theorem dX10_sum_1 : decode cX10_sum 1 = .ok (.istore_n 1, 1) := by decide +kernel
theorem dX10_sum_2 : decode cX10_sum 2 = .ok (.aload_n 0, 1) := by decide +kernel
theorem dX10_sum_3 : decode cX10_sum 3 = .ok (.getfield 16, 3) := by decide +kernel
theorem dX10_sum_6 : decode cX10_sum 6 = .ok (.astore_n 2, 1) := by decide +kernel
theorem dX10_sum_7 : decode cX10_sum 7 = .ok (.aload_n 2, 1) := by decide +kernel
theorem dX10_sum_8 : decode cX10_sum 8 = .ok (.arraylength, 1) := by decide +kernel
theorem dX10_sum_9 : decode cX10_sum 9 = .ok (.istore_n 3, 1) := by decide +kernel
theorem dX10_sum_10 : decode cX10_sum 10 = .ok (.iconst 0, 1) := by decide +kernel
theorem dX10_sum_11 : decode cX10_sum 11 = .ok (.istore 4, 2) := by decide +kernel
theorem dX10_sum_13 : decode cX10_sum 13 = .ok (.iload 4, 2) := by decide +kernel
theorem dX10_sum_15 : decode cX10_sum 15 = .ok (.iload_n 3, 1) := by decide +kernel
theorem dX10_sum_16 : decode cX10_sum 16 = .ok (.if_icmp .ge 52, 3) := by decide +kernel
theorem dX10_sum_19 : decode cX10_sum 19 = .ok (.aload_n 2, 1) := by decide +kernel
theorem dX10_sum_20 : decode cX10_sum 20 = .ok (.iload 4, 2) := by decide +kernel
theorem dX10_sum_22 : decode cX10_sum 22 = .ok (.aaload, 1) := by decide +kernel
theorem dX10_sum_23 : decode cX10_sum 23 = .ok (.astore 5, 2) := by decide +kernel
theorem dX10_sum_25 : decode cX10_sum 25 = .ok (.aload 5, 2) := by decide +kernel
theorem dX10_sum_27 : decode cX10_sum 27 = .ok (.astore 6, 2) := by decide +kernel
theorem dX10_sum_29 : decode cX10_sum 29 = .ok (.aload 6, 2) := by decide +kernel
theorem dX10_sum_31 : decode cX10_sum 31 = .ok (.arraylength, 1) := by decide +kernel
theorem dX10_sum_32 : decode cX10_sum 32 = .ok (.istore 7, 2) := by decide +kernel
theorem dX10_sum_34 : decode cX10_sum 34 = .ok (.iconst 0, 1) := by decide +kernel
theorem dX10_sum_35 : decode cX10_sum 35 = .ok (.istore 8, 2) := by decide +kernel
theorem dX10_sum_37 : decode cX10_sum 37 = .ok (.iload 8, 2) := by decide +kernel
theorem dX10_sum_39 : decode cX10_sum 39 = .ok (.iload 7, 2) := by decide +kernel
theorem dX10_sum_41 : decode cX10_sum 41 = .ok (.if_icmp .ge 21, 3) := by decide +kernel
theorem dX10_sum_44 : decode cX10_sum 44 = .ok (.aload 6, 2) := by decide +kernel
theorem dX10_sum_46 : decode cX10_sum 46 = .ok (.iload 8, 2) := by decide +kernel
theorem dX10_sum_48 : decode cX10_sum 48 = .ok (.iaload, 1) := by decide +kernel
theorem dX10_sum_49 : decode cX10_sum 49 = .ok (.istore 9, 2) := by decide +kernel
theorem dX10_sum_51 : decode cX10_sum 51 = .ok (.iload_n 1, 1) := by decide +kernel
theorem dX10_sum_52 : decode cX10_sum 52 = .ok (.iload 9, 2) := by decide +kernel
theorem dX10_sum_54 : decode cX10_sum 54 = .ok (.iadd, 1) := by decide +kernel
theorem dX10_sum_55 : decode cX10_sum 55 = .ok (.istore_n 1, 1) := by decide +kernel
theorem dX10_sum_56 : decode cX10_sum 56 = .ok (.iinc 8 1, 3) := by decide +kernel
theorem dX10_sum_59 : decode cX10_sum 59 = .ok (.goto (-22), 3) := by decide +kernel
theorem dX10_sum_62 : decode cX10_sum 62 = .ok (.iinc 4 1, 3) := by decide +kernel
theorem dX10_sum_65 : decode cX10_sum 65 = .ok (.goto (-52), 3) := by decide +kernel
theorem dX10_sum_68 : decode cX10_sum 68 = .ok (.iload_n 1, 1) := by decide +kernel
theorem dX10_sum_69 : decode cX10_sum 69 = .ok (.ireturn, 1) := by decide +kernel
set_option maxRecDepth 20000 in
theorem ggX10_counted_X10_dark : GoodIn wsX10_counted wsX10_dark := goodIn_r _ [13, 14, 15, 16, 12, 17, 18, 23, 24, 25, 26, 27, 28, 29, 30, 31] (by decide +kernel) (by decide +kernel)
set_option maxRecDepth 20000 in
theorem gX10_counted_X10_dark : GoodIn wsX10_counted (wsV RX10 62 RX10 yX10_dark wsX10_dark) := goodIn_app (goodIn_of _ (by decide +kernel)) ggX10_counted_X10_dark
set_option maxRecDepth 20000 in
theorem ggX10_counted_X10_sum : GoodIn wsX10_counted wsX10_sum := goodIn_r _ [22, 18, 23, 24, 25, 26, 27, 28, 29, 30, 31] (by decide +kernel) (by decide +kernel)
set_option maxRecDepth 20000 in
theorem gX10_counted_X10_sum : GoodIn wsX10_counted (wsV RX10 90 RX10 yX10_sum wsX10_sum) := goodIn_app (goodIn_of _ (by decide +kernel)) ggX10_counted_X10_sum
theorem dX10_counted_0 : decode cX10_counted 0 = .ok (.iconst 0, 1) := by decide +kernel
theorem dX10_counted_1 : decode cX10_counted 1 = .ok (.istore_n 2, 1) := by decide +kernel
theorem dX10_counted_2 : decode cX10_counted 2 = .ok (.aload_n 0, 1) := by decide +kernel
theorem dX10_counted_3 : decode cX10_counted 3 = .ok (.getfield 19, 3) := by decide +kernel
theorem dX10_counted_6 : decode cX10_counted 6 = .ok (.astore_n 3, 1) := by decide +kernel
theorem dX10_counted_7 : decode cX10_counted 7 = .ok (.aload_n 3, 1) := by decide +kernel
theorem dX10_counted_8 : decode cX10_counted 8 = .ok (.arraylength, 1) := by decide +kernel
theorem dX10_counted_9 : decode cX10_counted 9 = .ok (.istore 4, 2) := by decide +kernel
theorem dX10_counted_11 : decode cX10_counted 11 = .ok (.iconst 0, 1) := by decide +kernel
theorem dX10_counted_12 : decode cX10_counted 12 = .ok (.istore 5, 2) := by decide +kernel
theorem dX10_counted_14 : decode cX10_counted 14 = .ok (.iload 5, 2) := by decide +kernel
theorem dX10_counted_16 : decode cX10_counted 16 = .ok (.iload 4, 2) := by decide +kernel
theorem dX10_counted_18 : decode cX10_counted 18 = .ok (.if_icmp .ge 22, 3) := by decide +kernel
theorem dX10_counted_21 : decode cX10_counted 21 = .ok (.aload_n 3, 1) := by decide +kernel
theorem dX10_counted_22 : decode cX10_counted 22 = .ok (.iload 5, 2) := by decide +kernel
theorem dX10_counted_24 : decode cX10_counted 24 = .ok (.aaload, 1) := by decide +kernel
theorem dX10_counted_25 : decode cX10_counted 25 = .ok (.astore 6, 2) := by decide +kernel
theorem dX10_counted_27 : decode cX10_counted 27 = .ok (.iload_n 2, 1) := by decide +kernel
theorem dX10_counted_28 : decode cX10_counted 28 = .ok (.aload 6, 2) := by decide +kernel
theorem dX10_counted_30 : decode cX10_counted 30 = .ok (.iconst 4, 1) := by decide +kernel
theorem dX10_counted_31 : decode cX10_counted 31 = .ok (.iaload, 1) := by decide +kernel
theorem dX10_counted_32 : decode cX10_counted 32 = .ok (.iadd, 1) := by decide +kernel
theorem dX10_counted_33 : decode cX10_counted 33 = .ok (.istore_n 2, 1) := by decide +kernel
theorem dX10_counted_34 : decode cX10_counted 34 = .ok (.iinc 5 1, 3) := by decide +kernel
theorem dX10_counted_37 : decode cX10_counted 37 = .ok (.goto (-23), 3) := by decide +kernel
theorem dX10_counted_40 : decode cX10_counted 40 = .ok (.bipush 11, 2) := by decide +kernel
theorem dX10_counted_42 : decode cX10_counted 42 = .ok (.newarray .int, 2) := by decide +kernel
theorem dX10_counted_44 : decode cX10_counted 44 = .ok (.dup, 1) := by decide +kernel
theorem dX10_counted_45 : decode cX10_counted 45 = .ok (.iconst 0, 1) := by decide +kernel
theorem dX10_counted_46 : decode cX10_counted 46 = .ok (.aload_n 0, 1) := by decide +kernel
theorem dX10_counted_47 : decode cX10_counted 47 = .ok (.getfield 33, 3) := by decide +kernel
theorem dX10_counted_50 : decode cX10_counted 50 = .ok (.iastore, 1) := by decide +kernel
theorem dX10_counted_51 : decode cX10_counted 51 = .ok (.dup, 1) := by decide +kernel
theorem dX10_counted_52 : decode cX10_counted 52 = .ok (.iconst 1, 1) := by decide +kernel
theorem dX10_counted_53 : decode cX10_counted 53 = .ok (.aload_n 0, 1) := by decide +kernel
theorem dX10_counted_54 : decode cX10_counted 54 = .ok (.getfield 9, 3) := by decide +kernel
theorem dX10_counted_57 : decode cX10_counted 57 = .ok (.arraylength, 1) := by decide +kernel
theorem dX10_counted_58 : decode cX10_counted 58 = .ok (.iastore, 1) := by decide +kernel
theorem dX10_counted_59 : decode cX10_counted 59 = .ok (.dup, 1) := by decide +kernel
theorem dX10_counted_60 : decode cX10_counted 60 = .ok (.iconst 2, 1) := by decide +kernel
theorem dX10_counted_61 : decode cX10_counted 61 = .ok (.aload_n 0, 1) := by decide +kernel
theorem dX10_counted_62 : decode cX10_counted 62 = .ok (.getfield 19, 3) := by decide +kernel
theorem dX10_counted_65 : decode cX10_counted 65 = .ok (.arraylength, 1) := by decide +kernel
theorem dX10_counted_66 : decode cX10_counted 66 = .ok (.iastore, 1) := by decide +kernel
theorem dX10_counted_67 : decode cX10_counted 67 = .ok (.dup, 1) := by decide +kernel
theorem dX10_counted_68 : decode cX10_counted 68 = .ok (.iconst 3, 1) := by decide +kernel
theorem dX10_counted_69 : decode cX10_counted 69 = .ok (.aload_n 0, 1) := by decide +kernel
theorem dX10_counted_70 : decode cX10_counted 70 = .ok (.getfield 25, 3) := by decide +kernel
theorem dX10_counted_73 : decode cX10_counted 73 = .ok (.arraylength, 1) := by decide +kernel
theorem dX10_counted_74 : decode cX10_counted 74 = .ok (.iastore, 1) := by decide +kernel
theorem dX10_counted_75 : decode cX10_counted 75 = .ok (.dup, 1) := by decide +kernel
theorem dX10_counted_76 : decode cX10_counted 76 = .ok (.iconst 4, 1) := by decide +kernel
theorem dX10_counted_77 : decode cX10_counted 77 = .ok (.aload_n 0, 1) := by decide +kernel
theorem dX10_counted_78 : decode cX10_counted 78 = .ok (.invokevirtual 62, 3) := by decide +kernel
theorem dX10_counted_81 : decode cX10_counted 81 = .ok (.iastore, 1) := by decide +kernel
theorem dX10_counted_82 : decode cX10_counted 82 = .ok (.dup, 1) := by decide +kernel
theorem dX10_counted_83 : decode cX10_counted 83 = .ok (.iconst 5, 1) := by decide +kernel
theorem dX10_counted_84 : decode cX10_counted 84 = .ok (.aload_n 0, 1) := by decide +kernel
theorem dX10_counted_85 : decode cX10_counted 85 = .ok (.invokevirtual 90, 3) := by decide +kernel
theorem dX10_counted_88 : decode cX10_counted 88 = .ok (.iastore, 1) := by decide +kernel
theorem dX10_counted_89 : decode cX10_counted 89 = .ok (.dup, 1) := by decide +kernel
theorem dX10_counted_90 : decode cX10_counted 90 = .ok (.bipush 6, 2) := by decide +kernel
theorem dX10_counted_92 : decode cX10_counted 92 = .ok (.iload_n 2, 1) := by decide +kernel
theorem dX10_counted_93 : decode cX10_counted 93 = .ok (.iastore, 1) := by decide +kernel
theorem dX10_counted_94 : decode cX10_counted 94 = .ok (.dup, 1) := by decide +kernel
theorem dX10_counted_95 : decode cX10_counted 95 = .ok (.bipush 7, 2) := by decide +kernel
theorem dX10_counted_97 : decode cX10_counted 97 = .ok (.aload_n 0, 1) := by decide +kernel
theorem dX10_counted_98 : decode cX10_counted 98 = .ok (.getfield 37, 3) := by decide +kernel
theorem dX10_counted_101 : decode cX10_counted 101 = .ok (.iastore, 1) := by decide +kernel
theorem dX10_counted_102 : decode cX10_counted 102 = .ok (.dup, 1) := by decide +kernel
theorem dX10_counted_103 : decode cX10_counted 103 = .ok (.bipush 8, 2) := by decide +kernel
theorem dX10_counted_105 : decode cX10_counted 105 = .ok (.aload_n 0, 1) := by decide +kernel
theorem dX10_counted_106 : decode cX10_counted 106 = .ok (.getfield 40, 3) := by decide +kernel
theorem dX10_counted_109 : decode cX10_counted 109 = .ok (.iastore, 1) := by decide +kernel
theorem dX10_counted_110 : decode cX10_counted 110 = .ok (.dup, 1) := by decide +kernel
theorem dX10_counted_111 : decode cX10_counted 111 = .ok (.bipush 9, 2) := by decide +kernel
theorem dX10_counted_113 : decode cX10_counted 113 = .ok (.aload_n 0, 1) := by decide +kernel
theorem dX10_counted_114 : decode cX10_counted 114 = .ok (.getfield 43, 3) := by decide +kernel
theorem dX10_counted_117 : decode cX10_counted 117 = .ok (.iastore, 1) := by decide +kernel
theorem dX10_counted_118 : decode cX10_counted 118 = .ok (.dup, 1) := by decide +kernel
theorem dX10_counted_119 : decode cX10_counted 119 = .ok (.bipush 10, 2) := by decide +kernel
theorem dX10_counted_121 : decode cX10_counted 121 = .ok (.iconst 0, 1) := by decide +kernel
theorem dX10_counted_122 : decode cX10_counted 122 = .ok (.iastore, 1) := by decide +kernel
theorem dX10_counted_123 : decode cX10_counted 123 = .ok (.astore_n 3, 1) := by decide +kernel
theorem dX10_counted_124 : decode cX10_counted 124 = .ok (.aload_n 3, 1) := by decide +kernel
theorem dX10_counted_125 : decode cX10_counted 125 = .ok (.iload_n 1, 1) := by decide +kernel
theorem dX10_counted_126 : decode cX10_counted 126 = .ok (.iaload, 1) := by decide +kernel
theorem dX10_counted_127 : decode cX10_counted 127 = .ok (.ireturn, 1) := by decide +kernel
set_option maxRecDepth 20000 in
theorem ggX10_isSame_X9_count : GoodIn wsX10_isSame wsX9_count := goodIn_ca (goodIn_r _ [9, 10, 11, 12, 13, 14, 15, 16, 17, 18, 19, 20, 21, 22, 23, 24, 25, 26, 27, 28, 29, 30, 31, 32, 33, 34, 35, 36, 37, 38, 39, 40, 41, 42, 43, 164, 165, 166, 167, 168, 169, 170, 171, 172, 173, 174, 175, 176, 177, 178, 179, 180, 181, 182, 183, 184, 185, 186, 187, 188, 189, 190, 191, 192, 193, 194, 195, 196, 197, 198, 199, 200, 201] (by decide +kernel) (by decide +kernel)) (goodIn_sub (fun _ h => List.mem_cons_of_mem _ (List.mem_append_right _ h)) (by decide +kernel))
set_option maxRecDepth 20000 in
theorem gX10_isSame_X9_count : GoodIn wsX10_isSame (wsV RX10 93 RX9 yX9_count wsX9_count) := goodIn_app (goodIn_of _ (by decide +kernel)) ggX10_isSame_X9_count
set_option maxRecDepth 20000 in
theorem ggX10_isSame_X10_counted : GoodIn wsX10_isSame wsX10_counted := goodIn_r _ [48, 3, 1, 49, 50, 51, 52, 53, 54, 55, 56, 57, 47, 58, 59, 60, 61, 62, 2, 63, 64, 65, 66, 155, 156, 157, 158, 159, 160, 161, 162, 163] (by decide +kernel) (by decide +kernel)
set_option maxRecDepth 20000 in
theorem gX10_isSame_X10_counted : GoodIn wsX10_isSame (wsV RX10 98 RX10 yX10_counted wsX10_counted) := goodIn_app (goodIn_of _ (by decide +kernel)) ggX10_isSame_X10_counted
set_option maxRecDepth 20000 in
theorem ggX10_isSame_X9_row : GoodIn wsX10_isSame wsX9_row := goodIn_ca (goodIn_r _ [70, 10, 11, 12, 71, 72, 73, 8, 74, 164, 165, 166, 167, 168, 169, 170, 171, 172, 173, 174, 175, 176, 177, 178, 179] (by decide +kernel) (by decide +kernel)) (goodIn_sub (fun _ h => List.mem_cons_of_mem _ (List.mem_append_right _ h)) (by decide +kernel))
set_option maxRecDepth 20000 in
theorem gX10_isSame_X9_row : GoodIn wsX10_isSame (wsV RX10 101 RX9 yX9_row wsX9_row) := goodIn_app (goodIn_of _ (by decide +kernel)) ggX10_isSame_X9_row
set_option maxRecDepth 20000 in
theorem ggX10_isSame_X10_darkIn : GoodIn wsX10_isSame wsX10_darkIn := goodIn_r _ [62, 2, 155, 156, 157, 158, 159, 160, 161, 162, 163] (by decide +kernel) (by decide +kernel)
set_option maxRecDepth 20000 in
theorem gX10_isSame_X10_darkIn : GoodIn wsX10_isSame (wsV RX10 50 RX10 yX10_darkIn wsX10_darkIn) := goodIn_app (goodIn_of _ (by decide +kernel)) ggX10_isSame_X10_darkIn
set_option maxRecDepth 20000 in
theorem ggX10_isSame_X9_colour : GoodIn wsX10_isSame wsX9_colour := goodIn_ca (goodIn_r _ [78, 10, 11, 12, 79, 80, 81, 8, 82, 164, 165, 166, 167, 168, 169, 170, 171, 172, 173, 174, 175, 176, 177, 178, 179] (by decide +kernel) (by decide +kernel)) (goodIn_sub (fun _ h => List.mem_cons_of_mem _ (List.mem_append_right _ h)) (by decide +kernel))
set_option maxRecDepth 20000 in
theorem gX10_isSame_X9_colour : GoodIn wsX10_isSame (wsV RX10 104 RX9 yX9_colour wsX9_colour) := goodIn_app (goodIn_of _ (by decide +kernel)) ggX10_isSame_X9_colour
set_option maxRecDepth 20000 in
theorem ggX10_isSame_X10_period : GoodIn wsX10_isSame wsX10_period := goodIn_r _ [86, 87, 88, 89, 90, 47, 91, 155, 156, 157, 158, 159, 160, 161, 162, 163] (by decide +kernel) (by decide +kernel)
set_option maxRecDepth 20000 in
theorem gX10_isSame_X10_period : GoodIn wsX10_isSame (wsV RX10 70 RX10 yX10_period wsX10_period) := goodIn_app (goodIn_of _ (by decide +kernel)) ggX10_isSame_X10_period
set_option maxRecDepth 20000 in
theorem ggX10_isSame_X9_ant : GoodIn wsX10_isSame wsX9_ant := goodIn_ca (goodIn_r _ [95, 10, 11, 12, 96, 97, 98, 99, 8, 100, 16, 101, 102, 103, 104, 105, 106, 107, 108, 109, 110, 111, 112, 113, 114, 115, 116, 117, 118, 119, 120, 121, 122, 123, 124, 125, 126, 127, 128, 129, 130, 131, 132, 133, 134, 135, 136, 164, 165, 166, 167, 168, 169, 170, 171, 172, 173, 174, 175, 176, 177, 178, 179, 193, 194, 195, 196, 197, 198, 199, 200, 201] (by decide +kernel) (by decide +kernel)) (goodIn_sub (fun _ h => List.mem_cons_of_mem _ (List.mem_append_right _ h)) (by decide +kernel))
set_option maxRecDepth 20000 in
theorem gX10_isSame_X9_ant : GoodIn wsX10_isSame (wsV RX10 107 RX9 yX9_ant wsX9_ant) := goodIn_app (goodIn_of _ (by decide +kernel)) ggX10_isSame_X9_ant
set_option maxRecDepth 20000 in
theorem ggX10_isSame_X10_led : GoodIn wsX10_isSame wsX10_led := goodIn_r _ [91, 87, 155, 156, 157, 158, 159, 160, 161, 162, 163] (by decide +kernel) (by decide +kernel)
set_option maxRecDepth 20000 in
theorem gX10_isSame_X10_led : GoodIn wsX10_isSame (wsV RX10 54 RX10 yX10_led wsX10_led) := goodIn_app (goodIn_of _ (by decide +kernel)) ggX10_isSame_X10_led
set_option maxRecDepth 20000 in
theorem ggX10_isSame_X9_stone : GoodIn wsX10_isSame wsX9_stone := goodIn_ca (goodIn_r _ [140, 10, 11, 12, 141, 142, 8, 143, 72, 73, 74, 144, 145, 146, 23, 147, 148, 164, 165, 166, 167, 168, 169, 170, 171, 172, 173, 174, 175, 176, 177, 178, 179] (by decide +kernel) (by decide +kernel)) (goodIn_sub (fun _ h => List.mem_cons_of_mem _ (List.mem_append_right _ h)) (by decide +kernel))
set_option maxRecDepth 20000 in
theorem gX10_isSame_X9_stone : GoodIn wsX10_isSame (wsV RX10 110 RX9 yX9_stone wsX9_stone) := goodIn_app (goodIn_of _ (by decide +kernel)) ggX10_isSame_X9_stone
set_option maxRecDepth 20000 in
theorem ggX10_isSame_X9_mean : GoodIn wsX10_isSame wsX9_mean := goodIn_r _ [152, 12, 153, 154, 34, 35, 23, 36, 32, 164, 165, 166, 167, 168, 169, 170, 171, 172, 173, 174, 175, 176, 177, 178, 179] (by decide +kernel) (by decide +kernel)
set_option maxRecDepth 20000 in
theorem gX10_isSame_X9_mean : GoodIn wsX10_isSame (wsV RX10 113 RX9 yX9_mean wsX9_mean) := goodIn_app (goodIn_of _ (by decide +kernel)) ggX10_isSame_X9_mean
set_option maxRecDepth 20000 in
theorem ggX10_isSame_X10_sum : GoodIn wsX10_isSame wsX10_sum := goodIn_r _ [66, 2, 155, 156, 157, 158, 159, 160, 161, 162, 163] (by decide +kernel) (by decide +kernel)
set_option maxRecDepth 20000 in
theorem gX10_isSame_X10_sum : GoodIn wsX10_isSame (wsV RX10 90 RX10 yX10_sum wsX10_sum) := goodIn_app (goodIn_of _ (by decide +kernel)) ggX10_isSame_X10_sum
theorem dX10_isSame_0 : decode cX10_isSame 0 = .ok (.iconst 0, 1) := by decide +kernel
theorem dX10_isSame_1 : decode cX10_isSame 1 = .ok (.istore_n 2, 1) := by decide +kernel
theorem dX10_isSame_2 : decode cX10_isSame 2 = .ok (.iload_n 2, 1) := by decide +kernel
theorem dX10_isSame_3 : decode cX10_isSame 3 = .ok (.bipush 11, 2) := by decide +kernel
theorem dX10_isSame_5 : decode cX10_isSame 5 = .ok (.if_icmp .ge 24, 3) := by decide +kernel
theorem dX10_isSame_8 : decode cX10_isSame 8 = .ok (.aload_n 1, 1) := by decide +kernel
theorem dX10_isSame_9 : decode cX10_isSame 9 = .ok (.iload_n 2, 1) := by decide +kernel
theorem dX10_isSame_10 : decode cX10_isSame 10 = .ok (.invokevirtual 93, 3) := by decide +kernel
theorem dX10_isSame_13 : decode cX10_isSame 13 = .ok (.aload_n 0, 1) := by decide +kernel
theorem dX10_isSame_14 : decode cX10_isSame 14 = .ok (.iload_n 2, 1) := by decide +kernel
theorem dX10_isSame_15 : decode cX10_isSame 15 = .ok (.invokevirtual 98, 3) := by decide +kernel
theorem dX10_isSame_18 : decode cX10_isSame 18 = .ok (.if_icmp .eq 5, 3) := by decide +kernel
theorem dX10_isSame_21 : decode cX10_isSame 21 = .ok (.iconst 0, 1) := by decide +kernel
theorem dX10_isSame_22 : decode cX10_isSame 22 = .ok (.ireturn, 1) := by decide +kernel
theorem dX10_isSame_23 : decode cX10_isSame 23 = .ok (.iinc 2 1, 3) := by decide +kernel
theorem dX10_isSame_26 : decode cX10_isSame 26 = .ok (.goto (-24), 3) := by decide +kernel
theorem dX10_isSame_29 : decode cX10_isSame 29 = .ok (.bipush 6, 2) := by decide +kernel
theorem dX10_isSame_31 : decode cX10_isSame 31 = .ok (.newarray .int, 2) := by decide +kernel
theorem dX10_isSame_33 : decode cX10_isSame 33 = .ok (.astore_n 2, 1) := by decide +kernel
theorem dX10_isSame_34 : decode cX10_isSame 34 = .ok (.iconst 0, 1) := by decide +kernel
theorem dX10_isSame_35 : decode cX10_isSame 35 = .ok (.istore_n 3, 1) := by decide +kernel
theorem dX10_isSame_36 : decode cX10_isSame 36 = .ok (.iload_n 3, 1) := by decide +kernel
theorem dX10_isSame_37 : decode cX10_isSame 37 = .ok (.bipush 64, 2) := by decide +kernel
theorem dX10_isSame_39 : decode cX10_isSame 39 = .ok (.if_icmp .ge 68, 3) := by decide +kernel
theorem dX10_isSame_42 : decode cX10_isSame 42 = .ok (.aload_n 1, 1) := by decide +kernel
theorem dX10_isSame_43 : decode cX10_isSame 43 = .ok (.iload_n 3, 1) := by decide +kernel
theorem dX10_isSame_44 : decode cX10_isSame 44 = .ok (.invokevirtual 101, 3) := by decide +kernel
theorem dX10_isSame_47 : decode cX10_isSame 47 = .ok (.aload_n 0, 1) := by decide +kernel
theorem dX10_isSame_48 : decode cX10_isSame 48 = .ok (.iload_n 3, 1) := by decide +kernel
theorem dX10_isSame_49 : decode cX10_isSame 49 = .ok (.invokevirtual 50, 3) := by decide +kernel
theorem dX10_isSame_52 : decode cX10_isSame 52 = .ok (.if_icmp .eq 5, 3) := by decide +kernel
theorem dX10_isSame_55 : decode cX10_isSame 55 = .ok (.iconst 0, 1) := by decide +kernel
theorem dX10_isSame_56 : decode cX10_isSame 56 = .ok (.ireturn, 1) := by decide +kernel
theorem dX10_isSame_57 : decode cX10_isSame 57 = .ok (.aload_n 0, 1) := by decide +kernel
theorem dX10_isSame_58 : decode cX10_isSame 58 = .ok (.getfield 16, 3) := by decide +kernel
theorem dX10_isSame_61 : decode cX10_isSame 61 = .ok (.iload_n 3, 1) := by decide +kernel
theorem dX10_isSame_62 : decode cX10_isSame 62 = .ok (.aaload, 1) := by decide +kernel
theorem dX10_isSame_63 : decode cX10_isSame 63 = .ok (.astore 4, 2) := by decide +kernel
theorem dX10_isSame_65 : decode cX10_isSame 65 = .ok (.aload 4, 2) := by decide +kernel
theorem dX10_isSame_67 : decode cX10_isSame 67 = .ok (.arraylength, 1) := by decide +kernel
theorem dX10_isSame_68 : decode cX10_isSame 68 = .ok (.istore 5, 2) := by decide +kernel
theorem dX10_isSame_70 : decode cX10_isSame 70 = .ok (.iconst 0, 1) := by decide +kernel
theorem dX10_isSame_71 : decode cX10_isSame 71 = .ok (.istore 6, 2) := by decide +kernel
theorem dX10_isSame_73 : decode cX10_isSame 73 = .ok (.iload 6, 2) := by decide +kernel
theorem dX10_isSame_75 : decode cX10_isSame 75 = .ok (.iload 5, 2) := by decide +kernel
theorem dX10_isSame_77 : decode cX10_isSame 77 = .ok (.if_icmp .ge 24, 3) := by decide +kernel
theorem dX10_isSame_80 : decode cX10_isSame 80 = .ok (.aload 4, 2) := by decide +kernel
theorem dX10_isSame_82 : decode cX10_isSame 82 = .ok (.iload 6, 2) := by decide +kernel
theorem dX10_isSame_84 : decode cX10_isSame 84 = .ok (.iaload, 1) := by decide +kernel
theorem dX10_isSame_85 : decode cX10_isSame 85 = .ok (.istore 7, 2) := by decide +kernel
theorem dX10_isSame_87 : decode cX10_isSame 87 = .ok (.aload_n 2, 1) := by decide +kernel
theorem dX10_isSame_88 : decode cX10_isSame 88 = .ok (.iload 7, 2) := by decide +kernel
theorem dX10_isSame_90 : decode cX10_isSame 90 = .ok (.dup2, 1) := by decide +kernel
theorem dX10_isSame_91 : decode cX10_isSame 91 = .ok (.iaload, 1) := by decide +kernel
theorem dX10_isSame_92 : decode cX10_isSame 92 = .ok (.iconst 1, 1) := by decide +kernel
theorem dX10_isSame_93 : decode cX10_isSame 93 = .ok (.iadd, 1) := by decide +kernel
theorem dX10_isSame_94 : decode cX10_isSame 94 = .ok (.iastore, 1) := by decide +kernel
theorem dX10_isSame_95 : decode cX10_isSame 95 = .ok (.iinc 6 1, 3) := by decide +kernel
theorem dX10_isSame_98 : decode cX10_isSame 98 = .ok (.goto (-25), 3) := by decide +kernel
theorem dX10_isSame_101 : decode cX10_isSame 101 = .ok (.iinc 3 1, 3) := by decide +kernel
theorem dX10_isSame_104 : decode cX10_isSame 104 = .ok (.goto (-68), 3) := by decide +kernel
theorem dX10_isSame_107 : decode cX10_isSame 107 = .ok (.iconst 0, 1) := by decide +kernel
theorem dX10_isSame_108 : decode cX10_isSame 108 = .ok (.istore_n 3, 1) := by decide +kernel
theorem dX10_isSame_109 : decode cX10_isSame 109 = .ok (.iload_n 3, 1) := by decide +kernel
theorem dX10_isSame_110 : decode cX10_isSame 110 = .ok (.bipush 6, 2) := by decide +kernel
theorem dX10_isSame_112 : decode cX10_isSame 112 = .ok (.if_icmp .ge 22, 3) := by decide +kernel
theorem dX10_isSame_115 : decode cX10_isSame 115 = .ok (.aload_n 1, 1) := by decide +kernel
theorem dX10_isSame_116 : decode cX10_isSame 116 = .ok (.iload_n 3, 1) := by decide +kernel
theorem dX10_isSame_117 : decode cX10_isSame 117 = .ok (.invokevirtual 104, 3) := by decide +kernel
theorem dX10_isSame_120 : decode cX10_isSame 120 = .ok (.aload_n 2, 1) := by decide +kernel
theorem dX10_isSame_121 : decode cX10_isSame 121 = .ok (.iload_n 3, 1) := by decide +kernel
theorem dX10_isSame_122 : decode cX10_isSame 122 = .ok (.iaload, 1) := by decide +kernel
theorem dX10_isSame_123 : decode cX10_isSame 123 = .ok (.if_icmp .eq 5, 3) := by decide +kernel
theorem dX10_isSame_126 : decode cX10_isSame 126 = .ok (.iconst 0, 1) := by decide +kernel
theorem dX10_isSame_127 : decode cX10_isSame 127 = .ok (.ireturn, 1) := by decide +kernel
theorem dX10_isSame_128 : decode cX10_isSame 128 = .ok (.iinc 3 1, 3) := by decide +kernel
theorem dX10_isSame_131 : decode cX10_isSame 131 = .ok (.goto (-22), 3) := by decide +kernel
theorem dX10_isSame_134 : decode cX10_isSame 134 = .ok (.iconst 0, 1) := by decide +kernel
theorem dX10_isSame_135 : decode cX10_isSame 135 = .ok (.istore_n 3, 1) := by decide +kernel
theorem dX10_isSame_136 : decode cX10_isSame 136 = .ok (.iload_n 3, 1) := by decide +kernel
theorem dX10_isSame_137 : decode cX10_isSame 137 = .ok (.aload_n 0, 1) := by decide +kernel
theorem dX10_isSame_138 : decode cX10_isSame 138 = .ok (.getfield 19, 3) := by decide +kernel
theorem dX10_isSame_141 : decode cX10_isSame 141 = .ok (.arraylength, 1) := by decide +kernel
theorem dX10_isSame_142 : decode cX10_isSame 142 = .ok (.if_icmp .ge 184, 3) := by decide +kernel
theorem dX10_isSame_145 : decode cX10_isSame 145 = .ok (.aload_n 0, 1) := by decide +kernel
theorem dX10_isSame_146 : decode cX10_isSame 146 = .ok (.iload_n 3, 1) := by decide +kernel
theorem dX10_isSame_147 : decode cX10_isSame 147 = .ok (.invokevirtual 70, 3) := by decide +kernel
theorem dX10_isSame_150 : decode cX10_isSame 150 = .ok (.istore 4, 2) := by decide +kernel
theorem dX10_isSame_152 : decode cX10_isSame 152 = .ok (.iconst 0, 1) := by decide +kernel
theorem dX10_isSame_153 : decode cX10_isSame 153 = .ok (.istore 5, 2) := by decide +kernel
theorem dX10_isSame_155 : decode cX10_isSame 155 = .ok (.iload 5, 2) := by decide +kernel
theorem dX10_isSame_157 : decode cX10_isSame 157 = .ok (.bipush 6, 2) := by decide +kernel
theorem dX10_isSame_159 : decode cX10_isSame 159 = .ok (.if_icmp .ge 30, 3) := by decide +kernel
theorem dX10_isSame_162 : decode cX10_isSame 162 = .ok (.aload_n 1, 1) := by decide +kernel
theorem dX10_isSame_163 : decode cX10_isSame 163 = .ok (.iload_n 3, 1) := by decide +kernel
theorem dX10_isSame_164 : decode cX10_isSame 164 = .ok (.iload 5, 2) := by decide +kernel
theorem dX10_isSame_166 : decode cX10_isSame 166 = .ok (.invokevirtual 107, 3) := by decide +kernel
theorem dX10_isSame_169 : decode cX10_isSame 169 = .ok (.aload_n 0, 1) := by decide +kernel
theorem dX10_isSame_170 : decode cX10_isSame 170 = .ok (.getfield 19, 3) := by decide +kernel
theorem dX10_isSame_173 : decode cX10_isSame 173 = .ok (.iload_n 3, 1) := by decide +kernel
theorem dX10_isSame_174 : decode cX10_isSame 174 = .ok (.aaload, 1) := by decide +kernel
theorem dX10_isSame_175 : decode cX10_isSame 175 = .ok (.iload 5, 2) := by decide +kernel
theorem dX10_isSame_177 : decode cX10_isSame 177 = .ok (.iaload, 1) := by decide +kernel
theorem dX10_isSame_178 : decode cX10_isSame 178 = .ok (.if_icmp .eq 5, 3) := by decide +kernel
theorem dX10_isSame_181 : decode cX10_isSame 181 = .ok (.iconst 0, 1) := by decide +kernel
theorem dX10_isSame_182 : decode cX10_isSame 182 = .ok (.ireturn, 1) := by decide +kernel
theorem dX10_isSame_183 : decode cX10_isSame 183 = .ok (.iinc 5 1, 3) := by decide +kernel
theorem dX10_isSame_186 : decode cX10_isSame 186 = .ok (.goto (-31), 3) := by decide +kernel
theorem dX10_isSame_189 : decode cX10_isSame 189 = .ok (.aload_n 1, 1) := by decide +kernel
theorem dX10_isSame_190 : decode cX10_isSame 190 = .ok (.iload_n 3, 1) := by decide +kernel
theorem dX10_isSame_191 : decode cX10_isSame 191 = .ok (.bipush 6, 2) := by decide +kernel
theorem dX10_isSame_193 : decode cX10_isSame 193 = .ok (.invokevirtual 107, 3) := by decide +kernel
theorem dX10_isSame_196 : decode cX10_isSame 196 = .ok (.iload 4, 2) := by decide +kernel
theorem dX10_isSame_198 : decode cX10_isSame 198 = .ok (.if_icmp .ne 39, 3) := by decide +kernel
theorem dX10_isSame_201 : decode cX10_isSame 201 = .ok (.aload_n 1, 1) := by decide +kernel
theorem dX10_isSame_202 : decode cX10_isSame 202 = .ok (.iload_n 3, 1) := by decide +kernel
theorem dX10_isSame_203 : decode cX10_isSame 203 = .ok (.bipush 7, 2) := by decide +kernel
theorem dX10_isSame_205 : decode cX10_isSame 205 = .ok (.invokevirtual 107, 3) := by decide +kernel
theorem dX10_isSame_208 : decode cX10_isSame 208 = .ok (.aload_n 0, 1) := by decide +kernel
theorem dX10_isSame_209 : decode cX10_isSame 209 = .ok (.iload_n 3, 1) := by decide +kernel
theorem dX10_isSame_210 : decode cX10_isSame 210 = .ok (.iload 4, 2) := by decide +kernel
theorem dX10_isSame_212 : decode cX10_isSame 212 = .ok (.iconst 1, 1) := by decide +kernel
theorem dX10_isSame_213 : decode cX10_isSame 213 = .ok (.invokevirtual 54, 3) := by decide +kernel
theorem dX10_isSame_216 : decode cX10_isSame 216 = .ok (.if_icmp .ne 21, 3) := by decide +kernel
theorem dX10_isSame_219 : decode cX10_isSame 219 = .ok (.aload_n 1, 1) := by decide +kernel
theorem dX10_isSame_220 : decode cX10_isSame 220 = .ok (.iload_n 3, 1) := by decide +kernel
theorem dX10_isSame_221 : decode cX10_isSame 221 = .ok (.bipush 8, 2) := by decide +kernel
theorem dX10_isSame_223 : decode cX10_isSame 223 = .ok (.invokevirtual 107, 3) := by decide +kernel
theorem dX10_isSame_226 : decode cX10_isSame 226 = .ok (.aload_n 0, 1) := by decide +kernel
theorem dX10_isSame_227 : decode cX10_isSame 227 = .ok (.iload_n 3, 1) := by decide +kernel
theorem dX10_isSame_228 : decode cX10_isSame 228 = .ok (.iload 4, 2) := by decide +kernel
theorem dX10_isSame_230 : decode cX10_isSame 230 = .ok (.iconst 2, 1) := by decide +kernel
theorem dX10_isSame_231 : decode cX10_isSame 231 = .ok (.invokevirtual 54, 3) := by decide +kernel
theorem dX10_isSame_234 : decode cX10_isSame 234 = .ok (.if_icmp .eq 5, 3) := by decide +kernel
theorem dX10_isSame_237 : decode cX10_isSame 237 = .ok (.iconst 0, 1) := by decide +kernel
theorem dX10_isSame_238 : decode cX10_isSame 238 = .ok (.ireturn, 1) := by decide +kernel
theorem dX10_isSame_239 : decode cX10_isSame 239 = .ok (.iconst 0, 1) := by decide +kernel
theorem dX10_isSame_240 : decode cX10_isSame 240 = .ok (.istore 5, 2) := by decide +kernel
theorem dX10_isSame_242 : decode cX10_isSame 242 = .ok (.iload 5, 2) := by decide +kernel
theorem dX10_isSame_244 : decode cX10_isSame 244 = .ok (.bipush 9, 2) := by decide +kernel
theorem dX10_isSame_246 : decode cX10_isSame 246 = .ok (.if_icmp .ge 74, 3) := by decide +kernel
theorem dX10_isSame_249 : decode cX10_isSame 249 = .ok (.aload_n 0, 1) := by decide +kernel
theorem dX10_isSame_250 : decode cX10_isSame 250 = .ok (.getfield 19, 3) := by decide +kernel
theorem dX10_isSame_253 : decode cX10_isSame 253 = .ok (.iload_n 3, 1) := by decide +kernel
theorem dX10_isSame_254 : decode cX10_isSame 254 = .ok (.aaload, 1) := by decide +kernel
theorem dX10_isSame_255 : decode cX10_isSame 255 = .ok (.iconst 1, 1) := by decide +kernel
theorem dX10_isSame_256 : decode cX10_isSame 256 = .ok (.iaload, 1) := by decide +kernel
theorem dX10_isSame_257 : decode cX10_isSame 257 = .ok (.bipush 62, 2) := by decide +kernel
theorem dX10_isSame_259 : decode cX10_isSame 259 = .ok (.iadd, 1) := by decide +kernel
theorem dX10_isSame_260 : decode cX10_isSame 260 = .ok (.iload 5, 2) := by decide +kernel
theorem dX10_isSame_262 : decode cX10_isSame 262 = .ok (.iconst 3, 1) := by decide +kernel
theorem dX10_isSame_263 : decode cX10_isSame 263 = .ok (.irem, 1) := by decide +kernel
theorem dX10_isSame_264 : decode cX10_isSame 264 = .ok (.iadd, 1) := by decide +kernel
theorem dX10_isSame_265 : decode cX10_isSame 265 = .ok (.bipush 64, 2) := by decide +kernel
theorem dX10_isSame_267 : decode cX10_isSame 267 = .ok (.irem, 1) := by decide +kernel
theorem dX10_isSame_268 : decode cX10_isSame 268 = .ok (.istore 6, 2) := by decide +kernel
theorem dX10_isSame_270 : decode cX10_isSame 270 = .ok (.aload_n 0, 1) := by decide +kernel
theorem dX10_isSame_271 : decode cX10_isSame 271 = .ok (.getfield 19, 3) := by decide +kernel
theorem dX10_isSame_274 : decode cX10_isSame 274 = .ok (.iload_n 3, 1) := by decide +kernel
theorem dX10_isSame_275 : decode cX10_isSame 275 = .ok (.aaload, 1) := by decide +kernel
theorem dX10_isSame_276 : decode cX10_isSame 276 = .ok (.iconst 2, 1) := by decide +kernel
theorem dX10_isSame_277 : decode cX10_isSame 277 = .ok (.iaload, 1) := by decide +kernel
theorem dX10_isSame_278 : decode cX10_isSame 278 = .ok (.bipush 62, 2) := by decide +kernel
theorem dX10_isSame_280 : decode cX10_isSame 280 = .ok (.iadd, 1) := by decide +kernel
theorem dX10_isSame_281 : decode cX10_isSame 281 = .ok (.iload 5, 2) := by decide +kernel
theorem dX10_isSame_283 : decode cX10_isSame 283 = .ok (.iconst 3, 1) := by decide +kernel
theorem dX10_isSame_284 : decode cX10_isSame 284 = .ok (.idiv, 1) := by decide +kernel
theorem dX10_isSame_285 : decode cX10_isSame 285 = .ok (.iadd, 1) := by decide +kernel
theorem dX10_isSame_286 : decode cX10_isSame 286 = .ok (.bipush 64, 2) := by decide +kernel
theorem dX10_isSame_288 : decode cX10_isSame 288 = .ok (.irem, 1) := by decide +kernel
theorem dX10_isSame_289 : decode cX10_isSame 289 = .ok (.istore 7, 2) := by decide +kernel
theorem dX10_isSame_291 : decode cX10_isSame 291 = .ok (.aload_n 1, 1) := by decide +kernel
theorem dX10_isSame_292 : decode cX10_isSame 292 = .ok (.iload 6, 2) := by decide +kernel
theorem dX10_isSame_294 : decode cX10_isSame 294 = .ok (.iload 7, 2) := by decide +kernel
theorem dX10_isSame_296 : decode cX10_isSame 296 = .ok (.invokevirtual 110, 3) := by decide +kernel
theorem dX10_isSame_299 : decode cX10_isSame 299 = .ok (.aload_n 0, 1) := by decide +kernel
theorem dX10_isSame_300 : decode cX10_isSame 300 = .ok (.getfield 16, 3) := by decide +kernel
theorem dX10_isSame_303 : decode cX10_isSame 303 = .ok (.iload 7, 2) := by decide +kernel
theorem dX10_isSame_305 : decode cX10_isSame 305 = .ok (.aaload, 1) := by decide +kernel
theorem dX10_isSame_306 : decode cX10_isSame 306 = .ok (.iload 6, 2) := by decide +kernel
theorem dX10_isSame_308 : decode cX10_isSame 308 = .ok (.iaload, 1) := by decide +kernel
theorem dX10_isSame_309 : decode cX10_isSame 309 = .ok (.if_icmp .eq 5, 3) := by decide +kernel
theorem dX10_isSame_312 : decode cX10_isSame 312 = .ok (.iconst 0, 1) := by decide +kernel
theorem dX10_isSame_313 : decode cX10_isSame 313 = .ok (.ireturn, 1) := by decide +kernel
theorem dX10_isSame_314 : decode cX10_isSame 314 = .ok (.iinc 5 1, 3) := by decide +kernel
theorem dX10_isSame_317 : decode cX10_isSame 317 = .ok (.goto (-75), 3) := by decide +kernel
theorem dX10_isSame_320 : decode cX10_isSame 320 = .ok (.iinc 3 1, 3) := by decide +kernel
theorem dX10_isSame_323 : decode cX10_isSame 323 = .ok (.goto (-187), 3) := by decide +kernel
theorem dX10_isSame_326 : decode cX10_isSame 326 = .ok (.aload_n 1, 1) := by decide +kernel
theorem dX10_isSame_327 : decode cX10_isSame 327 = .ok (.invokevirtual 113, 3) := by decide +kernel
theorem dX10_isSame_330 : decode cX10_isSame 330 = .ok (.aload_n 0, 1) := by decide +kernel
theorem dX10_isSame_331 : decode cX10_isSame 331 = .ok (.invokevirtual 90, 3) := by decide +kernel
theorem dX10_isSame_334 : decode cX10_isSame 334 = .ok (.i2d, 1) := by decide +kernel
theorem dX10_isSame_335 : decode cX10_isSame 335 = .ok (.ldc2_w 117, 3) := by decide +kernel
theorem dX10_isSame_338 : decode cX10_isSame 338 = .ok (.ddiv, 1) := by decide +kernel
theorem dX10_isSame_339 : decode cX10_isSame 339 = .ok (.dcmp .l, 1) := by decide +kernel
theorem dX10_isSame_340 : decode cX10_isSame 340 = .ok (.ifCond .ne 7, 3) := by decide +kernel
theorem dX10_isSame_343 : decode cX10_isSame 343 = .ok (.iconst 1, 1) := by decide +kernel
theorem dX10_isSame_344 : decode cX10_isSame 344 = .ok (.goto 4, 3) := by decide +kernel
theorem dX10_isSame_347 : decode cX10_isSame 347 = .ok (.iconst 0, 1) := by decide +kernel
theorem dX10_isSame_348 : decode cX10_isSame 348 = .ok (.ireturn, 1) := by decide +kernel
