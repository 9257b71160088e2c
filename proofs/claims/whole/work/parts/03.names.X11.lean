theorem dX11_init_0 : decode cX11_init 0 = .ok (.aload_n 0, 1) := by decide +kernel
theorem dX11_init_1 : decode cX11_init 1 = .ok (.aload_n 1, 1) := by decide +kernel
theorem dX11_init_2 : decode cX11_init 2 = .ok (.putfield 3, 3) := by decide +kernel
theorem dX11_init_5 : decode cX11_init 5 = .ok (.aload_n 0, 1) := by decide +kernel
theorem dX11_init_6 : decode cX11_init 6 = .ok (.invokespecial 9, 3) := by decide +kernel
theorem dX11_init_9 : decode cX11_init 9 = .ok (.aload_n 0, 1) := by decide +kernel
theorem dX11_init_10 : decode cX11_init 10 = .ok (.sipush 4096, 3) := by decide +kernel
theorem dX11_init_13 : decode cX11_init 13 = .ok (.newarray .int, 2) := by decide +kernel
theorem dX11_init_15 : decode cX11_init 15 = .ok (.putfield 15, 3) := by decide +kernel
theorem dX11_init_18 : decode cX11_init 18 = .ok (.aload_n 0, 1) := by decide +kernel
theorem dX11_init_19 : decode cX11_init 19 = .ok (.bipush 64, 2) := by decide +kernel
theorem dX11_init_21 : decode cX11_init 21 = .ok (.newarray .int, 2) := by decide +kernel
theorem dX11_init_23 : decode cX11_init 23 = .ok (.putfield 19, 3) := by decide +kernel
theorem dX11_init_26 : decode cX11_init 26 = .ok (.aload_n 0, 1) := by decide +kernel
theorem dX11_init_27 : decode cX11_init 27 = .ok (.bipush 6, 2) := by decide +kernel
theorem dX11_init_29 : decode cX11_init 29 = .ok (.newarray .int, 2) := by decide +kernel
theorem dX11_init_31 : decode cX11_init 31 = .ok (.putfield 22, 3) := by decide +kernel
theorem dX11_init_34 : decode cX11_init 34 = .ok (.aload_n 0, 1) := by decide +kernel
theorem dX11_init_35 : decode cX11_init 35 = .ok (.bipush 6, 2) := by decide +kernel
theorem dX11_init_37 : decode cX11_init 37 = .ok (.newarray .int, 2) := by decide +kernel
theorem dX11_init_39 : decode cX11_init 39 = .ok (.putfield 25, 3) := by decide +kernel
theorem dX11_init_42 : decode cX11_init 42 = .ok (.aload_n 0, 1) := by decide +kernel
theorem dX11_init_43 : decode cX11_init 43 = .ok (.bipush 6, 2) := by decide +kernel
theorem dX11_init_45 : decode cX11_init 45 = .ok (.newarray .int, 2) := by decide +kernel
theorem dX11_init_47 : decode cX11_init 47 = .ok (.putfield 28, 3) := by decide +kernel
theorem dX11_init_50 : decode cX11_init 50 = .ok (.aload_n 0, 1) := by decide +kernel
theorem dX11_init_51 : decode cX11_init 51 = .ok (.bipush 6, 2) := by decide +kernel
theorem dX11_init_53 : decode cX11_init 53 = .ok (.newarray .int, 2) := by decide +kernel
theorem dX11_init_55 : decode cX11_init 55 = .ok (.putfield 31, 3) := by decide +kernel
theorem dX11_init_58 : decode cX11_init 58 = .ok (.aload_n 0, 1) := by decide +kernel
theorem dX11_init_59 : decode cX11_init 59 = .ok (.bipush 6, 2) := by decide +kernel
theorem dX11_init_61 : decode cX11_init 61 = .ok (.newarray .int, 2) := by decide +kernel
theorem dX11_init_63 : decode cX11_init 63 = .ok (.putfield 34, 3) := by decide +kernel
theorem dX11_init_66 : decode cX11_init 66 = .ok (.aload_n 0, 1) := by decide +kernel
theorem dX11_init_67 : decode cX11_init 67 = .ok (.bipush 6, 2) := by decide +kernel
theorem dX11_init_69 : decode cX11_init 69 = .ok (.newarray .int, 2) := by decide +kernel
theorem dX11_init_71 : decode cX11_init 71 = .ok (.putfield 37, 3) := by decide +kernel
theorem dX11_init_74 : decode cX11_init 74 = .ok (.aload_n 0, 1) := by decide +kernel
theorem dX11_init_75 : decode cX11_init 75 = .ok (.sipush 768, 3) := by decide +kernel
theorem dX11_init_78 : decode cX11_init 78 = .ok (.newarray .int, 2) := by decide +kernel
theorem dX11_init_80 : decode cX11_init 80 = .ok (.putfield 40, 3) := by decide +kernel
theorem dX11_init_83 : decode cX11_init 83 = .ok (.aload_n 0, 1) := by decide +kernel
theorem dX11_init_84 : decode cX11_init 84 = .ok (.sipush 726, 3) := by decide +kernel
theorem dX11_init_87 : decode cX11_init 87 = .ok (.newarray .int, 2) := by decide +kernel
theorem dX11_init_89 : decode cX11_init 89 = .ok (.putfield 43, 3) := by decide +kernel
theorem dX11_init_92 : decode cX11_init 92 = .ok (.aload_n 0, 1) := by decide +kernel
theorem dX11_init_93 : decode cX11_init 93 = .ok (.sipush 400, 3) := by decide +kernel
theorem dX11_init_96 : decode cX11_init 96 = .ok (.newarray .int, 2) := by decide +kernel
theorem dX11_init_98 : decode cX11_init 98 = .ok (.putfield 46, 3) := by decide +kernel
theorem dX11_init_101 : decode cX11_init 101 = .ok (.return_, 1) := by decide +kernel
theorem dX11_copy_0 : decode cX11_copy 0 = .ok (.aload_n 1, 1) := by decide +kernel
theorem dX11_copy_1 : decode cX11_copy 1 = .ok (.iconst 0, 1) := by decide +kernel
theorem dX11_copy_2 : decode cX11_copy 2 = .ok (.aload_n 2, 1) := by decide +kernel
theorem dX11_copy_3 : decode cX11_copy 3 = .ok (.iconst 0, 1) := by decide +kernel
theorem dX11_copy_4 : decode cX11_copy 4 = .ok (.aload_n 1, 1) := by decide +kernel
theorem dX11_copy_5 : decode cX11_copy 5 = .ok (.arraylength, 1) := by decide +kernel
theorem dX11_copy_6 : decode cX11_copy 6 = .ok (.invokestatic 49, 3) := by decide +kernel
theorem dX11_copy_9 : decode cX11_copy 9 = .ok (.return_, 1) := by decide +kernel
set_option maxRecDepth 20000 in
theorem ggX11_become_X11_copy : GoodIn wsX11_become wsX11_copy := goodIn_r _ [19, 20, 21, 22, 23] (by decide +kernel) (by decide +kernel)
set_option maxRecDepth 20000 in
theorem gX11_become_X11_copy : GoodIn wsX11_become (wsV RX11 68 RX11 yX11_copy wsX11_copy) := goodIn_app (goodIn_of _ (by decide +kernel)) ggX11_become_X11_copy
theorem dX11_become_0 : decode cX11_become 0 = .ok (.aload_n 0, 1) := by decide +kernel
theorem dX11_become_1 : decode cX11_become 1 = .ok (.aload_n 1, 1) := by decide +kernel
theorem dX11_become_2 : decode cX11_become 2 = .ok (.getfield 55, 3) := by decide +kernel
theorem dX11_become_5 : decode cX11_become 5 = .ok (.putfield 55, 3) := by decide +kernel
theorem dX11_become_8 : decode cX11_become 8 = .ok (.aload_n 0, 1) := by decide +kernel
theorem dX11_become_9 : decode cX11_become 9 = .ok (.aload_n 1, 1) := by decide +kernel
theorem dX11_become_10 : decode cX11_become 10 = .ok (.getfield 59, 3) := by decide +kernel
theorem dX11_become_13 : decode cX11_become 13 = .ok (.putfield 59, 3) := by decide +kernel
theorem dX11_become_16 : decode cX11_become 16 = .ok (.aload_n 0, 1) := by decide +kernel
theorem dX11_become_17 : decode cX11_become 17 = .ok (.aload_n 1, 1) := by decide +kernel
theorem dX11_become_18 : decode cX11_become 18 = .ok (.getfield 62, 3) := by decide +kernel
theorem dX11_become_21 : decode cX11_become 21 = .ok (.putfield 62, 3) := by decide +kernel
theorem dX11_become_24 : decode cX11_become 24 = .ok (.aload_n 0, 1) := by decide +kernel
theorem dX11_become_25 : decode cX11_become 25 = .ok (.aload_n 1, 1) := by decide +kernel
theorem dX11_become_26 : decode cX11_become 26 = .ok (.getfield 65, 3) := by decide +kernel
theorem dX11_become_29 : decode cX11_become 29 = .ok (.putfield 65, 3) := by decide +kernel
theorem dX11_become_32 : decode cX11_become 32 = .ok (.aload_n 0, 1) := by decide +kernel
theorem dX11_become_33 : decode cX11_become 33 = .ok (.aload_n 1, 1) := by decide +kernel
theorem dX11_become_34 : decode cX11_become 34 = .ok (.getfield 15, 3) := by decide +kernel
theorem dX11_become_37 : decode cX11_become 37 = .ok (.aload_n 0, 1) := by decide +kernel
theorem dX11_become_38 : decode cX11_become 38 = .ok (.getfield 15, 3) := by decide +kernel
theorem dX11_become_41 : decode cX11_become 41 = .ok (.invokevirtual 68, 3) := by decide +kernel
theorem dX11_become_44 : decode cX11_become 44 = .ok (.aload_n 0, 1) := by decide +kernel
theorem dX11_become_45 : decode cX11_become 45 = .ok (.aload_n 1, 1) := by decide +kernel
theorem dX11_become_46 : decode cX11_become 46 = .ok (.getfield 19, 3) := by decide +kernel
theorem dX11_become_49 : decode cX11_become 49 = .ok (.aload_n 0, 1) := by decide +kernel
theorem dX11_become_50 : decode cX11_become 50 = .ok (.getfield 19, 3) := by decide +kernel
theorem dX11_become_53 : decode cX11_become 53 = .ok (.invokevirtual 68, 3) := by decide +kernel
theorem dX11_become_56 : decode cX11_become 56 = .ok (.aload_n 0, 1) := by decide +kernel
theorem dX11_become_57 : decode cX11_become 57 = .ok (.aload_n 1, 1) := by decide +kernel
theorem dX11_become_58 : decode cX11_become 58 = .ok (.getfield 22, 3) := by decide +kernel
theorem dX11_become_61 : decode cX11_become 61 = .ok (.aload_n 0, 1) := by decide +kernel
theorem dX11_become_62 : decode cX11_become 62 = .ok (.getfield 22, 3) := by decide +kernel
theorem dX11_become_65 : decode cX11_become 65 = .ok (.invokevirtual 68, 3) := by decide +kernel
theorem dX11_become_68 : decode cX11_become 68 = .ok (.aload_n 0, 1) := by decide +kernel
theorem dX11_become_69 : decode cX11_become 69 = .ok (.aload_n 1, 1) := by decide +kernel
theorem dX11_become_70 : decode cX11_become 70 = .ok (.getfield 25, 3) := by decide +kernel
theorem dX11_become_73 : decode cX11_become 73 = .ok (.aload_n 0, 1) := by decide +kernel
theorem dX11_become_74 : decode cX11_become 74 = .ok (.getfield 25, 3) := by decide +kernel
theorem dX11_become_77 : decode cX11_become 77 = .ok (.invokevirtual 68, 3) := by decide +kernel
theorem dX11_become_80 : decode cX11_become 80 = .ok (.aload_n 0, 1) := by decide +kernel
theorem dX11_become_81 : decode cX11_become 81 = .ok (.aload_n 1, 1) := by decide +kernel
theorem dX11_become_82 : decode cX11_become 82 = .ok (.getfield 28, 3) := by decide +kernel
theorem dX11_become_85 : decode cX11_become 85 = .ok (.aload_n 0, 1) := by decide +kernel
theorem dX11_become_86 : decode cX11_become 86 = .ok (.getfield 28, 3) := by decide +kernel
theorem dX11_become_89 : decode cX11_become 89 = .ok (.invokevirtual 68, 3) := by decide +kernel
theorem dX11_become_92 : decode cX11_become 92 = .ok (.aload_n 0, 1) := by decide +kernel
theorem dX11_become_93 : decode cX11_become 93 = .ok (.aload_n 1, 1) := by decide +kernel
theorem dX11_become_94 : decode cX11_become 94 = .ok (.getfield 31, 3) := by decide +kernel
theorem dX11_become_97 : decode cX11_become 97 = .ok (.aload_n 0, 1) := by decide +kernel
theorem dX11_become_98 : decode cX11_become 98 = .ok (.getfield 31, 3) := by decide +kernel
theorem dX11_become_101 : decode cX11_become 101 = .ok (.invokevirtual 68, 3) := by decide +kernel
theorem dX11_become_104 : decode cX11_become 104 = .ok (.aload_n 0, 1) := by decide +kernel
theorem dX11_become_105 : decode cX11_become 105 = .ok (.aload_n 1, 1) := by decide +kernel
theorem dX11_become_106 : decode cX11_become 106 = .ok (.getfield 34, 3) := by decide +kernel
theorem dX11_become_109 : decode cX11_become 109 = .ok (.aload_n 0, 1) := by decide +kernel
theorem dX11_become_110 : decode cX11_become 110 = .ok (.getfield 34, 3) := by decide +kernel
theorem dX11_become_113 : decode cX11_become 113 = .ok (.invokevirtual 68, 3) := by decide +kernel
theorem dX11_become_116 : decode cX11_become 116 = .ok (.aload_n 0, 1) := by decide +kernel
theorem dX11_become_117 : decode cX11_become 117 = .ok (.aload_n 1, 1) := by decide +kernel
theorem dX11_become_118 : decode cX11_become 118 = .ok (.getfield 37, 3) := by decide +kernel
theorem dX11_become_121 : decode cX11_become 121 = .ok (.aload_n 0, 1) := by decide +kernel
theorem dX11_become_122 : decode cX11_become 122 = .ok (.getfield 37, 3) := by decide +kernel
theorem dX11_become_125 : decode cX11_become 125 = .ok (.invokevirtual 68, 3) := by decide +kernel
theorem dX11_become_128 : decode cX11_become 128 = .ok (.aload_n 0, 1) := by decide +kernel
theorem dX11_become_129 : decode cX11_become 129 = .ok (.aload_n 1, 1) := by decide +kernel
theorem dX11_become_130 : decode cX11_become 130 = .ok (.getfield 40, 3) := by decide +kernel
theorem dX11_become_133 : decode cX11_become 133 = .ok (.aload_n 0, 1) := by decide +kernel
theorem dX11_become_134 : decode cX11_become 134 = .ok (.getfield 40, 3) := by decide +kernel
theorem dX11_become_137 : decode cX11_become 137 = .ok (.invokevirtual 68, 3) := by decide +kernel
theorem dX11_become_140 : decode cX11_become 140 = .ok (.aload_n 0, 1) := by decide +kernel
theorem dX11_become_141 : decode cX11_become 141 = .ok (.aload_n 1, 1) := by decide +kernel
theorem dX11_become_142 : decode cX11_become 142 = .ok (.getfield 43, 3) := by decide +kernel
theorem dX11_become_145 : decode cX11_become 145 = .ok (.aload_n 0, 1) := by decide +kernel
theorem dX11_become_146 : decode cX11_become 146 = .ok (.getfield 43, 3) := by decide +kernel
theorem dX11_become_149 : decode cX11_become 149 = .ok (.invokevirtual 68, 3) := by decide +kernel
theorem dX11_become_152 : decode cX11_become 152 = .ok (.aload_n 0, 1) := by decide +kernel
theorem dX11_become_153 : decode cX11_become 153 = .ok (.areturn, 1) := by decide +kernel
set_option maxRecDepth 20000 in
theorem ggX11_begin_X11_copy : GoodIn wsX11_begin wsX11_copy := goodIn_r _ [17, 18, 19, 20, 21] (by decide +kernel) (by decide +kernel)
set_option maxRecDepth 20000 in
theorem gX11_begin_X11_copy : GoodIn wsX11_begin (wsV RX11 68 RX11 yX11_copy wsX11_copy) := goodIn_app (goodIn_of _ (by decide +kernel)) ggX11_begin_X11_copy
set_option maxRecDepth 20000 in
theorem ggX11_begin_X11_forget : GoodIn wsX11_begin wsX11_forget := goodIn_r _ [25, 26, 27, 28, 29, 30, 31, 32, 33, 34, 35, 36, 37, 38, 39, 40, 41, 42, 43] (by decide +kernel) (by decide +kernel)
set_option maxRecDepth 20000 in
theorem gX11_begin_X11_forget : GoodIn wsX11_begin (wsV RX11 82 RX11 yX11_forget wsX11_forget) := goodIn_app (goodIn_of _ (by decide +kernel)) ggX11_begin_X11_forget
theorem dX11_begin_0 : decode cX11_begin 0 = .ok (.aload_n 0, 1) := by decide +kernel
theorem dX11_begin_1 : decode cX11_begin 1 = .ok (.iconst 0, 1) := by decide +kernel
theorem dX11_begin_2 : decode cX11_begin 2 = .ok (.putfield 55, 3) := by decide +kernel
theorem dX11_begin_5 : decode cX11_begin 5 = .ok (.aload_n 0, 1) := by decide +kernel
theorem dX11_begin_6 : decode cX11_begin 6 = .ok (.iconst 0, 1) := by decide +kernel
theorem dX11_begin_7 : decode cX11_begin 7 = .ok (.putfield 59, 3) := by decide +kernel
theorem dX11_begin_10 : decode cX11_begin 10 = .ok (.aload_n 0, 1) := by decide +kernel
theorem dX11_begin_11 : decode cX11_begin 11 = .ok (.iconst 0, 1) := by decide +kernel
theorem dX11_begin_12 : decode cX11_begin 12 = .ok (.putfield 62, 3) := by decide +kernel
theorem dX11_begin_15 : decode cX11_begin 15 = .ok (.aload_n 0, 1) := by decide +kernel
theorem dX11_begin_16 : decode cX11_begin 16 = .ok (.iconst 0, 1) := by decide +kernel
theorem dX11_begin_17 : decode cX11_begin 17 = .ok (.putfield 65, 3) := by decide +kernel
theorem dX11_begin_20 : decode cX11_begin 20 = .ok (.aload_n 0, 1) := by decide +kernel
theorem dX11_begin_21 : decode cX11_begin 21 = .ok (.aload_n 0, 1) := by decide +kernel
theorem dX11_begin_22 : decode cX11_begin 22 = .ok (.getfield 3, 3) := by decide +kernel
theorem dX11_begin_25 : decode cX11_begin 25 = .ok (.getfield 72, 3) := by decide +kernel
theorem dX11_begin_28 : decode cX11_begin 28 = .ok (.getfield 76, 3) := by decide +kernel
theorem dX11_begin_31 : decode cX11_begin 31 = .ok (.aload_n 0, 1) := by decide +kernel
theorem dX11_begin_32 : decode cX11_begin 32 = .ok (.getfield 15, 3) := by decide +kernel
theorem dX11_begin_35 : decode cX11_begin 35 = .ok (.invokevirtual 68, 3) := by decide +kernel
theorem dX11_begin_38 : decode cX11_begin 38 = .ok (.iconst 0, 1) := by decide +kernel
theorem dX11_begin_39 : decode cX11_begin 39 = .ok (.istore_n 1, 1) := by decide +kernel
theorem dX11_begin_40 : decode cX11_begin 40 = .ok (.iload_n 1, 1) := by decide +kernel
theorem dX11_begin_41 : decode cX11_begin 41 = .ok (.bipush 64, 2) := by decide +kernel
theorem dX11_begin_43 : decode cX11_begin 43 = .ok (.if_icmp .ge 58, 3) := by decide +kernel
theorem dX11_begin_46 : decode cX11_begin 46 = .ok (.aload_n 0, 1) := by decide +kernel
theorem dX11_begin_47 : decode cX11_begin 47 = .ok (.getfield 19, 3) := by decide +kernel
theorem dX11_begin_50 : decode cX11_begin 50 = .ok (.iload_n 1, 1) := by decide +kernel
theorem dX11_begin_51 : decode cX11_begin 51 = .ok (.iconst 0, 1) := by decide +kernel
theorem dX11_begin_52 : decode cX11_begin 52 = .ok (.iastore, 1) := by decide +kernel
theorem dX11_begin_53 : decode cX11_begin 53 = .ok (.iconst 0, 1) := by decide +kernel
theorem dX11_begin_54 : decode cX11_begin 54 = .ok (.istore_n 2, 1) := by decide +kernel
theorem dX11_begin_55 : decode cX11_begin 55 = .ok (.iload_n 2, 1) := by decide +kernel
theorem dX11_begin_56 : decode cX11_begin 56 = .ok (.bipush 64, 2) := by decide +kernel
theorem dX11_begin_58 : decode cX11_begin 58 = .ok (.if_icmp .ge 37, 3) := by decide +kernel
theorem dX11_begin_61 : decode cX11_begin 61 = .ok (.aload_n 0, 1) := by decide +kernel
theorem dX11_begin_62 : decode cX11_begin 62 = .ok (.getfield 19, 3) := by decide +kernel
theorem dX11_begin_65 : decode cX11_begin 65 = .ok (.iload_n 1, 1) := by decide +kernel
theorem dX11_begin_66 : decode cX11_begin 66 = .ok (.dup2, 1) := by decide +kernel
theorem dX11_begin_67 : decode cX11_begin 67 = .ok (.iaload, 1) := by decide +kernel
theorem dX11_begin_68 : decode cX11_begin 68 = .ok (.aload_n 0, 1) := by decide +kernel
theorem dX11_begin_69 : decode cX11_begin 69 = .ok (.getfield 15, 3) := by decide +kernel
theorem dX11_begin_72 : decode cX11_begin 72 = .ok (.bipush 64, 2) := by decide +kernel
theorem dX11_begin_74 : decode cX11_begin 74 = .ok (.iload_n 1, 1) := by decide +kernel
theorem dX11_begin_75 : decode cX11_begin 75 = .ok (.imul, 1) := by decide +kernel
theorem dX11_begin_76 : decode cX11_begin 76 = .ok (.iload_n 2, 1) := by decide +kernel
theorem dX11_begin_77 : decode cX11_begin 77 = .ok (.iadd, 1) := by decide +kernel
theorem dX11_begin_78 : decode cX11_begin 78 = .ok (.iaload, 1) := by decide +kernel
theorem dX11_begin_79 : decode cX11_begin 79 = .ok (.ifCond .le 7, 3) := by decide +kernel
theorem dX11_begin_82 : decode cX11_begin 82 = .ok (.iconst 1, 1) := by decide +kernel
theorem dX11_begin_83 : decode cX11_begin 83 = .ok (.goto 4, 3) := by decide +kernel
theorem dX11_begin_86 : decode cX11_begin 86 = .ok (.iconst 0, 1) := by decide +kernel
theorem dX11_begin_87 : decode cX11_begin 87 = .ok (.iadd, 1) := by decide +kernel
theorem dX11_begin_88 : decode cX11_begin 88 = .ok (.iastore, 1) := by decide +kernel
theorem dX11_begin_89 : decode cX11_begin 89 = .ok (.iinc 2 1, 3) := by decide +kernel
theorem dX11_begin_92 : decode cX11_begin 92 = .ok (.goto (-37), 3) := by decide +kernel
theorem dX11_begin_95 : decode cX11_begin 95 = .ok (.iinc 1 1, 3) := by decide +kernel
theorem dX11_begin_98 : decode cX11_begin 98 = .ok (.goto (-58), 3) := by decide +kernel
theorem dX11_begin_101 : decode cX11_begin 101 = .ok (.aload_n 0, 1) := by decide +kernel
theorem dX11_begin_102 : decode cX11_begin 102 = .ok (.aload_n 0, 1) := by decide +kernel
theorem dX11_begin_103 : decode cX11_begin 103 = .ok (.getfield 3, 3) := by decide +kernel
theorem dX11_begin_106 : decode cX11_begin 106 = .ok (.getfield 72, 3) := by decide +kernel
theorem dX11_begin_109 : decode cX11_begin 109 = .ok (.getfield 79, 3) := by decide +kernel
theorem dX11_begin_112 : decode cX11_begin 112 = .ok (.aload_n 0, 1) := by decide +kernel
theorem dX11_begin_113 : decode cX11_begin 113 = .ok (.getfield 22, 3) := by decide +kernel
theorem dX11_begin_116 : decode cX11_begin 116 = .ok (.invokevirtual 68, 3) := by decide +kernel
theorem dX11_begin_119 : decode cX11_begin 119 = .ok (.aload_n 0, 1) := by decide +kernel
theorem dX11_begin_120 : decode cX11_begin 120 = .ok (.aload_n 0, 1) := by decide +kernel
theorem dX11_begin_121 : decode cX11_begin 121 = .ok (.getfield 3, 3) := by decide +kernel
theorem dX11_begin_124 : decode cX11_begin 124 = .ok (.getfield 72, 3) := by decide +kernel
theorem dX11_begin_127 : decode cX11_begin 127 = .ok (.getfield 80, 3) := by decide +kernel
theorem dX11_begin_130 : decode cX11_begin 130 = .ok (.aload_n 0, 1) := by decide +kernel
theorem dX11_begin_131 : decode cX11_begin 131 = .ok (.getfield 25, 3) := by decide +kernel
theorem dX11_begin_134 : decode cX11_begin 134 = .ok (.invokevirtual 68, 3) := by decide +kernel
theorem dX11_begin_137 : decode cX11_begin 137 = .ok (.aload_n 0, 1) := by decide +kernel
theorem dX11_begin_138 : decode cX11_begin 138 = .ok (.aload_n 0, 1) := by decide +kernel
theorem dX11_begin_139 : decode cX11_begin 139 = .ok (.getfield 3, 3) := by decide +kernel
theorem dX11_begin_142 : decode cX11_begin 142 = .ok (.getfield 72, 3) := by decide +kernel
theorem dX11_begin_145 : decode cX11_begin 145 = .ok (.getfield 81, 3) := by decide +kernel
theorem dX11_begin_148 : decode cX11_begin 148 = .ok (.aload_n 0, 1) := by decide +kernel
theorem dX11_begin_149 : decode cX11_begin 149 = .ok (.getfield 28, 3) := by decide +kernel
theorem dX11_begin_152 : decode cX11_begin 152 = .ok (.invokevirtual 68, 3) := by decide +kernel
theorem dX11_begin_155 : decode cX11_begin 155 = .ok (.iconst 0, 1) := by decide +kernel
theorem dX11_begin_156 : decode cX11_begin 156 = .ok (.istore_n 1, 1) := by decide +kernel
theorem dX11_begin_157 : decode cX11_begin 157 = .ok (.iload_n 1, 1) := by decide +kernel
theorem dX11_begin_158 : decode cX11_begin 158 = .ok (.bipush 6, 2) := by decide +kernel
theorem dX11_begin_160 : decode cX11_begin 160 = .ok (.if_icmp .ge 28, 3) := by decide +kernel
theorem dX11_begin_163 : decode cX11_begin 163 = .ok (.aload_n 0, 1) := by decide +kernel
theorem dX11_begin_164 : decode cX11_begin 164 = .ok (.getfield 31, 3) := by decide +kernel
theorem dX11_begin_167 : decode cX11_begin 167 = .ok (.iload_n 1, 1) := by decide +kernel
theorem dX11_begin_168 : decode cX11_begin 168 = .ok (.iconst 0, 1) := by decide +kernel
theorem dX11_begin_169 : decode cX11_begin 169 = .ok (.iastore, 1) := by decide +kernel
theorem dX11_begin_170 : decode cX11_begin 170 = .ok (.aload_n 0, 1) := by decide +kernel
theorem dX11_begin_171 : decode cX11_begin 171 = .ok (.getfield 34, 3) := by decide +kernel
theorem dX11_begin_174 : decode cX11_begin 174 = .ok (.iload_n 1, 1) := by decide +kernel
theorem dX11_begin_175 : decode cX11_begin 175 = .ok (.iconst 0, 1) := by decide +kernel
theorem dX11_begin_176 : decode cX11_begin 176 = .ok (.iastore, 1) := by decide +kernel
theorem dX11_begin_177 : decode cX11_begin 177 = .ok (.aload_n 0, 1) := by decide +kernel
theorem dX11_begin_178 : decode cX11_begin 178 = .ok (.iload_n 1, 1) := by decide +kernel
theorem dX11_begin_179 : decode cX11_begin 179 = .ok (.invokevirtual 82, 3) := by decide +kernel
theorem dX11_begin_182 : decode cX11_begin 182 = .ok (.iinc 1 1, 3) := by decide +kernel
theorem dX11_begin_185 : decode cX11_begin 185 = .ok (.goto (-28), 3) := by decide +kernel
theorem dX11_begin_188 : decode cX11_begin 188 = .ok (.return_, 1) := by decide +kernel
theorem dX11_paint_0 : decode cX11_paint 0 = .ok (.aload_n 0, 1) := by decide +kernel
theorem dX11_paint_1 : decode cX11_paint 1 = .ok (.getfield 19, 3) := by decide +kernel
theorem dX11_paint_4 : decode cX11_paint 4 = .ok (.iload_n 1, 1) := by decide +kernel
theorem dX11_paint_5 : decode cX11_paint 5 = .ok (.bipush 64, 2) := by decide +kernel
theorem dX11_paint_7 : decode cX11_paint 7 = .ok (.idiv, 1) := by decide +kernel
theorem dX11_paint_8 : decode cX11_paint 8 = .ok (.dup2, 1) := by decide +kernel
theorem dX11_paint_9 : decode cX11_paint 9 = .ok (.iaload, 1) := by decide +kernel
theorem dX11_paint_10 : decode cX11_paint 10 = .ok (.iload_n 2, 1) := by decide +kernel
theorem dX11_paint_11 : decode cX11_paint 11 = .ok (.ifCond .le 7, 3) := by decide +kernel
theorem dX11_paint_14 : decode cX11_paint 14 = .ok (.iconst 1, 1) := by decide +kernel
theorem dX11_paint_15 : decode cX11_paint 15 = .ok (.goto 4, 3) := by decide +kernel
theorem dX11_paint_18 : decode cX11_paint 18 = .ok (.iconst 0, 1) := by decide +kernel
theorem dX11_paint_19 : decode cX11_paint 19 = .ok (.aload_n 0, 1) := by decide +kernel
theorem dX11_paint_20 : decode cX11_paint 20 = .ok (.getfield 15, 3) := by decide +kernel
theorem dX11_paint_23 : decode cX11_paint 23 = .ok (.iload_n 1, 1) := by decide +kernel
theorem dX11_paint_24 : decode cX11_paint 24 = .ok (.iaload, 1) := by decide +kernel
theorem dX11_paint_25 : decode cX11_paint 25 = .ok (.ifCond .le 7, 3) := by decide +kernel
theorem dX11_paint_28 : decode cX11_paint 28 = .ok (.iconst 1, 1) := by decide +kernel
theorem dX11_paint_29 : decode cX11_paint 29 = .ok (.goto 4, 3) := by decide +kernel
theorem dX11_paint_32 : decode cX11_paint 32 = .ok (.iconst 0, 1) := by decide +kernel
theorem dX11_paint_33 : decode cX11_paint 33 = .ok (.isub, 1) := by decide +kernel
theorem dX11_paint_34 : decode cX11_paint 34 = .ok (.iadd, 1) := by decide +kernel
theorem dX11_paint_35 : decode cX11_paint 35 = .ok (.iastore, 1) := by decide +kernel
theorem dX11_paint_36 : decode cX11_paint 36 = .ok (.aload_n 0, 1) := by decide +kernel
theorem dX11_paint_37 : decode cX11_paint 37 = .ok (.getfield 15, 3) := by decide +kernel
theorem dX11_paint_40 : decode cX11_paint 40 = .ok (.iload_n 1, 1) := by decide +kernel
theorem dX11_paint_41 : decode cX11_paint 41 = .ok (.iload_n 2, 1) := by decide +kernel
theorem dX11_paint_42 : decode cX11_paint 42 = .ok (.iastore, 1) := by decide +kernel
theorem dX11_paint_43 : decode cX11_paint 43 = .ok (.return_, 1) := by decide +kernel
theorem dX11_dark_0 : decode cX11_dark 0 = .ok (.iconst 0, 1) := by decide +kernel
theorem dX11_dark_1 : decode cX11_dark 1 = .ok (.istore_n 1, 1) := by decide +kernel
theorem dX11_dark_2 : decode cX11_dark 2 = .ok (.aload_n 0, 1) := by decide +kernel
theorem dX11_dark_3 : decode cX11_dark 3 = .ok (.getfield 19, 3) := by decide +kernel
theorem dX11_dark_6 : decode cX11_dark 6 = .ok (.astore_n 2, 1) := by decide +kernel
theorem dX11_dark_7 : decode cX11_dark 7 = .ok (.aload_n 2, 1) := by decide +kernel
theorem dX11_dark_8 : decode cX11_dark 8 = .ok (.arraylength, 1) := by decide +kernel
theorem dX11_dark_9 : decode cX11_dark 9 = .ok (.istore_n 3, 1) := by decide +kernel
theorem dX11_dark_10 : decode cX11_dark 10 = .ok (.iconst 0, 1) := by decide +kernel
theorem dX11_dark_11 : decode cX11_dark 11 = .ok (.istore 4, 2) := by decide +kernel
theorem dX11_dark_13 : decode cX11_dark 13 = .ok (.iload 4, 2) := by decide +kernel
theorem dX11_dark_15 : decode cX11_dark 15 = .ok (.iload_n 3, 1) := by decide +kernel
theorem dX11_dark_16 : decode cX11_dark 16 = .ok (.if_icmp .ge 20, 3) := by decide +kernel
theorem dX11_dark_19 : decode cX11_dark 19 = .ok (.aload_n 2, 1) := by decide +kernel
theorem dX11_dark_20 : decode cX11_dark 20 = .ok (.iload 4, 2) := by decide +kernel
theorem dX11_dark_22 : decode cX11_dark 22 = .ok (.iaload, 1) := by decide +kernel
theorem dX11_dark_23 : decode cX11_dark 23 = .ok (.istore 5, 2) := by decide +kernel
theorem dX11_dark_25 : decode cX11_dark 25 = .ok (.iload_n 1, 1) := by decide +kernel
theorem dX11_dark_26 : decode cX11_dark 26 = .ok (.iload 5, 2) := by decide +kernel
theorem dX11_dark_28 : decode cX11_dark 28 = .ok (.iadd, 1) := by decide +kernel
theorem dX11_dark_29 : decode cX11_dark 29 = .ok (.istore_n 1, 1) := by decide +kernel
theorem dX11_dark_30 : decode cX11_dark 30 = .ok (.iinc 4 1, 3) := by decide +kernel
theorem dX11_dark_33 : decode cX11_dark 33 = .ok (.goto (-20), 3) := by decide +kernel
theorem dX11_dark_36 : decode cX11_dark 36 = .ok (.iload_n 1, 1) := by decide +kernel
theorem dX11_dark_37 : decode cX11_dark 37 = .ok (.ireturn, 1) := by decide +kernel
set_option maxRecDepth 20000 in
theorem ggX11_wash_X11_paint : GoodIn wsX11_wash wsX11_paint := goodIn_r _ [7, 1, 8, 9, 10, 11, 12, 13, 14, 15, 16, 17, 18, 19, 20, 21, 22, 23, 24] (by decide +kernel) (by decide +kernel)
set_option maxRecDepth 20000 in
theorem gX11_wash_X11_paint : GoodIn wsX11_wash (wsV RX11 86 RX11 yX11_paint wsX11_paint) := goodIn_app (goodIn_of _ (by decide +kernel)) ggX11_wash_X11_paint
theorem dX11_wash_0 : decode cX11_wash 0 = .ok (.iconst 0, 1) := by decide +kernel
theorem dX11_wash_1 : decode cX11_wash 1 = .ok (.istore_n 3, 1) := by decide +kernel
theorem dX11_wash_2 : decode cX11_wash 2 = .ok (.iload_n 1, 1) := by decide +kernel
theorem dX11_wash_3 : decode cX11_wash 3 = .ok (.istore 4, 2) := by decide +kernel
theorem dX11_wash_5 : decode cX11_wash 5 = .ok (.iload 4, 2) := by decide +kernel
theorem dX11_wash_7 : decode cX11_wash 7 = .ok (.iload_n 2, 1) := by decide +kernel
theorem dX11_wash_8 : decode cX11_wash 8 = .ok (.if_icmp .gt 58, 3) := by decide +kernel
theorem dX11_wash_11 : decode cX11_wash 11 = .ok (.iload_n 3, 1) := by decide +kernel
theorem dX11_wash_12 : decode cX11_wash 12 = .ok (.aload_n 0, 1) := by decide +kernel
theorem dX11_wash_13 : decode cX11_wash 13 = .ok (.getfield 19, 3) := by decide +kernel
theorem dX11_wash_16 : decode cX11_wash 16 = .ok (.iload 4, 2) := by decide +kernel
theorem dX11_wash_18 : decode cX11_wash 18 = .ok (.iaload, 1) := by decide +kernel
theorem dX11_wash_19 : decode cX11_wash 19 = .ok (.iadd, 1) := by decide +kernel
theorem dX11_wash_20 : decode cX11_wash 20 = .ok (.istore_n 3, 1) := by decide +kernel
theorem dX11_wash_21 : decode cX11_wash 21 = .ok (.iconst 0, 1) := by decide +kernel
theorem dX11_wash_22 : decode cX11_wash 22 = .ok (.istore 5, 2) := by decide +kernel
theorem dX11_wash_24 : decode cX11_wash 24 = .ok (.iload 5, 2) := by decide +kernel
theorem dX11_wash_26 : decode cX11_wash 26 = .ok (.bipush 64, 2) := by decide +kernel
theorem dX11_wash_28 : decode cX11_wash 28 = .ok (.if_icmp .ge 32, 3) := by decide +kernel
theorem dX11_wash_31 : decode cX11_wash 31 = .ok (.aload_n 0, 1) := by decide +kernel
theorem dX11_wash_32 : decode cX11_wash 32 = .ok (.getfield 19, 3) := by decide +kernel
theorem dX11_wash_35 : decode cX11_wash 35 = .ok (.iload 4, 2) := by decide +kernel
theorem dX11_wash_37 : decode cX11_wash 37 = .ok (.iaload, 1) := by decide +kernel
theorem dX11_wash_38 : decode cX11_wash 38 = .ok (.ifCond .le 22, 3) := by decide +kernel
theorem dX11_wash_41 : decode cX11_wash 41 = .ok (.aload_n 0, 1) := by decide +kernel
theorem dX11_wash_42 : decode cX11_wash 42 = .ok (.bipush 64, 2) := by decide +kernel
theorem dX11_wash_44 : decode cX11_wash 44 = .ok (.iload 4, 2) := by decide +kernel
theorem dX11_wash_46 : decode cX11_wash 46 = .ok (.imul, 1) := by decide +kernel
theorem dX11_wash_47 : decode cX11_wash 47 = .ok (.iload 5, 2) := by decide +kernel
theorem dX11_wash_49 : decode cX11_wash 49 = .ok (.iadd, 1) := by decide +kernel
theorem dX11_wash_50 : decode cX11_wash 50 = .ok (.iconst 0, 1) := by decide +kernel
theorem dX11_wash_51 : decode cX11_wash 51 = .ok (.invokevirtual 86, 3) := by decide +kernel
theorem dX11_wash_54 : decode cX11_wash 54 = .ok (.iinc 5 1, 3) := by decide +kernel
theorem dX11_wash_57 : decode cX11_wash 57 = .ok (.goto (-33), 3) := by decide +kernel
theorem dX11_wash_60 : decode cX11_wash 60 = .ok (.iinc 4 1, 3) := by decide +kernel
theorem dX11_wash_63 : decode cX11_wash 63 = .ok (.goto (-58), 3) := by decide +kernel
theorem dX11_wash_66 : decode cX11_wash 66 = .ok (.aload_n 0, 1) := by decide +kernel
theorem dX11_wash_67 : decode cX11_wash 67 = .ok (.dup, 1) := by decide +kernel
theorem dX11_wash_68 : decode cX11_wash 68 = .ok (.getfield 62, 3) := by decide +kernel
theorem dX11_wash_71 : decode cX11_wash 71 = .ok (.iload_n 3, 1) := by decide +kernel
theorem dX11_wash_72 : decode cX11_wash 72 = .ok (.iadd, 1) := by decide +kernel
theorem dX11_wash_73 : decode cX11_wash 73 = .ok (.putfield 62, 3) := by decide +kernel
theorem dX11_wash_76 : decode cX11_wash 76 = .ok (.iload_n 3, 1) := by decide +kernel
theorem dX11_wash_77 : decode cX11_wash 77 = .ok (.ireturn, 1) := by decide +kernel
theorem dX11_forget_0 : decode cX11_forget 0 = .ok (.aload_n 0, 1) := by decide +kernel
theorem dX11_forget_1 : decode cX11_forget 1 = .ok (.getfield 37, 3) := by decide +kernel
theorem dX11_forget_4 : decode cX11_forget 4 = .ok (.iload_n 1, 1) := by decide +kernel
theorem dX11_forget_5 : decode cX11_forget 5 = .ok (.iconst 0, 1) := by decide +kernel
theorem dX11_forget_6 : decode cX11_forget 6 = .ok (.iastore, 1) := by decide +kernel
theorem dX11_forget_7 : decode cX11_forget 7 = .ok (.iconst 0, 1) := by decide +kernel
theorem dX11_forget_8 : decode cX11_forget 8 = .ok (.istore_n 2, 1) := by decide +kernel
theorem dX11_forget_9 : decode cX11_forget 9 = .ok (.iload_n 2, 1) := by decide +kernel
theorem dX11_forget_10 : decode cX11_forget 10 = .ok (.bipush 120, 2) := by decide +kernel
theorem dX11_forget_12 : decode cX11_forget 12 = .ok (.if_icmp .gt 21, 3) := by decide +kernel
theorem dX11_forget_15 : decode cX11_forget 15 = .ok (.aload_n 0, 1) := by decide +kernel
theorem dX11_forget_16 : decode cX11_forget 16 = .ok (.getfield 43, 3) := by decide +kernel
theorem dX11_forget_19 : decode cX11_forget 19 = .ok (.bipush 121, 2) := by decide +kernel
theorem dX11_forget_21 : decode cX11_forget 21 = .ok (.iload_n 1, 1) := by decide +kernel
theorem dX11_forget_22 : decode cX11_forget 22 = .ok (.imul, 1) := by decide +kernel
theorem dX11_forget_23 : decode cX11_forget 23 = .ok (.iload_n 2, 1) := by decide +kernel
theorem dX11_forget_24 : decode cX11_forget 24 = .ok (.iadd, 1) := by decide +kernel
theorem dX11_forget_25 : decode cX11_forget 25 = .ok (.iconst 0, 1) := by decide +kernel
theorem dX11_forget_26 : decode cX11_forget 26 = .ok (.iastore, 1) := by decide +kernel
theorem dX11_forget_27 : decode cX11_forget 27 = .ok (.iinc 2 1, 3) := by decide +kernel
theorem dX11_forget_30 : decode cX11_forget 30 = .ok (.goto (-21), 3) := by decide +kernel
theorem dX11_forget_33 : decode cX11_forget 33 = .ok (.return_, 1) := by decide +kernel
theorem dX11_go_0 : decode cX11_go 0 = .ok (.iconst 1, 1) := by decide +kernel
theorem dX11_go_1 : decode cX11_go 1 = .ok (.istore_n 3, 1) := by decide +kernel
theorem dX11_go_2 : decode cX11_go 2 = .ok (.iload_n 3, 1) := by decide +kernel
theorem dX11_go_3 : decode cX11_go 3 = .ok (.bipush 120, 2) := by decide +kernel
theorem dX11_go_5 : decode cX11_go 5 = .ok (.if_icmp .gt 74, 3) := by decide +kernel
theorem dX11_go_8 : decode cX11_go 8 = .ok (.bipush 121, 2) := by decide +kernel
theorem dX11_go_10 : decode cX11_go 10 = .ok (.iload_n 1, 1) := by decide +kernel
theorem dX11_go_11 : decode cX11_go 11 = .ok (.imul, 1) := by decide +kernel
theorem dX11_go_12 : decode cX11_go 12 = .ok (.iload_n 3, 1) := by decide +kernel
theorem dX11_go_13 : decode cX11_go 13 = .ok (.iadd, 1) := by decide +kernel
theorem dX11_go_14 : decode cX11_go 14 = .ok (.istore 4, 2) := by decide +kernel
theorem dX11_go_16 : decode cX11_go 16 = .ok (.aload_n 0, 1) := by decide +kernel
theorem dX11_go_17 : decode cX11_go 17 = .ok (.getfield 43, 3) := by decide +kernel
theorem dX11_go_20 : decode cX11_go 20 = .ok (.iload 4, 2) := by decide +kernel
theorem dX11_go_22 : decode cX11_go 22 = .ok (.aload_n 0, 1) := by decide +kernel
theorem dX11_go_23 : decode cX11_go 23 = .ok (.getfield 37, 3) := by decide +kernel
theorem dX11_go_26 : decode cX11_go 26 = .ok (.iload_n 1, 1) := by decide +kernel
theorem dX11_go_27 : decode cX11_go 27 = .ok (.iaload, 1) := by decide +kernel
theorem dX11_go_28 : decode cX11_go 28 = .ok (.iload_n 3, 1) := by decide +kernel
theorem dX11_go_29 : decode cX11_go 29 = .ok (.if_icmp .lt 42, 3) := by decide +kernel
theorem dX11_go_32 : decode cX11_go 32 = .ok (.aload_n 0, 1) := by decide +kernel
theorem dX11_go_33 : decode cX11_go 33 = .ok (.getfield 40, 3) := by decide +kernel
theorem dX11_go_36 : decode cX11_go 36 = .ok (.sipush 128, 3) := by decide +kernel
theorem dX11_go_39 : decode cX11_go 39 = .ok (.iload_n 1, 1) := by decide +kernel
theorem dX11_go_40 : decode cX11_go 40 = .ok (.imul, 1) := by decide +kernel
theorem dX11_go_41 : decode cX11_go 41 = .ok (.aload_n 0, 1) := by decide +kernel
theorem dX11_go_42 : decode cX11_go 42 = .ok (.getfield 37, 3) := by decide +kernel
theorem dX11_go_45 : decode cX11_go 45 = .ok (.iload_n 1, 1) := by decide +kernel
theorem dX11_go_46 : decode cX11_go 46 = .ok (.iaload, 1) := by decide +kernel
theorem dX11_go_47 : decode cX11_go 47 = .ok (.iload_n 3, 1) := by decide +kernel
theorem dX11_go_48 : decode cX11_go 48 = .ok (.isub, 1) := by decide +kernel
theorem dX11_go_49 : decode cX11_go 49 = .ok (.sipush 128, 3) := by decide +kernel
theorem dX11_go_52 : decode cX11_go 52 = .ok (.irem, 1) := by decide +kernel
theorem dX11_go_53 : decode cX11_go 53 = .ok (.iadd, 1) := by decide +kernel
theorem dX11_go_54 : decode cX11_go 54 = .ok (.iaload, 1) := by decide +kernel
theorem dX11_go_55 : decode cX11_go 55 = .ok (.iload_n 2, 1) := by decide +kernel
theorem dX11_go_56 : decode cX11_go 56 = .ok (.if_icmp .ne 15, 3) := by decide +kernel
theorem dX11_go_59 : decode cX11_go 59 = .ok (.aload_n 0, 1) := by decide +kernel
theorem dX11_go_60 : decode cX11_go 60 = .ok (.getfield 43, 3) := by decide +kernel
theorem dX11_go_63 : decode cX11_go 63 = .ok (.iload 4, 2) := by decide +kernel
theorem dX11_go_65 : decode cX11_go 65 = .ok (.iaload, 1) := by decide +kernel
theorem dX11_go_66 : decode cX11_go 66 = .ok (.iconst 1, 1) := by decide +kernel
theorem dX11_go_67 : decode cX11_go 67 = .ok (.iadd, 1) := by decide +kernel
theorem dX11_go_68 : decode cX11_go 68 = .ok (.goto 4, 3) := by decide +kernel
theorem dX11_go_71 : decode cX11_go 71 = .ok (.iconst 0, 1) := by decide +kernel
theorem dX11_go_72 : decode cX11_go 72 = .ok (.iastore, 1) := by decide +kernel
theorem dX11_go_73 : decode cX11_go 73 = .ok (.iinc 3 1, 3) := by decide +kernel
theorem dX11_go_76 : decode cX11_go 76 = .ok (.goto (-74), 3) := by decide +kernel
theorem dX11_go_79 : decode cX11_go 79 = .ok (.aload_n 0, 1) := by decide +kernel
theorem dX11_go_80 : decode cX11_go 80 = .ok (.getfield 40, 3) := by decide +kernel
theorem dX11_go_83 : decode cX11_go 83 = .ok (.sipush 128, 3) := by decide +kernel
theorem dX11_go_86 : decode cX11_go 86 = .ok (.iload_n 1, 1) := by decide +kernel
theorem dX11_go_87 : decode cX11_go 87 = .ok (.imul, 1) := by decide +kernel
theorem dX11_go_88 : decode cX11_go 88 = .ok (.aload_n 0, 1) := by decide +kernel
theorem dX11_go_89 : decode cX11_go 89 = .ok (.getfield 37, 3) := by decide +kernel
theorem dX11_go_92 : decode cX11_go 92 = .ok (.iload_n 1, 1) := by decide +kernel
theorem dX11_go_93 : decode cX11_go 93 = .ok (.iaload, 1) := by decide +kernel
theorem dX11_go_94 : decode cX11_go 94 = .ok (.sipush 128, 3) := by decide +kernel
theorem dX11_go_97 : decode cX11_go 97 = .ok (.irem, 1) := by decide +kernel
theorem dX11_go_98 : decode cX11_go 98 = .ok (.iadd, 1) := by decide +kernel
theorem dX11_go_99 : decode cX11_go 99 = .ok (.iload_n 2, 1) := by decide +kernel
theorem dX11_go_100 : decode cX11_go 100 = .ok (.iastore, 1) := by decide +kernel
theorem dX11_go_101 : decode cX11_go 101 = .ok (.aload_n 0, 1) := by decide +kernel
theorem dX11_go_102 : decode cX11_go 102 = .ok (.getfield 37, 3) := by decide +kernel
theorem dX11_go_105 : decode cX11_go 105 = .ok (.iload_n 1, 1) := by decide +kernel
theorem dX11_go_106 : decode cX11_go 106 = .ok (.dup2, 1) := by decide +kernel
theorem dX11_go_107 : decode cX11_go 107 = .ok (.iaload, 1) := by decide +kernel
theorem dX11_go_108 : decode cX11_go 108 = .ok (.iconst 1, 1) := by decide +kernel
theorem dX11_go_109 : decode cX11_go 109 = .ok (.iadd, 1) := by decide +kernel
theorem dX11_go_110 : decode cX11_go 110 = .ok (.iastore, 1) := by decide +kernel
theorem dX11_go_111 : decode cX11_go 111 = .ok (.aload_n 0, 1) := by decide +kernel
theorem dX11_go_112 : decode cX11_go 112 = .ok (.getfield 34, 3) := by decide +kernel
theorem dX11_go_115 : decode cX11_go 115 = .ok (.iload_n 1, 1) := by decide +kernel
theorem dX11_go_116 : decode cX11_go 116 = .ok (.dup2, 1) := by decide +kernel
theorem dX11_go_117 : decode cX11_go 117 = .ok (.iaload, 1) := by decide +kernel
theorem dX11_go_118 : decode cX11_go 118 = .ok (.iconst 1, 1) := by decide +kernel
theorem dX11_go_119 : decode cX11_go 119 = .ok (.iadd, 1) := by decide +kernel
theorem dX11_go_120 : decode cX11_go 120 = .ok (.iastore, 1) := by decide +kernel
theorem dX11_go_121 : decode cX11_go 121 = .ok (.aload_n 0, 1) := by decide +kernel
theorem dX11_go_122 : decode cX11_go 122 = .ok (.getfield 22, 3) := by decide +kernel
theorem dX11_go_125 : decode cX11_go 125 = .ok (.iload_n 1, 1) := by decide +kernel
theorem dX11_go_126 : decode cX11_go 126 = .ok (.aload_n 0, 1) := by decide +kernel
theorem dX11_go_127 : decode cX11_go 127 = .ok (.getfield 22, 3) := by decide +kernel
theorem dX11_go_130 : decode cX11_go 130 = .ok (.iload_n 1, 1) := by decide +kernel
theorem dX11_go_131 : decode cX11_go 131 = .ok (.iaload, 1) := by decide +kernel
theorem dX11_go_132 : decode cX11_go 132 = .ok (.bipush 64, 2) := by decide +kernel
theorem dX11_go_134 : decode cX11_go 134 = .ok (.iadd, 1) := by decide +kernel
theorem dX11_go_135 : decode cX11_go 135 = .ok (.iload_n 2, 1) := by decide +kernel
theorem dX11_go_136 : decode cX11_go 136 = .ok (.iconst 1, 1) := by decide +kernel
theorem dX11_go_137 : decode cX11_go 137 = .ok (.if_icmp .ne 7, 3) := by decide +kernel
theorem dX11_go_140 : decode cX11_go 140 = .ok (.iconst 1, 1) := by decide +kernel
theorem dX11_go_141 : decode cX11_go 141 = .ok (.goto 13, 3) := by decide +kernel
theorem dX11_go_144 : decode cX11_go 144 = .ok (.iload_n 2, 1) := by decide +kernel
theorem dX11_go_145 : decode cX11_go 145 = .ok (.iconst 3, 1) := by decide +kernel
theorem dX11_go_146 : decode cX11_go 146 = .ok (.if_icmp .ne 7, 3) := by decide +kernel
theorem dX11_go_149 : decode cX11_go 149 = .ok (.iconst (-1), 1) := by decide +kernel
theorem dX11_go_150 : decode cX11_go 150 = .ok (.goto 4, 3) := by decide +kernel
theorem dX11_go_153 : decode cX11_go 153 = .ok (.iconst 0, 1) := by decide +kernel
theorem dX11_go_154 : decode cX11_go 154 = .ok (.iadd, 1) := by decide +kernel
theorem dX11_go_155 : decode cX11_go 155 = .ok (.bipush 64, 2) := by decide +kernel
theorem dX11_go_157 : decode cX11_go 157 = .ok (.irem, 1) := by decide +kernel
theorem dX11_go_158 : decode cX11_go 158 = .ok (.iastore, 1) := by decide +kernel
theorem dX11_go_159 : decode cX11_go 159 = .ok (.aload_n 0, 1) := by decide +kernel
theorem dX11_go_160 : decode cX11_go 160 = .ok (.getfield 25, 3) := by decide +kernel
theorem dX11_go_163 : decode cX11_go 163 = .ok (.iload_n 1, 1) := by decide +kernel
theorem dX11_go_164 : decode cX11_go 164 = .ok (.aload_n 0, 1) := by decide +kernel
theorem dX11_go_165 : decode cX11_go 165 = .ok (.getfield 25, 3) := by decide +kernel
theorem dX11_go_168 : decode cX11_go 168 = .ok (.iload_n 1, 1) := by decide +kernel
theorem dX11_go_169 : decode cX11_go 169 = .ok (.iaload, 1) := by decide +kernel
theorem dX11_go_170 : decode cX11_go 170 = .ok (.bipush 64, 2) := by decide +kernel
theorem dX11_go_172 : decode cX11_go 172 = .ok (.iadd, 1) := by decide +kernel
theorem dX11_go_173 : decode cX11_go 173 = .ok (.iload_n 2, 1) := by decide +kernel
theorem dX11_go_174 : decode cX11_go 174 = .ok (.iconst 2, 1) := by decide +kernel
theorem dX11_go_175 : decode cX11_go 175 = .ok (.if_icmp .ne 7, 3) := by decide +kernel
theorem dX11_go_178 : decode cX11_go 178 = .ok (.iconst 1, 1) := by decide +kernel
theorem dX11_go_179 : decode cX11_go 179 = .ok (.goto 12, 3) := by decide +kernel
theorem dX11_go_182 : decode cX11_go 182 = .ok (.iload_n 2, 1) := by decide +kernel
theorem dX11_go_183 : decode cX11_go 183 = .ok (.ifCond .ne 7, 3) := by decide +kernel
theorem dX11_go_186 : decode cX11_go 186 = .ok (.iconst (-1), 1) := by decide +kernel
theorem dX11_go_187 : decode cX11_go 187 = .ok (.goto 4, 3) := by decide +kernel
theorem dX11_go_190 : decode cX11_go 190 = .ok (.iconst 0, 1) := by decide +kernel
theorem dX11_go_191 : decode cX11_go 191 = .ok (.iadd, 1) := by decide +kernel
theorem dX11_go_192 : decode cX11_go 192 = .ok (.bipush 64, 2) := by decide +kernel
theorem dX11_go_194 : decode cX11_go 194 = .ok (.irem, 1) := by decide +kernel
theorem dX11_go_195 : decode cX11_go 195 = .ok (.iastore, 1) := by decide +kernel
theorem dX11_go_196 : decode cX11_go 196 = .ok (.return_, 1) := by decide +kernel
theorem dX11_led_0 : decode cX11_led 0 = .ok (.iconst 0, 1) := by decide +kernel
theorem dX11_led_1 : decode cX11_led 1 = .ok (.istore 4, 2) := by decide +kernel
theorem dX11_led_3 : decode cX11_led 3 = .ok (.iconst 1, 1) := by decide +kernel
theorem dX11_led_4 : decode cX11_led 4 = .ok (.istore 5, 2) := by decide +kernel
theorem dX11_led_6 : decode cX11_led 6 = .ok (.iload 5, 2) := by decide +kernel
theorem dX11_led_8 : decode cX11_led 8 = .ok (.iload_n 2, 1) := by decide +kernel
theorem dX11_led_9 : decode cX11_led 9 = .ok (.if_icmp .gt 65, 3) := by decide +kernel
theorem dX11_led_12 : decode cX11_led 12 = .ok (.aload_n 0, 1) := by decide +kernel
theorem dX11_led_13 : decode cX11_led 13 = .ok (.getfield 40, 3) := by decide +kernel
theorem dX11_led_16 : decode cX11_led 16 = .ok (.sipush 128, 3) := by decide +kernel
theorem dX11_led_19 : decode cX11_led 19 = .ok (.iload_n 1, 1) := by decide +kernel
theorem dX11_led_20 : decode cX11_led 20 = .ok (.imul, 1) := by decide +kernel
theorem dX11_led_21 : decode cX11_led 21 = .ok (.aload_n 0, 1) := by decide +kernel
theorem dX11_led_22 : decode cX11_led 22 = .ok (.getfield 37, 3) := by decide +kernel
theorem dX11_led_25 : decode cX11_led 25 = .ok (.iload_n 1, 1) := by decide +kernel
theorem dX11_led_26 : decode cX11_led 26 = .ok (.iaload, 1) := by decide +kernel
theorem dX11_led_27 : decode cX11_led 27 = .ok (.iload 5, 2) := by decide +kernel
theorem dX11_led_29 : decode cX11_led 29 = .ok (.isub, 1) := by decide +kernel
theorem dX11_led_30 : decode cX11_led 30 = .ok (.sipush 128, 3) := by decide +kernel
theorem dX11_led_33 : decode cX11_led 33 = .ok (.irem, 1) := by decide +kernel
theorem dX11_led_34 : decode cX11_led 34 = .ok (.iadd, 1) := by decide +kernel
theorem dX11_led_35 : decode cX11_led 35 = .ok (.iaload, 1) := by decide +kernel
theorem dX11_led_36 : decode cX11_led 36 = .ok (.istore 6, 2) := by decide +kernel
theorem dX11_led_38 : decode cX11_led 38 = .ok (.iload 4, 2) := by decide +kernel
theorem dX11_led_40 : decode cX11_led 40 = .ok (.iload 6, 2) := by decide +kernel
theorem dX11_led_42 : decode cX11_led 42 = .ok (.iload_n 3, 1) := by decide +kernel
theorem dX11_led_43 : decode cX11_led 43 = .ok (.if_icmp .ne 7, 3) := by decide +kernel
theorem dX11_led_46 : decode cX11_led 46 = .ok (.iconst 1, 1) := by decide +kernel
theorem dX11_led_47 : decode cX11_led 47 = .ok (.goto 18, 3) := by decide +kernel
theorem dX11_led_50 : decode cX11_led 50 = .ok (.iload 6, 2) := by decide +kernel
theorem dX11_led_52 : decode cX11_led 52 = .ok (.iload_n 3, 1) := by decide +kernel
theorem dX11_led_53 : decode cX11_led 53 = .ok (.iconst 2, 1) := by decide +kernel
theorem dX11_led_54 : decode cX11_led 54 = .ok (.iadd, 1) := by decide +kernel
theorem dX11_led_55 : decode cX11_led 55 = .ok (.iconst 4, 1) := by decide +kernel
theorem dX11_led_56 : decode cX11_led 56 = .ok (.irem, 1) := by decide +kernel
theorem dX11_led_57 : decode cX11_led 57 = .ok (.if_icmp .ne 7, 3) := by decide +kernel
theorem dX11_led_60 : decode cX11_led 60 = .ok (.iconst (-1), 1) := by decide +kernel
theorem dX11_led_61 : decode cX11_led 61 = .ok (.goto 4, 3) := by decide +kernel
theorem dX11_led_64 : decode cX11_led 64 = .ok (.iconst 0, 1) := by decide +kernel
theorem dX11_led_65 : decode cX11_led 65 = .ok (.iadd, 1) := by decide +kernel
theorem dX11_led_66 : decode cX11_led 66 = .ok (.istore 4, 2) := by decide +kernel
theorem dX11_led_68 : decode cX11_led 68 = .ok (.iinc 5 1, 3) := by decide +kernel
theorem dX11_led_71 : decode cX11_led 71 = .ok (.goto (-65), 3) := by decide +kernel
theorem dX11_led_74 : decode cX11_led 74 = .ok (.iload 4, 2) := by decide +kernel
theorem dX11_led_76 : decode cX11_led 76 = .ok (.ireturn, 1) := by decide +kernel
set_option maxRecDepth 20000 in
theorem ggX11_period_X11_led : GoodIn wsX11_period wsX11_led := goodIn_r _ [6, 7, 8, 9, 10, 11, 12, 13, 14, 15, 16, 17, 18, 19, 20, 21, 22, 23, 24] (by decide +kernel) (by decide +kernel)
set_option maxRecDepth 20000 in
theorem gX11_period_X11_led : GoodIn wsX11_period (wsV RX11 90 RX11 yX11_led wsX11_led) := goodIn_app (goodIn_of _ (by decide +kernel)) ggX11_period_X11_led
theorem dX11_period_0 : decode cX11_period 0 = .ok (.iconst 1, 1) := by decide +kernel
theorem dX11_period_1 : decode cX11_period 1 = .ok (.istore_n 2, 1) := by decide +kernel
theorem dX11_period_2 : decode cX11_period 2 = .ok (.iload_n 2, 1) := by decide +kernel
theorem dX11_period_3 : decode cX11_period 3 = .ok (.bipush 120, 2) := by decide +kernel
theorem dX11_period_5 : decode cX11_period 5 = .ok (.if_icmp .gt 48, 3) := by decide +kernel
theorem dX11_period_8 : decode cX11_period 8 = .ok (.aload_n 0, 1) := by decide +kernel
theorem dX11_period_9 : decode cX11_period 9 = .ok (.getfield 43, 3) := by decide +kernel
theorem dX11_period_12 : decode cX11_period 12 = .ok (.bipush 121, 2) := by decide +kernel
theorem dX11_period_14 : decode cX11_period 14 = .ok (.iload_n 1, 1) := by decide +kernel
theorem dX11_period_15 : decode cX11_period 15 = .ok (.imul, 1) := by decide +kernel
theorem dX11_period_16 : decode cX11_period 16 = .ok (.iload_n 2, 1) := by decide +kernel
theorem dX11_period_17 : decode cX11_period 17 = .ok (.iadd, 1) := by decide +kernel
theorem dX11_period_18 : decode cX11_period 18 = .ok (.iaload, 1) := by decide +kernel
theorem dX11_period_19 : decode cX11_period 19 = .ok (.iconst 2, 1) := by decide +kernel
theorem dX11_period_20 : decode cX11_period 20 = .ok (.iload_n 2, 1) := by decide +kernel
theorem dX11_period_21 : decode cX11_period 21 = .ok (.imul, 1) := by decide +kernel
theorem dX11_period_22 : decode cX11_period 22 = .ok (.if_icmp .lt 25, 3) := by decide +kernel
theorem dX11_period_25 : decode cX11_period 25 = .ok (.aload_n 0, 1) := by decide +kernel
theorem dX11_period_26 : decode cX11_period 26 = .ok (.iload_n 1, 1) := by decide +kernel
theorem dX11_period_27 : decode cX11_period 27 = .ok (.iload_n 2, 1) := by decide +kernel
theorem dX11_period_28 : decode cX11_period 28 = .ok (.iconst 1, 1) := by decide +kernel
theorem dX11_period_29 : decode cX11_period 29 = .ok (.invokevirtual 90, 3) := by decide +kernel
theorem dX11_period_32 : decode cX11_period 32 = .ok (.ifCond .ne 13, 3) := by decide +kernel
theorem dX11_period_35 : decode cX11_period 35 = .ok (.aload_n 0, 1) := by decide +kernel
theorem dX11_period_36 : decode cX11_period 36 = .ok (.iload_n 1, 1) := by decide +kernel
theorem dX11_period_37 : decode cX11_period 37 = .ok (.iload_n 2, 1) := by decide +kernel
theorem dX11_period_38 : decode cX11_period 38 = .ok (.iconst 2, 1) := by decide +kernel
theorem dX11_period_39 : decode cX11_period 39 = .ok (.invokevirtual 90, 3) := by decide +kernel
theorem dX11_period_42 : decode cX11_period 42 = .ok (.ifCond .eq 5, 3) := by decide +kernel
theorem dX11_period_45 : decode cX11_period 45 = .ok (.iload_n 2, 1) := by decide +kernel
theorem dX11_period_46 : decode cX11_period 46 = .ok (.ireturn, 1) := by decide +kernel
theorem dX11_period_47 : decode cX11_period 47 = .ok (.iinc 2 1, 3) := by decide +kernel
theorem dX11_period_50 : decode cX11_period 50 = .ok (.goto (-48), 3) := by decide +kernel
theorem dX11_period_53 : decode cX11_period 53 = .ok (.iconst 0, 1) := by decide +kernel
theorem dX11_period_54 : decode cX11_period 54 = .ok (.ireturn, 1) := by decide +kernel
set_option maxRecDepth 20000 in
theorem ggX11_walk_X11_paint : GoodIn wsX11_walk wsX11_paint := goodIn_r _ [10, 11, 4, 20, 21, 22, 23, 24, 25, 26, 27, 28, 29, 30, 31, 32, 33, 34, 35] (by decide +kernel) (by decide +kernel)
set_option maxRecDepth 20000 in
theorem gX11_walk_X11_paint : GoodIn wsX11_walk (wsV RX11 86 RX11 yX11_paint wsX11_paint) := goodIn_app (goodIn_of _ (by decide +kernel)) ggX11_walk_X11_paint
set_option maxRecDepth 20000 in
theorem ggX11_walk_X11_go : GoodIn wsX11_walk wsX11_go := goodIn_r _ [15, 16, 17, 18, 19, 3, 2, 20, 21, 22, 23, 24, 25, 26, 27, 28, 29, 30, 31, 32, 33, 34, 35] (by decide +kernel) (by decide +kernel)
set_option maxRecDepth 20000 in
theorem gX11_walk_X11_go : GoodIn wsX11_walk (wsV RX11 103 RX11 yX11_go wsX11_go) := goodIn_app (goodIn_of _ (by decide +kernel)) ggX11_walk_X11_go
theorem dX11_walk_0 : decode cX11_walk 0 = .ok (.aload_n 0, 1) := by decide +kernel
theorem dX11_walk_1 : decode cX11_walk 1 = .ok (.getfield 3, 3) := by decide +kernel
theorem dX11_walk_4 : decode cX11_walk 4 = .ok (.getfield 72, 3) := by decide +kernel
theorem dX11_walk_7 : decode cX11_walk 7 = .ok (.getfield 94, 3) := by decide +kernel
theorem dX11_walk_10 : decode cX11_walk 10 = .ok (.iload_n 1, 1) := by decide +kernel
theorem dX11_walk_11 : decode cX11_walk 11 = .ok (.iaload, 1) := by decide +kernel
theorem dX11_walk_12 : decode cX11_walk 12 = .ok (.istore_n 2, 1) := by decide +kernel
theorem dX11_walk_13 : decode cX11_walk 13 = .ok (.bipush 64, 2) := by decide +kernel
theorem dX11_walk_15 : decode cX11_walk 15 = .ok (.aload_n 0, 1) := by decide +kernel
theorem dX11_walk_16 : decode cX11_walk 16 = .ok (.getfield 25, 3) := by decide +kernel
theorem dX11_walk_19 : decode cX11_walk 19 = .ok (.iload_n 1, 1) := by decide +kernel
theorem dX11_walk_20 : decode cX11_walk 20 = .ok (.iaload, 1) := by decide +kernel
theorem dX11_walk_21 : decode cX11_walk 21 = .ok (.imul, 1) := by decide +kernel
theorem dX11_walk_22 : decode cX11_walk 22 = .ok (.aload_n 0, 1) := by decide +kernel
theorem dX11_walk_23 : decode cX11_walk 23 = .ok (.getfield 22, 3) := by decide +kernel
theorem dX11_walk_26 : decode cX11_walk 26 = .ok (.iload_n 1, 1) := by decide +kernel
theorem dX11_walk_27 : decode cX11_walk 27 = .ok (.iaload, 1) := by decide +kernel
theorem dX11_walk_28 : decode cX11_walk 28 = .ok (.iadd, 1) := by decide +kernel
theorem dX11_walk_29 : decode cX11_walk 29 = .ok (.istore_n 3, 1) := by decide +kernel
theorem dX11_walk_30 : decode cX11_walk 30 = .ok (.aload_n 0, 1) := by decide +kernel
theorem dX11_walk_31 : decode cX11_walk 31 = .ok (.getfield 15, 3) := by decide +kernel
theorem dX11_walk_34 : decode cX11_walk 34 = .ok (.iload_n 3, 1) := by decide +kernel
theorem dX11_walk_35 : decode cX11_walk 35 = .ok (.iaload, 1) := by decide +kernel
theorem dX11_walk_36 : decode cX11_walk 36 = .ok (.aload_n 0, 1) := by decide +kernel
theorem dX11_walk_37 : decode cX11_walk 37 = .ok (.getfield 3, 3) := by decide +kernel
theorem dX11_walk_40 : decode cX11_walk 40 = .ok (.getfield 72, 3) := by decide +kernel
theorem dX11_walk_43 : decode cX11_walk 43 = .ok (.getfield 97, 3) := by decide +kernel
theorem dX11_walk_46 : decode cX11_walk 46 = .ok (.iload_n 2, 1) := by decide +kernel
theorem dX11_walk_47 : decode cX11_walk 47 = .ok (.iaload, 1) := by decide +kernel
theorem dX11_walk_48 : decode cX11_walk 48 = .ok (.irem, 1) := by decide +kernel
theorem dX11_walk_49 : decode cX11_walk 49 = .ok (.istore 4, 2) := by decide +kernel
theorem dX11_walk_51 : decode cX11_walk 51 = .ok (.aload_n 0, 1) := by decide +kernel
theorem dX11_walk_52 : decode cX11_walk 52 = .ok (.getfield 3, 3) := by decide +kernel
theorem dX11_walk_55 : decode cX11_walk 55 = .ok (.getfield 72, 3) := by decide +kernel
theorem dX11_walk_58 : decode cX11_walk 58 = .ok (.getfield 100, 3) := by decide +kernel
theorem dX11_walk_61 : decode cX11_walk 61 = .ok (.bipush 6, 2) := by decide +kernel
theorem dX11_walk_63 : decode cX11_walk 63 = .ok (.iload_n 2, 1) := by decide +kernel
theorem dX11_walk_64 : decode cX11_walk 64 = .ok (.imul, 1) := by decide +kernel
theorem dX11_walk_65 : decode cX11_walk 65 = .ok (.iload 4, 2) := by decide +kernel
theorem dX11_walk_67 : decode cX11_walk 67 = .ok (.iadd, 1) := by decide +kernel
theorem dX11_walk_68 : decode cX11_walk 68 = .ok (.iaload, 1) := by decide +kernel
theorem dX11_walk_69 : decode cX11_walk 69 = .ok (.istore 5, 2) := by decide +kernel
theorem dX11_walk_71 : decode cX11_walk 71 = .ok (.aload_n 0, 1) := by decide +kernel
theorem dX11_walk_72 : decode cX11_walk 72 = .ok (.getfield 28, 3) := by decide +kernel
theorem dX11_walk_75 : decode cX11_walk 75 = .ok (.iload_n 1, 1) := by decide +kernel
theorem dX11_walk_76 : decode cX11_walk 76 = .ok (.aload_n 0, 1) := by decide +kernel
theorem dX11_walk_77 : decode cX11_walk 77 = .ok (.getfield 28, 3) := by decide +kernel
theorem dX11_walk_80 : decode cX11_walk 80 = .ok (.iload_n 1, 1) := by decide +kernel
theorem dX11_walk_81 : decode cX11_walk 81 = .ok (.iaload, 1) := by decide +kernel
theorem dX11_walk_82 : decode cX11_walk 82 = .ok (.iload 5, 2) := by decide +kernel
theorem dX11_walk_84 : decode cX11_walk 84 = .ok (.ifCond .ne 7, 3) := by decide +kernel
theorem dX11_walk_87 : decode cX11_walk 87 = .ok (.iconst 3, 1) := by decide +kernel
theorem dX11_walk_88 : decode cX11_walk 88 = .ok (.goto 24, 3) := by decide +kernel
theorem dX11_walk_91 : decode cX11_walk 91 = .ok (.iload 5, 2) := by decide +kernel
theorem dX11_walk_93 : decode cX11_walk 93 = .ok (.iconst 1, 1) := by decide +kernel
theorem dX11_walk_94 : decode cX11_walk 94 = .ok (.if_icmp .ne 7, 3) := by decide +kernel
theorem dX11_walk_97 : decode cX11_walk 97 = .ok (.iconst 1, 1) := by decide +kernel
theorem dX11_walk_98 : decode cX11_walk 98 = .ok (.goto 14, 3) := by decide +kernel
theorem dX11_walk_101 : decode cX11_walk 101 = .ok (.iload 5, 2) := by decide +kernel
theorem dX11_walk_103 : decode cX11_walk 103 = .ok (.iconst 2, 1) := by decide +kernel
theorem dX11_walk_104 : decode cX11_walk 104 = .ok (.if_icmp .ne 7, 3) := by decide +kernel
theorem dX11_walk_107 : decode cX11_walk 107 = .ok (.iconst 0, 1) := by decide +kernel
theorem dX11_walk_108 : decode cX11_walk 108 = .ok (.goto 4, 3) := by decide +kernel
theorem dX11_walk_111 : decode cX11_walk 111 = .ok (.iconst 2, 1) := by decide +kernel
theorem dX11_walk_112 : decode cX11_walk 112 = .ok (.iadd, 1) := by decide +kernel
theorem dX11_walk_113 : decode cX11_walk 113 = .ok (.iconst 4, 1) := by decide +kernel
theorem dX11_walk_114 : decode cX11_walk 114 = .ok (.irem, 1) := by decide +kernel
theorem dX11_walk_115 : decode cX11_walk 115 = .ok (.iastore, 1) := by decide +kernel
theorem dX11_walk_116 : decode cX11_walk 116 = .ok (.aload_n 0, 1) := by decide +kernel
theorem dX11_walk_117 : decode cX11_walk 117 = .ok (.iload_n 3, 1) := by decide +kernel
theorem dX11_walk_118 : decode cX11_walk 118 = .ok (.iload 4, 2) := by decide +kernel
theorem dX11_walk_120 : decode cX11_walk 120 = .ok (.iconst 1, 1) := by decide +kernel
theorem dX11_walk_121 : decode cX11_walk 121 = .ok (.iadd, 1) := by decide +kernel
theorem dX11_walk_122 : decode cX11_walk 122 = .ok (.aload_n 0, 1) := by decide +kernel
theorem dX11_walk_123 : decode cX11_walk 123 = .ok (.getfield 3, 3) := by decide +kernel
theorem dX11_walk_126 : decode cX11_walk 126 = .ok (.getfield 72, 3) := by decide +kernel
theorem dX11_walk_129 : decode cX11_walk 129 = .ok (.getfield 97, 3) := by decide +kernel
theorem dX11_walk_132 : decode cX11_walk 132 = .ok (.iload_n 2, 1) := by decide +kernel
theorem dX11_walk_133 : decode cX11_walk 133 = .ok (.iaload, 1) := by decide +kernel
theorem dX11_walk_134 : decode cX11_walk 134 = .ok (.irem, 1) := by decide +kernel
theorem dX11_walk_135 : decode cX11_walk 135 = .ok (.invokevirtual 86, 3) := by decide +kernel
theorem dX11_walk_138 : decode cX11_walk 138 = .ok (.aload_n 0, 1) := by decide +kernel
theorem dX11_walk_139 : decode cX11_walk 139 = .ok (.iload_n 1, 1) := by decide +kernel
theorem dX11_walk_140 : decode cX11_walk 140 = .ok (.aload_n 0, 1) := by decide +kernel
theorem dX11_walk_141 : decode cX11_walk 141 = .ok (.getfield 28, 3) := by decide +kernel
theorem dX11_walk_144 : decode cX11_walk 144 = .ok (.iload_n 1, 1) := by decide +kernel
theorem dX11_walk_145 : decode cX11_walk 145 = .ok (.iaload, 1) := by decide +kernel
theorem dX11_walk_146 : decode cX11_walk 146 = .ok (.invokevirtual 103, 3) := by decide +kernel
theorem dX11_walk_149 : decode cX11_walk 149 = .ok (.return_, 1) := by decide +kernel
theorem dX11_isAt_0 : decode cX11_isAt 0 = .ok (.aload_n 0, 1) := by decide +kernel
theorem dX11_isAt_1 : decode cX11_isAt 1 = .ok (.getfield 22, 3) := by decide +kernel
theorem dX11_isAt_4 : decode cX11_isAt 4 = .ok (.iload_n 1, 1) := by decide +kernel
theorem dX11_isAt_5 : decode cX11_isAt 5 = .ok (.iaload, 1) := by decide +kernel
theorem dX11_isAt_6 : decode cX11_isAt 6 = .ok (.aload_n 0, 1) := by decide +kernel
theorem dX11_isAt_7 : decode cX11_isAt 7 = .ok (.getfield 22, 3) := by decide +kernel
theorem dX11_isAt_10 : decode cX11_isAt 10 = .ok (.iload_n 2, 1) := by decide +kernel
theorem dX11_isAt_11 : decode cX11_isAt 11 = .ok (.iaload, 1) := by decide +kernel
theorem dX11_isAt_12 : decode cX11_isAt 12 = .ok (.if_icmp .ne 22, 3) := by decide +kernel
theorem dX11_isAt_15 : decode cX11_isAt 15 = .ok (.aload_n 0, 1) := by decide +kernel
theorem dX11_isAt_16 : decode cX11_isAt 16 = .ok (.getfield 25, 3) := by decide +kernel
theorem dX11_isAt_19 : decode cX11_isAt 19 = .ok (.iload_n 1, 1) := by decide +kernel
theorem dX11_isAt_20 : decode cX11_isAt 20 = .ok (.iaload, 1) := by decide +kernel
theorem dX11_isAt_21 : decode cX11_isAt 21 = .ok (.aload_n 0, 1) := by decide +kernel
theorem dX11_isAt_22 : decode cX11_isAt 22 = .ok (.getfield 25, 3) := by decide +kernel
theorem dX11_isAt_25 : decode cX11_isAt 25 = .ok (.iload_n 2, 1) := by decide +kernel
theorem dX11_isAt_26 : decode cX11_isAt 26 = .ok (.iaload, 1) := by decide +kernel
theorem dX11_isAt_27 : decode cX11_isAt 27 = .ok (.if_icmp .ne 7, 3) := by decide +kernel
theorem dX11_isAt_30 : decode cX11_isAt 30 = .ok (.iconst 1, 1) := by decide +kernel
theorem dX11_isAt_31 : decode cX11_isAt 31 = .ok (.goto 4, 3) := by decide +kernel
theorem dX11_isAt_34 : decode cX11_isAt 34 = .ok (.iconst 0, 1) := by decide +kernel
theorem dX11_isAt_35 : decode cX11_isAt 35 = .ok (.ireturn, 1) := by decide +kernel
set_option maxRecDepth 20000 in
theorem ggX11_meets_X11_isAt : GoodIn wsX11_meets wsX11_isAt := goodIn_r _ [6, 7, 8, 9, 10, 11, 12, 13, 14, 15, 16, 17, 18, 19, 20, 21, 22, 23, 24] (by decide +kernel) (by decide +kernel)
set_option maxRecDepth 20000 in
theorem gX11_meets_X11_isAt : GoodIn wsX11_meets (wsV RX11 109 RX11 yX11_isAt wsX11_isAt) := goodIn_app (goodIn_of _ (by decide +kernel)) ggX11_meets_X11_isAt
theorem dX11_meets_0 : decode cX11_meets 0 = .ok (.iconst 0, 1) := by decide +kernel
theorem dX11_meets_1 : decode cX11_meets 1 = .ok (.istore_n 2, 1) := by decide +kernel
theorem dX11_meets_2 : decode cX11_meets 2 = .ok (.iload_n 2, 1) := by decide +kernel
theorem dX11_meets_3 : decode cX11_meets 3 = .ok (.aload_n 0, 1) := by decide +kernel
theorem dX11_meets_4 : decode cX11_meets 4 = .ok (.getfield 3, 3) := by decide +kernel
theorem dX11_meets_7 : decode cX11_meets 7 = .ok (.getfield 72, 3) := by decide +kernel
theorem dX11_meets_10 : decode cX11_meets 10 = .ok (.getfield 106, 3) := by decide +kernel
theorem dX11_meets_13 : decode cX11_meets 13 = .ok (.if_icmp .ge 25, 3) := by decide +kernel
theorem dX11_meets_16 : decode cX11_meets 16 = .ok (.iload_n 2, 1) := by decide +kernel
theorem dX11_meets_17 : decode cX11_meets 17 = .ok (.iload_n 1, 1) := by decide +kernel
theorem dX11_meets_18 : decode cX11_meets 18 = .ok (.if_icmp .eq 14, 3) := by decide +kernel
theorem dX11_meets_21 : decode cX11_meets 21 = .ok (.aload_n 0, 1) := by decide +kernel
theorem dX11_meets_22 : decode cX11_meets 22 = .ok (.iload_n 1, 1) := by decide +kernel
theorem dX11_meets_23 : decode cX11_meets 23 = .ok (.iload_n 2, 1) := by decide +kernel
theorem dX11_meets_24 : decode cX11_meets 24 = .ok (.invokevirtual 109, 3) := by decide +kernel
theorem dX11_meets_27 : decode cX11_meets 27 = .ok (.ifCond .eq 5, 3) := by decide +kernel
theorem dX11_meets_30 : decode cX11_meets 30 = .ok (.iconst 1, 1) := by decide +kernel
theorem dX11_meets_31 : decode cX11_meets 31 = .ok (.ireturn, 1) := by decide +kernel
theorem dX11_meets_32 : decode cX11_meets 32 = .ok (.iinc 2 1, 3) := by decide +kernel
theorem dX11_meets_35 : decode cX11_meets 35 = .ok (.goto (-33), 3) := by decide +kernel
theorem dX11_meets_38 : decode cX11_meets 38 = .ok (.iconst 0, 1) := by decide +kernel
theorem dX11_meets_39 : decode cX11_meets 39 = .ok (.ireturn, 1) := by decide +kernel
set_option maxRecDepth 20000 in
theorem ggX11_orders_X11_wash : GoodIn wsX11_orders wsX11_wash := goodIn_r _ [8, 9, 10, 11, 12, 13, 7, 14, 15, 22, 23, 24, 25, 26, 27, 28, 29, 30, 31, 32, 33, 34, 35, 36, 37] (by decide +kernel) (by decide +kernel)
set_option maxRecDepth 20000 in
theorem gX11_orders_X11_wash : GoodIn wsX11_orders (wsV RX11 122 RX11 yX11_wash wsX11_wash) := goodIn_app (goodIn_of _ (by decide +kernel)) ggX11_orders_X11_wash
set_option maxRecDepth 20000 in
theorem ggX11_orders_X11_forget : GoodIn wsX11_orders wsX11_forget := goodIn_r _ [19, 20, 21, 22, 23, 24, 25, 26, 27, 28, 29, 30, 31, 32, 33, 34, 35, 36, 37] (by decide +kernel) (by decide +kernel)
set_option maxRecDepth 20000 in
theorem gX11_orders_X11_forget : GoodIn wsX11_orders (wsV RX11 82 RX11 yX11_forget wsX11_forget) := goodIn_app (goodIn_of _ (by decide +kernel)) ggX11_orders_X11_forget
theorem dX11_orders_0 : decode cX11_orders 0 = .ok (.aload_n 0, 1) := by decide +kernel
theorem dX11_orders_1 : decode cX11_orders 1 = .ok (.getfield 3, 3) := by decide +kernel
theorem dX11_orders_4 : decode cX11_orders 4 = .ok (.getfield 72, 3) := by decide +kernel
theorem dX11_orders_7 : decode cX11_orders 7 = .ok (.getfield 113, 3) := by decide +kernel
theorem dX11_orders_10 : decode cX11_orders 10 = .ok (.iload_n 1, 1) := by decide +kernel
theorem dX11_orders_11 : decode cX11_orders 11 = .ok (.iaload, 1) := by decide +kernel
theorem dX11_orders_12 : decode cX11_orders 12 = .ok (.istore_n 2, 1) := by decide +kernel
theorem dX11_orders_13 : decode cX11_orders 13 = .ok (.aload_n 0, 1) := by decide +kernel
theorem dX11_orders_14 : decode cX11_orders 14 = .ok (.getfield 3, 3) := by decide +kernel
theorem dX11_orders_17 : decode cX11_orders 17 = .ok (.getfield 72, 3) := by decide +kernel
theorem dX11_orders_20 : decode cX11_orders 20 = .ok (.getfield 116, 3) := by decide +kernel
theorem dX11_orders_23 : decode cX11_orders 23 = .ok (.iload_n 1, 1) := by decide +kernel
theorem dX11_orders_24 : decode cX11_orders 24 = .ok (.iaload, 1) := by decide +kernel
theorem dX11_orders_25 : decode cX11_orders 25 = .ok (.istore_n 3, 1) := by decide +kernel
theorem dX11_orders_26 : decode cX11_orders 26 = .ok (.aload_n 0, 1) := by decide +kernel
theorem dX11_orders_27 : decode cX11_orders 27 = .ok (.getfield 3, 3) := by decide +kernel
theorem dX11_orders_30 : decode cX11_orders 30 = .ok (.getfield 72, 3) := by decide +kernel
theorem dX11_orders_33 : decode cX11_orders 33 = .ok (.getfield 119, 3) := by decide +kernel
theorem dX11_orders_36 : decode cX11_orders 36 = .ok (.iload_n 1, 1) := by decide +kernel
theorem dX11_orders_37 : decode cX11_orders 37 = .ok (.iaload, 1) := by decide +kernel
theorem dX11_orders_38 : decode cX11_orders 38 = .ok (.bipush 14, 2) := by decide +kernel
theorem dX11_orders_40 : decode cX11_orders 40 = .ok (.if_icmp .ne 18, 3) := by decide +kernel
theorem dX11_orders_43 : decode cX11_orders 43 = .ok (.aload_n 0, 1) := by decide +kernel
theorem dX11_orders_44 : decode cX11_orders 44 = .ok (.iload_n 2, 1) := by decide +kernel
theorem dX11_orders_45 : decode cX11_orders 45 = .ok (.iload_n 3, 1) := by decide +kernel
theorem dX11_orders_46 : decode cX11_orders 46 = .ok (.invokevirtual 122, 3) := by decide +kernel
theorem dX11_orders_49 : decode cX11_orders 49 = .ok (.ifCond .le 7, 3) := by decide +kernel
theorem dX11_orders_52 : decode cX11_orders 52 = .ok (.iconst 1, 1) := by decide +kernel
theorem dX11_orders_53 : decode cX11_orders 53 = .ok (.goto 4, 3) := by decide +kernel
theorem dX11_orders_56 : decode cX11_orders 56 = .ok (.iconst 0, 1) := by decide +kernel
theorem dX11_orders_57 : decode cX11_orders 57 = .ok (.ireturn, 1) := by decide +kernel
theorem dX11_orders_58 : decode cX11_orders 58 = .ok (.aload_n 0, 1) := by decide +kernel
theorem dX11_orders_59 : decode cX11_orders 59 = .ok (.getfield 3, 3) := by decide +kernel
theorem dX11_orders_62 : decode cX11_orders 62 = .ok (.getfield 72, 3) := by decide +kernel
theorem dX11_orders_65 : decode cX11_orders 65 = .ok (.getfield 119, 3) := by decide +kernel
theorem dX11_orders_68 : decode cX11_orders 68 = .ok (.iload_n 1, 1) := by decide +kernel
theorem dX11_orders_69 : decode cX11_orders 69 = .ok (.iaload, 1) := by decide +kernel
theorem dX11_orders_70 : decode cX11_orders 70 = .ok (.bipush 16, 2) := by decide +kernel
theorem dX11_orders_72 : decode cX11_orders 72 = .ok (.if_icmp .ne 29, 3) := by decide +kernel
theorem dX11_orders_75 : decode cX11_orders 75 = .ok (.aload_n 0, 1) := by decide +kernel
theorem dX11_orders_76 : decode cX11_orders 76 = .ok (.getfield 28, 3) := by decide +kernel
theorem dX11_orders_79 : decode cX11_orders 79 = .ok (.iload_n 2, 1) := by decide +kernel
theorem dX11_orders_80 : decode cX11_orders 80 = .ok (.iaload, 1) := by decide +kernel
theorem dX11_orders_81 : decode cX11_orders 81 = .ok (.iload_n 3, 1) := by decide +kernel
theorem dX11_orders_82 : decode cX11_orders 82 = .ok (.if_icmp .ne 5, 3) := by decide +kernel
theorem dX11_orders_85 : decode cX11_orders 85 = .ok (.iconst 0, 1) := by decide +kernel
theorem dX11_orders_86 : decode cX11_orders 86 = .ok (.ireturn, 1) := by decide +kernel
theorem dX11_orders_87 : decode cX11_orders 87 = .ok (.aload_n 0, 1) := by decide +kernel
theorem dX11_orders_88 : decode cX11_orders 88 = .ok (.getfield 28, 3) := by decide +kernel
theorem dX11_orders_91 : decode cX11_orders 91 = .ok (.iload_n 2, 1) := by decide +kernel
theorem dX11_orders_92 : decode cX11_orders 92 = .ok (.iload_n 3, 1) := by decide +kernel
theorem dX11_orders_93 : decode cX11_orders 93 = .ok (.iastore, 1) := by decide +kernel
theorem dX11_orders_94 : decode cX11_orders 94 = .ok (.aload_n 0, 1) := by decide +kernel
theorem dX11_orders_95 : decode cX11_orders 95 = .ok (.iload_n 2, 1) := by decide +kernel
theorem dX11_orders_96 : decode cX11_orders 96 = .ok (.invokevirtual 82, 3) := by decide +kernel
theorem dX11_orders_99 : decode cX11_orders 99 = .ok (.iconst 1, 1) := by decide +kernel
theorem dX11_orders_100 : decode cX11_orders 100 = .ok (.ireturn, 1) := by decide +kernel
theorem dX11_orders_101 : decode cX11_orders 101 = .ok (.aload_n 0, 1) := by decide +kernel
theorem dX11_orders_102 : decode cX11_orders 102 = .ok (.getfield 3, 3) := by decide +kernel
theorem dX11_orders_105 : decode cX11_orders 105 = .ok (.getfield 72, 3) := by decide +kernel
theorem dX11_orders_108 : decode cX11_orders 108 = .ok (.getfield 119, 3) := by decide +kernel
theorem dX11_orders_111 : decode cX11_orders 111 = .ok (.iload_n 1, 1) := by decide +kernel
theorem dX11_orders_112 : decode cX11_orders 112 = .ok (.iaload, 1) := by decide +kernel
theorem dX11_orders_113 : decode cX11_orders 113 = .ok (.bipush 17, 2) := by decide +kernel
theorem dX11_orders_115 : decode cX11_orders 115 = .ok (.if_icmp .ne 7, 3) := by decide +kernel
theorem dX11_orders_118 : decode cX11_orders 118 = .ok (.iconst 1, 1) := by decide +kernel
theorem dX11_orders_119 : decode cX11_orders 119 = .ok (.goto 4, 3) := by decide +kernel
theorem dX11_orders_122 : decode cX11_orders 122 = .ok (.iconst 0, 1) := by decide +kernel
theorem dX11_orders_123 : decode cX11_orders 123 = .ok (.istore 4, 2) := by decide +kernel
theorem dX11_orders_125 : decode cX11_orders 125 = .ok (.aload_n 0, 1) := by decide +kernel
theorem dX11_orders_126 : decode cX11_orders 126 = .ok (.getfield 31, 3) := by decide +kernel
theorem dX11_orders_129 : decode cX11_orders 129 = .ok (.iload_n 2, 1) := by decide +kernel
theorem dX11_orders_130 : decode cX11_orders 130 = .ok (.iaload, 1) := by decide +kernel
theorem dX11_orders_131 : decode cX11_orders 131 = .ok (.iload 4, 2) := by decide +kernel
theorem dX11_orders_133 : decode cX11_orders 133 = .ok (.if_icmp .ne 5, 3) := by decide +kernel
theorem dX11_orders_136 : decode cX11_orders 136 = .ok (.iconst 0, 1) := by decide +kernel
theorem dX11_orders_137 : decode cX11_orders 137 = .ok (.ireturn, 1) := by decide +kernel
theorem dX11_orders_138 : decode cX11_orders 138 = .ok (.aload_n 0, 1) := by decide +kernel
theorem dX11_orders_139 : decode cX11_orders 139 = .ok (.getfield 31, 3) := by decide +kernel
theorem dX11_orders_142 : decode cX11_orders 142 = .ok (.iload_n 2, 1) := by decide +kernel
theorem dX11_orders_143 : decode cX11_orders 143 = .ok (.iload 4, 2) := by decide +kernel
theorem dX11_orders_145 : decode cX11_orders 145 = .ok (.iastore, 1) := by decide +kernel
theorem dX11_orders_146 : decode cX11_orders 146 = .ok (.iconst 1, 1) := by decide +kernel
theorem dX11_orders_147 : decode cX11_orders 147 = .ok (.ireturn, 1) := by decide +kernel
set_option maxRecDepth 20000 in
theorem ggX11_pass_X11_carryOut : GoodIn wsX11_pass wsX11_carryOut := goodIn_r _ [10, 1, 11, 5, 12, 13, 14, 15, 9, 16, 17, 18, 19, 20, 21, 22, 23, 24, 25, 26, 27, 28, 3, 29, 30, 31, 32, 33, 34, 35, 36, 37, 38, 39, 40, 41, 42, 43, 44, 45, 46, 47, 48, 49, 50, 51, 52, 53, 54, 55, 56, 85, 86, 87, 88, 89, 90, 91, 92, 93, 94, 95, 96, 97, 98, 99, 100, 101, 102, 103, 104, 105, 106, 107, 108, 109, 110, 111, 112, 113, 114, 115, 116, 117, 118, 119, 120, 121, 122, 123, 124, 125, 126, 127, 128, 129, 130, 131, 132, 133, 134, 135, 136, 137] (by decide +kernel) (by decide +kernel)
set_option maxRecDepth 20000 in
theorem gX11_pass_X11_carryOut : GoodIn wsX11_pass (wsV RX11 135 RX11 yX11_carryOut wsX11_carryOut) := goodIn_app (goodIn_of _ (by decide +kernel)) ggX11_pass_X11_carryOut
set_option maxRecDepth 20000 in
theorem ggX11_pass_X11_orders : GoodIn wsX11_pass wsX11_orders := goodIn_r _ [60, 1, 61, 3, 62, 63, 64, 9, 65, 12, 66, 67, 68, 69, 70, 71, 72, 73, 74, 75, 39, 33, 85, 86, 87, 88, 89, 90, 91, 92, 93, 94, 95, 96, 97, 98, 99, 100, 101, 102, 103, 104, 105, 106, 107, 108, 109, 110, 111, 112, 113, 114, 115, 116, 117, 118, 119, 120, 121, 122, 123, 124, 125, 126, 127, 128, 129, 130, 131, 132, 133, 134, 135, 136, 137] (by decide +kernel) (by decide +kernel)
set_option maxRecDepth 20000 in
theorem gX11_pass_X11_orders : GoodIn wsX11_pass (wsV RX11 138 RX11 yX11_orders wsX11_orders) := goodIn_app (goodIn_of _ (by decide +kernel)) ggX11_pass_X11_orders
set_option maxRecDepth 20000 in
theorem ggX11_pass_X11_walk : GoodIn wsX11_pass wsX11_walk := goodIn_r _ [79, 1, 28, 27, 71, 61, 67, 68, 69, 9, 70, 12, 80, 81, 82, 83, 33, 39, 38, 84, 85, 86, 87, 88, 89, 90, 91, 92, 93, 94, 95, 96, 97, 98, 99, 100, 101, 102, 103, 104, 105, 106, 107, 108, 109, 110, 111, 112, 113, 114, 115, 116, 117, 118, 119, 120, 121, 122, 123, 124, 125, 126, 127, 128, 129, 130, 131, 132, 133, 134, 135, 136, 137] (by decide +kernel) (by decide +kernel)
set_option maxRecDepth 20000 in
theorem gX11_pass_X11_walk : GoodIn wsX11_pass (wsV RX11 141 RX11 yX11_walk wsX11_walk) := goodIn_app (goodIn_of _ (by decide +kernel)) ggX11_pass_X11_walk
set_option maxRecDepth 20000 in
theorem ggX11_pass_X11_isAt : GoodIn wsX11_pass wsX11_isAt := goodIn_r _ [47, 27, 28, 85, 86, 87, 88, 89, 90, 91, 92, 93, 94, 95, 96, 97, 98, 99, 100] (by decide +kernel) (by decide +kernel)
set_option maxRecDepth 20000 in
theorem gX11_pass_X11_isAt : GoodIn wsX11_pass (wsV RX11 109 RX11 yX11_isAt wsX11_isAt) := goodIn_app (goodIn_of _ (by decide +kernel)) ggX11_pass_X11_isAt
theorem dX11_pass_0 : decode cX11_pass 0 = .ok (.iconst 0, 1) := by decide +kernel
theorem dX11_pass_1 : decode cX11_pass 1 = .ok (.istore_n 1, 1) := by decide +kernel
theorem dX11_pass_2 : decode cX11_pass 2 = .ok (.iload_n 1, 1) := by decide +kernel
theorem dX11_pass_3 : decode cX11_pass 3 = .ok (.aload_n 0, 1) := by decide +kernel
theorem dX11_pass_4 : decode cX11_pass 4 = .ok (.getfield 3, 3) := by decide +kernel
theorem dX11_pass_7 : decode cX11_pass 7 = .ok (.getfield 72, 3) := by decide +kernel
theorem dX11_pass_10 : decode cX11_pass 10 = .ok (.getfield 126, 3) := by decide +kernel
theorem dX11_pass_13 : decode cX11_pass 13 = .ok (.if_icmp .ge 59, 3) := by decide +kernel
theorem dX11_pass_16 : decode cX11_pass 16 = .ok (.aload_n 0, 1) := by decide +kernel
theorem dX11_pass_17 : decode cX11_pass 17 = .ok (.aload_n 0, 1) := by decide +kernel
theorem dX11_pass_18 : decode cX11_pass 18 = .ok (.getfield 3, 3) := by decide +kernel
theorem dX11_pass_21 : decode cX11_pass 21 = .ok (.getfield 72, 3) := by decide +kernel
theorem dX11_pass_24 : decode cX11_pass 24 = .ok (.getfield 129, 3) := by decide +kernel
theorem dX11_pass_27 : decode cX11_pass 27 = .ok (.iload_n 1, 1) := by decide +kernel
theorem dX11_pass_28 : decode cX11_pass 28 = .ok (.iaload, 1) := by decide +kernel
theorem dX11_pass_29 : decode cX11_pass 29 = .ok (.aload_n 0, 1) := by decide +kernel
theorem dX11_pass_30 : decode cX11_pass 30 = .ok (.getfield 3, 3) := by decide +kernel
theorem dX11_pass_33 : decode cX11_pass 33 = .ok (.getfield 72, 3) := by decide +kernel
theorem dX11_pass_36 : decode cX11_pass 36 = .ok (.getfield 132, 3) := by decide +kernel
theorem dX11_pass_39 : decode cX11_pass 39 = .ok (.iload_n 1, 1) := by decide +kernel
theorem dX11_pass_40 : decode cX11_pass 40 = .ok (.iaload, 1) := by decide +kernel
theorem dX11_pass_41 : decode cX11_pass 41 = .ok (.invokevirtual 135, 3) := by decide +kernel
theorem dX11_pass_44 : decode cX11_pass 44 = .ok (.iconst 1, 1) := by decide +kernel
theorem dX11_pass_45 : decode cX11_pass 45 = .ok (.if_icmp .ne 21, 3) := by decide +kernel
theorem dX11_pass_48 : decode cX11_pass 48 = .ok (.aload_n 0, 1) := by decide +kernel
theorem dX11_pass_49 : decode cX11_pass 49 = .ok (.iload_n 1, 1) := by decide +kernel
theorem dX11_pass_50 : decode cX11_pass 50 = .ok (.invokevirtual 138, 3) := by decide +kernel
theorem dX11_pass_53 : decode cX11_pass 53 = .ok (.ifCond .eq 13, 3) := by decide +kernel
theorem dX11_pass_56 : decode cX11_pass 56 = .ok (.aload_n 0, 1) := by decide +kernel
theorem dX11_pass_57 : decode cX11_pass 57 = .ok (.dup, 1) := by decide +kernel
theorem dX11_pass_58 : decode cX11_pass 58 = .ok (.getfield 65, 3) := by decide +kernel
theorem dX11_pass_61 : decode cX11_pass 61 = .ok (.iconst 1, 1) := by decide +kernel
theorem dX11_pass_62 : decode cX11_pass 62 = .ok (.iadd, 1) := by decide +kernel
theorem dX11_pass_63 : decode cX11_pass 63 = .ok (.putfield 65, 3) := by decide +kernel
theorem dX11_pass_66 : decode cX11_pass 66 = .ok (.iinc 1 1, 3) := by decide +kernel
theorem dX11_pass_69 : decode cX11_pass 69 = .ok (.goto (-67), 3) := by decide +kernel
theorem dX11_pass_72 : decode cX11_pass 72 = .ok (.iconst 0, 1) := by decide +kernel
theorem dX11_pass_73 : decode cX11_pass 73 = .ok (.istore_n 1, 1) := by decide +kernel
theorem dX11_pass_74 : decode cX11_pass 74 = .ok (.iload_n 1, 1) := by decide +kernel
theorem dX11_pass_75 : decode cX11_pass 75 = .ok (.aload_n 0, 1) := by decide +kernel
theorem dX11_pass_76 : decode cX11_pass 76 = .ok (.getfield 3, 3) := by decide +kernel
theorem dX11_pass_79 : decode cX11_pass 79 = .ok (.getfield 72, 3) := by decide +kernel
theorem dX11_pass_82 : decode cX11_pass 82 = .ok (.getfield 106, 3) := by decide +kernel
theorem dX11_pass_85 : decode cX11_pass 85 = .ok (.if_icmp .ge 23, 3) := by decide +kernel
theorem dX11_pass_88 : decode cX11_pass 88 = .ok (.aload_n 0, 1) := by decide +kernel
theorem dX11_pass_89 : decode cX11_pass 89 = .ok (.getfield 31, 3) := by decide +kernel
theorem dX11_pass_92 : decode cX11_pass 92 = .ok (.iload_n 1, 1) := by decide +kernel
theorem dX11_pass_93 : decode cX11_pass 93 = .ok (.iaload, 1) := by decide +kernel
theorem dX11_pass_94 : decode cX11_pass 94 = .ok (.ifCond .ne 8, 3) := by decide +kernel
theorem dX11_pass_97 : decode cX11_pass 97 = .ok (.aload_n 0, 1) := by decide +kernel
theorem dX11_pass_98 : decode cX11_pass 98 = .ok (.iload_n 1, 1) := by decide +kernel
theorem dX11_pass_99 : decode cX11_pass 99 = .ok (.invokevirtual 141, 3) := by decide +kernel
theorem dX11_pass_102 : decode cX11_pass 102 = .ok (.iinc 1 1, 3) := by decide +kernel
theorem dX11_pass_105 : decode cX11_pass 105 = .ok (.goto (-31), 3) := by decide +kernel
theorem dX11_pass_108 : decode cX11_pass 108 = .ok (.iconst 0, 1) := by decide +kernel
theorem dX11_pass_109 : decode cX11_pass 109 = .ok (.istore_n 1, 1) := by decide +kernel
theorem dX11_pass_110 : decode cX11_pass 110 = .ok (.iload_n 1, 1) := by decide +kernel
theorem dX11_pass_111 : decode cX11_pass 111 = .ok (.aload_n 0, 1) := by decide +kernel
theorem dX11_pass_112 : decode cX11_pass 112 = .ok (.getfield 3, 3) := by decide +kernel
theorem dX11_pass_115 : decode cX11_pass 115 = .ok (.getfield 72, 3) := by decide +kernel
theorem dX11_pass_118 : decode cX11_pass 118 = .ok (.getfield 106, 3) := by decide +kernel
theorem dX11_pass_121 : decode cX11_pass 121 = .ok (.if_icmp .ge 56, 3) := by decide +kernel
theorem dX11_pass_124 : decode cX11_pass 124 = .ok (.iload_n 1, 1) := by decide +kernel
theorem dX11_pass_125 : decode cX11_pass 125 = .ok (.iconst 1, 1) := by decide +kernel
theorem dX11_pass_126 : decode cX11_pass 126 = .ok (.iadd, 1) := by decide +kernel
theorem dX11_pass_127 : decode cX11_pass 127 = .ok (.istore_n 2, 1) := by decide +kernel
theorem dX11_pass_128 : decode cX11_pass 128 = .ok (.iload_n 2, 1) := by decide +kernel
theorem dX11_pass_129 : decode cX11_pass 129 = .ok (.aload_n 0, 1) := by decide +kernel
theorem dX11_pass_130 : decode cX11_pass 130 = .ok (.getfield 3, 3) := by decide +kernel
theorem dX11_pass_133 : decode cX11_pass 133 = .ok (.getfield 72, 3) := by decide +kernel
theorem dX11_pass_136 : decode cX11_pass 136 = .ok (.getfield 106, 3) := by decide +kernel
theorem dX11_pass_139 : decode cX11_pass 139 = .ok (.if_icmp .ge 32, 3) := by decide +kernel
theorem dX11_pass_142 : decode cX11_pass 142 = .ok (.aload_n 0, 1) := by decide +kernel
theorem dX11_pass_143 : decode cX11_pass 143 = .ok (.dup, 1) := by decide +kernel
theorem dX11_pass_144 : decode cX11_pass 144 = .ok (.getfield 59, 3) := by decide +kernel
theorem dX11_pass_147 : decode cX11_pass 147 = .ok (.aload_n 0, 1) := by decide +kernel
theorem dX11_pass_148 : decode cX11_pass 148 = .ok (.iload_n 1, 1) := by decide +kernel
theorem dX11_pass_149 : decode cX11_pass 149 = .ok (.iload_n 2, 1) := by decide +kernel
theorem dX11_pass_150 : decode cX11_pass 150 = .ok (.invokevirtual 109, 3) := by decide +kernel
theorem dX11_pass_153 : decode cX11_pass 153 = .ok (.ifCond .eq 7, 3) := by decide +kernel
theorem dX11_pass_156 : decode cX11_pass 156 = .ok (.iconst 1, 1) := by decide +kernel
theorem dX11_pass_157 : decode cX11_pass 157 = .ok (.goto 4, 3) := by decide +kernel
theorem dX11_pass_160 : decode cX11_pass 160 = .ok (.iconst 0, 1) := by decide +kernel
theorem dX11_pass_161 : decode cX11_pass 161 = .ok (.iadd, 1) := by decide +kernel
theorem dX11_pass_162 : decode cX11_pass 162 = .ok (.putfield 59, 3) := by decide +kernel
theorem dX11_pass_165 : decode cX11_pass 165 = .ok (.iinc 2 1, 3) := by decide +kernel
theorem dX11_pass_168 : decode cX11_pass 168 = .ok (.goto (-40), 3) := by decide +kernel
theorem dX11_pass_171 : decode cX11_pass 171 = .ok (.iinc 1 1, 3) := by decide +kernel
theorem dX11_pass_174 : decode cX11_pass 174 = .ok (.goto (-64), 3) := by decide +kernel
theorem dX11_pass_177 : decode cX11_pass 177 = .ok (.aload_n 0, 1) := by decide +kernel
theorem dX11_pass_178 : decode cX11_pass 178 = .ok (.dup, 1) := by decide +kernel
theorem dX11_pass_179 : decode cX11_pass 179 = .ok (.getfield 55, 3) := by decide +kernel
theorem dX11_pass_182 : decode cX11_pass 182 = .ok (.iconst 1, 1) := by decide +kernel
theorem dX11_pass_183 : decode cX11_pass 183 = .ok (.iadd, 1) := by decide +kernel
theorem dX11_pass_184 : decode cX11_pass 184 = .ok (.putfield 55, 3) := by decide +kernel
theorem dX11_pass_187 : decode cX11_pass 187 = .ok (.return_, 1) := by decide +kernel
set_option maxRecDepth 20000 in
theorem ggX11_pass__X11_pass : GoodIn wsX11_pass_ wsX11_pass := goodIn_r _ [5, 6, 7, 8, 9, 10, 11, 12, 13, 4, 14, 15, 16, 17, 18, 19, 20, 21, 22, 23, 24, 25, 26, 27, 28, 29, 30, 31, 32, 33, 34, 35, 36, 37, 38, 39, 40, 41, 42, 43, 44, 45, 46, 47, 48, 49, 50, 51, 52, 53, 54, 55, 56, 57, 58, 59, 60, 61, 62, 63, 64, 65, 66, 67, 68, 69, 70, 71, 72, 73, 74, 75, 76, 77, 78, 79, 80, 81, 82, 83, 84, 85, 86, 87, 88, 89, 90, 91, 92, 93, 94, 95, 96, 97, 98, 99, 100, 101, 102, 103, 104, 105, 106, 107, 108, 109, 110, 111, 112, 113, 114, 115, 116, 117, 118, 119, 120, 121, 122, 123, 124, 125, 126, 127, 128, 129, 130, 131, 132, 133, 134, 135, 136, 137, 138, 139, 140, 141] (by decide +kernel) (by decide +kernel)
set_option maxRecDepth 20000 in
theorem gX11_pass__X11_pass : GoodIn wsX11_pass_ (wsV RX11 144 RX11 yX11_pass wsX11_pass) := goodIn_app (goodIn_of _ (by decide +kernel)) ggX11_pass__X11_pass
theorem dX11_pass__0 : decode cX11_pass_ 0 = .ok (.iconst 0, 1) := by decide +kernel
theorem dX11_pass__1 : decode cX11_pass_ 1 = .ok (.istore_n 2, 1) := by decide +kernel
theorem dX11_pass__2 : decode cX11_pass_ 2 = .ok (.iload_n 2, 1) := by decide +kernel
theorem dX11_pass__3 : decode cX11_pass_ 3 = .ok (.iload_n 1, 1) := by decide +kernel
theorem dX11_pass__4 : decode cX11_pass_ 4 = .ok (.if_icmp .ge 13, 3) := by decide +kernel
theorem dX11_pass__7 : decode cX11_pass_ 7 = .ok (.aload_n 0, 1) := by decide +kernel
theorem dX11_pass__8 : decode cX11_pass_ 8 = .ok (.invokevirtual 144, 3) := by decide +kernel
theorem dX11_pass__11 : decode cX11_pass_ 11 = .ok (.iinc 2 1, 3) := by decide +kernel
theorem dX11_pass__14 : decode cX11_pass_ 14 = .ok (.goto (-12), 3) := by decide +kernel
theorem dX11_pass__17 : decode cX11_pass_ 17 = .ok (.aload_n 0, 1) := by decide +kernel
theorem dX11_pass__18 : decode cX11_pass_ 18 = .ok (.areturn, 1) := by decide +kernel
theorem dX11_sum_0 : decode cX11_sum 0 = .ok (.iconst 0, 1) := by decide +kernel
theorem dX11_sum_1 : decode cX11_sum 1 = .ok (.istore_n 1, 1) := by decide +kernel
theorem dX11_sum_2 : decode cX11_sum 2 = .ok (.aload_n 0, 1) := by decide +kernel
theorem dX11_sum_3 : decode cX11_sum 3 = .ok (.getfield 15, 3) := by decide +kernel
theorem dX11_sum_6 : decode cX11_sum 6 = .ok (.astore_n 2, 1) := by decide +kernel
theorem dX11_sum_7 : decode cX11_sum 7 = .ok (.aload_n 2, 1) := by decide +kernel
theorem dX11_sum_8 : decode cX11_sum 8 = .ok (.arraylength, 1) := by decide +kernel
theorem dX11_sum_9 : decode cX11_sum 9 = .ok (.istore_n 3, 1) := by decide +kernel
theorem dX11_sum_10 : decode cX11_sum 10 = .ok (.iconst 0, 1) := by decide +kernel
theorem dX11_sum_11 : decode cX11_sum 11 = .ok (.istore 4, 2) := by decide +kernel
theorem dX11_sum_13 : decode cX11_sum 13 = .ok (.iload 4, 2) := by decide +kernel
theorem dX11_sum_15 : decode cX11_sum 15 = .ok (.iload_n 3, 1) := by decide +kernel
theorem dX11_sum_16 : decode cX11_sum 16 = .ok (.if_icmp .ge 20, 3) := by decide +kernel
theorem dX11_sum_19 : decode cX11_sum 19 = .ok (.aload_n 2, 1) := by decide +kernel
theorem dX11_sum_20 : decode cX11_sum 20 = .ok (.iload 4, 2) := by decide +kernel
theorem dX11_sum_22 : decode cX11_sum 22 = .ok (.iaload, 1) := by decide +kernel
theorem dX11_sum_23 : decode cX11_sum 23 = .ok (.istore 5, 2) := by decide +kernel
theorem dX11_sum_25 : decode cX11_sum 25 = .ok (.iload_n 1, 1) := by decide +kernel
theorem dX11_sum_26 : decode cX11_sum 26 = .ok (.iload 5, 2) := by decide +kernel
theorem dX11_sum_28 : decode cX11_sum 28 = .ok (.iadd, 1) := by decide +kernel
theorem dX11_sum_29 : decode cX11_sum 29 = .ok (.istore_n 1, 1) := by decide +kernel
theorem dX11_sum_30 : decode cX11_sum 30 = .ok (.iinc 4 1, 3) := by decide +kernel
theorem dX11_sum_33 : decode cX11_sum 33 = .ok (.goto (-20), 3) := by decide +kernel
theorem dX11_sum_36 : decode cX11_sum 36 = .ok (.iload_n 1, 1) := by decide +kernel
theorem dX11_sum_37 : decode cX11_sum 37 = .ok (.ireturn, 1) := by decide +kernel
theorem dX11_walkers_0 : decode cX11_walkers 0 = .ok (.iconst 0, 1) := by decide +kernel
theorem dX11_walkers_1 : decode cX11_walkers 1 = .ok (.istore_n 1, 1) := by decide +kernel
theorem dX11_walkers_2 : decode cX11_walkers 2 = .ok (.iconst 0, 1) := by decide +kernel
theorem dX11_walkers_3 : decode cX11_walkers 3 = .ok (.istore_n 2, 1) := by decide +kernel
theorem dX11_walkers_4 : decode cX11_walkers 4 = .ok (.iload_n 2, 1) := by decide +kernel
theorem dX11_walkers_5 : decode cX11_walkers 5 = .ok (.aload_n 0, 1) := by decide +kernel
theorem dX11_walkers_6 : decode cX11_walkers 6 = .ok (.getfield 3, 3) := by decide +kernel
theorem dX11_walkers_9 : decode cX11_walkers 9 = .ok (.getfield 72, 3) := by decide +kernel
theorem dX11_walkers_12 : decode cX11_walkers 12 = .ok (.getfield 106, 3) := by decide +kernel
theorem dX11_walkers_15 : decode cX11_walkers 15 = .ok (.if_icmp .ge 20, 3) := by decide +kernel
theorem dX11_walkers_18 : decode cX11_walkers 18 = .ok (.iload_n 1, 1) := by decide +kernel
theorem dX11_walkers_19 : decode cX11_walkers 19 = .ok (.iconst 1, 1) := by decide +kernel
theorem dX11_walkers_20 : decode cX11_walkers 20 = .ok (.aload_n 0, 1) := by decide +kernel
theorem dX11_walkers_21 : decode cX11_walkers 21 = .ok (.getfield 31, 3) := by decide +kernel
theorem dX11_walkers_24 : decode cX11_walkers 24 = .ok (.iload_n 2, 1) := by decide +kernel
theorem dX11_walkers_25 : decode cX11_walkers 25 = .ok (.iaload, 1) := by decide +kernel
theorem dX11_walkers_26 : decode cX11_walkers 26 = .ok (.isub, 1) := by decide +kernel
theorem dX11_walkers_27 : decode cX11_walkers 27 = .ok (.iadd, 1) := by decide +kernel
theorem dX11_walkers_28 : decode cX11_walkers 28 = .ok (.istore_n 1, 1) := by decide +kernel
theorem dX11_walkers_29 : decode cX11_walkers 29 = .ok (.iinc 2 1, 3) := by decide +kernel
theorem dX11_walkers_32 : decode cX11_walkers 32 = .ok (.goto (-28), 3) := by decide +kernel
theorem dX11_walkers_35 : decode cX11_walkers 35 = .ok (.iload_n 1, 1) := by decide +kernel
theorem dX11_walkers_36 : decode cX11_walkers 36 = .ok (.ireturn, 1) := by decide +kernel
set_option maxRecDepth 20000 in
theorem ggX11_counted_X11_dark : GoodIn wsX11_counted wsX11_dark := goodIn_r _ [8, 9, 21, 22, 23, 24, 25, 26, 27, 28, 29, 30, 31, 32, 33, 34, 35, 36] (by decide +kernel) (by decide +kernel)
set_option maxRecDepth 20000 in
theorem gX11_counted_X11_dark : GoodIn wsX11_counted (wsV RX11 147 RX11 yX11_dark wsX11_dark) := goodIn_app (goodIn_of _ (by decide +kernel)) ggX11_counted_X11_dark
set_option maxRecDepth 20000 in
theorem ggX11_counted_X11_sum : GoodIn wsX11_counted wsX11_sum := goodIn_r _ [13, 14, 21, 22, 23, 24, 25, 26, 27, 28, 29, 30, 31, 32, 33, 34, 35, 36] (by decide +kernel) (by decide +kernel)
set_option maxRecDepth 20000 in
theorem gX11_counted_X11_sum : GoodIn wsX11_counted (wsV RX11 151 RX11 yX11_sum wsX11_sum) := goodIn_app (goodIn_of _ (by decide +kernel)) ggX11_counted_X11_sum
set_option maxRecDepth 20000 in
theorem ggX11_counted_X11_walkers : GoodIn wsX11_counted wsX11_walkers := goodIn_r _ [18, 19, 20, 21, 22, 23, 24, 25, 26, 27, 28, 29, 30, 31, 32, 33, 34, 35, 36, 37, 38, 39, 40, 41, 42, 43, 44, 45, 46, 47, 48, 49, 50, 51, 52, 53, 54, 55, 56, 57, 58, 59, 60, 61, 62, 63, 64, 65, 66, 67, 68, 69, 70, 71, 72, 73] (by decide +kernel) (by decide +kernel)
set_option maxRecDepth 20000 in
theorem gX11_counted_X11_walkers : GoodIn wsX11_counted (wsV RX11 154 RX11 yX11_walkers wsX11_walkers) := goodIn_app (goodIn_of _ (by decide +kernel)) ggX11_counted_X11_walkers
theorem dX11_counted_0 : decode cX11_counted 0 = .ok (.iload_n 1, 1) := by decide +kernel
theorem dX11_counted_1 : decode cX11_counted 1 = .ok (.tableswitch 60 4 8 #[35, 40, 45, 50, 55], 35) := by decide +kernel
theorem dX11_counted_36 : decode cX11_counted 36 = .ok (.aload_n 0, 1) := by decide +kernel
theorem dX11_counted_37 : decode cX11_counted 37 = .ok (.invokevirtual 147, 3) := by decide +kernel
theorem dX11_counted_40 : decode cX11_counted 40 = .ok (.ireturn, 1) := by decide +kernel
theorem dX11_counted_41 : decode cX11_counted 41 = .ok (.aload_n 0, 1) := by decide +kernel
theorem dX11_counted_42 : decode cX11_counted 42 = .ok (.invokevirtual 151, 3) := by decide +kernel
theorem dX11_counted_45 : decode cX11_counted 45 = .ok (.ireturn, 1) := by decide +kernel
theorem dX11_counted_46 : decode cX11_counted 46 = .ok (.aload_n 0, 1) := by decide +kernel
theorem dX11_counted_47 : decode cX11_counted 47 = .ok (.invokevirtual 154, 3) := by decide +kernel
theorem dX11_counted_50 : decode cX11_counted 50 = .ok (.ireturn, 1) := by decide +kernel
theorem dX11_counted_51 : decode cX11_counted 51 = .ok (.aload_n 0, 1) := by decide +kernel
theorem dX11_counted_52 : decode cX11_counted 52 = .ok (.getfield 59, 3) := by decide +kernel
theorem dX11_counted_55 : decode cX11_counted 55 = .ok (.ireturn, 1) := by decide +kernel
theorem dX11_counted_56 : decode cX11_counted 56 = .ok (.aload_n 0, 1) := by decide +kernel
theorem dX11_counted_57 : decode cX11_counted 57 = .ok (.getfield 62, 3) := by decide +kernel
theorem dX11_counted_60 : decode cX11_counted 60 = .ok (.ireturn, 1) := by decide +kernel
theorem dX11_counted_61 : decode cX11_counted 61 = .ok (.aload_n 0, 1) := by decide +kernel
theorem dX11_counted_62 : decode cX11_counted 62 = .ok (.getfield 65, 3) := by decide +kernel
theorem dX11_counted_65 : decode cX11_counted 65 = .ok (.ireturn, 1) := by decide +kernel
set_option maxRecDepth 20000 in
theorem ggX11_isAnyOnHighway_X11_period : GoodIn wsX11_isAnyOnHighway wsX11_period := goodIn_r _ [6, 7, 8, 9, 10, 5, 11, 12, 13, 14, 15, 16, 17, 18, 19, 20, 21, 22, 23, 24, 25, 26, 27, 28, 29] (by decide +kernel) (by decide +kernel)
set_option maxRecDepth 20000 in
theorem gX11_isAnyOnHighway_X11_period : GoodIn wsX11_isAnyOnHighway (wsV RX11 157 RX11 yX11_period wsX11_period) := goodIn_app (goodIn_of _ (by decide +kernel)) ggX11_isAnyOnHighway_X11_period
theorem dX11_isAnyOnHighway_0 : decode cX11_isAnyOnHighway 0 = .ok (.iconst 0, 1) := by decide +kernel
theorem dX11_isAnyOnHighway_1 : decode cX11_isAnyOnHighway 1 = .ok (.istore_n 1, 1) := by decide +kernel
theorem dX11_isAnyOnHighway_2 : decode cX11_isAnyOnHighway 2 = .ok (.iload_n 1, 1) := by decide +kernel
theorem dX11_isAnyOnHighway_3 : decode cX11_isAnyOnHighway 3 = .ok (.aload_n 0, 1) := by decide +kernel
theorem dX11_isAnyOnHighway_4 : decode cX11_isAnyOnHighway 4 = .ok (.getfield 3, 3) := by decide +kernel
theorem dX11_isAnyOnHighway_7 : decode cX11_isAnyOnHighway 7 = .ok (.getfield 72, 3) := by decide +kernel
theorem dX11_isAnyOnHighway_10 : decode cX11_isAnyOnHighway 10 = .ok (.getfield 106, 3) := by decide +kernel
theorem dX11_isAnyOnHighway_13 : decode cX11_isAnyOnHighway 13 = .ok (.if_icmp .ge 19, 3) := by decide +kernel
theorem dX11_isAnyOnHighway_16 : decode cX11_isAnyOnHighway 16 = .ok (.aload_n 0, 1) := by decide +kernel
theorem dX11_isAnyOnHighway_17 : decode cX11_isAnyOnHighway 17 = .ok (.iload_n 1, 1) := by decide +kernel
theorem dX11_isAnyOnHighway_18 : decode cX11_isAnyOnHighway 18 = .ok (.invokevirtual 157, 3) := by decide +kernel
theorem dX11_isAnyOnHighway_21 : decode cX11_isAnyOnHighway 21 = .ok (.ifCond .le 5, 3) := by decide +kernel
theorem dX11_isAnyOnHighway_24 : decode cX11_isAnyOnHighway 24 = .ok (.iconst 1, 1) := by decide +kernel
theorem dX11_isAnyOnHighway_25 : decode cX11_isAnyOnHighway 25 = .ok (.ireturn, 1) := by decide +kernel
theorem dX11_isAnyOnHighway_26 : decode cX11_isAnyOnHighway 26 = .ok (.iinc 1 1, 3) := by decide +kernel
theorem dX11_isAnyOnHighway_29 : decode cX11_isAnyOnHighway 29 = .ok (.goto (-27), 3) := by decide +kernel
theorem dX11_isAnyOnHighway_32 : decode cX11_isAnyOnHighway 32 = .ok (.iconst 0, 1) := by decide +kernel
theorem dX11_isAnyOnHighway_33 : decode cX11_isAnyOnHighway 33 = .ok (.ireturn, 1) := by decide +kernel
set_option maxRecDepth 20000 in
theorem ggX11_carryOut_X11_dark : GoodIn wsX11_carryOut wsX11_dark := goodIn_r _ [9, 4, 51, 52, 53, 54, 55, 56, 57, 58, 59, 60, 61, 62, 63, 64, 65, 66] (by decide +kernel) (by decide +kernel)
set_option maxRecDepth 20000 in
theorem gX11_carryOut_X11_dark : GoodIn wsX11_carryOut (wsV RX11 147 RX11 yX11_dark wsX11_dark) := goodIn_app (goodIn_of _ (by decide +kernel)) ggX11_carryOut_X11_dark
set_option maxRecDepth 20000 in
theorem ggX11_carryOut_X12_isPushed : GoodIn wsX11_carryOut wsX12_isPushed := goodIn_r _ [12, 13, 14, 11, 15] (by decide +kernel) (by decide +kernel)
set_option maxRecDepth 20000 in
theorem gX11_carryOut_X12_isPushed_n164 : GoodIn wsX11_carryOut (wsX12_isPushed) := ggX11_carryOut_X12_isPushed
set_option maxRecDepth 20000 in
theorem ggX11_carryOut_X11_pushed : GoodIn wsX11_carryOut wsX11_pushed := goodIn_r _ [19, 20, 21, 22, 23, 24, 25, 8, 26, 27, 28, 29, 30, 31, 32, 33, 34, 35, 36, 37, 1, 38, 39, 40, 41, 51, 52, 53, 54, 55, 56, 57, 58, 59, 60, 61, 62, 63, 64, 65, 66, 67, 68, 69, 70, 71, 72, 73, 74, 75, 76, 77, 78, 79, 80, 81, 82, 83, 84, 85, 86, 87, 88, 89, 90, 91, 92, 93, 94, 95, 96, 97, 98, 99, 100, 101, 102, 103] (by decide +kernel) (by decide +kernel)
set_option maxRecDepth 20000 in
theorem gX11_carryOut_X11_pushed : GoodIn wsX11_carryOut (wsV RX11 167 RX11 yX11_pushed wsX11_pushed) := goodIn_app (goodIn_of _ (by decide +kernel)) ggX11_carryOut_X11_pushed
set_option maxRecDepth 20000 in
theorem ggX11_carryOut_X12_isIn : GoodIn wsX11_carryOut wsX12_isIn := goodIn_r _ [15] (by decide +kernel) (by decide +kernel)
set_option maxRecDepth 20000 in
theorem gX11_carryOut_X12_isIn_n170 : GoodIn wsX11_carryOut (wsX12_isIn) := ggX11_carryOut_X12_isIn
set_option maxRecDepth 20000 in
theorem ggX11_carryOut_X12_both : GoodIn wsX11_carryOut wsX12_both := goodIn_r _ [43, 44, 45, 46, 47, 48, 49, 50] (by decide +kernel) (by decide +kernel)
set_option maxRecDepth 20000 in
theorem gX11_carryOut_X12_both_n174 : GoodIn wsX11_carryOut (wsX12_both) := ggX11_carryOut_X12_both
theorem dX11_carryOut_0 : decode cX11_carryOut 0 = .ok (.iconst (-1), 1) := by decide +kernel
theorem dX11_carryOut_1 : decode cX11_carryOut 1 = .ok (.istore_n 3, 1) := by decide +kernel
theorem dX11_carryOut_2 : decode cX11_carryOut 2 = .ok (.iload_n 1, 1) := by decide +kernel
theorem dX11_carryOut_3 : decode cX11_carryOut 3 = .ok (.istore 4, 2) := by decide +kernel
theorem dX11_carryOut_5 : decode cX11_carryOut 5 = .ok (.iload 4, 2) := by decide +kernel
theorem dX11_carryOut_7 : decode cX11_carryOut 7 = .ok (.iload_n 2, 1) := by decide +kernel
theorem dX11_carryOut_8 : decode cX11_carryOut 8 = .ok (.if_icmp .ge 233, 3) := by decide +kernel
theorem dX11_carryOut_11 : decode cX11_carryOut 11 = .ok (.aload_n 0, 1) := by decide +kernel
theorem dX11_carryOut_12 : decode cX11_carryOut 12 = .ok (.getfield 3, 3) := by decide +kernel
theorem dX11_carryOut_15 : decode cX11_carryOut 15 = .ok (.getfield 72, 3) := by decide +kernel
theorem dX11_carryOut_18 : decode cX11_carryOut 18 = .ok (.getfield 161, 3) := by decide +kernel
theorem dX11_carryOut_21 : decode cX11_carryOut 21 = .ok (.iload 4, 2) := by decide +kernel
theorem dX11_carryOut_23 : decode cX11_carryOut 23 = .ok (.iaload, 1) := by decide +kernel
theorem dX11_carryOut_24 : decode cX11_carryOut 24 = .ok (.istore 5, 2) := by decide +kernel
theorem dX11_carryOut_26 : decode cX11_carryOut 26 = .ok (.iinc 4 1, 3) := by decide +kernel
theorem dX11_carryOut_29 : decode cX11_carryOut 29 = .ok (.iload 5, 2) := by decide +kernel
theorem dX11_carryOut_31 : decode cX11_carryOut 31 = .ok (.bipush 20, 2) := by decide +kernel
theorem dX11_carryOut_33 : decode cX11_carryOut 33 = .ok (.if_icmp .eq 10, 3) := by decide +kernel
theorem dX11_carryOut_36 : decode cX11_carryOut 36 = .ok (.iload 5, 2) := by decide +kernel
theorem dX11_carryOut_38 : decode cX11_carryOut 38 = .ok (.bipush 21, 2) := by decide +kernel
theorem dX11_carryOut_40 : decode cX11_carryOut 40 = .ok (.if_icmp .ne 33, 3) := by decide +kernel
theorem dX11_carryOut_43 : decode cX11_carryOut 43 = .ok (.iinc 3 1, 3) := by decide +kernel
theorem dX11_carryOut_46 : decode cX11_carryOut 46 = .ok (.aload_n 0, 1) := by decide +kernel
theorem dX11_carryOut_47 : decode cX11_carryOut 47 = .ok (.getfield 46, 3) := by decide +kernel
theorem dX11_carryOut_50 : decode cX11_carryOut 50 = .ok (.iload_n 3, 1) := by decide +kernel
theorem dX11_carryOut_51 : decode cX11_carryOut 51 = .ok (.iload 5, 2) := by decide +kernel
theorem dX11_carryOut_53 : decode cX11_carryOut 53 = .ok (.bipush 20, 2) := by decide +kernel
theorem dX11_carryOut_55 : decode cX11_carryOut 55 = .ok (.if_icmp .ne 10, 3) := by decide +kernel
theorem dX11_carryOut_58 : decode cX11_carryOut 58 = .ok (.aload_n 0, 1) := by decide +kernel
theorem dX11_carryOut_59 : decode cX11_carryOut 59 = .ok (.getfield 55, 3) := by decide +kernel
theorem dX11_carryOut_62 : decode cX11_carryOut 62 = .ok (.goto 7, 3) := by decide +kernel
theorem dX11_carryOut_65 : decode cX11_carryOut 65 = .ok (.aload_n 0, 1) := by decide +kernel
theorem dX11_carryOut_66 : decode cX11_carryOut 66 = .ok (.invokevirtual 147, 3) := by decide +kernel
theorem dX11_carryOut_69 : decode cX11_carryOut 69 = .ok (.iastore, 1) := by decide +kernel
theorem dX11_carryOut_70 : decode cX11_carryOut 70 = .ok (.goto 168, 3) := by decide +kernel
theorem dX11_carryOut_73 : decode cX11_carryOut 73 = .ok (.iload 5, 2) := by decide +kernel
theorem dX11_carryOut_75 : decode cX11_carryOut 75 = .ok (.invokestatic 164, 3) := by decide +kernel
theorem dX11_carryOut_78 : decode cX11_carryOut 78 = .ok (.ifCond .eq 37, 3) := by decide +kernel
theorem dX11_carryOut_81 : decode cX11_carryOut 81 = .ok (.iinc 3 1, 3) := by decide +kernel
theorem dX11_carryOut_84 : decode cX11_carryOut 84 = .ok (.aload_n 0, 1) := by decide +kernel
theorem dX11_carryOut_85 : decode cX11_carryOut 85 = .ok (.getfield 46, 3) := by decide +kernel
theorem dX11_carryOut_88 : decode cX11_carryOut 88 = .ok (.iload_n 3, 1) := by decide +kernel
theorem dX11_carryOut_89 : decode cX11_carryOut 89 = .ok (.aload_n 0, 1) := by decide +kernel
theorem dX11_carryOut_90 : decode cX11_carryOut 90 = .ok (.iload 5, 2) := by decide +kernel
theorem dX11_carryOut_92 : decode cX11_carryOut 92 = .ok (.aload_n 0, 1) := by decide +kernel
theorem dX11_carryOut_93 : decode cX11_carryOut 93 = .ok (.getfield 3, 3) := by decide +kernel
theorem dX11_carryOut_96 : decode cX11_carryOut 96 = .ok (.getfield 72, 3) := by decide +kernel
theorem dX11_carryOut_99 : decode cX11_carryOut 99 = .ok (.getfield 161, 3) := by decide +kernel
theorem dX11_carryOut_102 : decode cX11_carryOut 102 = .ok (.iload 4, 2) := by decide +kernel
theorem dX11_carryOut_104 : decode cX11_carryOut 104 = .ok (.iaload, 1) := by decide +kernel
theorem dX11_carryOut_105 : decode cX11_carryOut 105 = .ok (.invokevirtual 167, 3) := by decide +kernel
theorem dX11_carryOut_108 : decode cX11_carryOut 108 = .ok (.iastore, 1) := by decide +kernel
theorem dX11_carryOut_109 : decode cX11_carryOut 109 = .ok (.iinc 4 1, 3) := by decide +kernel
theorem dX11_carryOut_112 : decode cX11_carryOut 112 = .ok (.goto 126, 3) := by decide +kernel
theorem dX11_carryOut_115 : decode cX11_carryOut 115 = .ok (.iload 5, 2) := by decide +kernel
theorem dX11_carryOut_117 : decode cX11_carryOut 117 = .ok (.bipush 43, 2) := by decide +kernel
theorem dX11_carryOut_119 : decode cX11_carryOut 119 = .ok (.if_icmp .eq 17, 3) := by decide +kernel
theorem dX11_carryOut_122 : decode cX11_carryOut 122 = .ok (.iload 5, 2) := by decide +kernel
theorem dX11_carryOut_124 : decode cX11_carryOut 124 = .ok (.bipush 28, 2) := by decide +kernel
theorem dX11_carryOut_126 : decode cX11_carryOut 126 = .ok (.if_icmp .eq 10, 3) := by decide +kernel
theorem dX11_carryOut_129 : decode cX11_carryOut 129 = .ok (.iload 5, 2) := by decide +kernel
theorem dX11_carryOut_131 : decode cX11_carryOut 131 = .ok (.bipush 25, 2) := by decide +kernel
theorem dX11_carryOut_133 : decode cX11_carryOut 133 = .ok (.if_icmp .ne 77, 3) := by decide +kernel
theorem dX11_carryOut_136 : decode cX11_carryOut 136 = .ok (.aload_n 0, 1) := by decide +kernel
theorem dX11_carryOut_137 : decode cX11_carryOut 137 = .ok (.getfield 46, 3) := by decide +kernel
theorem dX11_carryOut_140 : decode cX11_carryOut 140 = .ok (.iload_n 3, 1) := by decide +kernel
theorem dX11_carryOut_141 : decode cX11_carryOut 141 = .ok (.iload 5, 2) := by decide +kernel
theorem dX11_carryOut_143 : decode cX11_carryOut 143 = .ok (.bipush 43, 2) := by decide +kernel
theorem dX11_carryOut_145 : decode cX11_carryOut 145 = .ok (.if_icmp .ne 13, 3) := by decide +kernel
theorem dX11_carryOut_148 : decode cX11_carryOut 148 = .ok (.aload_n 0, 1) := by decide +kernel
theorem dX11_carryOut_149 : decode cX11_carryOut 149 = .ok (.getfield 46, 3) := by decide +kernel
theorem dX11_carryOut_152 : decode cX11_carryOut 152 = .ok (.iload_n 3, 1) := by decide +kernel
theorem dX11_carryOut_153 : decode cX11_carryOut 153 = .ok (.iaload, 1) := by decide +kernel
theorem dX11_carryOut_154 : decode cX11_carryOut 154 = .ok (.ineg, 1) := by decide +kernel
theorem dX11_carryOut_155 : decode cX11_carryOut 155 = .ok (.goto 51, 3) := by decide +kernel
theorem dX11_carryOut_158 : decode cX11_carryOut 158 = .ok (.iload 5, 2) := by decide +kernel
theorem dX11_carryOut_160 : decode cX11_carryOut 160 = .ok (.bipush 28, 2) := by decide +kernel
theorem dX11_carryOut_162 : decode cX11_carryOut 162 = .ok (.if_icmp .ne 14, 3) := by decide +kernel
theorem dX11_carryOut_165 : decode cX11_carryOut 165 = .ok (.iconst 1, 1) := by decide +kernel
theorem dX11_carryOut_166 : decode cX11_carryOut 166 = .ok (.aload_n 0, 1) := by decide +kernel
theorem dX11_carryOut_167 : decode cX11_carryOut 167 = .ok (.getfield 46, 3) := by decide +kernel
theorem dX11_carryOut_170 : decode cX11_carryOut 170 = .ok (.iload_n 3, 1) := by decide +kernel
theorem dX11_carryOut_171 : decode cX11_carryOut 171 = .ok (.iaload, 1) := by decide +kernel
theorem dX11_carryOut_172 : decode cX11_carryOut 172 = .ok (.isub, 1) := by decide +kernel
theorem dX11_carryOut_173 : decode cX11_carryOut 173 = .ok (.goto 33, 3) := by decide +kernel
theorem dX11_carryOut_176 : decode cX11_carryOut 176 = .ok (.aload_n 0, 1) := by decide +kernel
theorem dX11_carryOut_177 : decode cX11_carryOut 177 = .ok (.getfield 46, 3) := by decide +kernel
theorem dX11_carryOut_180 : decode cX11_carryOut 180 = .ok (.iload_n 3, 1) := by decide +kernel
theorem dX11_carryOut_181 : decode cX11_carryOut 181 = .ok (.iaload, 1) := by decide +kernel
theorem dX11_carryOut_182 : decode cX11_carryOut 182 = .ok (.iconst 0, 1) := by decide +kernel
theorem dX11_carryOut_183 : decode cX11_carryOut 183 = .ok (.bipush 63, 2) := by decide +kernel
theorem dX11_carryOut_185 : decode cX11_carryOut 185 = .ok (.invokestatic 170, 3) := by decide +kernel
theorem dX11_carryOut_188 : decode cX11_carryOut 188 = .ok (.ifCond .eq 17, 3) := by decide +kernel
theorem dX11_carryOut_191 : decode cX11_carryOut 191 = .ok (.aload_n 0, 1) := by decide +kernel
theorem dX11_carryOut_192 : decode cX11_carryOut 192 = .ok (.getfield 19, 3) := by decide +kernel
theorem dX11_carryOut_195 : decode cX11_carryOut 195 = .ok (.aload_n 0, 1) := by decide +kernel
theorem dX11_carryOut_196 : decode cX11_carryOut 196 = .ok (.getfield 46, 3) := by decide +kernel
theorem dX11_carryOut_199 : decode cX11_carryOut 199 = .ok (.iload_n 3, 1) := by decide +kernel
theorem dX11_carryOut_200 : decode cX11_carryOut 200 = .ok (.iaload, 1) := by decide +kernel
theorem dX11_carryOut_201 : decode cX11_carryOut 201 = .ok (.iaload, 1) := by decide +kernel
theorem dX11_carryOut_202 : decode cX11_carryOut 202 = .ok (.goto 4, 3) := by decide +kernel
theorem dX11_carryOut_205 : decode cX11_carryOut 205 = .ok (.iconst 0, 1) := by decide +kernel
theorem dX11_carryOut_206 : decode cX11_carryOut 206 = .ok (.iastore, 1) := by decide +kernel
theorem dX11_carryOut_207 : decode cX11_carryOut 207 = .ok (.goto 31, 3) := by decide +kernel
theorem dX11_carryOut_210 : decode cX11_carryOut 210 = .ok (.iinc 3 (-1), 3) := by decide +kernel
theorem dX11_carryOut_213 : decode cX11_carryOut 213 = .ok (.aload_n 0, 1) := by decide +kernel
theorem dX11_carryOut_214 : decode cX11_carryOut 214 = .ok (.getfield 46, 3) := by decide +kernel
theorem dX11_carryOut_217 : decode cX11_carryOut 217 = .ok (.iload_n 3, 1) := by decide +kernel
theorem dX11_carryOut_218 : decode cX11_carryOut 218 = .ok (.iload 5, 2) := by decide +kernel
theorem dX11_carryOut_220 : decode cX11_carryOut 220 = .ok (.aload_n 0, 1) := by decide +kernel
theorem dX11_carryOut_221 : decode cX11_carryOut 221 = .ok (.getfield 46, 3) := by decide +kernel
theorem dX11_carryOut_224 : decode cX11_carryOut 224 = .ok (.iload_n 3, 1) := by decide +kernel
theorem dX11_carryOut_225 : decode cX11_carryOut 225 = .ok (.iaload, 1) := by decide +kernel
theorem dX11_carryOut_226 : decode cX11_carryOut 226 = .ok (.aload_n 0, 1) := by decide +kernel
theorem dX11_carryOut_227 : decode cX11_carryOut 227 = .ok (.getfield 46, 3) := by decide +kernel
theorem dX11_carryOut_230 : decode cX11_carryOut 230 = .ok (.iload_n 3, 1) := by decide +kernel
theorem dX11_carryOut_231 : decode cX11_carryOut 231 = .ok (.iconst 1, 1) := by decide +kernel
theorem dX11_carryOut_232 : decode cX11_carryOut 232 = .ok (.iadd, 1) := by decide +kernel
theorem dX11_carryOut_233 : decode cX11_carryOut 233 = .ok (.iaload, 1) := by decide +kernel
theorem dX11_carryOut_234 : decode cX11_carryOut 234 = .ok (.invokestatic 174, 3) := by decide +kernel
theorem dX11_carryOut_237 : decode cX11_carryOut 237 = .ok (.iastore, 1) := by decide +kernel
theorem dX11_carryOut_238 : decode cX11_carryOut 238 = .ok (.goto (-233), 3) := by decide +kernel
theorem dX11_carryOut_241 : decode cX11_carryOut 241 = .ok (.aload_n 0, 1) := by decide +kernel
theorem dX11_carryOut_242 : decode cX11_carryOut 242 = .ok (.getfield 46, 3) := by decide +kernel
theorem dX11_carryOut_245 : decode cX11_carryOut 245 = .ok (.iconst 0, 1) := by decide +kernel
theorem dX11_carryOut_246 : decode cX11_carryOut 246 = .ok (.iaload, 1) := by decide +kernel
theorem dX11_carryOut_247 : decode cX11_carryOut 247 = .ok (.ireturn, 1) := by decide +kernel
set_option maxRecDepth 20000 in
theorem ggX11_pushed_X11_period : GoodIn wsX11_pushed wsX11_period := goodIn_r _ [8, 9, 10, 11, 12, 7, 13, 14, 15, 25, 26, 27, 28, 29, 30, 31, 32, 33, 34, 35, 36, 37, 38, 39, 40] (by decide +kernel) (by decide +kernel)
set_option maxRecDepth 20000 in
theorem gX11_pushed_X11_period : GoodIn wsX11_pushed (wsV RX11 157 RX11 yX11_period wsX11_period) := goodIn_app (goodIn_of _ (by decide +kernel)) ggX11_pushed_X11_period
set_option maxRecDepth 20000 in
theorem ggX11_pushed_X11_meets : GoodIn wsX11_pushed wsX11_meets := goodIn_r _ [19, 20, 21, 22, 23, 7, 24, 1, 2, 25, 26, 27, 28, 29, 30, 31, 32, 33, 34, 35, 36, 37, 38, 39, 40, 41, 42, 43, 44, 45, 46, 47, 48, 49, 50, 51, 52, 53, 54, 55, 56, 57, 58, 59, 60, 61, 62, 63, 64, 65, 66, 67, 68, 69, 70, 71, 72, 73, 74, 75, 76, 77] (by decide +kernel) (by decide +kernel)
set_option maxRecDepth 20000 in
theorem gX11_pushed_X11_meets : GoodIn wsX11_pushed (wsV RX11 177 RX11 yX11_meets wsX11_meets) := goodIn_app (goodIn_of _ (by decide +kernel)) ggX11_pushed_X11_meets
theorem dX11_pushed_0 : decode cX11_pushed 0 = .ok (.iload_n 1, 1) := by decide +kernel
theorem dX11_pushed_1 : decode cX11_pushed 1 = .ok (.lookupswitch 87 #[(22, 53), (23, 60), (24, 67), (26, 73), (42, 51)], 51) := by decide +kernel
theorem dX11_pushed_52 : decode cX11_pushed 52 = .ok (.iload_n 2, 1) := by decide +kernel
theorem dX11_pushed_53 : decode cX11_pushed 53 = .ok (.ireturn, 1) := by decide +kernel
theorem dX11_pushed_54 : decode cX11_pushed 54 = .ok (.aload_n 0, 1) := by decide +kernel
theorem dX11_pushed_55 : decode cX11_pushed 55 = .ok (.getfield 22, 3) := by decide +kernel
theorem dX11_pushed_58 : decode cX11_pushed 58 = .ok (.iload_n 2, 1) := by decide +kernel
theorem dX11_pushed_59 : decode cX11_pushed 59 = .ok (.iaload, 1) := by decide +kernel
theorem dX11_pushed_60 : decode cX11_pushed 60 = .ok (.ireturn, 1) := by decide +kernel
theorem dX11_pushed_61 : decode cX11_pushed 61 = .ok (.aload_n 0, 1) := by decide +kernel
theorem dX11_pushed_62 : decode cX11_pushed 62 = .ok (.getfield 25, 3) := by decide +kernel
theorem dX11_pushed_65 : decode cX11_pushed 65 = .ok (.iload_n 2, 1) := by decide +kernel
theorem dX11_pushed_66 : decode cX11_pushed 66 = .ok (.iaload, 1) := by decide +kernel
theorem dX11_pushed_67 : decode cX11_pushed 67 = .ok (.ireturn, 1) := by decide +kernel
theorem dX11_pushed_68 : decode cX11_pushed 68 = .ok (.aload_n 0, 1) := by decide +kernel
theorem dX11_pushed_69 : decode cX11_pushed 69 = .ok (.iload_n 2, 1) := by decide +kernel
theorem dX11_pushed_70 : decode cX11_pushed 70 = .ok (.invokevirtual 157, 3) := by decide +kernel
theorem dX11_pushed_73 : decode cX11_pushed 73 = .ok (.ireturn, 1) := by decide +kernel
theorem dX11_pushed_74 : decode cX11_pushed 74 = .ok (.aload_n 0, 1) := by decide +kernel
theorem dX11_pushed_75 : decode cX11_pushed 75 = .ok (.iload_n 2, 1) := by decide +kernel
theorem dX11_pushed_76 : decode cX11_pushed 76 = .ok (.invokevirtual 177, 3) := by decide +kernel
theorem dX11_pushed_79 : decode cX11_pushed 79 = .ok (.ifCond .eq 7, 3) := by decide +kernel
theorem dX11_pushed_82 : decode cX11_pushed 82 = .ok (.iconst 1, 1) := by decide +kernel
theorem dX11_pushed_83 : decode cX11_pushed 83 = .ok (.goto 4, 3) := by decide +kernel
theorem dX11_pushed_86 : decode cX11_pushed 86 = .ok (.iconst 0, 1) := by decide +kernel
theorem dX11_pushed_87 : decode cX11_pushed 87 = .ok (.ireturn, 1) := by decide +kernel
theorem dX11_pushed_88 : decode cX11_pushed 88 = .ok (.aload_n 0, 1) := by decide +kernel
theorem dX11_pushed_89 : decode cX11_pushed 89 = .ok (.getfield 31, 3) := by decide +kernel
theorem dX11_pushed_92 : decode cX11_pushed 92 = .ok (.iload_n 2, 1) := by decide +kernel
theorem dX11_pushed_93 : decode cX11_pushed 93 = .ok (.iaload, 1) := by decide +kernel
theorem dX11_pushed_94 : decode cX11_pushed 94 = .ok (.ireturn, 1) := by decide +kernel
