set_option maxRecDepth 20000 in
theorem ggX9_init_X6_init : GoodIn wsX9_init wsX6_init := goodIn_r _ [27, 28, 2, 3, 29, 30, 153, 154] (by decide +kernel) (by decide +kernel)
set_option maxRecDepth 20000 in
theorem gX9_init_X6_init_n11 : GoodIn wsX9_init (wsX6_init) := ggX9_init_X6_init
set_option maxRecDepth 20000 in
theorem ggX9_init_X3_init : GoodIn wsX9_init wsX3_init := goodIn_r _ [32, 33, 2, 3, 29, 34, 35, 36, 37, 38, 39, 40, 41, 162, 163, 164, 165, 166, 167, 168, 169, 170, 171, 172] (by decide +kernel) (by decide +kernel)
set_option maxRecDepth 20000 in
theorem gX9_init_X3_init_n18 : GoodIn wsX9_init (wsX3_init) := ggX9_init_X3_init
set_option maxRecDepth 20000 in
theorem ggX9_init_X8_init : GoodIn wsX9_init wsX8_init := goodIn_r _ [44, 45, 2, 3, 29, 46, 47, 48, 49, 50, 51, 52, 53, 54, 55, 56, 173, 174, 175, 176, 177, 178, 179, 180, 181, 192, 193, 194, 195, 196, 197, 198, 199, 200] (by decide +kernel) (by decide +kernel)
set_option maxRecDepth 20000 in
theorem gX9_init_X8_init : GoodIn wsX9_init (wsX8_init) := ggX9_init_X8_init
set_option maxRecDepth 20000 in
theorem ggX9_init_X2_init_c1 : GoodIn wsX9_init (.code yX2_init cX2_init 3 none :: wsX2_init_r1) := goodIn_r _ [59, 60, 2, 3, 61, 62, 63, 64, 65, 66, 67, 68, 9, 10, 69, 70, 71, 72, 73, 74, 75, 29, 76, 77, 78] (by decide +kernel) (by decide +kernel)
set_option maxRecDepth 20000 in
theorem ggX9_init_X2_init_c2 : GoodIn wsX9_init wsX2_init_r2 := goodIn_r _ [79, 80, 81, 82, 83, 84, 85, 86, 87, 88, 89, 90, 91, 92, 93, 94, 95, 96, 97, 98, 99, 100, 101, 102] (by decide +kernel) (by decide +kernel)
set_option maxRecDepth 20000 in
theorem ggX9_init_X2_init_c3 : GoodIn wsX9_init wsX2_init_r3 := goodIn_r _ [103, 104, 105, 106, 107, 108, 109, 110, 111, 112, 113, 114, 115, 116, 117, 118, 119, 120, 121, 122, 123, 124, 125, 126] (by decide +kernel) (by decide +kernel)
set_option maxRecDepth 20000 in
theorem ggX9_init_X2_init_c4 : GoodIn wsX9_init wsX2_init_r4 := goodIn_r _ [127, 128, 129, 130, 131, 132, 133, 134, 135, 136, 137, 138, 139, 31, 32, 33, 34, 35, 36, 37, 38, 39, 40, 41] (by decide +kernel) (by decide +kernel)
set_option maxRecDepth 20000 in
theorem ggX9_init_X2_init_c5 : GoodIn wsX9_init wsX20 := goodIn_r _ [182, 183, 184, 185, 186, 187, 188, 189] (by decide +kernel) (by decide +kernel)
set_option maxRecDepth 20000 in
theorem ggX9_init_X2_init_c6 : GoodIn wsX9_init wsX70 := goodIn_r _ [201, 202, 203, 204, 205, 206] (by decide +kernel) (by decide +kernel)
set_option maxRecDepth 20000 in
theorem ggX9_init_X2_init_c7 : GoodIn wsX9_init wsX30 := goodIn_r _ [162, 163, 164, 165, 166, 167, 168, 169, 170, 171, 172] (by decide +kernel) (by decide +kernel)
set_option maxRecDepth 20000 in
theorem ggX9_init_X2_init_c8 : GoodIn wsX9_init wsJ00 := goodIn_r _ [207, 208, 209, 210] (by decide +kernel) (by decide +kernel)
set_option maxRecDepth 20000 in
theorem ggX9_init_X2_init : GoodIn wsX9_init wsX2_init := (goodIn_ca (goodIn_ca (goodIn_ca (goodIn_ca (goodIn_ca ggX9_init_X2_init_c1 (goodIn_app ggX9_init_X2_init_c2 (goodIn_app ggX9_init_X2_init_c3 ggX9_init_X2_init_c4))) ggX9_init_X2_init_c5) ggX9_init_X2_init_c6) ggX9_init_X2_init_c7) ggX9_init_X2_init_c8)
set_option maxRecDepth 20000 in
theorem gX9_init_X2_init : GoodIn wsX9_init (wsX2_init) := ggX9_init_X2_init
set_option maxRecDepth 20000 in
theorem ggX9_init_X5_init : GoodIn wsX9_init wsX5_init := goodIn_r _ [142, 143, 2, 3, 144, 145, 146, 147, 148, 149, 150, 151, 29, 152, 211, 212, 190, 191] (by decide +kernel) (by decide +kernel)
set_option maxRecDepth 20000 in
theorem gX9_init_X5_init : GoodIn wsX9_init (wsX5_init) := ggX9_init_X5_init
theorem dX9_init_0 : decode cX9_init 0 = .ok (.aload_n 0, 1) := by decide +kernel
theorem dX9_init_1 : decode cX9_init 1 = .ok (.invokespecial 3, 3) := by decide +kernel
theorem dX9_init_4 : decode cX9_init 4 = .ok (.aload_n 0, 1) := by decide +kernel
theorem dX9_init_5 : decode cX9_init 5 = .ok (.new 9, 3) := by decide +kernel
theorem dX9_init_8 : decode cX9_init 8 = .ok (.dup, 1) := by decide +kernel
theorem dX9_init_9 : decode cX9_init 9 = .ok (.invokespecial 11, 3) := by decide +kernel
theorem dX9_init_12 : decode cX9_init 12 = .ok (.putfield 12, 3) := by decide +kernel
theorem dX9_init_15 : decode cX9_init 15 = .ok (.aload_n 0, 1) := by decide +kernel
theorem dX9_init_16 : decode cX9_init 16 = .ok (.new 16, 3) := by decide +kernel
theorem dX9_init_19 : decode cX9_init 19 = .ok (.dup, 1) := by decide +kernel
theorem dX9_init_20 : decode cX9_init 20 = .ok (.invokespecial 18, 3) := by decide +kernel
theorem dX9_init_23 : decode cX9_init 23 = .ok (.putfield 19, 3) := by decide +kernel
theorem dX9_init_26 : decode cX9_init 26 = .ok (.aload_n 0, 1) := by decide +kernel
theorem dX9_init_27 : decode cX9_init 27 = .ok (.new 23, 3) := by decide +kernel
theorem dX9_init_30 : decode cX9_init 30 = .ok (.dup, 1) := by decide +kernel
theorem dX9_init_31 : decode cX9_init 31 = .ok (.invokespecial 25, 3) := by decide +kernel
theorem dX9_init_34 : decode cX9_init 34 = .ok (.putfield 26, 3) := by decide +kernel
theorem dX9_init_37 : decode cX9_init 37 = .ok (.aload_n 0, 1) := by decide +kernel
theorem dX9_init_38 : decode cX9_init 38 = .ok (.new 23, 3) := by decide +kernel
theorem dX9_init_41 : decode cX9_init 41 = .ok (.dup, 1) := by decide +kernel
theorem dX9_init_42 : decode cX9_init 42 = .ok (.invokespecial 25, 3) := by decide +kernel
theorem dX9_init_45 : decode cX9_init 45 = .ok (.putfield 30, 3) := by decide +kernel
theorem dX9_init_48 : decode cX9_init 48 = .ok (.aload_n 0, 1) := by decide +kernel
theorem dX9_init_49 : decode cX9_init 49 = .ok (.new 33, 3) := by decide +kernel
theorem dX9_init_52 : decode cX9_init 52 = .ok (.dup, 1) := by decide +kernel
theorem dX9_init_53 : decode cX9_init 53 = .ok (.aload_n 0, 1) := by decide +kernel
theorem dX9_init_54 : decode cX9_init 54 = .ok (.getfield 12, 3) := by decide +kernel
theorem dX9_init_57 : decode cX9_init 57 = .ok (.aload_n 0, 1) := by decide +kernel
theorem dX9_init_58 : decode cX9_init 58 = .ok (.getfield 30, 3) := by decide +kernel
theorem dX9_init_61 : decode cX9_init 61 = .ok (.invokespecial 35, 3) := by decide +kernel
theorem dX9_init_64 : decode cX9_init 64 = .ok (.putfield 38, 3) := by decide +kernel
theorem dX9_init_67 : decode cX9_init 67 = .ok (.aload_n 0, 1) := by decide +kernel
theorem dX9_init_68 : decode cX9_init 68 = .ok (.new 42, 3) := by decide +kernel
theorem dX9_init_71 : decode cX9_init 71 = .ok (.dup, 1) := by decide +kernel
theorem dX9_init_72 : decode cX9_init 72 = .ok (.aload_n 0, 1) := by decide +kernel
theorem dX9_init_73 : decode cX9_init 73 = .ok (.getfield 19, 3) := by decide +kernel
theorem dX9_init_76 : decode cX9_init 76 = .ok (.invokespecial 44, 3) := by decide +kernel
theorem dX9_init_79 : decode cX9_init 79 = .ok (.putfield 47, 3) := by decide +kernel
theorem dX9_init_82 : decode cX9_init 82 = .ok (.aload_n 0, 1) := by decide +kernel
theorem dX9_init_83 : decode cX9_init 83 = .ok (.iconst (-1), 1) := by decide +kernel
theorem dX9_init_84 : decode cX9_init 84 = .ok (.putfield 51, 3) := by decide +kernel
theorem dX9_init_87 : decode cX9_init 87 = .ok (.return_, 1) := by decide +kernel
set_option maxRecDepth 20000 in
theorem ggX9_feed_X6_hasRoom : GoodIn wsX9_feed wsX6_hasRoom := goodIn_r _ [9, 10, 24, 25] (by decide +kernel) (by decide +kernel)
set_option maxRecDepth 20000 in
theorem gX9_feed_X6_hasRoom : GoodIn wsX9_feed (wsV RX9 55 RX6 yX6_hasRoom wsX6_hasRoom) := goodIn_app (goodIn_of _ (by decide +kernel)) ggX9_feed_X6_hasRoom
set_option maxRecDepth 20000 in
theorem ggX9_feed_X6_append : GoodIn wsX9_feed wsX6_append := goodIn_r _ [14, 15, 10, 16, 6, 7, 8, 9, 24, 25] (by decide +kernel) (by decide +kernel)
set_option maxRecDepth 20000 in
theorem gX9_feed_X6_append : GoodIn wsX9_feed (wsV RX9 66 RX6 yX6_append wsX6_append) := goodIn_app (goodIn_of _ (by decide +kernel)) ggX9_feed_X6_append
theorem dX9_feed_0 : decode cX9_feed 0 = .ok (.aload_n 0, 1) := by decide +kernel
theorem dX9_feed_1 : decode cX9_feed 1 = .ok (.getfield 12, 3) := by decide +kernel
theorem dX9_feed_4 : decode cX9_feed 4 = .ok (.bipush 20, 2) := by decide +kernel
theorem dX9_feed_6 : decode cX9_feed 6 = .ok (.invokevirtual 55, 3) := by decide +kernel
theorem dX9_feed_9 : decode cX9_feed 9 = .ok (.ifCond .ne 13, 3) := by decide +kernel
theorem dX9_feed_12 : decode cX9_feed 12 = .ok (.new 59, 3) := by decide +kernel
theorem dX9_feed_15 : decode cX9_feed 15 = .ok (.dup, 1) := by decide +kernel
theorem dX9_feed_16 : decode cX9_feed 16 = .ok (.ldc 61, 2) := by decide +kernel
theorem dX9_feed_18 : decode cX9_feed 18 = .ok (.invokespecial 63, 3) := by decide +kernel
theorem dX9_feed_21 : decode cX9_feed 21 = .ok (.athrow, 1) := by decide +kernel
theorem dX9_feed_22 : decode cX9_feed 22 = .ok (.aload_n 0, 1) := by decide +kernel
theorem dX9_feed_23 : decode cX9_feed 23 = .ok (.getfield 12, 3) := by decide +kernel
theorem dX9_feed_26 : decode cX9_feed 26 = .ok (.iload_n 1, 1) := by decide +kernel
theorem dX9_feed_27 : decode cX9_feed 27 = .ok (.invokevirtual 66, 3) := by decide +kernel
theorem dX9_feed_30 : decode cX9_feed 30 = .ok (.aload_n 0, 1) := by decide +kernel
theorem dX9_feed_31 : decode cX9_feed 31 = .ok (.getfield 12, 3) := by decide +kernel
theorem dX9_feed_34 : decode cX9_feed 34 = .ok (.iload_n 2, 1) := by decide +kernel
theorem dX9_feed_35 : decode cX9_feed 35 = .ok (.invokevirtual 66, 3) := by decide +kernel
theorem dX9_feed_38 : decode cX9_feed 38 = .ok (.aload_n 0, 1) := by decide +kernel
theorem dX9_feed_39 : decode cX9_feed 39 = .ok (.getfield 12, 3) := by decide +kernel
theorem dX9_feed_42 : decode cX9_feed 42 = .ok (.iload_n 3, 1) := by decide +kernel
theorem dX9_feed_43 : decode cX9_feed 43 = .ok (.invokevirtual 66, 3) := by decide +kernel
theorem dX9_feed_46 : decode cX9_feed 46 = .ok (.aload_n 0, 1) := by decide +kernel
theorem dX9_feed_47 : decode cX9_feed 47 = .ok (.getfield 12, 3) := by decide +kernel
theorem dX9_feed_50 : decode cX9_feed 50 = .ok (.iload 4, 2) := by decide +kernel
theorem dX9_feed_52 : decode cX9_feed 52 = .ok (.invokevirtual 66, 3) := by decide +kernel
theorem dX9_feed_55 : decode cX9_feed 55 = .ok (.aload_n 0, 1) := by decide +kernel
theorem dX9_feed_56 : decode cX9_feed 56 = .ok (.getfield 12, 3) := by decide +kernel
theorem dX9_feed_59 : decode cX9_feed 59 = .ok (.iload 5, 2) := by decide +kernel
theorem dX9_feed_61 : decode cX9_feed 61 = .ok (.invokevirtual 66, 3) := by decide +kernel
theorem dX9_feed_64 : decode cX9_feed 64 = .ok (.aload_n 0, 1) := by decide +kernel
theorem dX9_feed_65 : decode cX9_feed 65 = .ok (.getfield 12, 3) := by decide +kernel
theorem dX9_feed_68 : decode cX9_feed 68 = .ok (.getfield 70, 3) := by decide +kernel
theorem dX9_feed_71 : decode cX9_feed 71 = .ok (.ireturn, 1) := by decide +kernel
theorem dX9_trim_0 : decode cX9_trim 0 = .ok (.iload_n 1, 1) := by decide +kernel
theorem dX9_trim_1 : decode cX9_trim 1 = .ok (.ifCond .lt 14, 3) := by decide +kernel
theorem dX9_trim_4 : decode cX9_trim 4 = .ok (.iload_n 1, 1) := by decide +kernel
theorem dX9_trim_5 : decode cX9_trim 5 = .ok (.aload_n 0, 1) := by decide +kernel
theorem dX9_trim_6 : decode cX9_trim 6 = .ok (.getfield 12, 3) := by decide +kernel
theorem dX9_trim_9 : decode cX9_trim 9 = .ok (.getfield 70, 3) := by decide +kernel
theorem dX9_trim_12 : decode cX9_trim 12 = .ok (.if_icmp .le 13, 3) := by decide +kernel
theorem dX9_trim_15 : decode cX9_trim 15 = .ok (.new 73, 3) := by decide +kernel
theorem dX9_trim_18 : decode cX9_trim 18 = .ok (.dup, 1) := by decide +kernel
theorem dX9_trim_19 : decode cX9_trim 19 = .ok (.ldc 75, 2) := by decide +kernel
theorem dX9_trim_21 : decode cX9_trim 21 = .ok (.invokespecial 77, 3) := by decide +kernel
theorem dX9_trim_24 : decode cX9_trim 24 = .ok (.athrow, 1) := by decide +kernel
theorem dX9_trim_25 : decode cX9_trim 25 = .ok (.aload_n 0, 1) := by decide +kernel
theorem dX9_trim_26 : decode cX9_trim 26 = .ok (.getfield 12, 3) := by decide +kernel
theorem dX9_trim_29 : decode cX9_trim 29 = .ok (.iload_n 1, 1) := by decide +kernel
theorem dX9_trim_30 : decode cX9_trim 30 = .ok (.putfield 70, 3) := by decide +kernel
theorem dX9_trim_33 : decode cX9_trim 33 = .ok (.iload_n 1, 1) := by decide +kernel
theorem dX9_trim_34 : decode cX9_trim 34 = .ok (.ireturn, 1) := by decide +kernel
set_option maxRecDepth 20000 in
theorem ggX9_teach_X2_read_c1 : GoodIn wsX9_teach (.code yX2_read cX2_read 3 (some .int) :: wsX2_read_r1) := goodIn_r _ [14, 15, 16, 17, 18, 19, 20, 21, 22, 23, 24, 25, 26, 27, 28, 29, 30, 31, 32, 33, 34, 35, 36, 37, 38] (by decide +kernel) (by decide +kernel)
set_option maxRecDepth 20000 in
theorem ggX9_teach_X2_read_c2 : GoodIn wsX9_teach wsX2_read_r2 := goodIn_r _ [39, 40, 41, 42, 43, 44, 45, 46, 47, 48, 49, 50, 51, 52, 53, 54, 55, 56, 57, 58, 59, 60, 61, 62] (by decide +kernel) (by decide +kernel)
set_option maxRecDepth 20000 in
theorem ggX9_teach_X2_read_c3 : GoodIn wsX9_teach wsX2_read_r3 := goodIn_r _ [63, 64, 65, 66, 67, 68, 69, 70, 71, 72, 73, 74, 75, 76, 77, 78, 79, 80, 81, 82, 83, 84, 85, 86] (by decide +kernel) (by decide +kernel)
set_option maxRecDepth 20000 in
theorem ggX9_teach_X2_read_c4 : GoodIn wsX9_teach wsX2_read_r4 := goodIn_r _ [87, 88, 89, 90, 91, 92, 93, 94, 95, 96, 97, 98, 99, 100, 101, 102, 103, 104, 105, 106, 107, 13, 108, 109] (by decide +kernel) (by decide +kernel)
set_option maxRecDepth 20000 in
theorem ggX9_teach_X2_read_c5 : GoodIn wsX9_teach wsX2_read_r5 := goodIn_r _ [110, 111, 112, 113, 114, 115, 116, 117, 118, 119, 120, 121, 122, 123, 124, 125, 126, 127, 128, 129, 130, 131, 132, 133] (by decide +kernel) (by decide +kernel)
set_option maxRecDepth 20000 in
theorem ggX9_teach_X2_read_c6 : GoodIn wsX9_teach wsX2_read_r6 := goodIn_r _ [134, 135, 136, 137, 138, 139, 140, 141, 142, 143, 144, 145, 146, 147, 148, 149, 150, 151, 152, 153, 154, 155, 156, 157] (by decide +kernel) (by decide +kernel)
set_option maxRecDepth 20000 in
theorem ggX9_teach_X2_read_c7 : GoodIn wsX9_teach wsX2_read_r7 := goodIn_r _ [158, 159, 160, 161, 162, 163, 164, 165, 166, 167, 168, 169, 170, 171, 172, 173, 174, 175, 176, 177, 178, 179, 180, 181] (by decide +kernel) (by decide +kernel)
set_option maxRecDepth 20000 in
theorem ggX9_teach_X2_read_c8 : GoodIn wsX9_teach wsX2_read_r8 := goodIn_r _ [182, 183, 184, 185, 186, 187, 188, 189, 190, 191, 192, 193, 194, 195, 196, 197, 198, 199, 200, 201, 202, 203, 204, 205] (by decide +kernel) (by decide +kernel)
set_option maxRecDepth 20000 in
theorem ggX9_teach_X2_read_c9 : GoodIn wsX9_teach wsX2_read_r9 := goodIn_r _ [206, 207, 208, 209, 210, 211, 212, 213, 214, 215, 216, 217, 218, 219, 220, 221, 222, 223, 224, 225, 226, 227, 228, 229] (by decide +kernel) (by decide +kernel)
set_option maxRecDepth 20000 in
theorem ggX9_teach_X2_read_c10 : GoodIn wsX9_teach wsX2_read_r10 := goodIn_r _ [230, 231, 232, 233, 234, 235, 236, 237, 238, 239, 240, 241, 242, 243, 244, 245, 246, 247, 248, 249, 250, 251, 252, 253] (by decide +kernel) (by decide +kernel)
set_option maxRecDepth 20000 in
theorem ggX9_teach_X2_read_c11 : GoodIn wsX9_teach wsX2_read_r11 := goodIn_r _ [254, 255, 256, 257, 258, 259, 260, 261, 262, 263, 264, 265, 266, 267, 268, 269, 270, 271, 272, 273, 274, 275, 276, 277] (by decide +kernel) (by decide +kernel)
set_option maxRecDepth 20000 in
theorem ggX9_teach_X2_read_c12 : GoodIn wsX9_teach wsX2_read_r12 := goodIn_r _ [278, 279, 280, 281, 282, 283, 284, 285, 286, 287, 288, 289, 290, 291, 292, 293, 294, 295, 296, 297, 298, 299, 300, 301] (by decide +kernel) (by decide +kernel)
set_option maxRecDepth 20000 in
theorem ggX9_teach_X2_read_c13 : GoodIn wsX9_teach wsX2_read_r13 := goodIn_r _ [302, 303, 304, 305, 306, 307, 308, 309, 310, 311, 312, 313] (by decide +kernel) (by decide +kernel)
set_option maxRecDepth 20000 in
theorem ggX9_teach_X2_read_c14 : GoodIn wsX9_teach wsX20 := goodIn_r _ [340, 341, 342, 343, 344, 345, 346, 347] (by decide +kernel) (by decide +kernel)
set_option maxRecDepth 20000 in
theorem ggX9_teach_X2_read_c15 : GoodIn wsX9_teach wsX70 := goodIn_r _ [350, 351, 352, 353, 354, 355] (by decide +kernel) (by decide +kernel)
set_option maxRecDepth 20000 in
theorem ggX9_teach_X2_read_c16 : GoodIn wsX9_teach wsX60 := goodIn_r _ [348, 349] (by decide +kernel) (by decide +kernel)
set_option maxRecDepth 20000 in
theorem ggX9_teach_X2_read_c17 : GoodIn wsX9_teach wsX30 := goodIn_r _ [356, 357, 358, 359, 360, 361, 362, 363, 364, 365, 366] (by decide +kernel) (by decide +kernel)
set_option maxRecDepth 20000 in
theorem ggX9_teach_X2_read_c18 : GoodIn wsX9_teach wsX80 := goodIn_r _ [367, 368, 369, 370, 371, 372, 373, 374, 375] (by decide +kernel) (by decide +kernel)
set_option maxRecDepth 20000 in
theorem ggX9_teach_X2_read_c19 : GoodIn wsX9_teach wsX00 := goodIn_r _ [376, 377, 378, 379, 380, 381, 382, 383, 384] (by decide +kernel) (by decide +kernel)
set_option maxRecDepth 20000 in
theorem ggX9_teach_X2_read : GoodIn wsX9_teach wsX2_read := (goodIn_ca (goodIn_ca (goodIn_ca (goodIn_ca (goodIn_ca (goodIn_ca (goodIn_ca ggX9_teach_X2_read_c1 (goodIn_app ggX9_teach_X2_read_c2 (goodIn_app ggX9_teach_X2_read_c3 (goodIn_app ggX9_teach_X2_read_c4 (goodIn_app ggX9_teach_X2_read_c5 (goodIn_app ggX9_teach_X2_read_c6 (goodIn_app ggX9_teach_X2_read_c7 (goodIn_app ggX9_teach_X2_read_c8 (goodIn_app ggX9_teach_X2_read_c9 (goodIn_app ggX9_teach_X2_read_c10 (goodIn_app ggX9_teach_X2_read_c11 (goodIn_app ggX9_teach_X2_read_c12 ggX9_teach_X2_read_c13)))))))))))) ggX9_teach_X2_read_c14) ggX9_teach_X2_read_c15) ggX9_teach_X2_read_c16) ggX9_teach_X2_read_c17) ggX9_teach_X2_read_c18) ggX9_teach_X2_read_c19)
set_option maxRecDepth 20000 in
theorem gX9_teach_X2_read : GoodIn wsX9_teach (wsV RX9 78 RX2 yX2_read wsX2_read) := goodIn_app (goodIn_of _ (by decide +kernel)) ggX9_teach_X2_read
set_option maxRecDepth 20000 in
theorem ggX9_teach_X3_copyFrom : GoodIn wsX9_teach wsX3_copyFrom := goodIn_r _ [317, 89, 143, 318, 319, 320, 321, 148, 90, 241, 242, 243, 244, 91, 260, 261, 356, 357, 358, 359, 360, 361, 362, 363, 364, 365, 366] (by decide +kernel) (by decide +kernel)
set_option maxRecDepth 20000 in
theorem gX9_teach_X3_copyFrom : GoodIn wsX9_teach (wsV RX9 86 RX3 yX3_copyFrom wsX3_copyFrom) := goodIn_app (goodIn_of _ (by decide +kernel)) ggX9_teach_X3_copyFrom
set_option maxRecDepth 20000 in
theorem ggX9_teach_X8_copyFrom : GoodIn wsX9_teach wsX8_copyFrom := goodIn_r _ [325, 97, 326, 319, 320, 321, 98, 99, 100, 164, 101, 102, 103, 104, 327, 328, 329, 168, 330, 170, 171, 172, 173, 174, 175, 180, 181, 331, 332, 367, 368, 369, 370, 371, 372, 373, 374, 375, 376, 377, 378, 379, 380, 381, 382, 383, 384] (by decide +kernel) (by decide +kernel)
set_option maxRecDepth 20000 in
theorem gX9_teach_X8_copyFrom : GoodIn wsX9_teach (wsV RX9 89 RX8 yX8_copyFrom wsX8_copyFrom) := goodIn_app (goodIn_of _ (by decide +kernel)) ggX9_teach_X8_copyFrom
theorem dX9_teach_0 : decode cX9_teach 0 = .ok (.aload_n 0, 1) := by decide +kernel
theorem dX9_teach_1 : decode cX9_teach 1 = .ok (.getfield 38, 3) := by decide +kernel
theorem dX9_teach_4 : decode cX9_teach 4 = .ok (.invokevirtual 78, 3) := by decide +kernel
theorem dX9_teach_7 : decode cX9_teach 7 = .ok (.istore_n 1, 1) := by decide +kernel
theorem dX9_teach_8 : decode cX9_teach 8 = .ok (.aload_n 0, 1) := by decide +kernel
theorem dX9_teach_9 : decode cX9_teach 9 = .ok (.iload_n 1, 1) := by decide +kernel
theorem dX9_teach_10 : decode cX9_teach 10 = .ok (.ifCond .ne 7, 3) := by decide +kernel
theorem dX9_teach_13 : decode cX9_teach 13 = .ok (.iconst (-1), 1) := by decide +kernel
theorem dX9_teach_14 : decode cX9_teach 14 = .ok (.goto 10, 3) := by decide +kernel
theorem dX9_teach_17 : decode cX9_teach 17 = .ok (.aload_n 0, 1) := by decide +kernel
theorem dX9_teach_18 : decode cX9_teach 18 = .ok (.getfield 38, 3) := by decide +kernel
theorem dX9_teach_21 : decode cX9_teach 21 = .ok (.getfield 82, 3) := by decide +kernel
theorem dX9_teach_24 : decode cX9_teach 24 = .ok (.putfield 51, 3) := by decide +kernel
theorem dX9_teach_27 : decode cX9_teach 27 = .ok (.aload_n 0, 1) := by decide +kernel
theorem dX9_teach_28 : decode cX9_teach 28 = .ok (.getfield 12, 3) := by decide +kernel
theorem dX9_teach_31 : decode cX9_teach 31 = .ok (.iconst 0, 1) := by decide +kernel
theorem dX9_teach_32 : decode cX9_teach 32 = .ok (.putfield 70, 3) := by decide +kernel
theorem dX9_teach_35 : decode cX9_teach 35 = .ok (.iload_n 1, 1) := by decide +kernel
theorem dX9_teach_36 : decode cX9_teach 36 = .ok (.ifCond .ne 28, 3) := by decide +kernel
theorem dX9_teach_39 : decode cX9_teach 39 = .ok (.aload_n 0, 1) := by decide +kernel
theorem dX9_teach_40 : decode cX9_teach 40 = .ok (.getfield 19, 3) := by decide +kernel
theorem dX9_teach_43 : decode cX9_teach 43 = .ok (.aload_n 0, 1) := by decide +kernel
theorem dX9_teach_44 : decode cX9_teach 44 = .ok (.getfield 38, 3) := by decide +kernel
theorem dX9_teach_47 : decode cX9_teach 47 = .ok (.getfield 83, 3) := by decide +kernel
theorem dX9_teach_50 : decode cX9_teach 50 = .ok (.invokevirtual 86, 3) := by decide +kernel
theorem dX9_teach_53 : decode cX9_teach 53 = .ok (.aload_n 0, 1) := by decide +kernel
theorem dX9_teach_54 : decode cX9_teach 54 = .ok (.getfield 26, 3) := by decide +kernel
theorem dX9_teach_57 : decode cX9_teach 57 = .ok (.aload_n 0, 1) := by decide +kernel
theorem dX9_teach_58 : decode cX9_teach 58 = .ok (.getfield 30, 3) := by decide +kernel
theorem dX9_teach_61 : decode cX9_teach 61 = .ok (.invokevirtual 89, 3) := by decide +kernel
theorem dX9_teach_64 : decode cX9_teach 64 = .ok (.iload_n 1, 1) := by decide +kernel
theorem dX9_teach_65 : decode cX9_teach 65 = .ok (.ireturn, 1) := by decide +kernel
set_option maxRecDepth 20000 in
theorem ggX9_count_X8_total : GoodIn wsX9_count wsX8_total := goodIn_r _ [15, 16, 17, 18, 19, 20, 21, 14, 22, 23, 24, 25, 26, 27, 28, 29, 30, 31, 32, 33, 34, 42, 43, 44, 45, 46, 47, 48, 49, 50, 64, 65, 66, 67, 68, 69, 70, 71, 72] (by decide +kernel) (by decide +kernel)
set_option maxRecDepth 20000 in
theorem gX9_count_X8_total : GoodIn wsX9_count (wsV RX9 109 RX8 yX8_total wsX8_total) := goodIn_app (goodIn_of _ (by decide +kernel)) ggX9_count_X8_total
theorem dX9_count_0 : decode cX9_count 0 = .ok (.iload_n 1, 1) := by decide +kernel
theorem dX9_count_1 : decode cX9_count 1 = .ok (.ifCond .lt 9, 3) := by decide +kernel
theorem dX9_count_4 : decode cX9_count 4 = .ok (.iload_n 1, 1) := by decide +kernel
theorem dX9_count_5 : decode cX9_count 5 = .ok (.bipush 11, 2) := by decide +kernel
theorem dX9_count_7 : decode cX9_count 7 = .ok (.if_icmp .lt 13, 3) := by decide +kernel
theorem dX9_count_10 : decode cX9_count 10 = .ok (.new 92, 3) := by decide +kernel
theorem dX9_count_13 : decode cX9_count 13 = .ok (.dup, 1) := by decide +kernel
theorem dX9_count_14 : decode cX9_count 14 = .ok (.ldc 94, 2) := by decide +kernel
theorem dX9_count_16 : decode cX9_count 16 = .ok (.invokespecial 96, 3) := by decide +kernel
theorem dX9_count_19 : decode cX9_count 19 = .ok (.athrow, 1) := by decide +kernel
theorem dX9_count_20 : decode cX9_count 20 = .ok (.iload_n 1, 1) := by decide +kernel
theorem dX9_count_21 : decode cX9_count 21 = .ok (.tableswitch 99 0 10 #[59, 67, 75, 83, 99, 99, 99, 99, 99, 99, 91], 59) := by decide +kernel
theorem dX9_count_80 : decode cX9_count 80 = .ok (.aload_n 0, 1) := by decide +kernel
theorem dX9_count_81 : decode cX9_count 81 = .ok (.getfield 26, 3) := by decide +kernel
theorem dX9_count_84 : decode cX9_count 84 = .ok (.getfield 97, 3) := by decide +kernel
theorem dX9_count_87 : decode cX9_count 87 = .ok (.ireturn, 1) := by decide +kernel
theorem dX9_count_88 : decode cX9_count 88 = .ok (.aload_n 0, 1) := by decide +kernel
theorem dX9_count_89 : decode cX9_count 89 = .ok (.getfield 19, 3) := by decide +kernel
theorem dX9_count_92 : decode cX9_count 92 = .ok (.getfield 100, 3) := by decide +kernel
theorem dX9_count_95 : decode cX9_count 95 = .ok (.ireturn, 1) := by decide +kernel
theorem dX9_count_96 : decode cX9_count 96 = .ok (.aload_n 0, 1) := by decide +kernel
theorem dX9_count_97 : decode cX9_count 97 = .ok (.getfield 26, 3) := by decide +kernel
theorem dX9_count_100 : decode cX9_count 100 = .ok (.getfield 103, 3) := by decide +kernel
theorem dX9_count_103 : decode cX9_count 103 = .ok (.ireturn, 1) := by decide +kernel
theorem dX9_count_104 : decode cX9_count 104 = .ok (.aload_n 0, 1) := by decide +kernel
theorem dX9_count_105 : decode cX9_count 105 = .ok (.getfield 19, 3) := by decide +kernel
theorem dX9_count_108 : decode cX9_count 108 = .ok (.getfield 106, 3) := by decide +kernel
theorem dX9_count_111 : decode cX9_count 111 = .ok (.ireturn, 1) := by decide +kernel
theorem dX9_count_112 : decode cX9_count 112 = .ok (.aload_n 0, 1) := by decide +kernel
theorem dX9_count_113 : decode cX9_count 113 = .ok (.getfield 12, 3) := by decide +kernel
theorem dX9_count_116 : decode cX9_count 116 = .ok (.getfield 70, 3) := by decide +kernel
theorem dX9_count_119 : decode cX9_count 119 = .ok (.ireturn, 1) := by decide +kernel
theorem dX9_count_120 : decode cX9_count 120 = .ok (.aload_n 0, 1) := by decide +kernel
theorem dX9_count_121 : decode cX9_count 121 = .ok (.getfield 26, 3) := by decide +kernel
theorem dX9_count_124 : decode cX9_count 124 = .ok (.iload_n 1, 1) := by decide +kernel
theorem dX9_count_125 : decode cX9_count 125 = .ok (.invokevirtual 109, 3) := by decide +kernel
theorem dX9_count_128 : decode cX9_count 128 = .ok (.ireturn, 1) := by decide +kernel
set_option maxRecDepth 20000 in
theorem ggX9_stone_X9_isStone : GoodIn wsX9_stone wsX9_isStone := goodIn_r _ [7, 8, 9, 6, 10] (by decide +kernel) (by decide +kernel)
set_option maxRecDepth 20000 in
theorem gX9_stone_X9_isStone : GoodIn wsX9_stone (va_wsS RX9 113 yX9_isStone wsX9_isStone) := goodIn_app (goodIn_of _ (by decide +kernel)) ggX9_stone_X9_isStone
set_option maxRecDepth 20000 in
theorem ggX9_stone_X8_colourAt : GoodIn wsX9_stone wsX8_colourAt := goodIn_r _ [15, 16, 24, 25, 26, 27, 28, 29, 30, 31, 32] (by decide +kernel) (by decide +kernel)
set_option maxRecDepth 20000 in
theorem gX9_stone_X8_colourAt : GoodIn wsX9_stone (wsV RX9 119 RX8 yX8_colourAt wsX8_colourAt) := goodIn_app (goodIn_of _ (by decide +kernel)) ggX9_stone_X8_colourAt
theorem dX9_stone_0 : decode cX9_stone 0 = .ok (.iload_n 1, 1) := by decide +kernel
theorem dX9_stone_1 : decode cX9_stone 1 = .ok (.iload_n 2, 1) := by decide +kernel
theorem dX9_stone_2 : decode cX9_stone 2 = .ok (.invokestatic 113, 3) := by decide +kernel
theorem dX9_stone_5 : decode cX9_stone 5 = .ok (.ifCond .ne 13, 3) := by decide +kernel
theorem dX9_stone_8 : decode cX9_stone 8 = .ok (.new 92, 3) := by decide +kernel
theorem dX9_stone_11 : decode cX9_stone 11 = .ok (.dup, 1) := by decide +kernel
theorem dX9_stone_12 : decode cX9_stone 12 = .ok (.ldc 117, 2) := by decide +kernel
theorem dX9_stone_14 : decode cX9_stone 14 = .ok (.invokespecial 96, 3) := by decide +kernel
theorem dX9_stone_17 : decode cX9_stone 17 = .ok (.athrow, 1) := by decide +kernel
theorem dX9_stone_18 : decode cX9_stone 18 = .ok (.aload_n 0, 1) := by decide +kernel
theorem dX9_stone_19 : decode cX9_stone 19 = .ok (.getfield 26, 3) := by decide +kernel
theorem dX9_stone_22 : decode cX9_stone 22 = .ok (.iload_n 2, 1) := by decide +kernel
theorem dX9_stone_23 : decode cX9_stone 23 = .ok (.bipush 64, 2) := by decide +kernel
theorem dX9_stone_25 : decode cX9_stone 25 = .ok (.imul, 1) := by decide +kernel
theorem dX9_stone_26 : decode cX9_stone 26 = .ok (.iload_n 1, 1) := by decide +kernel
theorem dX9_stone_27 : decode cX9_stone 27 = .ok (.iadd, 1) := by decide +kernel
theorem dX9_stone_28 : decode cX9_stone 28 = .ok (.invokevirtual 119, 3) := by decide +kernel
theorem dX9_stone_31 : decode cX9_stone 31 = .ok (.ireturn, 1) := by decide +kernel
set_option maxRecDepth 20000 in
theorem ggX9_colour_X9_isColour : GoodIn wsX9_colour wsX9_isColour := goodIn_r _ [8] (by decide +kernel) (by decide +kernel)
set_option maxRecDepth 20000 in
theorem gX9_colour_X9_isColour : GoodIn wsX9_colour (va_wsS RX9 122 yX9_isColour wsX9_isColour) := goodIn_app (goodIn_of _ (by decide +kernel)) ggX9_colour_X9_isColour
theorem dX9_colour_0 : decode cX9_colour 0 = .ok (.iload_n 1, 1) := by decide +kernel
theorem dX9_colour_1 : decode cX9_colour 1 = .ok (.invokestatic 122, 3) := by decide +kernel
theorem dX9_colour_4 : decode cX9_colour 4 = .ok (.ifCond .ne 13, 3) := by decide +kernel
theorem dX9_colour_7 : decode cX9_colour 7 = .ok (.new 92, 3) := by decide +kernel
theorem dX9_colour_10 : decode cX9_colour 10 = .ok (.dup, 1) := by decide +kernel
theorem dX9_colour_11 : decode cX9_colour 11 = .ok (.ldc 125, 2) := by decide +kernel
theorem dX9_colour_13 : decode cX9_colour 13 = .ok (.invokespecial 96, 3) := by decide +kernel
theorem dX9_colour_16 : decode cX9_colour 16 = .ok (.athrow, 1) := by decide +kernel
theorem dX9_colour_17 : decode cX9_colour 17 = .ok (.aload_n 0, 1) := by decide +kernel
theorem dX9_colour_18 : decode cX9_colour 18 = .ok (.getfield 26, 3) := by decide +kernel
theorem dX9_colour_21 : decode cX9_colour 21 = .ok (.getfield 127, 3) := by decide +kernel
theorem dX9_colour_24 : decode cX9_colour 24 = .ok (.iload_n 1, 1) := by decide +kernel
theorem dX9_colour_25 : decode cX9_colour 25 = .ok (.iaload, 1) := by decide +kernel
theorem dX9_colour_26 : decode cX9_colour 26 = .ok (.ireturn, 1) := by decide +kernel
set_option maxRecDepth 20000 in
theorem ggX9_row_X9_isLine : GoodIn wsX9_row wsX9_isLine := goodIn_r _ [8] (by decide +kernel) (by decide +kernel)
set_option maxRecDepth 20000 in
theorem gX9_row_X9_isLine : GoodIn wsX9_row (va_wsS RX9 131 yX9_isLine wsX9_isLine) := goodIn_app (goodIn_of _ (by decide +kernel)) ggX9_row_X9_isLine
theorem dX9_row_0 : decode cX9_row 0 = .ok (.iload_n 1, 1) := by decide +kernel
theorem dX9_row_1 : decode cX9_row 1 = .ok (.invokestatic 131, 3) := by decide +kernel
theorem dX9_row_4 : decode cX9_row 4 = .ok (.ifCond .ne 13, 3) := by decide +kernel
theorem dX9_row_7 : decode cX9_row 7 = .ok (.new 92, 3) := by decide +kernel
theorem dX9_row_10 : decode cX9_row 10 = .ok (.dup, 1) := by decide +kernel
theorem dX9_row_11 : decode cX9_row 11 = .ok (.ldc 134, 2) := by decide +kernel
theorem dX9_row_13 : decode cX9_row 13 = .ok (.invokespecial 96, 3) := by decide +kernel
theorem dX9_row_16 : decode cX9_row 16 = .ok (.athrow, 1) := by decide +kernel
theorem dX9_row_17 : decode cX9_row 17 = .ok (.aload_n 0, 1) := by decide +kernel
theorem dX9_row_18 : decode cX9_row 18 = .ok (.getfield 26, 3) := by decide +kernel
theorem dX9_row_21 : decode cX9_row 21 = .ok (.getfield 136, 3) := by decide +kernel
theorem dX9_row_24 : decode cX9_row 24 = .ok (.iload_n 1, 1) := by decide +kernel
theorem dX9_row_25 : decode cX9_row 25 = .ok (.iaload, 1) := by decide +kernel
theorem dX9_row_26 : decode cX9_row 26 = .ok (.ireturn, 1) := by decide +kernel
set_option maxRecDepth 20000 in
theorem ggX9_turn_X9_isColour : GoodIn wsX9_turn wsX9_isColour := goodIn_r _ [8] (by decide +kernel) (by decide +kernel)
set_option maxRecDepth 20000 in
theorem gX9_turn_X9_isColour : GoodIn wsX9_turn (va_wsS RX9 122 yX9_isColour wsX9_isColour) := goodIn_app (goodIn_of _ (by decide +kernel)) ggX9_turn_X9_isColour
set_option maxRecDepth 20000 in
theorem ggX9_turn_X3_turnFor : GoodIn wsX9_turn wsX3_turnFor := goodIn_r _ [13, 14, 15, 16, 17, 18, 12, 19, 20, 28, 29, 30, 31, 32, 33, 34, 35, 36, 37, 38] (by decide +kernel) (by decide +kernel)
set_option maxRecDepth 20000 in
theorem gX9_turn_X3_turnFor : GoodIn wsX9_turn (wsV RX9 141 RX3 yX3_turnFor wsX3_turnFor) := goodIn_app (goodIn_of _ (by decide +kernel)) ggX9_turn_X3_turnFor
theorem dX9_turn_0 : decode cX9_turn 0 = .ok (.iload_n 1, 1) := by decide +kernel
theorem dX9_turn_1 : decode cX9_turn 1 = .ok (.ifCond .lt 21, 3) := by decide +kernel
theorem dX9_turn_4 : decode cX9_turn 4 = .ok (.iload_n 1, 1) := by decide +kernel
theorem dX9_turn_5 : decode cX9_turn 5 = .ok (.aload_n 0, 1) := by decide +kernel
theorem dX9_turn_6 : decode cX9_turn 6 = .ok (.getfield 19, 3) := by decide +kernel
theorem dX9_turn_9 : decode cX9_turn 9 = .ok (.getfield 100, 3) := by decide +kernel
theorem dX9_turn_12 : decode cX9_turn 12 = .ok (.if_icmp .ge 10, 3) := by decide +kernel
theorem dX9_turn_15 : decode cX9_turn 15 = .ok (.iload_n 2, 1) := by decide +kernel
theorem dX9_turn_16 : decode cX9_turn 16 = .ok (.invokestatic 122, 3) := by decide +kernel
theorem dX9_turn_19 : decode cX9_turn 19 = .ok (.ifCond .ne 13, 3) := by decide +kernel
theorem dX9_turn_22 : decode cX9_turn 22 = .ok (.new 92, 3) := by decide +kernel
theorem dX9_turn_25 : decode cX9_turn 25 = .ok (.dup, 1) := by decide +kernel
theorem dX9_turn_26 : decode cX9_turn 26 = .ok (.ldc 139, 2) := by decide +kernel
theorem dX9_turn_28 : decode cX9_turn 28 = .ok (.invokespecial 96, 3) := by decide +kernel
theorem dX9_turn_31 : decode cX9_turn 31 = .ok (.athrow, 1) := by decide +kernel
theorem dX9_turn_32 : decode cX9_turn 32 = .ok (.aload_n 0, 1) := by decide +kernel
theorem dX9_turn_33 : decode cX9_turn 33 = .ok (.getfield 19, 3) := by decide +kernel
theorem dX9_turn_36 : decode cX9_turn 36 = .ok (.iload_n 1, 1) := by decide +kernel
theorem dX9_turn_37 : decode cX9_turn 37 = .ok (.iload_n 2, 1) := by decide +kernel
theorem dX9_turn_38 : decode cX9_turn 38 = .ok (.invokevirtual 141, 3) := by decide +kernel
theorem dX9_turn_41 : decode cX9_turn 41 = .ok (.ireturn, 1) := by decide +kernel
set_option maxRecDepth 20000 in
theorem ggX9_ant_X9_isAnt : GoodIn wsX9_ant wsX9_isAnt := goodIn_r _ [9, 3, 10, 47, 48, 49, 50, 51, 52, 53, 54, 55, 56, 57, 58, 59, 60, 61, 62] (by decide +kernel) (by decide +kernel)
set_option maxRecDepth 20000 in
theorem gX9_ant_X9_isAnt : GoodIn wsX9_ant (wsV RX9 145 RX9 yX9_isAnt wsX9_isAnt) := goodIn_app (goodIn_of _ (by decide +kernel)) ggX9_ant_X9_isAnt
set_option maxRecDepth 20000 in
theorem ggX9_ant_X0_answer : GoodIn wsX9_ant wsX0_answer := goodIn_r _ [15, 16, 17, 18, 19, 20, 21, 22, 23, 24, 14, 25, 26, 27, 28, 29, 30, 31, 32, 33, 34, 35, 36, 37, 38, 39, 40, 41, 42, 43, 44, 45, 46, 63, 64, 65, 66, 67, 68, 69, 70, 71] (by decide +kernel) (by decide +kernel)
set_option maxRecDepth 20000 in
theorem gX9_ant_X0_answer : GoodIn wsX9_ant (wsV RX9 154 RX0 yX0_answer wsX0_answer) := goodIn_app (goodIn_of _ (by decide +kernel)) ggX9_ant_X0_answer
theorem dX9_ant_0 : decode cX9_ant 0 = .ok (.aload_n 0, 1) := by decide +kernel
theorem dX9_ant_1 : decode cX9_ant 1 = .ok (.iload_n 1, 1) := by decide +kernel
theorem dX9_ant_2 : decode cX9_ant 2 = .ok (.invokevirtual 145, 3) := by decide +kernel
theorem dX9_ant_5 : decode cX9_ant 5 = .ok (.ifCond .eq 13, 3) := by decide +kernel
theorem dX9_ant_8 : decode cX9_ant 8 = .ok (.iload_n 2, 1) := by decide +kernel
theorem dX9_ant_9 : decode cX9_ant 9 = .ok (.ifCond .lt 9, 3) := by decide +kernel
theorem dX9_ant_12 : decode cX9_ant 12 = .ok (.iload_n 2, 1) := by decide +kernel
theorem dX9_ant_13 : decode cX9_ant 13 = .ok (.bipush 9, 2) := by decide +kernel
theorem dX9_ant_15 : decode cX9_ant 15 = .ok (.if_icmp .lt 13, 3) := by decide +kernel
theorem dX9_ant_18 : decode cX9_ant 18 = .ok (.new 92, 3) := by decide +kernel
theorem dX9_ant_21 : decode cX9_ant 21 = .ok (.dup, 1) := by decide +kernel
theorem dX9_ant_22 : decode cX9_ant 22 = .ok (.ldc 148, 2) := by decide +kernel
theorem dX9_ant_24 : decode cX9_ant 24 = .ok (.invokespecial 96, 3) := by decide +kernel
theorem dX9_ant_27 : decode cX9_ant 27 = .ok (.athrow, 1) := by decide +kernel
theorem dX9_ant_28 : decode cX9_ant 28 = .ok (.aload_n 0, 1) := by decide +kernel
theorem dX9_ant_29 : decode cX9_ant 29 = .ok (.getfield 26, 3) := by decide +kernel
theorem dX9_ant_32 : decode cX9_ant 32 = .ok (.getfield 150, 3) := by decide +kernel
theorem dX9_ant_35 : decode cX9_ant 35 = .ok (.iload_n 1, 1) := by decide +kernel
theorem dX9_ant_36 : decode cX9_ant 36 = .ok (.aaload, 1) := by decide +kernel
theorem dX9_ant_37 : decode cX9_ant 37 = .ok (.iload_n 2, 1) := by decide +kernel
theorem dX9_ant_38 : decode cX9_ant 38 = .ok (.invokevirtual 154, 3) := by decide +kernel
theorem dX9_ant_41 : decode cX9_ant 41 = .ok (.ireturn, 1) := by decide +kernel
set_option maxRecDepth 20000 in
theorem ggX9_paint_X9_isStone : GoodIn wsX9_paint wsX9_isStone := goodIn_r _ [9, 10, 11, 8, 12] (by decide +kernel) (by decide +kernel)
set_option maxRecDepth 20000 in
theorem gX9_paint_X9_isStone : GoodIn wsX9_paint (va_wsS RX9 113 yX9_isStone wsX9_isStone) := goodIn_app (goodIn_of _ (by decide +kernel)) ggX9_paint_X9_isStone
set_option maxRecDepth 20000 in
theorem ggX9_paint_X9_isColour : GoodIn wsX9_paint wsX9_isColour := goodIn_r _ [15] (by decide +kernel) (by decide +kernel)
set_option maxRecDepth 20000 in
theorem gX9_paint_X9_isColour : GoodIn wsX9_paint (va_wsS RX9 122 yX9_isColour wsX9_isColour) := goodIn_app (goodIn_of _ (by decide +kernel)) ggX9_paint_X9_isColour
set_option maxRecDepth 20000 in
theorem ggX9_paint_X8_colourAt : GoodIn wsX9_paint wsX8_colourAt := goodIn_r _ [20, 21, 36, 37, 38, 39, 40, 41, 42, 43, 44] (by decide +kernel) (by decide +kernel)
set_option maxRecDepth 20000 in
theorem gX9_paint_X8_colourAt : GoodIn wsX9_paint (wsV RX9 119 RX8 yX8_colourAt wsX8_colourAt) := goodIn_app (goodIn_of _ (by decide +kernel)) ggX9_paint_X8_colourAt
set_option maxRecDepth 20000 in
theorem ggX9_paint_X8_setStone : GoodIn wsX9_paint wsX8_setStone := goodIn_r _ [25, 21, 26, 27, 28, 17, 18, 19, 20, 14, 8, 15, 36, 37, 38, 39, 40, 41, 42, 43, 44] (by decide +kernel) (by decide +kernel)
set_option maxRecDepth 20000 in
theorem gX9_paint_X8_setStone : GoodIn wsX9_paint (wsV RX9 159 RX8 yX8_setStone wsX8_setStone) := goodIn_app (goodIn_of _ (by decide +kernel)) ggX9_paint_X8_setStone
theorem dX9_paint_0 : decode cX9_paint 0 = .ok (.iload_n 1, 1) := by decide +kernel
theorem dX9_paint_1 : decode cX9_paint 1 = .ok (.iload_n 2, 1) := by decide +kernel
theorem dX9_paint_2 : decode cX9_paint 2 = .ok (.invokestatic 113, 3) := by decide +kernel
theorem dX9_paint_5 : decode cX9_paint 5 = .ok (.ifCond .ne 13, 3) := by decide +kernel
theorem dX9_paint_8 : decode cX9_paint 8 = .ok (.new 92, 3) := by decide +kernel
theorem dX9_paint_11 : decode cX9_paint 11 = .ok (.dup, 1) := by decide +kernel
theorem dX9_paint_12 : decode cX9_paint 12 = .ok (.ldc 117, 2) := by decide +kernel
theorem dX9_paint_14 : decode cX9_paint 14 = .ok (.invokespecial 96, 3) := by decide +kernel
theorem dX9_paint_17 : decode cX9_paint 17 = .ok (.athrow, 1) := by decide +kernel
theorem dX9_paint_18 : decode cX9_paint 18 = .ok (.iload_n 3, 1) := by decide +kernel
theorem dX9_paint_19 : decode cX9_paint 19 = .ok (.invokestatic 122, 3) := by decide +kernel
theorem dX9_paint_22 : decode cX9_paint 22 = .ok (.ifCond .ne 13, 3) := by decide +kernel
theorem dX9_paint_25 : decode cX9_paint 25 = .ok (.new 73, 3) := by decide +kernel
theorem dX9_paint_28 : decode cX9_paint 28 = .ok (.dup, 1) := by decide +kernel
theorem dX9_paint_29 : decode cX9_paint 29 = .ok (.ldc 125, 2) := by decide +kernel
theorem dX9_paint_31 : decode cX9_paint 31 = .ok (.invokespecial 77, 3) := by decide +kernel
theorem dX9_paint_34 : decode cX9_paint 34 = .ok (.athrow, 1) := by decide +kernel
theorem dX9_paint_35 : decode cX9_paint 35 = .ok (.iload_n 2, 1) := by decide +kernel
theorem dX9_paint_36 : decode cX9_paint 36 = .ok (.bipush 64, 2) := by decide +kernel
theorem dX9_paint_38 : decode cX9_paint 38 = .ok (.imul, 1) := by decide +kernel
theorem dX9_paint_39 : decode cX9_paint 39 = .ok (.iload_n 1, 1) := by decide +kernel
theorem dX9_paint_40 : decode cX9_paint 40 = .ok (.iadd, 1) := by decide +kernel
theorem dX9_paint_41 : decode cX9_paint 41 = .ok (.istore 4, 2) := by decide +kernel
theorem dX9_paint_43 : decode cX9_paint 43 = .ok (.aload_n 0, 1) := by decide +kernel
theorem dX9_paint_44 : decode cX9_paint 44 = .ok (.getfield 26, 3) := by decide +kernel
theorem dX9_paint_47 : decode cX9_paint 47 = .ok (.iload 4, 2) := by decide +kernel
theorem dX9_paint_49 : decode cX9_paint 49 = .ok (.invokevirtual 119, 3) := by decide +kernel
theorem dX9_paint_52 : decode cX9_paint 52 = .ok (.istore 5, 2) := by decide +kernel
theorem dX9_paint_54 : decode cX9_paint 54 = .ok (.aload_n 0, 1) := by decide +kernel
theorem dX9_paint_55 : decode cX9_paint 55 = .ok (.getfield 26, 3) := by decide +kernel
theorem dX9_paint_58 : decode cX9_paint 58 = .ok (.iload 4, 2) := by decide +kernel
theorem dX9_paint_60 : decode cX9_paint 60 = .ok (.iload_n 3, 1) := by decide +kernel
theorem dX9_paint_61 : decode cX9_paint 61 = .ok (.invokevirtual 159, 3) := by decide +kernel
theorem dX9_paint_64 : decode cX9_paint 64 = .ok (.iload 5, 2) := by decide +kernel
theorem dX9_paint_66 : decode cX9_paint 66 = .ok (.ireturn, 1) := by decide +kernel
set_option maxRecDepth 20000 in
theorem ggX9_wash_X9_isLine : GoodIn wsX9_wash wsX9_isLine := goodIn_r _ [9] (by decide +kernel) (by decide +kernel)
set_option maxRecDepth 20000 in
theorem gX9_wash_X9_isLine : GoodIn wsX9_wash (va_wsS RX9 131 yX9_isLine wsX9_isLine) := goodIn_app (goodIn_of _ (by decide +kernel)) ggX9_wash_X9_isLine
set_option maxRecDepth 20000 in
theorem ggX9_wash_X8_washRows : GoodIn wsX9_wash wsX8_washRows := goodIn_r _ [14, 15, 16, 17, 18, 19, 20, 21, 22, 23, 13, 24, 25, 26, 27, 28, 29, 30, 31, 32, 33, 34, 35, 36, 37, 38, 39, 8, 40, 48, 49, 50, 51, 52, 53, 54, 55, 56] (by decide +kernel) (by decide +kernel)
set_option maxRecDepth 20000 in
theorem gX9_wash_X8_washRows : GoodIn wsX9_wash (wsV RX9 165 RX8 yX8_washRows wsX8_washRows) := goodIn_app (goodIn_of _ (by decide +kernel)) ggX9_wash_X8_washRows
theorem dX9_wash_0 : decode cX9_wash 0 = .ok (.iload_n 1, 1) := by decide +kernel
theorem dX9_wash_1 : decode cX9_wash 1 = .ok (.invokestatic 131, 3) := by decide +kernel
theorem dX9_wash_4 : decode cX9_wash 4 = .ok (.ifCond .eq 10, 3) := by decide +kernel
theorem dX9_wash_7 : decode cX9_wash 7 = .ok (.iload_n 2, 1) := by decide +kernel
theorem dX9_wash_8 : decode cX9_wash 8 = .ok (.invokestatic 131, 3) := by decide +kernel
theorem dX9_wash_11 : decode cX9_wash 11 = .ok (.ifCond .ne 13, 3) := by decide +kernel
theorem dX9_wash_14 : decode cX9_wash 14 = .ok (.new 92, 3) := by decide +kernel
theorem dX9_wash_17 : decode cX9_wash 17 = .ok (.dup, 1) := by decide +kernel
theorem dX9_wash_18 : decode cX9_wash 18 = .ok (.ldc 134, 2) := by decide +kernel
theorem dX9_wash_20 : decode cX9_wash 20 = .ok (.invokespecial 96, 3) := by decide +kernel
theorem dX9_wash_23 : decode cX9_wash 23 = .ok (.athrow, 1) := by decide +kernel
theorem dX9_wash_24 : decode cX9_wash 24 = .ok (.iload_n 1, 1) := by decide +kernel
theorem dX9_wash_25 : decode cX9_wash 25 = .ok (.iload_n 2, 1) := by decide +kernel
theorem dX9_wash_26 : decode cX9_wash 26 = .ok (.if_icmp .le 13, 3) := by decide +kernel
theorem dX9_wash_29 : decode cX9_wash 29 = .ok (.new 73, 3) := by decide +kernel
theorem dX9_wash_32 : decode cX9_wash 32 = .ok (.dup, 1) := by decide +kernel
theorem dX9_wash_33 : decode cX9_wash 33 = .ok (.ldc 163, 2) := by decide +kernel
theorem dX9_wash_35 : decode cX9_wash 35 = .ok (.invokespecial 77, 3) := by decide +kernel
theorem dX9_wash_38 : decode cX9_wash 38 = .ok (.athrow, 1) := by decide +kernel
theorem dX9_wash_39 : decode cX9_wash 39 = .ok (.aload_n 0, 1) := by decide +kernel
theorem dX9_wash_40 : decode cX9_wash 40 = .ok (.getfield 26, 3) := by decide +kernel
theorem dX9_wash_43 : decode cX9_wash 43 = .ok (.iload_n 1, 1) := by decide +kernel
theorem dX9_wash_44 : decode cX9_wash 44 = .ok (.iload_n 2, 1) := by decide +kernel
theorem dX9_wash_45 : decode cX9_wash 45 = .ok (.invokevirtual 165, 3) := by decide +kernel
theorem dX9_wash_48 : decode cX9_wash 48 = .ok (.ireturn, 1) := by decide +kernel
set_option maxRecDepth 20000 in
theorem ggX9_face_X9_isAnt : GoodIn wsX9_face wsX9_isAnt := goodIn_r _ [10, 3, 11, 24, 25, 26, 27, 28, 29, 30, 31, 32, 33, 34, 35, 36, 37, 38, 39] (by decide +kernel) (by decide +kernel)
set_option maxRecDepth 20000 in
theorem gX9_face_X9_isAnt : GoodIn wsX9_face (wsV RX9 145 RX9 yX9_isAnt wsX9_isAnt) := goodIn_app (goodIn_of _ (by decide +kernel)) ggX9_face_X9_isAnt
set_option maxRecDepth 20000 in
theorem ggX9_face_X0_turnTo : GoodIn wsX9_face wsX0_turnTo := goodIn_r _ [16, 17, 18, 19, 20, 15, 21, 22, 23, 40, 41, 42, 43, 44, 45, 46, 47, 48] (by decide +kernel) (by decide +kernel)
set_option maxRecDepth 20000 in
theorem gX9_face_X0_turnTo : GoodIn wsX9_face (wsV RX9 173 RX0 yX0_turnTo wsX0_turnTo) := goodIn_app (goodIn_of _ (by decide +kernel)) ggX9_face_X0_turnTo
theorem dX9_face_0 : decode cX9_face 0 = .ok (.aload_n 0, 1) := by decide +kernel
theorem dX9_face_1 : decode cX9_face 1 = .ok (.iload_n 1, 1) := by decide +kernel
theorem dX9_face_2 : decode cX9_face 2 = .ok (.invokevirtual 145, 3) := by decide +kernel
theorem dX9_face_5 : decode cX9_face 5 = .ok (.ifCond .eq 12, 3) := by decide +kernel
theorem dX9_face_8 : decode cX9_face 8 = .ok (.iload_n 2, 1) := by decide +kernel
theorem dX9_face_9 : decode cX9_face 9 = .ok (.ifCond .lt 8, 3) := by decide +kernel
theorem dX9_face_12 : decode cX9_face 12 = .ok (.iload_n 2, 1) := by decide +kernel
theorem dX9_face_13 : decode cX9_face 13 = .ok (.iconst 4, 1) := by decide +kernel
theorem dX9_face_14 : decode cX9_face 14 = .ok (.if_icmp .lt 13, 3) := by decide +kernel
theorem dX9_face_17 : decode cX9_face 17 = .ok (.new 92, 3) := by decide +kernel
theorem dX9_face_20 : decode cX9_face 20 = .ok (.dup, 1) := by decide +kernel
theorem dX9_face_21 : decode cX9_face 21 = .ok (.ldc 168, 2) := by decide +kernel
theorem dX9_face_23 : decode cX9_face 23 = .ok (.invokespecial 96, 3) := by decide +kernel
theorem dX9_face_26 : decode cX9_face 26 = .ok (.athrow, 1) := by decide +kernel
theorem dX9_face_27 : decode cX9_face 27 = .ok (.aload_n 0, 1) := by decide +kernel
theorem dX9_face_28 : decode cX9_face 28 = .ok (.getfield 26, 3) := by decide +kernel
theorem dX9_face_31 : decode cX9_face 31 = .ok (.getfield 150, 3) := by decide +kernel
theorem dX9_face_34 : decode cX9_face 34 = .ok (.iload_n 1, 1) := by decide +kernel
theorem dX9_face_35 : decode cX9_face 35 = .ok (.aaload, 1) := by decide +kernel
theorem dX9_face_36 : decode cX9_face 36 = .ok (.getfield 170, 3) := by decide +kernel
theorem dX9_face_39 : decode cX9_face 39 = .ok (.istore_n 3, 1) := by decide +kernel
theorem dX9_face_40 : decode cX9_face 40 = .ok (.aload_n 0, 1) := by decide +kernel
theorem dX9_face_41 : decode cX9_face 41 = .ok (.getfield 26, 3) := by decide +kernel
theorem dX9_face_44 : decode cX9_face 44 = .ok (.getfield 150, 3) := by decide +kernel
theorem dX9_face_47 : decode cX9_face 47 = .ok (.iload_n 1, 1) := by decide +kernel
theorem dX9_face_48 : decode cX9_face 48 = .ok (.aaload, 1) := by decide +kernel
theorem dX9_face_49 : decode cX9_face 49 = .ok (.iload_n 2, 1) := by decide +kernel
theorem dX9_face_50 : decode cX9_face 50 = .ok (.invokevirtual 173, 3) := by decide +kernel
theorem dX9_face_53 : decode cX9_face 53 = .ok (.iload_n 3, 1) := by decide +kernel
theorem dX9_face_54 : decode cX9_face 54 = .ok (.ireturn, 1) := by decide +kernel
set_option maxRecDepth 20000 in
theorem ggX9_halt_X9_isAnt : GoodIn wsX9_halt wsX9_isAnt := goodIn_r _ [10, 3, 11, 12, 13, 14, 15, 16, 17, 18, 19, 20, 21, 22, 23, 24, 25, 26, 27] (by decide +kernel) (by decide +kernel)
set_option maxRecDepth 20000 in
theorem gX9_halt_X9_isAnt : GoodIn wsX9_halt (wsV RX9 145 RX9 yX9_isAnt wsX9_isAnt) := goodIn_app (goodIn_of _ (by decide +kernel)) ggX9_halt_X9_isAnt
theorem dX9_halt_0 : decode cX9_halt 0 = .ok (.aload_n 0, 1) := by decide +kernel
theorem dX9_halt_1 : decode cX9_halt 1 = .ok (.iload_n 1, 1) := by decide +kernel
theorem dX9_halt_2 : decode cX9_halt 2 = .ok (.invokevirtual 145, 3) := by decide +kernel
theorem dX9_halt_5 : decode cX9_halt 5 = .ok (.ifCond .ne 13, 3) := by decide +kernel
theorem dX9_halt_8 : decode cX9_halt 8 = .ok (.new 92, 3) := by decide +kernel
theorem dX9_halt_11 : decode cX9_halt 11 = .ok (.dup, 1) := by decide +kernel
theorem dX9_halt_12 : decode cX9_halt 12 = .ok (.ldc 176, 2) := by decide +kernel
theorem dX9_halt_14 : decode cX9_halt 14 = .ok (.invokespecial 96, 3) := by decide +kernel
theorem dX9_halt_17 : decode cX9_halt 17 = .ok (.athrow, 1) := by decide +kernel
theorem dX9_halt_18 : decode cX9_halt 18 = .ok (.aload_n 0, 1) := by decide +kernel
theorem dX9_halt_19 : decode cX9_halt 19 = .ok (.getfield 26, 3) := by decide +kernel
theorem dX9_halt_22 : decode cX9_halt 22 = .ok (.getfield 150, 3) := by decide +kernel
theorem dX9_halt_25 : decode cX9_halt 25 = .ok (.iload_n 1, 1) := by decide +kernel
theorem dX9_halt_26 : decode cX9_halt 26 = .ok (.aaload, 1) := by decide +kernel
theorem dX9_halt_27 : decode cX9_halt 27 = .ok (.aload_n 0, 1) := by decide +kernel
theorem dX9_halt_28 : decode cX9_halt 28 = .ok (.getfield 26, 3) := by decide +kernel
theorem dX9_halt_31 : decode cX9_halt 31 = .ok (.getfield 150, 3) := by decide +kernel
theorem dX9_halt_34 : decode cX9_halt 34 = .ok (.iload_n 1, 1) := by decide +kernel
theorem dX9_halt_35 : decode cX9_halt 35 = .ok (.aaload, 1) := by decide +kernel
theorem dX9_halt_36 : decode cX9_halt 36 = .ok (.getfield 178, 3) := by decide +kernel
theorem dX9_halt_39 : decode cX9_halt 39 = .ok (.ifCond .ne 7, 3) := by decide +kernel
theorem dX9_halt_42 : decode cX9_halt 42 = .ok (.iconst 1, 1) := by decide +kernel
theorem dX9_halt_43 : decode cX9_halt 43 = .ok (.goto 4, 3) := by decide +kernel
theorem dX9_halt_46 : decode cX9_halt 46 = .ok (.iconst 0, 1) := by decide +kernel
theorem dX9_halt_47 : decode cX9_halt 47 = .ok (.putfield 178, 3) := by decide +kernel
theorem dX9_halt_50 : decode cX9_halt 50 = .ok (.aload_n 0, 1) := by decide +kernel
theorem dX9_halt_51 : decode cX9_halt 51 = .ok (.getfield 26, 3) := by decide +kernel
theorem dX9_halt_54 : decode cX9_halt 54 = .ok (.getfield 150, 3) := by decide +kernel
theorem dX9_halt_57 : decode cX9_halt 57 = .ok (.iload_n 1, 1) := by decide +kernel
theorem dX9_halt_58 : decode cX9_halt 58 = .ok (.aaload, 1) := by decide +kernel
theorem dX9_halt_59 : decode cX9_halt 59 = .ok (.getfield 178, 3) := by decide +kernel
theorem dX9_halt_62 : decode cX9_halt 62 = .ok (.ireturn, 1) := by decide +kernel
set_option maxRecDepth 20000 in
theorem ggX9_place_X9_isAnt : GoodIn wsX9_place wsX9_isAnt := goodIn_r _ [9, 3, 10, 34, 35, 36, 37, 38, 39, 40, 41, 42, 43, 44, 45, 46, 47, 48, 49] (by decide +kernel) (by decide +kernel)
set_option maxRecDepth 20000 in
theorem gX9_place_X9_isAnt : GoodIn wsX9_place (wsV RX9 145 RX9 yX9_isAnt wsX9_isAnt) := goodIn_app (goodIn_of _ (by decide +kernel)) ggX9_place_X9_isAnt
set_option maxRecDepth 20000 in
theorem ggX9_place_X9_isStone : GoodIn wsX9_place wsX9_isStone := goodIn_r _ [13, 14, 15, 8, 16] (by decide +kernel) (by decide +kernel)
set_option maxRecDepth 20000 in
theorem gX9_place_X9_isStone : GoodIn wsX9_place (va_wsS RX9 113 yX9_isStone wsX9_isStone) := goodIn_app (goodIn_of _ (by decide +kernel)) ggX9_place_X9_isStone
set_option maxRecDepth 20000 in
theorem ggX9_place_X0_stoneUnder : GoodIn wsX9_place wsX0_stoneUnder := goodIn_r _ [21, 22, 23, 50, 51, 52, 53, 54, 55, 56, 57, 58] (by decide +kernel) (by decide +kernel)
set_option maxRecDepth 20000 in
theorem gX9_place_X0_stoneUnder : GoodIn wsX9_place (wsV RX9 184 RX0 yX0_stoneUnder wsX0_stoneUnder) := goodIn_app (goodIn_of _ (by decide +kernel)) ggX9_place_X0_stoneUnder
set_option maxRecDepth 20000 in
theorem ggX9_place_X0_moveTo : GoodIn wsX9_place wsX0_moveTo := goodIn_r _ [27, 23, 22, 28, 29, 30, 20, 31, 32, 33, 50, 51, 52, 53, 54, 55, 56, 57, 58] (by decide +kernel) (by decide +kernel)
set_option maxRecDepth 20000 in
theorem gX9_place_X0_moveTo : GoodIn wsX9_place (wsV RX9 187 RX0 yX0_moveTo wsX0_moveTo) := goodIn_app (goodIn_of _ (by decide +kernel)) ggX9_place_X0_moveTo
theorem dX9_place_0 : decode cX9_place 0 = .ok (.aload_n 0, 1) := by decide +kernel
theorem dX9_place_1 : decode cX9_place 1 = .ok (.iload_n 1, 1) := by decide +kernel
theorem dX9_place_2 : decode cX9_place 2 = .ok (.invokevirtual 145, 3) := by decide +kernel
theorem dX9_place_5 : decode cX9_place 5 = .ok (.ifCond .eq 11, 3) := by decide +kernel
theorem dX9_place_8 : decode cX9_place 8 = .ok (.iload_n 2, 1) := by decide +kernel
theorem dX9_place_9 : decode cX9_place 9 = .ok (.iload_n 3, 1) := by decide +kernel
theorem dX9_place_10 : decode cX9_place 10 = .ok (.invokestatic 113, 3) := by decide +kernel
theorem dX9_place_13 : decode cX9_place 13 = .ok (.ifCond .ne 13, 3) := by decide +kernel
theorem dX9_place_16 : decode cX9_place 16 = .ok (.new 92, 3) := by decide +kernel
theorem dX9_place_19 : decode cX9_place 19 = .ok (.dup, 1) := by decide +kernel
theorem dX9_place_20 : decode cX9_place 20 = .ok (.ldc 182, 2) := by decide +kernel
theorem dX9_place_22 : decode cX9_place 22 = .ok (.invokespecial 96, 3) := by decide +kernel
theorem dX9_place_25 : decode cX9_place 25 = .ok (.athrow, 1) := by decide +kernel
theorem dX9_place_26 : decode cX9_place 26 = .ok (.aload_n 0, 1) := by decide +kernel
theorem dX9_place_27 : decode cX9_place 27 = .ok (.getfield 26, 3) := by decide +kernel
theorem dX9_place_30 : decode cX9_place 30 = .ok (.getfield 150, 3) := by decide +kernel
theorem dX9_place_33 : decode cX9_place 33 = .ok (.iload_n 1, 1) := by decide +kernel
theorem dX9_place_34 : decode cX9_place 34 = .ok (.aaload, 1) := by decide +kernel
theorem dX9_place_35 : decode cX9_place 35 = .ok (.invokevirtual 184, 3) := by decide +kernel
theorem dX9_place_38 : decode cX9_place 38 = .ok (.istore 4, 2) := by decide +kernel
theorem dX9_place_40 : decode cX9_place 40 = .ok (.aload_n 0, 1) := by decide +kernel
theorem dX9_place_41 : decode cX9_place 41 = .ok (.getfield 26, 3) := by decide +kernel
theorem dX9_place_44 : decode cX9_place 44 = .ok (.getfield 150, 3) := by decide +kernel
theorem dX9_place_47 : decode cX9_place 47 = .ok (.iload_n 1, 1) := by decide +kernel
theorem dX9_place_48 : decode cX9_place 48 = .ok (.aaload, 1) := by decide +kernel
theorem dX9_place_49 : decode cX9_place 49 = .ok (.iload_n 2, 1) := by decide +kernel
theorem dX9_place_50 : decode cX9_place 50 = .ok (.iload_n 3, 1) := by decide +kernel
theorem dX9_place_51 : decode cX9_place 51 = .ok (.invokevirtual 187, 3) := by decide +kernel
theorem dX9_place_54 : decode cX9_place 54 = .ok (.iload 4, 2) := by decide +kernel
theorem dX9_place_56 : decode cX9_place 56 = .ok (.ireturn, 1) := by decide +kernel
set_option maxRecDepth 20000 in
theorem ggX9_pass_X8_darkStones : GoodIn wsX9_pass wsX8_darkStones := goodIn_r _ [9, 10, 191, 192, 193, 194, 195, 196, 197, 198, 199] (by decide +kernel) (by decide +kernel)
set_option maxRecDepth 20000 in
theorem gX9_pass_X8_darkStones : GoodIn wsX9_pass (wsV RX9 192 RX8 yX8_darkStones wsX8_darkStones) := goodIn_app (goodIn_of _ (by decide +kernel)) ggX9_pass_X8_darkStones
set_option maxRecDepth 20000 in
theorem ggX9_pass_X5_makeSteps_c1 : GoodIn wsX9_pass (.code yX5_makeSteps cX5_makeSteps 4 none :: wsX5_makeSteps_r1) := goodIn_r _ [15, 16, 17, 18, 14, 19, 20, 21, 22, 23, 24, 25, 26, 27, 28, 29, 30, 31, 32, 33, 34, 35, 36, 37, 38] (by decide +kernel) (by decide +kernel)
set_option maxRecDepth 20000 in
theorem ggX9_pass_X5_makeSteps_c2 : GoodIn wsX9_pass wsX5_makeSteps_r2 := goodIn_r _ [39, 40, 41, 42, 43, 44, 45, 46, 47, 6, 7, 8, 9, 10, 48, 49, 50, 51, 52, 53, 54, 55, 56, 57] (by decide +kernel) (by decide +kernel)
set_option maxRecDepth 20000 in
theorem ggX9_pass_X5_makeSteps_c3 : GoodIn wsX9_pass wsX5_makeSteps_r3 := goodIn_r _ [58, 59, 60, 61, 62, 63, 64, 65, 66, 67, 68, 69, 70, 71, 72, 73, 74, 75, 76, 77, 78, 79, 80, 81] (by decide +kernel) (by decide +kernel)
set_option maxRecDepth 20000 in
theorem ggX9_pass_X5_makeSteps_c4 : GoodIn wsX9_pass wsX5_makeSteps_r4 := goodIn_r _ [82, 83, 84, 85, 86, 87, 88, 89, 90, 91, 92, 93, 94, 95, 96, 97, 98, 99, 100, 101, 102, 103, 104, 105] (by decide +kernel) (by decide +kernel)
set_option maxRecDepth 20000 in
theorem ggX9_pass_X5_makeSteps_c5 : GoodIn wsX9_pass wsX5_makeSteps_r5 := goodIn_r _ [106, 107, 108, 109, 110, 111, 112, 113, 114, 115, 116, 117, 118, 119, 120, 121, 122, 123, 124, 125, 126, 127, 128, 129] (by decide +kernel) (by decide +kernel)
set_option maxRecDepth 20000 in
theorem ggX9_pass_X5_makeSteps_c6 : GoodIn wsX9_pass wsX5_makeSteps_r6 := goodIn_r _ [130, 131, 132, 133, 134, 135, 136, 137, 138, 139, 140, 141, 142, 143, 144, 145, 146, 147, 148, 149, 150, 151, 152, 153] (by decide +kernel) (by decide +kernel)
set_option maxRecDepth 20000 in
theorem ggX9_pass_X5_makeSteps_c7 : GoodIn wsX9_pass wsX5_makeSteps_r7 := goodIn_r _ [154, 155, 156, 157, 158, 159, 160, 161, 162, 163, 164, 165, 166, 167, 168, 169, 170, 171, 172, 173, 174, 175, 176, 177] (by decide +kernel) (by decide +kernel)
set_option maxRecDepth 20000 in
theorem ggX9_pass_X5_makeSteps_c8 : GoodIn wsX9_pass wsX5_makeSteps_r8 := goodIn_r _ [178, 179, 180, 181, 182, 183] (by decide +kernel) (by decide +kernel)
set_option maxRecDepth 20000 in
theorem ggX9_pass_X5_makeSteps_c9 : GoodIn wsX9_pass wsX50 := goodIn_r _ [200, 201] (by decide +kernel) (by decide +kernel)
set_option maxRecDepth 20000 in
theorem ggX9_pass_X5_makeSteps_c10 : GoodIn wsX9_pass wsX30 := goodIn_r _ [202, 203, 204, 205, 206, 207, 208, 209, 210, 211, 212] (by decide +kernel) (by decide +kernel)
set_option maxRecDepth 20000 in
theorem ggX9_pass_X5_makeSteps_c11 : GoodIn wsX9_pass wsX80 := goodIn_r _ [191, 192, 193, 194, 195, 196, 197, 198, 199] (by decide +kernel) (by decide +kernel)
set_option maxRecDepth 20000 in
theorem ggX9_pass_X5_makeSteps_c12 : GoodIn wsX9_pass wsX00 := goodIn_r _ [213, 214, 215, 216, 217, 218, 219, 220, 221] (by decide +kernel) (by decide +kernel)
set_option maxRecDepth 20000 in
theorem ggX9_pass_X5_makeSteps_c13 : GoodIn wsX9_pass wsX40 := goodIn_r _ [222, 223] (by decide +kernel) (by decide +kernel)
set_option maxRecDepth 20000 in
theorem ggX9_pass_X5_makeSteps : GoodIn wsX9_pass wsX5_makeSteps := (goodIn_ca (goodIn_ca (goodIn_ca (goodIn_ca (goodIn_ca (goodIn_ca ggX9_pass_X5_makeSteps_c1 (goodIn_app ggX9_pass_X5_makeSteps_c2 (goodIn_app ggX9_pass_X5_makeSteps_c3 (goodIn_app ggX9_pass_X5_makeSteps_c4 (goodIn_app ggX9_pass_X5_makeSteps_c5 (goodIn_app ggX9_pass_X5_makeSteps_c6 (goodIn_app ggX9_pass_X5_makeSteps_c7 ggX9_pass_X5_makeSteps_c8))))))) ggX9_pass_X5_makeSteps_c9) ggX9_pass_X5_makeSteps_c10) ggX9_pass_X5_makeSteps_c11) ggX9_pass_X5_makeSteps_c12) ggX9_pass_X5_makeSteps_c13)
set_option maxRecDepth 20000 in
theorem gX9_pass_X5_makeSteps : GoodIn wsX9_pass (wsV RX9 195 RX5 yX5_makeSteps wsX5_makeSteps) := goodIn_app (goodIn_of _ (by decide +kernel)) ggX9_pass_X5_makeSteps
theorem dX9_pass_0 : decode cX9_pass 0 = .ok (.iload_n 1, 1) := by decide +kernel
theorem dX9_pass_1 : decode cX9_pass 1 = .ok (.iconst 1, 1) := by decide +kernel
theorem dX9_pass_2 : decode cX9_pass 2 = .ok (.if_icmp .lt 10, 3) := by decide +kernel
theorem dX9_pass_5 : decode cX9_pass 5 = .ok (.iload_n 1, 1) := by decide +kernel
theorem dX9_pass_6 : decode cX9_pass 6 = .ok (.sipush 1000, 3) := by decide +kernel
theorem dX9_pass_9 : decode cX9_pass 9 = .ok (.if_icmp .le 13, 3) := by decide +kernel
theorem dX9_pass_12 : decode cX9_pass 12 = .ok (.new 73, 3) := by decide +kernel
theorem dX9_pass_15 : decode cX9_pass 15 = .ok (.dup, 1) := by decide +kernel
theorem dX9_pass_16 : decode cX9_pass 16 = .ok (.ldc 190, 2) := by decide +kernel
theorem dX9_pass_18 : decode cX9_pass 18 = .ok (.invokespecial 77, 3) := by decide +kernel
theorem dX9_pass_21 : decode cX9_pass 21 = .ok (.athrow, 1) := by decide +kernel
theorem dX9_pass_22 : decode cX9_pass 22 = .ok (.aload_n 0, 1) := by decide +kernel
theorem dX9_pass_23 : decode cX9_pass 23 = .ok (.getfield 26, 3) := by decide +kernel
theorem dX9_pass_26 : decode cX9_pass 26 = .ok (.invokevirtual 192, 3) := by decide +kernel
theorem dX9_pass_29 : decode cX9_pass 29 = .ok (.istore_n 2, 1) := by decide +kernel
theorem dX9_pass_30 : decode cX9_pass 30 = .ok (.aload_n 0, 1) := by decide +kernel
theorem dX9_pass_31 : decode cX9_pass 31 = .ok (.getfield 47, 3) := by decide +kernel
theorem dX9_pass_34 : decode cX9_pass 34 = .ok (.aload_n 0, 1) := by decide +kernel
theorem dX9_pass_35 : decode cX9_pass 35 = .ok (.getfield 26, 3) := by decide +kernel
theorem dX9_pass_38 : decode cX9_pass 38 = .ok (.iload_n 1, 1) := by decide +kernel
theorem dX9_pass_39 : decode cX9_pass 39 = .ok (.invokevirtual 195, 3) := by decide +kernel
theorem dX9_pass_42 : decode cX9_pass 42 = .ok (.aload_n 0, 1) := by decide +kernel
theorem dX9_pass_43 : decode cX9_pass 43 = .ok (.getfield 26, 3) := by decide +kernel
theorem dX9_pass_46 : decode cX9_pass 46 = .ok (.invokevirtual 192, 3) := by decide +kernel
theorem dX9_pass_49 : decode cX9_pass 49 = .ok (.iload_n 2, 1) := by decide +kernel
theorem dX9_pass_50 : decode cX9_pass 50 = .ok (.isub, 1) := by decide +kernel
theorem dX9_pass_51 : decode cX9_pass 51 = .ok (.ireturn, 1) := by decide +kernel
set_option maxRecDepth 20000 in
theorem ggX9_foresee_X8_copyFrom : GoodIn wsX9_foresee wsX8_copyFrom := goodIn_r _ [12, 13, 14, 15, 16, 17, 18, 19, 20, 21, 22, 23, 24, 25, 26, 27, 28, 29, 30, 31, 32, 33, 34, 35, 36, 37, 38, 39, 40, 223, 224, 225, 226, 227, 228, 229, 230, 231, 232, 233, 234, 235, 236, 237, 238, 239, 240] (by decide +kernel) (by decide +kernel)
set_option maxRecDepth 20000 in
theorem gX9_foresee_X8_copyFrom : GoodIn wsX9_foresee (wsV RX9 89 RX8 yX8_copyFrom wsX8_copyFrom) := goodIn_app (goodIn_of _ (by decide +kernel)) ggX9_foresee_X8_copyFrom
set_option maxRecDepth 20000 in
theorem ggX9_foresee_X5_makeSteps_c1 : GoodIn wsX9_foresee (.code yX5_makeSteps cX5_makeSteps 4 none :: wsX5_makeSteps_r1) := goodIn_r _ [45, 46, 47, 48, 44, 49, 50, 51, 52, 53, 54, 55, 56, 57, 58, 59, 60, 61, 62, 63, 64, 65, 66, 67, 68] (by decide +kernel) (by decide +kernel)
set_option maxRecDepth 20000 in
theorem ggX9_foresee_X5_makeSteps_c2 : GoodIn wsX9_foresee wsX5_makeSteps_r2 := goodIn_r _ [69, 70, 71, 72, 73, 74, 75, 76, 77, 78, 79, 11, 80, 19, 81, 82, 83, 84, 85, 86, 87, 88, 18, 89] (by decide +kernel) (by decide +kernel)
set_option maxRecDepth 20000 in
theorem ggX9_foresee_X5_makeSteps_c3 : GoodIn wsX9_foresee wsX5_makeSteps_r3 := goodIn_r _ [90, 91, 92, 20, 93, 94, 95, 96, 97, 98, 99, 100, 101, 102, 29, 103, 38, 37, 104, 105, 106, 107, 108, 109] (by decide +kernel) (by decide +kernel)
set_option maxRecDepth 20000 in
theorem ggX9_foresee_X5_makeSteps_c4 : GoodIn wsX9_foresee wsX5_makeSteps_r4 := goodIn_r _ [39, 110, 111, 112, 113, 114, 115, 116, 117, 21, 118, 119, 120, 121, 33, 32, 122, 123, 124, 125, 126, 127, 128, 129] (by decide +kernel) (by decide +kernel)
set_option maxRecDepth 20000 in
theorem ggX9_foresee_X5_makeSteps_c5 : GoodIn wsX9_foresee wsX5_makeSteps_r5 := goodIn_r _ [130, 131, 132, 133, 134, 135, 136, 137, 138, 139, 140, 141, 142, 143, 24, 144, 145, 146, 147, 148, 149, 150, 151, 152] (by decide +kernel) (by decide +kernel)
set_option maxRecDepth 20000 in
theorem ggX9_foresee_X5_makeSteps_c6 : GoodIn wsX9_foresee wsX5_makeSteps_r6 := goodIn_r _ [13, 153, 154, 155, 156, 157, 158, 159, 160, 161, 162, 163, 164, 165, 166, 167, 168, 34, 169, 170, 171, 172, 173, 174] (by decide +kernel) (by decide +kernel)
set_option maxRecDepth 20000 in
theorem ggX9_foresee_X5_makeSteps_c7 : GoodIn wsX9_foresee wsX5_makeSteps_r7 := goodIn_r _ [175, 176, 177, 178, 179, 180, 181, 182, 183, 184, 185, 186, 187, 188, 189, 190, 191, 192, 193, 194, 195, 196, 197, 198] (by decide +kernel) (by decide +kernel)
set_option maxRecDepth 20000 in
theorem ggX9_foresee_X5_makeSteps_c8 : GoodIn wsX9_foresee wsX5_makeSteps_r8 := goodIn_r _ [36, 199, 200, 201, 202, 23] (by decide +kernel) (by decide +kernel)
set_option maxRecDepth 20000 in
theorem ggX9_foresee_X5_makeSteps_c9 : GoodIn wsX9_foresee wsX50 := goodIn_r _ [241, 242] (by decide +kernel) (by decide +kernel)
set_option maxRecDepth 20000 in
theorem ggX9_foresee_X5_makeSteps_c10 : GoodIn wsX9_foresee wsX30 := goodIn_r _ [243, 244, 245, 246, 247, 248, 249, 250, 251, 252, 253] (by decide +kernel) (by decide +kernel)
set_option maxRecDepth 20000 in
theorem ggX9_foresee_X5_makeSteps_c11 : GoodIn wsX9_foresee wsX80 := goodIn_r _ [223, 224, 225, 226, 227, 228, 229, 230, 231] (by decide +kernel) (by decide +kernel)
set_option maxRecDepth 20000 in
theorem ggX9_foresee_X5_makeSteps_c12 : GoodIn wsX9_foresee wsX00 := goodIn_r _ [232, 233, 234, 235, 236, 237, 238, 239, 240] (by decide +kernel) (by decide +kernel)
set_option maxRecDepth 20000 in
theorem ggX9_foresee_X5_makeSteps_c13 : GoodIn wsX9_foresee wsX40 := goodIn_r _ [254, 255] (by decide +kernel) (by decide +kernel)
set_option maxRecDepth 20000 in
theorem ggX9_foresee_X5_makeSteps : GoodIn wsX9_foresee wsX5_makeSteps := (goodIn_ca (goodIn_ca (goodIn_ca (goodIn_ca (goodIn_ca (goodIn_ca ggX9_foresee_X5_makeSteps_c1 (goodIn_app ggX9_foresee_X5_makeSteps_c2 (goodIn_app ggX9_foresee_X5_makeSteps_c3 (goodIn_app ggX9_foresee_X5_makeSteps_c4 (goodIn_app ggX9_foresee_X5_makeSteps_c5 (goodIn_app ggX9_foresee_X5_makeSteps_c6 (goodIn_app ggX9_foresee_X5_makeSteps_c7 ggX9_foresee_X5_makeSteps_c8))))))) ggX9_foresee_X5_makeSteps_c9) ggX9_foresee_X5_makeSteps_c10) ggX9_foresee_X5_makeSteps_c11) ggX9_foresee_X5_makeSteps_c12) ggX9_foresee_X5_makeSteps_c13)
set_option maxRecDepth 20000 in
theorem gX9_foresee_X5_makeSteps : GoodIn wsX9_foresee (wsV RX9 195 RX5 yX5_makeSteps wsX5_makeSteps) := goodIn_app (goodIn_of _ (by decide +kernel)) ggX9_foresee_X5_makeSteps
set_option maxRecDepth 20000 in
theorem ggX9_foresee_X8_total : GoodIn wsX9_foresee wsX8_total := goodIn_r _ [206, 23, 24, 25, 144, 78, 79, 11, 80, 19, 207, 208, 209, 210, 211, 212, 213, 214, 20, 21, 215, 223, 224, 225, 226, 227, 228, 229, 230, 231, 232, 233, 234, 235, 236, 237, 238, 239, 240] (by decide +kernel) (by decide +kernel)
set_option maxRecDepth 20000 in
theorem gX9_foresee_X8_total : GoodIn wsX9_foresee (wsV RX9 109 RX8 yX8_total wsX8_total) := goodIn_app (goodIn_of _ (by decide +kernel)) ggX9_foresee_X8_total
theorem dX9_foresee_0 : decode cX9_foresee 0 = .ok (.iload_n 1, 1) := by decide +kernel
theorem dX9_foresee_1 : decode cX9_foresee 1 = .ok (.iconst 1, 1) := by decide +kernel
theorem dX9_foresee_2 : decode cX9_foresee 2 = .ok (.if_icmp .lt 10, 3) := by decide +kernel
theorem dX9_foresee_5 : decode cX9_foresee 5 = .ok (.iload_n 1, 1) := by decide +kernel
theorem dX9_foresee_6 : decode cX9_foresee 6 = .ok (.sipush 1000, 3) := by decide +kernel
theorem dX9_foresee_9 : decode cX9_foresee 9 = .ok (.if_icmp .le 13, 3) := by decide +kernel
theorem dX9_foresee_12 : decode cX9_foresee 12 = .ok (.new 73, 3) := by decide +kernel
theorem dX9_foresee_15 : decode cX9_foresee 15 = .ok (.dup, 1) := by decide +kernel
theorem dX9_foresee_16 : decode cX9_foresee 16 = .ok (.ldc 190, 2) := by decide +kernel
theorem dX9_foresee_18 : decode cX9_foresee 18 = .ok (.invokespecial 77, 3) := by decide +kernel
theorem dX9_foresee_21 : decode cX9_foresee 21 = .ok (.athrow, 1) := by decide +kernel
theorem dX9_foresee_22 : decode cX9_foresee 22 = .ok (.iload_n 2, 1) := by decide +kernel
theorem dX9_foresee_23 : decode cX9_foresee 23 = .ok (.iconst 4, 1) := by decide +kernel
theorem dX9_foresee_24 : decode cX9_foresee 24 = .ok (.if_icmp .lt 9, 3) := by decide +kernel
theorem dX9_foresee_27 : decode cX9_foresee 27 = .ok (.iload_n 2, 1) := by decide +kernel
theorem dX9_foresee_28 : decode cX9_foresee 28 = .ok (.bipush 9, 2) := by decide +kernel
theorem dX9_foresee_30 : decode cX9_foresee 30 = .ok (.if_icmp .le 13, 3) := by decide +kernel
theorem dX9_foresee_33 : decode cX9_foresee 33 = .ok (.new 92, 3) := by decide +kernel
theorem dX9_foresee_36 : decode cX9_foresee 36 = .ok (.dup, 1) := by decide +kernel
theorem dX9_foresee_37 : decode cX9_foresee 37 = .ok (.ldc 199, 2) := by decide +kernel
theorem dX9_foresee_39 : decode cX9_foresee 39 = .ok (.invokespecial 96, 3) := by decide +kernel
theorem dX9_foresee_42 : decode cX9_foresee 42 = .ok (.athrow, 1) := by decide +kernel
theorem dX9_foresee_43 : decode cX9_foresee 43 = .ok (.aload_n 0, 1) := by decide +kernel
theorem dX9_foresee_44 : decode cX9_foresee 44 = .ok (.getfield 30, 3) := by decide +kernel
theorem dX9_foresee_47 : decode cX9_foresee 47 = .ok (.aload_n 0, 1) := by decide +kernel
theorem dX9_foresee_48 : decode cX9_foresee 48 = .ok (.getfield 26, 3) := by decide +kernel
theorem dX9_foresee_51 : decode cX9_foresee 51 = .ok (.invokevirtual 89, 3) := by decide +kernel
theorem dX9_foresee_54 : decode cX9_foresee 54 = .ok (.aload_n 0, 1) := by decide +kernel
theorem dX9_foresee_55 : decode cX9_foresee 55 = .ok (.getfield 47, 3) := by decide +kernel
theorem dX9_foresee_58 : decode cX9_foresee 58 = .ok (.aload_n 0, 1) := by decide +kernel
theorem dX9_foresee_59 : decode cX9_foresee 59 = .ok (.getfield 30, 3) := by decide +kernel
theorem dX9_foresee_62 : decode cX9_foresee 62 = .ok (.iload_n 1, 1) := by decide +kernel
theorem dX9_foresee_63 : decode cX9_foresee 63 = .ok (.invokevirtual 195, 3) := by decide +kernel
theorem dX9_foresee_66 : decode cX9_foresee 66 = .ok (.aload_n 0, 1) := by decide +kernel
theorem dX9_foresee_67 : decode cX9_foresee 67 = .ok (.getfield 30, 3) := by decide +kernel
theorem dX9_foresee_70 : decode cX9_foresee 70 = .ok (.iload_n 2, 1) := by decide +kernel
theorem dX9_foresee_71 : decode cX9_foresee 71 = .ok (.invokevirtual 109, 3) := by decide +kernel
theorem dX9_foresee_74 : decode cX9_foresee 74 = .ok (.ireturn, 1) := by decide +kernel
set_option maxRecDepth 20000 in
theorem ggX9_mean_X8_colourSum : GoodIn wsX9_mean wsX8_colourSum := goodIn_r _ [7, 8, 16, 17, 18, 19, 20, 21, 22, 23, 24] (by decide +kernel) (by decide +kernel)
set_option maxRecDepth 20000 in
theorem gX9_mean_X8_colourSum : GoodIn wsX9_mean (wsV RX9 210 RX8 yX8_colourSum wsX8_colourSum) := goodIn_app (goodIn_of _ (by decide +kernel)) ggX9_mean_X8_colourSum
theorem dX9_mean_0 : decode cX9_mean 0 = .ok (.aload_n 0, 1) := by decide +kernel
theorem dX9_mean_1 : decode cX9_mean 1 = .ok (.getfield 26, 3) := by decide +kernel
theorem dX9_mean_4 : decode cX9_mean 4 = .ok (.invokevirtual 210, 3) := by decide +kernel
theorem dX9_mean_7 : decode cX9_mean 7 = .ok (.i2d, 1) := by decide +kernel
theorem dX9_mean_8 : decode cX9_mean 8 = .ok (.ldc2_w 213, 3) := by decide +kernel
theorem dX9_mean_11 : decode cX9_mean 11 = .ok (.ddiv, 1) := by decide +kernel
theorem dX9_mean_12 : decode cX9_mean 12 = .ok (.dreturn, 1) := by decide +kernel
set_option maxRecDepth 20000 in
theorem ggX9_digest_X9_count : GoodIn wsX9_digest wsX9_count := goodIn_ca (goodIn_r _ [12, 13, 14, 5, 15, 3, 4, 6, 16, 17, 18, 19, 20, 21, 22, 23, 24, 25, 26, 27, 28, 29, 30, 31, 32, 33, 34, 35, 36, 37, 38, 39, 40, 41, 42, 96, 97, 98, 99, 100, 101, 102, 114, 115, 116, 117, 118, 119, 120, 121, 122, 103, 104, 105, 106, 107, 108, 109, 110, 111, 112, 113, 123, 124, 125, 126, 127, 128, 129, 130, 131, 132, 133] (by decide +kernel) (by decide +kernel)) (goodIn_sub (fun _ h => List.mem_cons_of_mem _ (List.mem_append_right _ h)) (by decide +kernel))
set_option maxRecDepth 20000 in
theorem gX9_digest_X9_count : GoodIn wsX9_digest (wsV RX9 219 RX9 yX9_count wsX9_count) := goodIn_app (goodIn_of _ (by decide +kernel)) ggX9_digest_X9_count
set_option maxRecDepth 20000 in
theorem ggX9_digest_X3_turnFor : GoodIn wsX9_digest wsX3_turnFor := goodIn_r _ [47, 48, 49, 50, 51, 52, 46, 53, 54, 103, 104, 105, 106, 107, 108, 109, 110, 111, 112, 113] (by decide +kernel) (by decide +kernel)
set_option maxRecDepth 20000 in
theorem gX9_digest_X3_turnFor : GoodIn wsX9_digest (wsV RX9 141 RX3 yX3_turnFor wsX3_turnFor) := goodIn_app (goodIn_of _ (by decide +kernel)) ggX9_digest_X3_turnFor
set_option maxRecDepth 20000 in
theorem ggX9_digest_X0_answer : GoodIn wsX9_digest wsX0_answer := goodIn_r _ [59, 60, 61, 62, 63, 64, 65, 66, 67, 68, 58, 69, 70, 71, 72, 73, 74, 75, 76, 77, 78, 79, 80, 81, 82, 83, 84, 85, 86, 87, 88, 89, 90, 125, 126, 127, 128, 129, 130, 131, 132, 133] (by decide +kernel) (by decide +kernel)
set_option maxRecDepth 20000 in
theorem gX9_digest_X0_answer : GoodIn wsX9_digest (wsV RX9 154 RX0 yX0_answer wsX0_answer) := goodIn_app (goodIn_of _ (by decide +kernel)) ggX9_digest_X0_answer
set_option maxRecDepth 20000 in
theorem ggX9_digest_X8_colourAt : GoodIn wsX9_digest wsX8_colourAt := goodIn_r _ [94, 95, 114, 115, 116, 117, 118, 119, 120, 121, 122] (by decide +kernel) (by decide +kernel)
set_option maxRecDepth 20000 in
theorem gX9_digest_X8_colourAt : GoodIn wsX9_digest (wsV RX9 119 RX8 yX8_colourAt wsX8_colourAt) := goodIn_app (goodIn_of _ (by decide +kernel)) ggX9_digest_X8_colourAt
theorem dX9_digest_0 : decode cX9_digest 0 = .ok (.ldc2_w 215, 3) := by decide +kernel
theorem dX9_digest_3 : decode cX9_digest 3 = .ok (.lstore_n 1, 1) := by decide +kernel
theorem dX9_digest_4 : decode cX9_digest 4 = .ok (.iconst 0, 1) := by decide +kernel
theorem dX9_digest_5 : decode cX9_digest 5 = .ok (.istore_n 3, 1) := by decide +kernel
theorem dX9_digest_6 : decode cX9_digest 6 = .ok (.iload_n 3, 1) := by decide +kernel
theorem dX9_digest_7 : decode cX9_digest 7 = .ok (.bipush 11, 2) := by decide +kernel
theorem dX9_digest_9 : decode cX9_digest 9 = .ok (.if_icmp .ge 22, 3) := by decide +kernel
theorem dX9_digest_12 : decode cX9_digest 12 = .ok (.lload_n 1, 1) := by decide +kernel
theorem dX9_digest_13 : decode cX9_digest 13 = .ok (.ldc2_w 217, 3) := by decide +kernel
theorem dX9_digest_16 : decode cX9_digest 16 = .ok (.lmul, 1) := by decide +kernel
theorem dX9_digest_17 : decode cX9_digest 17 = .ok (.aload_n 0, 1) := by decide +kernel
theorem dX9_digest_18 : decode cX9_digest 18 = .ok (.iload_n 3, 1) := by decide +kernel
theorem dX9_digest_19 : decode cX9_digest 19 = .ok (.invokevirtual 219, 3) := by decide +kernel
theorem dX9_digest_22 : decode cX9_digest 22 = .ok (.i2l, 1) := by decide +kernel
theorem dX9_digest_23 : decode cX9_digest 23 = .ok (.ladd, 1) := by decide +kernel
theorem dX9_digest_24 : decode cX9_digest 24 = .ok (.lstore_n 1, 1) := by decide +kernel
theorem dX9_digest_25 : decode cX9_digest 25 = .ok (.iinc 3 1, 3) := by decide +kernel
theorem dX9_digest_28 : decode cX9_digest 28 = .ok (.goto (-22), 3) := by decide +kernel
theorem dX9_digest_31 : decode cX9_digest 31 = .ok (.iconst 0, 1) := by decide +kernel
theorem dX9_digest_32 : decode cX9_digest 32 = .ok (.istore_n 3, 1) := by decide +kernel
theorem dX9_digest_33 : decode cX9_digest 33 = .ok (.iload_n 3, 1) := by decide +kernel
theorem dX9_digest_34 : decode cX9_digest 34 = .ok (.aload_n 0, 1) := by decide +kernel
theorem dX9_digest_35 : decode cX9_digest 35 = .ok (.getfield 19, 3) := by decide +kernel
theorem dX9_digest_38 : decode cX9_digest 38 = .ok (.getfield 100, 3) := by decide +kernel
theorem dX9_digest_41 : decode cX9_digest 41 = .ok (.if_icmp .ge 43, 3) := by decide +kernel
theorem dX9_digest_44 : decode cX9_digest 44 = .ok (.iconst 0, 1) := by decide +kernel
theorem dX9_digest_45 : decode cX9_digest 45 = .ok (.istore 4, 2) := by decide +kernel
theorem dX9_digest_47 : decode cX9_digest 47 = .ok (.iload 4, 2) := by decide +kernel
theorem dX9_digest_49 : decode cX9_digest 49 = .ok (.bipush 6, 2) := by decide +kernel
theorem dX9_digest_51 : decode cX9_digest 51 = .ok (.if_icmp .ge 27, 3) := by decide +kernel
theorem dX9_digest_54 : decode cX9_digest 54 = .ok (.lload_n 1, 1) := by decide +kernel
theorem dX9_digest_55 : decode cX9_digest 55 = .ok (.ldc2_w 217, 3) := by decide +kernel
theorem dX9_digest_58 : decode cX9_digest 58 = .ok (.lmul, 1) := by decide +kernel
theorem dX9_digest_59 : decode cX9_digest 59 = .ok (.aload_n 0, 1) := by decide +kernel
theorem dX9_digest_60 : decode cX9_digest 60 = .ok (.getfield 19, 3) := by decide +kernel
theorem dX9_digest_63 : decode cX9_digest 63 = .ok (.iload_n 3, 1) := by decide +kernel
theorem dX9_digest_64 : decode cX9_digest 64 = .ok (.iload 4, 2) := by decide +kernel
theorem dX9_digest_66 : decode cX9_digest 66 = .ok (.invokevirtual 141, 3) := by decide +kernel
theorem dX9_digest_69 : decode cX9_digest 69 = .ok (.i2l, 1) := by decide +kernel
theorem dX9_digest_70 : decode cX9_digest 70 = .ok (.ladd, 1) := by decide +kernel
theorem dX9_digest_71 : decode cX9_digest 71 = .ok (.lstore_n 1, 1) := by decide +kernel
theorem dX9_digest_72 : decode cX9_digest 72 = .ok (.iinc 4 1, 3) := by decide +kernel
theorem dX9_digest_75 : decode cX9_digest 75 = .ok (.goto (-28), 3) := by decide +kernel
theorem dX9_digest_78 : decode cX9_digest 78 = .ok (.iinc 3 1, 3) := by decide +kernel
theorem dX9_digest_81 : decode cX9_digest 81 = .ok (.goto (-48), 3) := by decide +kernel
theorem dX9_digest_84 : decode cX9_digest 84 = .ok (.iconst 0, 1) := by decide +kernel
theorem dX9_digest_85 : decode cX9_digest 85 = .ok (.istore_n 3, 1) := by decide +kernel
theorem dX9_digest_86 : decode cX9_digest 86 = .ok (.iload_n 3, 1) := by decide +kernel
theorem dX9_digest_87 : decode cX9_digest 87 = .ok (.aload_n 0, 1) := by decide +kernel
theorem dX9_digest_88 : decode cX9_digest 88 = .ok (.getfield 26, 3) := by decide +kernel
theorem dX9_digest_91 : decode cX9_digest 91 = .ok (.getfield 103, 3) := by decide +kernel
theorem dX9_digest_94 : decode cX9_digest 94 = .ok (.if_icmp .ge 47, 3) := by decide +kernel
theorem dX9_digest_97 : decode cX9_digest 97 = .ok (.iconst 0, 1) := by decide +kernel
theorem dX9_digest_98 : decode cX9_digest 98 = .ok (.istore 4, 2) := by decide +kernel
theorem dX9_digest_100 : decode cX9_digest 100 = .ok (.iload 4, 2) := by decide +kernel
theorem dX9_digest_102 : decode cX9_digest 102 = .ok (.bipush 9, 2) := by decide +kernel
theorem dX9_digest_104 : decode cX9_digest 104 = .ok (.if_icmp .ge 31, 3) := by decide +kernel
theorem dX9_digest_107 : decode cX9_digest 107 = .ok (.lload_n 1, 1) := by decide +kernel
theorem dX9_digest_108 : decode cX9_digest 108 = .ok (.ldc2_w 217, 3) := by decide +kernel
theorem dX9_digest_111 : decode cX9_digest 111 = .ok (.lmul, 1) := by decide +kernel
theorem dX9_digest_112 : decode cX9_digest 112 = .ok (.aload_n 0, 1) := by decide +kernel
theorem dX9_digest_113 : decode cX9_digest 113 = .ok (.getfield 26, 3) := by decide +kernel
theorem dX9_digest_116 : decode cX9_digest 116 = .ok (.getfield 150, 3) := by decide +kernel
theorem dX9_digest_119 : decode cX9_digest 119 = .ok (.iload_n 3, 1) := by decide +kernel
theorem dX9_digest_120 : decode cX9_digest 120 = .ok (.aaload, 1) := by decide +kernel
theorem dX9_digest_121 : decode cX9_digest 121 = .ok (.iload 4, 2) := by decide +kernel
theorem dX9_digest_123 : decode cX9_digest 123 = .ok (.invokevirtual 154, 3) := by decide +kernel
theorem dX9_digest_126 : decode cX9_digest 126 = .ok (.i2l, 1) := by decide +kernel
theorem dX9_digest_127 : decode cX9_digest 127 = .ok (.ladd, 1) := by decide +kernel
theorem dX9_digest_128 : decode cX9_digest 128 = .ok (.lstore_n 1, 1) := by decide +kernel
theorem dX9_digest_129 : decode cX9_digest 129 = .ok (.iinc 4 1, 3) := by decide +kernel
theorem dX9_digest_132 : decode cX9_digest 132 = .ok (.goto (-32), 3) := by decide +kernel
theorem dX9_digest_135 : decode cX9_digest 135 = .ok (.iinc 3 1, 3) := by decide +kernel
theorem dX9_digest_138 : decode cX9_digest 138 = .ok (.goto (-52), 3) := by decide +kernel
theorem dX9_digest_141 : decode cX9_digest 141 = .ok (.iconst 0, 1) := by decide +kernel
theorem dX9_digest_142 : decode cX9_digest 142 = .ok (.istore_n 3, 1) := by decide +kernel
theorem dX9_digest_143 : decode cX9_digest 143 = .ok (.iload_n 3, 1) := by decide +kernel
theorem dX9_digest_144 : decode cX9_digest 144 = .ok (.sipush 4096, 3) := by decide +kernel
theorem dX9_digest_147 : decode cX9_digest 147 = .ok (.if_icmp .ge 25, 3) := by decide +kernel
theorem dX9_digest_150 : decode cX9_digest 150 = .ok (.lload_n 1, 1) := by decide +kernel
theorem dX9_digest_151 : decode cX9_digest 151 = .ok (.ldc2_w 217, 3) := by decide +kernel
theorem dX9_digest_154 : decode cX9_digest 154 = .ok (.lmul, 1) := by decide +kernel
theorem dX9_digest_155 : decode cX9_digest 155 = .ok (.aload_n 0, 1) := by decide +kernel
theorem dX9_digest_156 : decode cX9_digest 156 = .ok (.getfield 26, 3) := by decide +kernel
theorem dX9_digest_159 : decode cX9_digest 159 = .ok (.iload_n 3, 1) := by decide +kernel
theorem dX9_digest_160 : decode cX9_digest 160 = .ok (.invokevirtual 119, 3) := by decide +kernel
theorem dX9_digest_163 : decode cX9_digest 163 = .ok (.i2l, 1) := by decide +kernel
theorem dX9_digest_164 : decode cX9_digest 164 = .ok (.ladd, 1) := by decide +kernel
theorem dX9_digest_165 : decode cX9_digest 165 = .ok (.lstore_n 1, 1) := by decide +kernel
theorem dX9_digest_166 : decode cX9_digest 166 = .ok (.iinc 3 1, 3) := by decide +kernel
theorem dX9_digest_169 : decode cX9_digest 169 = .ok (.goto (-26), 3) := by decide +kernel
theorem dX9_digest_172 : decode cX9_digest 172 = .ok (.lload_n 1, 1) := by decide +kernel
theorem dX9_digest_173 : decode cX9_digest 173 = .ok (.lreturn, 1) := by decide +kernel
theorem dX9_isAnt_0 : decode cX9_isAnt 0 = .ok (.iload_n 1, 1) := by decide +kernel
theorem dX9_isAnt_1 : decode cX9_isAnt 1 = .ok (.ifCond .lt 18, 3) := by decide +kernel
theorem dX9_isAnt_4 : decode cX9_isAnt 4 = .ok (.iload_n 1, 1) := by decide +kernel
theorem dX9_isAnt_5 : decode cX9_isAnt 5 = .ok (.aload_n 0, 1) := by decide +kernel
theorem dX9_isAnt_6 : decode cX9_isAnt 6 = .ok (.getfield 26, 3) := by decide +kernel
theorem dX9_isAnt_9 : decode cX9_isAnt 9 = .ok (.getfield 103, 3) := by decide +kernel
theorem dX9_isAnt_12 : decode cX9_isAnt 12 = .ok (.if_icmp .ge 7, 3) := by decide +kernel
theorem dX9_isAnt_15 : decode cX9_isAnt 15 = .ok (.iconst 1, 1) := by decide +kernel
theorem dX9_isAnt_16 : decode cX9_isAnt 16 = .ok (.goto 4, 3) := by decide +kernel
theorem dX9_isAnt_19 : decode cX9_isAnt 19 = .ok (.iconst 0, 1) := by decide +kernel
theorem dX9_isAnt_20 : decode cX9_isAnt 20 = .ok (.ireturn, 1) := by decide +kernel
theorem dX9_isLine_0 : decode cX9_isLine 0 = .ok (.iload_n 0, 1) := by decide +kernel
theorem dX9_isLine_1 : decode cX9_isLine 1 = .ok (.ifCond .lt 13, 3) := by decide +kernel
theorem dX9_isLine_4 : decode cX9_isLine 4 = .ok (.iload_n 0, 1) := by decide +kernel
theorem dX9_isLine_5 : decode cX9_isLine 5 = .ok (.bipush 64, 2) := by decide +kernel
theorem dX9_isLine_7 : decode cX9_isLine 7 = .ok (.if_icmp .ge 7, 3) := by decide +kernel
theorem dX9_isLine_10 : decode cX9_isLine 10 = .ok (.iconst 1, 1) := by decide +kernel
theorem dX9_isLine_11 : decode cX9_isLine 11 = .ok (.goto 4, 3) := by decide +kernel
theorem dX9_isLine_14 : decode cX9_isLine 14 = .ok (.iconst 0, 1) := by decide +kernel
theorem dX9_isLine_15 : decode cX9_isLine 15 = .ok (.ireturn, 1) := by decide +kernel
set_option maxRecDepth 20000 in
theorem ggX9_isStone_X9_isLine : GoodIn wsX9_isStone wsX9_isLine := goodIn_r _ [4] (by decide +kernel) (by decide +kernel)
set_option maxRecDepth 20000 in
theorem gX9_isStone_X9_isLine : GoodIn wsX9_isStone (va_wsS RX9 131 yX9_isLine wsX9_isLine) := goodIn_app (goodIn_of _ (by decide +kernel)) ggX9_isStone_X9_isLine
theorem dX9_isStone_0 : decode cX9_isStone 0 = .ok (.iload_n 0, 1) := by decide +kernel
theorem dX9_isStone_1 : decode cX9_isStone 1 = .ok (.invokestatic 131, 3) := by decide +kernel
theorem dX9_isStone_4 : decode cX9_isStone 4 = .ok (.ifCond .eq 14, 3) := by decide +kernel
theorem dX9_isStone_7 : decode cX9_isStone 7 = .ok (.iload_n 1, 1) := by decide +kernel
theorem dX9_isStone_8 : decode cX9_isStone 8 = .ok (.invokestatic 131, 3) := by decide +kernel
theorem dX9_isStone_11 : decode cX9_isStone 11 = .ok (.ifCond .eq 7, 3) := by decide +kernel
theorem dX9_isStone_14 : decode cX9_isStone 14 = .ok (.iconst 1, 1) := by decide +kernel
theorem dX9_isStone_15 : decode cX9_isStone 15 = .ok (.goto 4, 3) := by decide +kernel
theorem dX9_isStone_18 : decode cX9_isStone 18 = .ok (.iconst 0, 1) := by decide +kernel
theorem dX9_isStone_19 : decode cX9_isStone 19 = .ok (.ireturn, 1) := by decide +kernel
theorem dX9_isColour_0 : decode cX9_isColour 0 = .ok (.iload_n 0, 1) := by decide +kernel
theorem dX9_isColour_1 : decode cX9_isColour 1 = .ok (.ifCond .lt 13, 3) := by decide +kernel
theorem dX9_isColour_4 : decode cX9_isColour 4 = .ok (.iload_n 0, 1) := by decide +kernel
theorem dX9_isColour_5 : decode cX9_isColour 5 = .ok (.bipush 6, 2) := by decide +kernel
theorem dX9_isColour_7 : decode cX9_isColour 7 = .ok (.if_icmp .ge 7, 3) := by decide +kernel
theorem dX9_isColour_10 : decode cX9_isColour 10 = .ok (.iconst 1, 1) := by decide +kernel
theorem dX9_isColour_11 : decode cX9_isColour 11 = .ok (.goto 4, 3) := by decide +kernel
theorem dX9_isColour_14 : decode cX9_isColour 14 = .ok (.iconst 0, 1) := by decide +kernel
theorem dX9_isColour_15 : decode cX9_isColour 15 = .ok (.ireturn, 1) := by decide +kernel
