theorem dL_below_0 : decode cL_below 0 = .ok (.iload_n 0, 1) := by decide +kernel
theorem dL_below_1 : decode cL_below 1 = .ok (.ldc 7, 2) := by decide +kernel
theorem dL_below_3 : decode cL_below 3 = .ok (.iand, 1) := by decide +kernel
theorem dL_below_4 : decode cL_below 4 = .ok (.iload_n 1, 1) := by decide +kernel
theorem dL_below_5 : decode cL_below 5 = .ok (.irem, 1) := by decide +kernel
theorem dL_below_6 : decode cL_below 6 = .ok (.ireturn, 1) := by decide +kernel
theorem dL_cell_0 : decode cL_cell 0 = .ok (.iload_n 1, 1) := by decide +kernel
theorem dL_cell_1 : decode cL_cell 1 = .ok (.aload_n 0, 1) := by decide +kernel
theorem dL_cell_2 : decode cL_cell 2 = .ok (.arraylength, 1) := by decide +kernel
theorem dL_cell_3 : decode cL_cell 3 = .ok (.if_icmp .ge 9, 3) := by decide +kernel
theorem dL_cell_6 : decode cL_cell 6 = .ok (.aload_n 0, 1) := by decide +kernel
theorem dL_cell_7 : decode cL_cell 7 = .ok (.iload_n 1, 1) := by decide +kernel
theorem dL_cell_8 : decode cL_cell 8 = .ok (.iaload, 1) := by decide +kernel
theorem dL_cell_9 : decode cL_cell 9 = .ok (.goto 9, 3) := by decide +kernel
theorem dL_cell_12 : decode cL_cell 12 = .ok (.ldc 8, 2) := by decide +kernel
theorem dL_cell_14 : decode cL_cell 14 = .ok (.iload_n 1, 1) := by decide +kernel
theorem dL_cell_15 : decode cL_cell 15 = .ok (.iconst 3, 1) := by decide +kernel
theorem dL_cell_16 : decode cL_cell 16 = .ok (.iadd, 1) := by decide +kernel
theorem dL_cell_17 : decode cL_cell 17 = .ok (.imul, 1) := by decide +kernel
theorem dL_cell_18 : decode cL_cell 18 = .ok (.ireturn, 1) := by decide +kernel
set_option maxRecDepth 20000 in
theorem ggL_taught_X9_trim : GoodIn wsL_taught wsX9_trim := goodIn_ca (goodIn_r _ [6, 7, 8, 9, 10, 408, 409, 410, 411, 412, 413, 414, 415, 416] (by decide +kernel) (by decide +kernel)) (goodIn_sub (fun _ h => List.mem_cons_of_mem _ (List.mem_append_left _ (List.mem_append_right _ h))) (by decide +kernel))
set_option maxRecDepth 20000 in
theorem gL_taught_X9_trim : GoodIn wsL_taught (wsV RL 9 RX9 yX9_trim wsX9_trim) := goodIn_app (goodIn_of _ (by decide +kernel)) ggL_taught_X9_trim
set_option maxRecDepth 20000 in
theorem ggL_taught_J0_length_8abf5 : GoodIn wsL_taught wsJ0_length_8abf5 := goodIn_r _ [15, 16, 17, 18, 19, 14, 20, 21, 22, 417, 418, 419, 420] (by decide +kernel) (by decide +kernel)
set_option maxRecDepth 20000 in
theorem gL_taught_J0_length_8abf5 : GoodIn wsL_taught (wsV RL 15 RJ0 yJ0_length_8abf5 wsJ0_length_8abf5) := goodIn_app (goodIn_of _ (by decide +kernel)) ggL_taught_J0_length_8abf5
set_option maxRecDepth 20000 in
theorem ggL_taught_J0_charAt_5068e : GoodIn wsL_taught wsJ0_charAt_5068e := goodIn_r _ [26, 16, 27, 28, 29, 14, 30, 21, 22, 31, 32, 33, 34, 35, 36, 37, 38, 39, 40, 41, 42, 43, 44, 45, 46, 47, 48, 49, 50, 51, 52, 53, 54, 55, 56, 57, 58, 59, 417, 418, 419, 420] (by decide +kernel) (by decide +kernel)
set_option maxRecDepth 20000 in
theorem gL_taught_J0_charAt_5068e : GoodIn wsL_taught (wsV RL 21 RJ0 yJ0_charAt_5068e wsJ0_charAt_5068e) := goodIn_app (goodIn_of _ (by decide +kernel)) ggL_taught_J0_charAt_5068e
set_option maxRecDepth 20000 in
theorem ggL_taught_X9_feed : GoodIn wsL_taught wsX9_feed := goodIn_ca (goodIn_r _ [63, 64, 65, 9, 10, 66, 67, 68, 69, 70, 71, 72, 73, 74, 75, 76, 77, 408, 409, 410, 411, 412, 413, 414, 415, 416] (by decide +kernel) (by decide +kernel)) (goodIn_sub (fun _ h => List.mem_cons_of_mem _ (List.mem_append_right _ h)) (by decide +kernel))
set_option maxRecDepth 20000 in
theorem gL_taught_X9_feed : GoodIn wsL_taught (wsV RL 25 RX9 yX9_feed wsX9_feed) := goodIn_app (goodIn_of _ (by decide +kernel)) ggL_taught_X9_feed
set_option maxRecDepth 20000 in
theorem ggL_taught_X9_teach_c1 : GoodIn wsL_taught (.code yX9_teach cX9_teach 2 (some .int) :: wsX9_teach_r1) := goodIn_r _ [81, 82, 83, 84, 9, 10, 85, 86, 87, 88, 89, 90, 91, 92, 93, 94, 95, 96, 97, 98, 99, 100, 101, 102, 103] (by decide +kernel) (by decide +kernel)
set_option maxRecDepth 20000 in
theorem ggL_taught_X9_teach_c2 : GoodIn wsL_taught wsX9_teach_r2 := goodIn_r _ [104, 105, 106, 107, 108, 69, 109, 71, 110, 111, 112, 113, 76, 114, 115, 116, 117, 118, 119, 120, 121, 122, 123, 124] (by decide +kernel) (by decide +kernel)
set_option maxRecDepth 20000 in
theorem ggL_taught_X9_teach_c3 : GoodIn wsL_taught wsX9_teach_r3 := goodIn_r _ [125, 126, 127, 128, 129, 130, 131, 132, 133, 134, 135, 136, 137, 138, 139, 140, 141, 142, 143, 144, 145, 146, 147, 148] (by decide +kernel) (by decide +kernel)
set_option maxRecDepth 20000 in
theorem ggL_taught_X9_teach_c4 : GoodIn wsL_taught wsX9_teach_r4 := goodIn_r _ [149, 150, 151, 152, 153, 154, 155, 156, 157, 158, 159, 160, 161, 162, 163, 164, 165, 166, 167, 168, 169, 170, 171, 172] (by decide +kernel) (by decide +kernel)
set_option maxRecDepth 20000 in
theorem ggL_taught_X9_teach_c5 : GoodIn wsL_taught wsX9_teach_r5 := goodIn_r _ [173, 174, 175, 176, 177, 178, 179, 180, 181, 182, 183, 184, 185, 186, 187, 188, 189, 190, 191, 192, 193, 194, 195, 196] (by decide +kernel) (by decide +kernel)
set_option maxRecDepth 20000 in
theorem ggL_taught_X9_teach_c6 : GoodIn wsL_taught wsX9_teach_r6 := goodIn_r _ [197, 198, 199, 200, 201, 202, 203, 204, 205, 206, 207, 208, 209, 210, 211, 212, 213, 214, 215, 216, 217, 218, 219, 220] (by decide +kernel) (by decide +kernel)
set_option maxRecDepth 20000 in
theorem ggL_taught_X9_teach_c7 : GoodIn wsL_taught wsX9_teach_r7 := goodIn_r _ [221, 222, 223, 224, 225, 226, 227, 228, 229, 230, 231, 232, 233, 234, 235, 236, 237, 238, 239, 240, 241, 242, 243, 244] (by decide +kernel) (by decide +kernel)
set_option maxRecDepth 20000 in
theorem ggL_taught_X9_teach_c8 : GoodIn wsL_taught wsX9_teach_r8 := goodIn_r _ [245, 246, 247, 248, 249, 250, 251, 252, 253, 254, 255, 256, 257, 258, 259, 260, 261, 262, 263, 264, 265, 266, 267, 268] (by decide +kernel) (by decide +kernel)
set_option maxRecDepth 20000 in
theorem ggL_taught_X9_teach_c9 : GoodIn wsL_taught wsX9_teach_r9 := goodIn_r _ [269, 270, 271, 272, 273, 274, 275, 276, 277, 278, 279, 280, 281, 282, 283, 284, 285, 286, 287, 288, 289, 290, 291, 292] (by decide +kernel) (by decide +kernel)
set_option maxRecDepth 20000 in
theorem ggL_taught_X9_teach_c10 : GoodIn wsL_taught wsX9_teach_r10 := goodIn_r _ [293, 294, 295, 296, 297, 298, 299, 300, 301, 302, 5, 303, 304, 305, 306, 307, 308, 309, 310, 311, 312, 313, 314, 315] (by decide +kernel) (by decide +kernel)
set_option maxRecDepth 20000 in
theorem ggL_taught_X9_teach_c11 : GoodIn wsL_taught wsX9_teach_r11 := goodIn_r _ [316, 317, 318, 319, 320, 321, 322, 323, 324, 325, 326, 327, 328, 329, 330, 331, 332, 333, 334, 335, 336, 337, 338, 339] (by decide +kernel) (by decide +kernel)
set_option maxRecDepth 20000 in
theorem ggL_taught_X9_teach_c12 : GoodIn wsL_taught wsX9_teach_r12 := goodIn_r _ [340, 341, 342, 343, 344, 345, 346, 347, 348, 349, 350, 351, 352, 353, 354, 355, 356, 357, 358, 359, 360, 361, 362, 363] (by decide +kernel) (by decide +kernel)
set_option maxRecDepth 20000 in
theorem ggL_taught_X9_teach_c13 : GoodIn wsL_taught wsX9_teach_r13 := goodIn_r _ [364, 365, 366, 367, 368, 369, 370, 371, 372, 373, 374, 375, 376, 377, 378, 379, 380, 381, 382, 383, 384, 385, 386, 387] (by decide +kernel) (by decide +kernel)
set_option maxRecDepth 20000 in
theorem ggL_taught_X9_teach_c14 : GoodIn wsL_taught wsX9_teach_r14 := goodIn_r _ [388, 389, 390, 391, 392, 393, 394, 395, 396, 397, 398, 399, 400, 401, 402, 403, 404, 405, 406, 407] (by decide +kernel) (by decide +kernel)
set_option maxRecDepth 20000 in
theorem ggL_taught_X9_teach_c15 : GoodIn wsL_taught wsX90 := goodIn_r _ [408, 409, 410, 411, 412, 413, 414] (by decide +kernel) (by decide +kernel)
set_option maxRecDepth 20000 in
theorem ggL_taught_X9_teach_c16 : GoodIn wsL_taught wsX20 := goodIn_r _ [421, 422, 423, 424, 425, 426, 427, 428] (by decide +kernel) (by decide +kernel)
set_option maxRecDepth 20000 in
theorem ggL_taught_X9_teach_c17 : GoodIn wsL_taught wsX60 := goodIn_r _ [415, 416] (by decide +kernel) (by decide +kernel)
set_option maxRecDepth 20000 in
theorem ggL_taught_X9_teach_c18 : GoodIn wsL_taught wsX70 := goodIn_r _ [429, 430, 431, 432, 433, 434] (by decide +kernel) (by decide +kernel)
set_option maxRecDepth 20000 in
theorem ggL_taught_X9_teach_c19 : GoodIn wsL_taught wsX30 := goodIn_r _ [435, 436, 437, 438, 439, 440, 441, 442, 443, 444, 445] (by decide +kernel) (by decide +kernel)
set_option maxRecDepth 20000 in
theorem ggL_taught_X9_teach_c20 : GoodIn wsL_taught wsX80 := goodIn_r _ [446, 447, 448, 449, 450, 451, 452, 453, 454] (by decide +kernel) (by decide +kernel)
set_option maxRecDepth 20000 in
theorem ggL_taught_X9_teach_c21 : GoodIn wsL_taught wsX00 := goodIn_r _ [455, 456, 457, 458, 459, 460, 461, 462, 463] (by decide +kernel) (by decide +kernel)
set_option maxRecDepth 20000 in
theorem ggL_taught_X9_teach : GoodIn wsL_taught wsX9_teach := (goodIn_ca (goodIn_ca (goodIn_ca (goodIn_ca (goodIn_ca (goodIn_ca (goodIn_ca (goodIn_ca ggL_taught_X9_teach_c1 (goodIn_app ggL_taught_X9_teach_c2 (goodIn_app ggL_taught_X9_teach_c3 (goodIn_app ggL_taught_X9_teach_c4 (goodIn_app ggL_taught_X9_teach_c5 (goodIn_app ggL_taught_X9_teach_c6 (goodIn_app ggL_taught_X9_teach_c7 (goodIn_app ggL_taught_X9_teach_c8 (goodIn_app ggL_taught_X9_teach_c9 (goodIn_app ggL_taught_X9_teach_c10 (goodIn_app ggL_taught_X9_teach_c11 (goodIn_app ggL_taught_X9_teach_c12 (goodIn_app ggL_taught_X9_teach_c13 ggL_taught_X9_teach_c14))))))))))))) ggL_taught_X9_teach_c15) ggL_taught_X9_teach_c16) ggL_taught_X9_teach_c17) ggL_taught_X9_teach_c18) ggL_taught_X9_teach_c19) ggL_taught_X9_teach_c20) ggL_taught_X9_teach_c21)
set_option maxRecDepth 20000 in
theorem gL_taught_X9_teach : GoodIn wsL_taught (wsV RL 29 RX9 yX9_teach wsX9_teach) := goodIn_app (goodIn_of _ (by decide +kernel)) ggL_taught_X9_teach
theorem dL_taught_0 : decode cL_taught 0 = .ok (.iconst 5, 1) := by decide +kernel
theorem dL_taught_1 : decode cL_taught 1 = .ok (.newarray .int, 2) := by decide +kernel
theorem dL_taught_3 : decode cL_taught 3 = .ok (.astore_n 2, 1) := by decide +kernel
theorem dL_taught_4 : decode cL_taught 4 = .ok (.aload_n 0, 1) := by decide +kernel
theorem dL_taught_5 : decode cL_taught 5 = .ok (.iconst 0, 1) := by decide +kernel
theorem dL_taught_6 : decode cL_taught 6 = .ok (.invokevirtual 9, 3) := by decide +kernel
theorem dL_taught_9 : decode cL_taught 9 = .ok (.pop, 1) := by decide +kernel
theorem dL_taught_10 : decode cL_taught 10 = .ok (.iconst 0, 1) := by decide +kernel
theorem dL_taught_11 : decode cL_taught 11 = .ok (.istore_n 3, 1) := by decide +kernel
theorem dL_taught_12 : decode cL_taught 12 = .ok (.iload_n 3, 1) := by decide +kernel
theorem dL_taught_13 : decode cL_taught 13 = .ok (.aload_n 1, 1) := by decide +kernel
theorem dL_taught_14 : decode cL_taught 14 = .ok (.invokevirtual 15, 3) := by decide +kernel
theorem dL_taught_17 : decode cL_taught 17 = .ok (.if_icmp .ge 85, 3) := by decide +kernel
theorem dL_taught_20 : decode cL_taught 20 = .ok (.iconst 0, 1) := by decide +kernel
theorem dL_taught_21 : decode cL_taught 21 = .ok (.istore 4, 2) := by decide +kernel
theorem dL_taught_23 : decode cL_taught 23 = .ok (.iload 4, 2) := by decide +kernel
theorem dL_taught_25 : decode cL_taught 25 = .ok (.bipush 20, 2) := by decide +kernel
theorem dL_taught_27 : decode cL_taught 27 = .ok (.if_icmp .ge 49, 3) := by decide +kernel
theorem dL_taught_30 : decode cL_taught 30 = .ok (.aload_n 2, 1) := by decide +kernel
theorem dL_taught_31 : decode cL_taught 31 = .ok (.iload 4, 2) := by decide +kernel
theorem dL_taught_33 : decode cL_taught 33 = .ok (.iconst 4, 1) := by decide +kernel
theorem dL_taught_34 : decode cL_taught 34 = .ok (.idiv, 1) := by decide +kernel
theorem dL_taught_35 : decode cL_taught 35 = .ok (.aload_n 2, 1) := by decide +kernel
theorem dL_taught_36 : decode cL_taught 36 = .ok (.iload 4, 2) := by decide +kernel
theorem dL_taught_38 : decode cL_taught 38 = .ok (.iconst 4, 1) := by decide +kernel
theorem dL_taught_39 : decode cL_taught 39 = .ok (.idiv, 1) := by decide +kernel
theorem dL_taught_40 : decode cL_taught 40 = .ok (.iaload, 1) := by decide +kernel
theorem dL_taught_41 : decode cL_taught 41 = .ok (.bipush 8, 2) := by decide +kernel
theorem dL_taught_43 : decode cL_taught 43 = .ok (.ishl, 1) := by decide +kernel
theorem dL_taught_44 : decode cL_taught 44 = .ok (.iload_n 3, 1) := by decide +kernel
theorem dL_taught_45 : decode cL_taught 45 = .ok (.iload 4, 2) := by decide +kernel
theorem dL_taught_47 : decode cL_taught 47 = .ok (.iadd, 1) := by decide +kernel
theorem dL_taught_48 : decode cL_taught 48 = .ok (.aload_n 1, 1) := by decide +kernel
theorem dL_taught_49 : decode cL_taught 49 = .ok (.invokevirtual 15, 3) := by decide +kernel
theorem dL_taught_52 : decode cL_taught 52 = .ok (.if_icmp .ge 14, 3) := by decide +kernel
theorem dL_taught_55 : decode cL_taught 55 = .ok (.aload_n 1, 1) := by decide +kernel
theorem dL_taught_56 : decode cL_taught 56 = .ok (.iload_n 3, 1) := by decide +kernel
theorem dL_taught_57 : decode cL_taught 57 = .ok (.iload 4, 2) := by decide +kernel
theorem dL_taught_59 : decode cL_taught 59 = .ok (.iadd, 1) := by decide +kernel
theorem dL_taught_60 : decode cL_taught 60 = .ok (.invokevirtual 21, 3) := by decide +kernel
theorem dL_taught_63 : decode cL_taught 63 = .ok (.goto 5, 3) := by decide +kernel
theorem dL_taught_66 : decode cL_taught 66 = .ok (.bipush 32, 2) := by decide +kernel
theorem dL_taught_68 : decode cL_taught 68 = .ok (.ior, 1) := by decide +kernel
theorem dL_taught_69 : decode cL_taught 69 = .ok (.iastore, 1) := by decide +kernel
theorem dL_taught_70 : decode cL_taught 70 = .ok (.iinc 4 1, 3) := by decide +kernel
theorem dL_taught_73 : decode cL_taught 73 = .ok (.goto (-50), 3) := by decide +kernel
theorem dL_taught_76 : decode cL_taught 76 = .ok (.aload_n 0, 1) := by decide +kernel
theorem dL_taught_77 : decode cL_taught 77 = .ok (.aload_n 2, 1) := by decide +kernel
theorem dL_taught_78 : decode cL_taught 78 = .ok (.iconst 0, 1) := by decide +kernel
theorem dL_taught_79 : decode cL_taught 79 = .ok (.iaload, 1) := by decide +kernel
theorem dL_taught_80 : decode cL_taught 80 = .ok (.aload_n 2, 1) := by decide +kernel
theorem dL_taught_81 : decode cL_taught 81 = .ok (.iconst 1, 1) := by decide +kernel
theorem dL_taught_82 : decode cL_taught 82 = .ok (.iaload, 1) := by decide +kernel
theorem dL_taught_83 : decode cL_taught 83 = .ok (.aload_n 2, 1) := by decide +kernel
theorem dL_taught_84 : decode cL_taught 84 = .ok (.iconst 2, 1) := by decide +kernel
theorem dL_taught_85 : decode cL_taught 85 = .ok (.iaload, 1) := by decide +kernel
theorem dL_taught_86 : decode cL_taught 86 = .ok (.aload_n 2, 1) := by decide +kernel
theorem dL_taught_87 : decode cL_taught 87 = .ok (.iconst 3, 1) := by decide +kernel
theorem dL_taught_88 : decode cL_taught 88 = .ok (.iaload, 1) := by decide +kernel
theorem dL_taught_89 : decode cL_taught 89 = .ok (.aload_n 2, 1) := by decide +kernel
theorem dL_taught_90 : decode cL_taught 90 = .ok (.iconst 4, 1) := by decide +kernel
theorem dL_taught_91 : decode cL_taught 91 = .ok (.iaload, 1) := by decide +kernel
theorem dL_taught_92 : decode cL_taught 92 = .ok (.invokevirtual 25, 3) := by decide +kernel
theorem dL_taught_95 : decode cL_taught 95 = .ok (.pop, 1) := by decide +kernel
theorem dL_taught_96 : decode cL_taught 96 = .ok (.iinc 3 20, 3) := by decide +kernel
theorem dL_taught_99 : decode cL_taught 99 = .ok (.goto (-87), 3) := by decide +kernel
theorem dL_taught_102 : decode cL_taught 102 = .ok (.aload_n 0, 1) := by decide +kernel
theorem dL_taught_103 : decode cL_taught 103 = .ok (.aload_n 1, 1) := by decide +kernel
theorem dL_taught_104 : decode cL_taught 104 = .ok (.invokevirtual 15, 3) := by decide +kernel
theorem dL_taught_107 : decode cL_taught 107 = .ok (.invokevirtual 9, 3) := by decide +kernel
theorem dL_taught_110 : decode cL_taught 110 = .ok (.pop, 1) := by decide +kernel
theorem dL_taught_111 : decode cL_taught 111 = .ok (.aload_n 0, 1) := by decide +kernel
theorem dL_taught_112 : decode cL_taught 112 = .ok (.invokevirtual 29, 3) := by decide +kernel
theorem dL_taught_115 : decode cL_taught 115 = .ok (.ireturn, 1) := by decide +kernel
set_option maxRecDepth 20000 in
theorem ggL_test_J4_init_da8c8 : GoodIn wsL_test wsJ4_init_da8c8 := goodIn_r _ [6, 7, 8, 9, 10, 11, 12, 13, 14, 15, 16, 17, 18, 19, 20, 21, 22, 23, 24, 25, 235, 236, 237, 238] (by decide +kernel) (by decide +kernel)
set_option maxRecDepth 20000 in
theorem gL_test_J4_init_da8c8 : GoodIn wsL_test (wsJ4_init_da8c8) := ggL_test_J4_init_da8c8
set_option maxRecDepth 20000 in
theorem ggL_test_J4_append_15ec4_c1 : GoodIn wsL_test (.code yJ4_append_15ec4 cJ4_append_15ec4 2 (some (.object "java/lang/StringBuilder")) :: wsJ4_append_15ec4_r1) := goodIn_r _ [29, 30, 31, 32, 33, 9, 34, 35, 36, 37, 38, 39, 40, 16, 41, 42, 43, 44, 45, 17, 46, 47, 48, 49, 50] (by decide +kernel) (by decide +kernel)
set_option maxRecDepth 20000 in
theorem ggL_test_J4_append_15ec4_c2 : GoodIn wsL_test wsJ4_append_15ec4_r2 := goodIn_r _ [51, 52, 53, 54, 55, 56, 57, 58, 59, 60, 61, 62, 63, 64, 65, 66, 67, 68, 69, 70, 71, 72, 73, 15] (by decide +kernel) (by decide +kernel)
set_option maxRecDepth 20000 in
theorem ggL_test_J4_append_15ec4_c3 : GoodIn wsL_test wsJ4_append_15ec4_r3 := goodIn_r _ [74, 75, 76, 77, 78, 79, 80, 81, 82, 83, 84, 85, 14, 86, 87, 20, 88, 89, 90, 91, 92, 93, 94, 95] (by decide +kernel) (by decide +kernel)
set_option maxRecDepth 20000 in
theorem ggL_test_J4_append_15ec4_c4 : GoodIn wsL_test wsJ4_append_15ec4_r4 := goodIn_r _ [96, 97, 98, 99, 100, 101, 102, 103, 104, 105, 106, 107, 108, 109, 110, 111, 112, 113, 114, 115, 116, 117, 118, 119] (by decide +kernel) (by decide +kernel)
set_option maxRecDepth 20000 in
theorem ggL_test_J4_append_15ec4_c5 : GoodIn wsL_test wsJ4_append_15ec4_r5 := goodIn_r _ [120, 121, 122, 123, 124, 125, 126, 127, 128, 129, 130, 131, 132, 133, 134, 135, 136, 18, 19, 21, 22, 23, 24, 25] (by decide +kernel) (by decide +kernel)
set_option maxRecDepth 20000 in
theorem ggL_test_J4_append_15ec4_c6 : GoodIn wsL_test wsJ4_append_15ec4_r6 := goodIn_r _ [137, 138, 139, 140, 141, 142, 143, 144, 145, 146, 147, 148, 149, 150, 151, 152, 153, 154, 155, 156, 157, 158] (by decide +kernel) (by decide +kernel)
set_option maxRecDepth 20000 in
theorem ggL_test_J4_append_15ec4_c7 : GoodIn wsL_test wsJ40 := goodIn_r _ [235, 236, 237, 238] (by decide +kernel) (by decide +kernel)
set_option maxRecDepth 20000 in
theorem ggL_test_J4_append_15ec4_c8 : GoodIn wsL_test wsJ00 := goodIn_r _ [239, 240, 241, 242] (by decide +kernel) (by decide +kernel)
set_option maxRecDepth 20000 in
theorem ggL_test_J4_append_15ec4 : GoodIn wsL_test wsJ4_append_15ec4 := (goodIn_ca (goodIn_ca (goodIn_ca ggL_test_J4_append_15ec4_c1 (goodIn_app ggL_test_J4_append_15ec4_c2 (goodIn_app ggL_test_J4_append_15ec4_c3 (goodIn_app ggL_test_J4_append_15ec4_c4 (goodIn_app ggL_test_J4_append_15ec4_c5 ggL_test_J4_append_15ec4_c6))))) ggL_test_J4_append_15ec4_c7) ggL_test_J4_append_15ec4_c8)
set_option maxRecDepth 20000 in
theorem gL_test_J4_append_15ec4 : GoodIn wsL_test (wsV RL 37 RJ4 yJ4_append_15ec4 wsJ4_append_15ec4) := goodIn_app (goodIn_of _ (by decide +kernel)) ggL_test_J4_append_15ec4
set_option maxRecDepth 20000 in
theorem ggL_test_J4_append_bf812_c1 : GoodIn wsL_test (.code yJ4_append_bf812 cJ4_append_bf812 2 (some (.object "java/lang/StringBuilder")) :: wsJ4_append_bf812_r1) := goodIn_r _ [162, 163, 164, 32, 165, 9, 166, 35, 16, 167, 168, 169, 170, 41, 42, 43, 44, 45, 17, 46, 47, 48, 49, 50, 51] (by decide +kernel) (by decide +kernel)
set_option maxRecDepth 20000 in
theorem ggL_test_J4_append_bf812_c2 : GoodIn wsL_test wsJ4_append_bf812_r2 := goodIn_r _ [52, 53, 54, 55, 56, 57, 58, 59, 60, 61, 62, 63, 64, 65, 66, 67, 68, 69, 70, 71, 72, 73, 15, 74] (by decide +kernel) (by decide +kernel)
set_option maxRecDepth 20000 in
theorem ggL_test_J4_append_bf812_c3 : GoodIn wsL_test wsJ4_append_bf812_r3 := goodIn_r _ [75, 76, 77, 78, 79, 80, 81, 82, 83, 84, 85, 14, 171, 172, 173, 174, 175, 176, 177, 20, 178, 89, 90, 91] (by decide +kernel) (by decide +kernel)
set_option maxRecDepth 20000 in
theorem ggL_test_J4_append_bf812_c4 : GoodIn wsL_test wsJ4_append_bf812_r4 := goodIn_r _ [92, 93, 94, 95, 96, 97, 98, 99, 100, 101, 102, 103, 104, 179, 180, 181, 182, 183, 105, 106, 107, 108, 109] (by decide +kernel) (by decide +kernel)
set_option maxRecDepth 20000 in
theorem ggL_test_J4_append_bf812_c5 : GoodIn wsL_test wsJ40 := goodIn_r _ [235, 236, 237, 238] (by decide +kernel) (by decide +kernel)
set_option maxRecDepth 20000 in
theorem ggL_test_J4_append_bf812 : GoodIn wsL_test wsJ4_append_bf812 := (goodIn_ca (goodIn_ca ggL_test_J4_append_bf812_c1 (goodIn_app ggL_test_J4_append_bf812_c2 (goodIn_app ggL_test_J4_append_bf812_c3 ggL_test_J4_append_bf812_c4))) ggL_test_J4_append_bf812_c5)
set_option maxRecDepth 20000 in
theorem gL_test_J4_append_bf812 : GoodIn wsL_test (wsV RL 41 RJ4 yJ4_append_bf812 wsJ4_append_bf812) := goodIn_app (goodIn_of _ (by decide +kernel)) ggL_test_J4_append_bf812
set_option maxRecDepth 20000 in
theorem ggL_test_J4_toString_0e30d_c1 : GoodIn wsL_test (.code yJ4_toString_0e30d cJ4_toString_0e30d 1 (some (.object "java/lang/String")) :: wsJ4_toString_0e30d_r1) := goodIn_r _ [187, 188, 189, 98, 190, 191, 192, 193, 194, 195, 196, 12, 13, 120, 114, 119, 197, 198, 199, 200, 201, 9, 202, 16, 203] (by decide +kernel) (by decide +kernel)
set_option maxRecDepth 20000 in
theorem ggL_test_J4_toString_0e30d_c2 : GoodIn wsL_test wsJ4_toString_0e30d_r2 := goodIn_r _ [204, 205, 206, 207, 3, 208, 209, 32, 210, 211, 35, 212, 82, 83, 84, 85, 14, 17, 213, 214, 66, 215, 68, 69] (by decide +kernel) (by decide +kernel)
set_option maxRecDepth 20000 in
theorem ggL_test_J4_toString_0e30d_c3 : GoodIn wsL_test wsJ4_toString_0e30d_r3 := goodIn_r _ [70, 71, 72, 73, 216, 217, 218, 15, 74, 75, 58, 76, 77, 78, 79, 80, 219, 220, 221, 222, 223, 20, 224, 225] (by decide +kernel) (by decide +kernel)
set_option maxRecDepth 20000 in
theorem ggL_test_J4_toString_0e30d_c4 : GoodIn wsL_test wsJ4_toString_0e30d_r4 := goodIn_r _ [226, 227, 144, 145, 146, 93, 94, 95, 147, 148, 149, 100, 150, 151, 103, 152, 228, 229, 230, 89, 108, 109, 22, 23] (by decide +kernel) (by decide +kernel)
set_option maxRecDepth 20000 in
theorem ggL_test_J4_toString_0e30d_c5 : GoodIn wsL_test wsJ4_toString_0e30d_r5 := goodIn_r _ [24, 25, 231, 232, 233, 234] (by decide +kernel) (by decide +kernel)
set_option maxRecDepth 20000 in
theorem ggL_test_J4_toString_0e30d_c6 : GoodIn wsL_test wsJ00 := goodIn_r _ [239, 240, 241, 242] (by decide +kernel) (by decide +kernel)
set_option maxRecDepth 20000 in
theorem ggL_test_J4_toString_0e30d_c7 : GoodIn wsL_test wsJ40 := goodIn_r _ [235, 236, 237, 238] (by decide +kernel) (by decide +kernel)
set_option maxRecDepth 20000 in
theorem ggL_test_J4_toString_0e30d : GoodIn wsL_test wsJ4_toString_0e30d := (goodIn_ca (goodIn_ca (goodIn_ca ggL_test_J4_toString_0e30d_c1 (goodIn_app ggL_test_J4_toString_0e30d_c2 (goodIn_app ggL_test_J4_toString_0e30d_c3 (goodIn_app ggL_test_J4_toString_0e30d_c4 ggL_test_J4_toString_0e30d_c5)))) ggL_test_J4_toString_0e30d_c6) ggL_test_J4_toString_0e30d_c7)
set_option maxRecDepth 20000 in
theorem gL_test_J4_toString_0e30d : GoodIn wsL_test (wsV RL 44 RJ4 yJ4_toString_0e30d wsJ4_toString_0e30d) := goodIn_app (goodIn_of _ (by decide +kernel)) ggL_test_J4_toString_0e30d
theorem dL_test_0 : decode cL_test 0 = .ok (.aload_n 0, 1) := by decide +kernel
theorem dL_test_1 : decode cL_test 1 = .ok (.iconst 3, 1) := by decide +kernel
theorem dL_test_2 : decode cL_test 2 = .ok (.iaload, 1) := by decide +kernel
theorem dL_test_3 : decode cL_test 3 = .ok (.tableswitch 172 0 3 #[29, 51, 95, 139], 29) := by decide +kernel
theorem dL_test_32 : decode cL_test 32 = .ok (.new 32, 3) := by decide +kernel
theorem dL_test_35 : decode cL_test 35 = .ok (.dup, 1) := by decide +kernel
theorem dL_test_36 : decode cL_test 36 = .ok (.invokespecial 34, 3) := by decide +kernel
theorem dL_test_39 : decode cL_test 39 = .ok (.ldc 35, 2) := by decide +kernel
theorem dL_test_41 : decode cL_test 41 = .ok (.invokevirtual 37, 3) := by decide +kernel
theorem dL_test_44 : decode cL_test 44 = .ok (.aload_n 0, 1) := by decide +kernel
theorem dL_test_45 : decode cL_test 45 = .ok (.iconst 4, 1) := by decide +kernel
theorem dL_test_46 : decode cL_test 46 = .ok (.iaload, 1) := by decide +kernel
theorem dL_test_47 : decode cL_test 47 = .ok (.invokevirtual 41, 3) := by decide +kernel
theorem dL_test_50 : decode cL_test 50 = .ok (.invokevirtual 44, 3) := by decide +kernel
theorem dL_test_53 : decode cL_test 53 = .ok (.areturn, 1) := by decide +kernel
theorem dL_test_54 : decode cL_test 54 = .ok (.new 32, 3) := by decide +kernel
theorem dL_test_57 : decode cL_test 57 = .ok (.dup, 1) := by decide +kernel
theorem dL_test_58 : decode cL_test 58 = .ok (.invokespecial 34, 3) := by decide +kernel
theorem dL_test_61 : decode cL_test 61 = .ok (.ldc 48, 2) := by decide +kernel
theorem dL_test_63 : decode cL_test 63 = .ok (.invokevirtual 37, 3) := by decide +kernel
theorem dL_test_66 : decode cL_test 66 = .ok (.aload_n 0, 1) := by decide +kernel
theorem dL_test_67 : decode cL_test 67 = .ok (.iconst 4, 1) := by decide +kernel
theorem dL_test_68 : decode cL_test 68 = .ok (.iaload, 1) := by decide +kernel
theorem dL_test_69 : decode cL_test 69 = .ok (.invokevirtual 41, 3) := by decide +kernel
theorem dL_test_72 : decode cL_test 72 = .ok (.ldc 50, 2) := by decide +kernel
theorem dL_test_74 : decode cL_test 74 = .ok (.invokevirtual 37, 3) := by decide +kernel
theorem dL_test_77 : decode cL_test 77 = .ok (.aload_n 0, 1) := by decide +kernel
theorem dL_test_78 : decode cL_test 78 = .ok (.iconst 4, 1) := by decide +kernel
theorem dL_test_79 : decode cL_test 79 = .ok (.iaload, 1) := by decide +kernel
theorem dL_test_80 : decode cL_test 80 = .ok (.invokevirtual 41, 3) := by decide +kernel
theorem dL_test_83 : decode cL_test 83 = .ok (.ldc 52, 2) := by decide +kernel
theorem dL_test_85 : decode cL_test 85 = .ok (.invokevirtual 37, 3) := by decide +kernel
theorem dL_test_88 : decode cL_test 88 = .ok (.aload_n 0, 1) := by decide +kernel
theorem dL_test_89 : decode cL_test 89 = .ok (.iconst 5, 1) := by decide +kernel
theorem dL_test_90 : decode cL_test 90 = .ok (.iaload, 1) := by decide +kernel
theorem dL_test_91 : decode cL_test 91 = .ok (.invokevirtual 41, 3) := by decide +kernel
theorem dL_test_94 : decode cL_test 94 = .ok (.invokevirtual 44, 3) := by decide +kernel
theorem dL_test_97 : decode cL_test 97 = .ok (.areturn, 1) := by decide +kernel
theorem dL_test_98 : decode cL_test 98 = .ok (.new 32, 3) := by decide +kernel
theorem dL_test_101 : decode cL_test 101 = .ok (.dup, 1) := by decide +kernel
theorem dL_test_102 : decode cL_test 102 = .ok (.invokespecial 34, 3) := by decide +kernel
theorem dL_test_105 : decode cL_test 105 = .ok (.ldc 54, 2) := by decide +kernel
theorem dL_test_107 : decode cL_test 107 = .ok (.invokevirtual 37, 3) := by decide +kernel
theorem dL_test_110 : decode cL_test 110 = .ok (.aload_n 0, 1) := by decide +kernel
theorem dL_test_111 : decode cL_test 111 = .ok (.iconst 4, 1) := by decide +kernel
theorem dL_test_112 : decode cL_test 112 = .ok (.iaload, 1) := by decide +kernel
theorem dL_test_113 : decode cL_test 113 = .ok (.invokevirtual 41, 3) := by decide +kernel
theorem dL_test_116 : decode cL_test 116 = .ok (.ldc 56, 2) := by decide +kernel
theorem dL_test_118 : decode cL_test 118 = .ok (.invokevirtual 37, 3) := by decide +kernel
theorem dL_test_121 : decode cL_test 121 = .ok (.aload_n 0, 1) := by decide +kernel
theorem dL_test_122 : decode cL_test 122 = .ok (.iconst 5, 1) := by decide +kernel
theorem dL_test_123 : decode cL_test 123 = .ok (.iaload, 1) := by decide +kernel
theorem dL_test_124 : decode cL_test 124 = .ok (.invokevirtual 41, 3) := by decide +kernel
theorem dL_test_127 : decode cL_test 127 = .ok (.ldc 58, 2) := by decide +kernel
theorem dL_test_129 : decode cL_test 129 = .ok (.invokevirtual 37, 3) := by decide +kernel
theorem dL_test_132 : decode cL_test 132 = .ok (.aload_n 0, 1) := by decide +kernel
theorem dL_test_133 : decode cL_test 133 = .ok (.iconst 4, 1) := by decide +kernel
theorem dL_test_134 : decode cL_test 134 = .ok (.iaload, 1) := by decide +kernel
theorem dL_test_135 : decode cL_test 135 = .ok (.invokevirtual 41, 3) := by decide +kernel
theorem dL_test_138 : decode cL_test 138 = .ok (.invokevirtual 44, 3) := by decide +kernel
theorem dL_test_141 : decode cL_test 141 = .ok (.areturn, 1) := by decide +kernel
theorem dL_test_142 : decode cL_test 142 = .ok (.new 32, 3) := by decide +kernel
theorem dL_test_145 : decode cL_test 145 = .ok (.dup, 1) := by decide +kernel
theorem dL_test_146 : decode cL_test 146 = .ok (.invokespecial 34, 3) := by decide +kernel
theorem dL_test_149 : decode cL_test 149 = .ok (.ldc 60, 2) := by decide +kernel
theorem dL_test_151 : decode cL_test 151 = .ok (.invokevirtual 37, 3) := by decide +kernel
theorem dL_test_154 : decode cL_test 154 = .ok (.aload_n 0, 1) := by decide +kernel
theorem dL_test_155 : decode cL_test 155 = .ok (.iconst 4, 1) := by decide +kernel
theorem dL_test_156 : decode cL_test 156 = .ok (.iaload, 1) := by decide +kernel
theorem dL_test_157 : decode cL_test 157 = .ok (.invokevirtual 41, 3) := by decide +kernel
theorem dL_test_160 : decode cL_test 160 = .ok (.ldc 62, 2) := by decide +kernel
theorem dL_test_162 : decode cL_test 162 = .ok (.invokevirtual 37, 3) := by decide +kernel
theorem dL_test_165 : decode cL_test 165 = .ok (.aload_n 0, 1) := by decide +kernel
theorem dL_test_166 : decode cL_test 166 = .ok (.iconst 4, 1) := by decide +kernel
theorem dL_test_167 : decode cL_test 167 = .ok (.iaload, 1) := by decide +kernel
theorem dL_test_168 : decode cL_test 168 = .ok (.invokevirtual 41, 3) := by decide +kernel
theorem dL_test_171 : decode cL_test 171 = .ok (.invokevirtual 44, 3) := by decide +kernel
theorem dL_test_174 : decode cL_test 174 = .ok (.areturn, 1) := by decide +kernel
theorem dL_test_175 : decode cL_test 175 = .ok (.new 32, 3) := by decide +kernel
theorem dL_test_178 : decode cL_test 178 = .ok (.dup, 1) := by decide +kernel
theorem dL_test_179 : decode cL_test 179 = .ok (.invokespecial 34, 3) := by decide +kernel
theorem dL_test_182 : decode cL_test 182 = .ok (.ldc 64, 2) := by decide +kernel
theorem dL_test_184 : decode cL_test 184 = .ok (.invokevirtual 37, 3) := by decide +kernel
theorem dL_test_187 : decode cL_test 187 = .ok (.aload_n 0, 1) := by decide +kernel
theorem dL_test_188 : decode cL_test 188 = .ok (.iconst 4, 1) := by decide +kernel
theorem dL_test_189 : decode cL_test 189 = .ok (.iaload, 1) := by decide +kernel
theorem dL_test_190 : decode cL_test 190 = .ok (.invokevirtual 41, 3) := by decide +kernel
theorem dL_test_193 : decode cL_test 193 = .ok (.ldc 66, 2) := by decide +kernel
theorem dL_test_195 : decode cL_test 195 = .ok (.invokevirtual 37, 3) := by decide +kernel
theorem dL_test_198 : decode cL_test 198 = .ok (.aload_n 0, 1) := by decide +kernel
theorem dL_test_199 : decode cL_test 199 = .ok (.iconst 5, 1) := by decide +kernel
theorem dL_test_200 : decode cL_test 200 = .ok (.iaload, 1) := by decide +kernel
theorem dL_test_201 : decode cL_test 201 = .ok (.invokevirtual 41, 3) := by decide +kernel
theorem dL_test_204 : decode cL_test 204 = .ok (.ldc 68, 2) := by decide +kernel
theorem dL_test_206 : decode cL_test 206 = .ok (.invokevirtual 37, 3) := by decide +kernel
theorem dL_test_209 : decode cL_test 209 = .ok (.invokevirtual 44, 3) := by decide +kernel
theorem dL_test_212 : decode cL_test 212 = .ok (.areturn, 1) := by decide +kernel
set_option maxRecDepth 20000 in
theorem ggL_list_X10_init : GoodIn wsL_list wsX10_init := goodIn_r _ [20, 21, 22, 23, 24, 25, 26, 4, 27, 28, 29, 30, 272, 273, 274, 275, 276, 277, 278, 279, 280] (by decide +kernel) (by decide +kernel)
set_option maxRecDepth 20000 in
theorem gL_list_X10_init_n72 : GoodIn wsL_list (wsX10_init) := ggL_list_X10_init
set_option maxRecDepth 20000 in
theorem ggL_list_L_cell : GoodIn wsL_list wsL_cell := goodIn_r _ [34, 35] (by decide +kernel) (by decide +kernel)
set_option maxRecDepth 20000 in
theorem gL_list_L_cell : GoodIn wsL_list (va_wsS RL 73 yL_cell wsL_cell) := goodIn_app (goodIn_of _ (by decide +kernel)) ggL_list_L_cell
set_option maxRecDepth 20000 in
theorem ggL_list_L_below : GoodIn wsL_list wsL_below := goodIn_r _ [38, 39] (by decide +kernel) (by decide +kernel)
set_option maxRecDepth 20000 in
theorem gL_list_L_below : GoodIn wsL_list (va_wsS RL 79 yL_below wsL_below) := goodIn_app (goodIn_of _ (by decide +kernel)) ggL_list_L_below
set_option maxRecDepth 20000 in
theorem ggL_list_J4_append_15ec4_c1 : GoodIn wsL_list (.code yJ4_append_15ec4 cJ4_append_15ec4 2 (some (.object "java/lang/StringBuilder")) :: wsJ4_append_15ec4_r1) := goodIn_r _ [43, 44, 45, 46, 47, 48, 49, 50, 51, 52, 53, 54, 55, 56, 57, 58, 59, 60, 61, 62, 63, 64, 65, 66, 67] (by decide +kernel) (by decide +kernel)
set_option maxRecDepth 20000 in
theorem ggL_list_J4_append_15ec4_c2 : GoodIn wsL_list wsJ4_append_15ec4_r2 := goodIn_r _ [68, 69, 70, 71, 72, 73, 74, 13, 75, 76, 77, 78, 79, 80, 81, 82, 83, 84, 85, 86, 87, 88, 89, 90] (by decide +kernel) (by decide +kernel)
set_option maxRecDepth 20000 in
theorem ggL_list_J4_append_15ec4_c3 : GoodIn wsL_list wsJ4_append_15ec4_r3 := goodIn_r _ [91, 12, 14, 92, 93, 94, 95, 96, 97, 98, 99, 100, 101, 102, 103, 104, 105, 106, 107, 108, 109, 110, 111, 112] (by decide +kernel) (by decide +kernel)
set_option maxRecDepth 20000 in
theorem ggL_list_J4_append_15ec4_c4 : GoodIn wsL_list wsJ4_append_15ec4_r4 := goodIn_r _ [113, 114, 115, 116, 117, 118, 119, 120, 121, 122, 123, 124, 125, 126, 127, 128, 129, 130, 131, 132, 133, 134, 135, 136] (by decide +kernel) (by decide +kernel)
set_option maxRecDepth 20000 in
theorem ggL_list_J4_append_15ec4_c5 : GoodIn wsL_list wsJ4_append_15ec4_r5 := goodIn_r _ [137, 138, 139, 140, 141, 142, 143, 144, 145, 146, 147, 148, 149, 150, 151, 152, 153, 154, 155, 156, 157, 158, 159, 160] (by decide +kernel) (by decide +kernel)
set_option maxRecDepth 20000 in
theorem ggL_list_J4_append_15ec4_c6 : GoodIn wsL_list wsJ4_append_15ec4_r6 := goodIn_r _ [161, 162, 163, 164, 165, 166, 167, 168, 169, 170, 171, 172, 173, 174, 175, 176, 177, 178, 179, 180, 181, 182] (by decide +kernel) (by decide +kernel)
set_option maxRecDepth 20000 in
theorem ggL_list_J4_append_15ec4_c7 : GoodIn wsL_list wsJ40 := goodIn_r _ [281, 282, 283, 284] (by decide +kernel) (by decide +kernel)
set_option maxRecDepth 20000 in
theorem ggL_list_J4_append_15ec4_c8 : GoodIn wsL_list wsJ00 := goodIn_r _ [285, 286, 287, 288] (by decide +kernel) (by decide +kernel)
set_option maxRecDepth 20000 in
theorem ggL_list_J4_append_15ec4 : GoodIn wsL_list wsJ4_append_15ec4 := (goodIn_ca (goodIn_ca (goodIn_ca ggL_list_J4_append_15ec4_c1 (goodIn_app ggL_list_J4_append_15ec4_c2 (goodIn_app ggL_list_J4_append_15ec4_c3 (goodIn_app ggL_list_J4_append_15ec4_c4 (goodIn_app ggL_list_J4_append_15ec4_c5 ggL_list_J4_append_15ec4_c6))))) ggL_list_J4_append_15ec4_c7) ggL_list_J4_append_15ec4_c8)
set_option maxRecDepth 20000 in
theorem gL_list_J4_append_15ec4 : GoodIn wsL_list (wsV RL 37 RJ4 yJ4_append_15ec4 wsJ4_append_15ec4) := goodIn_app (goodIn_of _ (by decide +kernel)) ggL_list_J4_append_15ec4
set_option maxRecDepth 20000 in
theorem ggL_list_J4_append_bf812_c1 : GoodIn wsL_list (.code yJ4_append_bf812 cJ4_append_bf812 2 (some (.object "java/lang/StringBuilder")) :: wsJ4_append_bf812_r1) := goodIn_r _ [186, 187, 188, 46, 189, 48, 190, 50, 56, 191, 192, 193, 194, 57, 58, 59, 60, 61, 62, 63, 64, 65, 66, 67, 68] (by decide +kernel) (by decide +kernel)
set_option maxRecDepth 20000 in
theorem ggL_list_J4_append_bf812_c2 : GoodIn wsL_list wsJ4_append_bf812_r2 := goodIn_r _ [69, 70, 71, 72, 73, 74, 13, 75, 76, 77, 78, 79, 80, 81, 82, 83, 84, 85, 86, 87, 88, 89, 90, 91] (by decide +kernel) (by decide +kernel)
set_option maxRecDepth 20000 in
theorem ggL_list_J4_append_bf812_c3 : GoodIn wsL_list wsJ4_append_bf812_r3 := goodIn_r _ [12, 14, 92, 93, 94, 95, 96, 97, 98, 99, 100, 101, 195, 196, 197, 198, 199, 200, 201, 104, 202, 106, 107, 108] (by decide +kernel) (by decide +kernel)
set_option maxRecDepth 20000 in
theorem ggL_list_J4_append_bf812_c4 : GoodIn wsL_list wsJ4_append_bf812_r4 := goodIn_r _ [109, 110, 111, 112, 113, 114, 115, 116, 117, 118, 119, 120, 121, 203, 204, 205, 206, 207, 122, 123, 124, 125, 126] (by decide +kernel) (by decide +kernel)
set_option maxRecDepth 20000 in
theorem ggL_list_J4_append_bf812_c5 : GoodIn wsL_list wsJ40 := goodIn_r _ [281, 282, 283, 284] (by decide +kernel) (by decide +kernel)
set_option maxRecDepth 20000 in
theorem ggL_list_J4_append_bf812 : GoodIn wsL_list wsJ4_append_bf812 := (goodIn_ca (goodIn_ca ggL_list_J4_append_bf812_c1 (goodIn_app ggL_list_J4_append_bf812_c2 (goodIn_app ggL_list_J4_append_bf812_c3 ggL_list_J4_append_bf812_c4))) ggL_list_J4_append_bf812_c5)
set_option maxRecDepth 20000 in
theorem gL_list_J4_append_bf812 : GoodIn wsL_list (wsV RL 41 RJ4 yJ4_append_bf812 wsJ4_append_bf812) := goodIn_app (goodIn_of _ (by decide +kernel)) ggL_list_J4_append_bf812
set_option maxRecDepth 20000 in
theorem ggL_list_X10_with : GoodIn wsL_list wsX10_with := goodIn_r _ [210, 24] (by decide +kernel) (by decide +kernel)
set_option maxRecDepth 20000 in
theorem gL_list_X10_with : GoodIn wsL_list (va_wsS RL 97 yX10_with wsX10_with) := goodIn_app (goodIn_of _ (by decide +kernel)) ggL_list_X10_with
set_option maxRecDepth 20000 in
theorem ggL_list_J4_init_da8c8 : GoodIn wsL_list wsJ4_init_da8c8 := goodIn_r _ [213, 214, 215, 48, 216, 217, 22, 23, 101, 90, 56, 62, 154, 155, 104, 156, 157, 158, 159, 160, 281, 282, 283, 284] (by decide +kernel) (by decide +kernel)
set_option maxRecDepth 20000 in
theorem gL_list_J4_init_da8c8 : GoodIn wsL_list (wsJ4_init_da8c8) := ggL_list_J4_init_da8c8
set_option maxRecDepth 20000 in
theorem ggL_list_J4_toString_0e30d_c1 : GoodIn wsL_list (.code yJ4_toString_0e30d cJ4_toString_0e30d 1 (some (.object "java/lang/String")) :: wsJ4_toString_0e30d_r1) := goodIn_r _ [221, 222, 223, 115, 224, 225, 226, 227, 228, 229, 230, 22, 23, 137, 131, 136, 231, 232, 233, 234, 235, 48, 236, 56, 237] (by decide +kernel) (by decide +kernel)
set_option maxRecDepth 20000 in
theorem ggL_list_J4_toString_0e30d_c2 : GoodIn wsL_list wsJ4_toString_0e30d_r2 := goodIn_r _ [238, 239, 240, 241, 17, 242, 243, 46, 244, 245, 50, 246, 97, 98, 99, 100, 101, 62, 247, 248, 82, 249, 84, 85] (by decide +kernel) (by decide +kernel)
set_option maxRecDepth 20000 in
theorem ggL_list_J4_toString_0e30d_c3 : GoodIn wsL_list wsJ4_toString_0e30d_r3 := goodIn_r _ [86, 87, 88, 89, 250, 251, 252, 90, 91, 12, 13, 14, 92, 93, 94, 95, 253, 254, 255, 256, 257, 104, 258, 259] (by decide +kernel) (by decide +kernel)
set_option maxRecDepth 20000 in
theorem ggL_list_J4_toString_0e30d_c4 : GoodIn wsL_list wsJ4_toString_0e30d_r4 := goodIn_r _ [260, 261, 168, 169, 170, 110, 111, 112, 171, 172, 173, 117, 174, 175, 120, 176, 262, 263, 264, 106, 125, 126, 157, 158] (by decide +kernel) (by decide +kernel)
set_option maxRecDepth 20000 in
theorem ggL_list_J4_toString_0e30d_c5 : GoodIn wsL_list wsJ4_toString_0e30d_r5 := goodIn_r _ [159, 160, 265, 266, 267, 268] (by decide +kernel) (by decide +kernel)
set_option maxRecDepth 20000 in
theorem ggL_list_J4_toString_0e30d_c6 : GoodIn wsL_list wsJ00 := goodIn_r _ [285, 286, 287, 288] (by decide +kernel) (by decide +kernel)
set_option maxRecDepth 20000 in
theorem ggL_list_J4_toString_0e30d_c7 : GoodIn wsL_list wsJ40 := goodIn_r _ [281, 282, 283, 284] (by decide +kernel) (by decide +kernel)
set_option maxRecDepth 20000 in
theorem ggL_list_J4_toString_0e30d : GoodIn wsL_list wsJ4_toString_0e30d := (goodIn_ca (goodIn_ca (goodIn_ca ggL_list_J4_toString_0e30d_c1 (goodIn_app ggL_list_J4_toString_0e30d_c2 (goodIn_app ggL_list_J4_toString_0e30d_c3 (goodIn_app ggL_list_J4_toString_0e30d_c4 ggL_list_J4_toString_0e30d_c5)))) ggL_list_J4_toString_0e30d_c6) ggL_list_J4_toString_0e30d_c7)
set_option maxRecDepth 20000 in
theorem gL_list_J4_toString_0e30d : GoodIn wsL_list (wsV RL 44 RJ4 yJ4_toString_0e30d wsJ4_toString_0e30d) := goodIn_app (goodIn_of _ (by decide +kernel)) ggL_list_J4_toString_0e30d
set_option maxRecDepth 20000 in
theorem ggL_list_L_test_c1 : GoodIn wsL_list (.code yL_test cL_test 1 (some (.object "java/lang/String")) :: wsL_test_r1) := goodIn_r _ [271, 15, 16, 17, 211, 212, 213, 214, 215, 48, 216, 217, 22, 23, 101, 90, 56, 62, 154, 155, 104, 156, 157, 158, 159] (by decide +kernel) (by decide +kernel)
set_option maxRecDepth 20000 in
theorem ggL_list_L_test_c2 : GoodIn wsL_list wsL_test_r2 := goodIn_r _ [160, 40, 41, 42, 43, 44, 45, 46, 47, 49, 50, 51, 52, 53, 54, 55, 57, 58, 59, 60, 61, 63, 64, 65] (by decide +kernel) (by decide +kernel)
set_option maxRecDepth 20000 in
theorem ggL_list_L_test_c3 : GoodIn wsL_list wsL_test_r3 := goodIn_r _ [66, 67, 68, 69, 70, 71, 72, 73, 74, 13, 75, 76, 77, 78, 79, 80, 81, 82, 83, 84, 85, 86, 87, 88] (by decide +kernel) (by decide +kernel)
set_option maxRecDepth 20000 in
theorem ggL_list_L_test_c4 : GoodIn wsL_list wsL_test_r4 := goodIn_r _ [89, 91, 12, 14, 92, 93, 94, 95, 96, 97, 98, 99, 100, 102, 103, 105, 106, 107, 108, 109, 110, 111, 112, 113] (by decide +kernel) (by decide +kernel)
set_option maxRecDepth 20000 in
theorem ggL_list_L_test_c5 : GoodIn wsL_list wsL_test_r5 := goodIn_r _ [114, 115, 116, 117, 118, 119, 120, 121, 122, 123, 124, 125, 126, 127, 128, 129, 130, 131, 132, 133, 134, 135, 136, 137] (by decide +kernel) (by decide +kernel)
set_option maxRecDepth 20000 in
theorem ggL_list_L_test_c6 : GoodIn wsL_list wsL_test_r6 := goodIn_r _ [138, 139, 140, 141, 142, 143, 144, 145, 146, 147, 148, 149, 150, 151, 152, 153, 161, 162, 163, 164, 165, 166, 167, 168] (by decide +kernel) (by decide +kernel)
set_option maxRecDepth 20000 in
theorem ggL_list_L_test_c7 : GoodIn wsL_list wsL_test_r7 := goodIn_r _ [169, 170, 171, 172, 173, 174, 175, 176, 177, 178, 179, 180, 181, 182, 183, 184, 185, 186, 187, 188, 189, 190, 191, 192] (by decide +kernel) (by decide +kernel)
set_option maxRecDepth 20000 in
theorem ggL_list_L_test_c8 : GoodIn wsL_list wsL_test_r8 := goodIn_r _ [193, 194, 195, 196, 197, 198, 199, 200, 201, 202, 203, 204, 205, 206, 207, 218, 219, 220, 221, 222, 223, 224, 225, 226] (by decide +kernel) (by decide +kernel)
set_option maxRecDepth 20000 in
theorem ggL_list_L_test_c9 : GoodIn wsL_list wsL_test_r9 := goodIn_r _ [227, 228, 229, 230, 231, 232, 233, 234, 235, 236, 237, 238, 239, 240, 241, 242, 243, 244, 245, 246, 247, 248, 249, 250] (by decide +kernel) (by decide +kernel)
set_option maxRecDepth 20000 in
theorem ggL_list_L_test_c10 : GoodIn wsL_list wsL_test_r10 := goodIn_r _ [251, 252, 253, 254, 255, 256, 257, 258, 259, 260, 261, 262, 263, 264, 265, 266, 267, 268] (by decide +kernel) (by decide +kernel)
set_option maxRecDepth 20000 in
theorem ggL_list_L_test_c11 : GoodIn wsL_list wsJ40 := goodIn_r _ [281, 282, 283, 284] (by decide +kernel) (by decide +kernel)
set_option maxRecDepth 20000 in
theorem ggL_list_L_test_c12 : GoodIn wsL_list wsJ00 := goodIn_r _ [285, 286, 287, 288] (by decide +kernel) (by decide +kernel)
set_option maxRecDepth 20000 in
theorem ggL_list_L_test : GoodIn wsL_list wsL_test := (goodIn_ca (goodIn_ca (goodIn_ca ggL_list_L_test_c1 (goodIn_app ggL_list_L_test_c2 (goodIn_app ggL_list_L_test_c3 (goodIn_app ggL_list_L_test_c4 (goodIn_app ggL_list_L_test_c5 (goodIn_app ggL_list_L_test_c6 (goodIn_app ggL_list_L_test_c7 (goodIn_app ggL_list_L_test_c8 (goodIn_app ggL_list_L_test_c9 ggL_list_L_test_c10))))))))) ggL_list_L_test_c11) ggL_list_L_test_c12)
set_option maxRecDepth 20000 in
theorem gL_list_L_test : GoodIn wsL_list (va_wsS RL 142 yL_test wsL_test) := goodIn_app (goodIn_of _ (by decide +kernel)) ggL_list_L_test
theorem dL_list_0 : decode cL_list 0 = .ok (.new 70, 3) := by decide +kernel
theorem dL_list_3 : decode cL_list 3 = .ok (.dup, 1) := by decide +kernel
theorem dL_list_4 : decode cL_list 4 = .ok (.invokespecial 72, 3) := by decide +kernel
theorem dL_list_7 : decode cL_list 7 = .ok (.astore_n 2, 1) := by decide +kernel
theorem dL_list_8 : decode cL_list 8 = .ok (.iconst 1, 1) := by decide +kernel
theorem dL_list_9 : decode cL_list 9 = .ok (.aload_n 0, 1) := by decide +kernel
theorem dL_list_10 : decode cL_list 10 = .ok (.iconst 0, 1) := by decide +kernel
theorem dL_list_11 : decode cL_list 11 = .ok (.invokestatic 73, 3) := by decide +kernel
theorem dL_list_14 : decode cL_list 14 = .ok (.iconst 3, 1) := by decide +kernel
theorem dL_list_15 : decode cL_list 15 = .ok (.invokestatic 79, 3) := by decide +kernel
theorem dL_list_18 : decode cL_list 18 = .ok (.iadd, 1) := by decide +kernel
theorem dL_list_19 : decode cL_list 19 = .ok (.istore_n 3, 1) := by decide +kernel
theorem dL_list_20 : decode cL_list 20 = .ok (.iconst 0, 1) := by decide +kernel
theorem dL_list_21 : decode cL_list 21 = .ok (.istore 4, 2) := by decide +kernel
theorem dL_list_23 : decode cL_list 23 = .ok (.iload 4, 2) := by decide +kernel
theorem dL_list_25 : decode cL_list 25 = .ok (.iload_n 3, 1) := by decide +kernel
theorem dL_list_26 : decode cL_list 26 = .ok (.if_icmp .ge 117, 3) := by decide +kernel
theorem dL_list_29 : decode cL_list 29 = .ok (.aload_n 0, 1) := by decide +kernel
theorem dL_list_30 : decode cL_list 30 = .ok (.iconst 1, 1) := by decide +kernel
theorem dL_list_31 : decode cL_list 31 = .ok (.iload 4, 2) := by decide +kernel
theorem dL_list_33 : decode cL_list 33 = .ok (.iadd, 1) := by decide +kernel
theorem dL_list_34 : decode cL_list 34 = .ok (.invokestatic 73, 3) := by decide +kernel
theorem dL_list_37 : decode cL_list 37 = .ok (.istore 5, 2) := by decide +kernel
theorem dL_list_39 : decode cL_list 39 = .ok (.iconst 2, 1) := by decide +kernel
theorem dL_list_40 : decode cL_list 40 = .ok (.iload 5, 2) := by decide +kernel
theorem dL_list_42 : decode cL_list 42 = .ok (.iconst 5, 1) := by decide +kernel
theorem dL_list_43 : decode cL_list 43 = .ok (.invokestatic 79, 3) := by decide +kernel
theorem dL_list_46 : decode cL_list 46 = .ok (.iadd, 1) := by decide +kernel
theorem dL_list_47 : decode cL_list 47 = .ok (.newarray .int, 2) := by decide +kernel
theorem dL_list_49 : decode cL_list 49 = .ok (.astore 6, 2) := by decide +kernel
theorem dL_list_51 : decode cL_list 51 = .ok (.aload_n 1, 1) := by decide +kernel
theorem dL_list_52 : decode cL_list 52 = .ok (.ldc 83, 2) := by decide +kernel
theorem dL_list_54 : decode cL_list 54 = .ok (.invokevirtual 37, 3) := by decide +kernel
theorem dL_list_57 : decode cL_list 57 = .ok (.iload 4, 2) := by decide +kernel
theorem dL_list_59 : decode cL_list 59 = .ok (.invokevirtual 41, 3) := by decide +kernel
theorem dL_list_62 : decode cL_list 62 = .ok (.pop, 1) := by decide +kernel
theorem dL_list_63 : decode cL_list 63 = .ok (.iconst 0, 1) := by decide +kernel
theorem dL_list_64 : decode cL_list 64 = .ok (.istore 7, 2) := by decide +kernel
theorem dL_list_66 : decode cL_list 66 = .ok (.iload 7, 2) := by decide +kernel
theorem dL_list_68 : decode cL_list 68 = .ok (.aload 6, 2) := by decide +kernel
theorem dL_list_70 : decode cL_list 70 = .ok (.arraylength, 1) := by decide +kernel
theorem dL_list_71 : decode cL_list 71 = .ok (.if_icmp .ge 46, 3) := by decide +kernel
theorem dL_list_74 : decode cL_list 74 = .ok (.aload 6, 2) := by decide +kernel
theorem dL_list_76 : decode cL_list 76 = .ok (.iload 7, 2) := by decide +kernel
theorem dL_list_78 : decode cL_list 78 = .ok (.iload 5, 2) := by decide +kernel
theorem dL_list_80 : decode cL_list 80 = .ok (.iconst 2, 1) := by decide +kernel
theorem dL_list_81 : decode cL_list 81 = .ok (.iload 7, 2) := by decide +kernel
theorem dL_list_83 : decode cL_list 83 = .ok (.imul, 1) := by decide +kernel
theorem dL_list_84 : decode cL_list 84 = .ok (.iconst 3, 1) := by decide +kernel
theorem dL_list_85 : decode cL_list 85 = .ok (.iadd, 1) := by decide +kernel
theorem dL_list_86 : decode cL_list 86 = .ok (.ishr, 1) := by decide +kernel
theorem dL_list_87 : decode cL_list 87 = .ok (.iconst 4, 1) := by decide +kernel
theorem dL_list_88 : decode cL_list 88 = .ok (.invokestatic 79, 3) := by decide +kernel
theorem dL_list_91 : decode cL_list 91 = .ok (.iastore, 1) := by decide +kernel
theorem dL_list_92 : decode cL_list 92 = .ok (.aload_n 1, 1) := by decide +kernel
theorem dL_list_93 : decode cL_list 93 = .ok (.ldc 85, 2) := by decide +kernel
theorem dL_list_95 : decode cL_list 95 = .ok (.invokevirtual 37, 3) := by decide +kernel
theorem dL_list_98 : decode cL_list 98 = .ok (.getstatic 87, 3) := by decide +kernel
theorem dL_list_101 : decode cL_list 101 = .ok (.aload 6, 2) := by decide +kernel
theorem dL_list_103 : decode cL_list 103 = .ok (.iload 7, 2) := by decide +kernel
theorem dL_list_105 : decode cL_list 105 = .ok (.iaload, 1) := by decide +kernel
theorem dL_list_106 : decode cL_list 106 = .ok (.aaload, 1) := by decide +kernel
theorem dL_list_107 : decode cL_list 107 = .ok (.invokevirtual 37, 3) := by decide +kernel
theorem dL_list_110 : decode cL_list 110 = .ok (.pop, 1) := by decide +kernel
theorem dL_list_111 : decode cL_list 111 = .ok (.iinc 7 1, 3) := by decide +kernel
theorem dL_list_114 : decode cL_list 114 = .ok (.goto (-48), 3) := by decide +kernel
theorem dL_list_117 : decode cL_list 117 = .ok (.aload_n 1, 1) := by decide +kernel
theorem dL_list_118 : decode cL_list 118 = .ok (.ldc 91, 2) := by decide +kernel
theorem dL_list_120 : decode cL_list 120 = .ok (.invokevirtual 37, 3) := by decide +kernel
theorem dL_list_123 : decode cL_list 123 = .ok (.pop, 1) := by decide +kernel
theorem dL_list_124 : decode cL_list 124 = .ok (.aload_n 2, 1) := by decide +kernel
theorem dL_list_125 : decode cL_list 125 = .ok (.aload_n 2, 1) := by decide +kernel
theorem dL_list_126 : decode cL_list 126 = .ok (.getfield 93, 3) := by decide +kernel
theorem dL_list_129 : decode cL_list 129 = .ok (.aload 6, 2) := by decide +kernel
theorem dL_list_131 : decode cL_list 131 = .ok (.invokestatic 97, 3) := by decide +kernel
theorem dL_list_134 : decode cL_list 134 = .ok (.putfield 93, 3) := by decide +kernel
theorem dL_list_137 : decode cL_list 137 = .ok (.iinc 4 1, 3) := by decide +kernel
theorem dL_list_140 : decode cL_list 140 = .ok (.goto (-117), 3) := by decide +kernel
theorem dL_list_143 : decode cL_list 143 = .ok (.iconst 1, 1) := by decide +kernel
theorem dL_list_144 : decode cL_list 144 = .ok (.aload_n 0, 1) := by decide +kernel
theorem dL_list_145 : decode cL_list 145 = .ok (.iconst 4, 1) := by decide +kernel
theorem dL_list_146 : decode cL_list 146 = .ok (.invokestatic 73, 3) := by decide +kernel
theorem dL_list_149 : decode cL_list 149 = .ok (.iconst 5, 1) := by decide +kernel
theorem dL_list_150 : decode cL_list 150 = .ok (.invokestatic 79, 3) := by decide +kernel
theorem dL_list_153 : decode cL_list 153 = .ok (.iadd, 1) := by decide +kernel
theorem dL_list_154 : decode cL_list 154 = .ok (.istore 4, 2) := by decide +kernel
theorem dL_list_156 : decode cL_list 156 = .ok (.iconst 0, 1) := by decide +kernel
theorem dL_list_157 : decode cL_list 157 = .ok (.istore 5, 2) := by decide +kernel
theorem dL_list_159 : decode cL_list 159 = .ok (.iload 5, 2) := by decide +kernel
theorem dL_list_161 : decode cL_list 161 = .ok (.iload 4, 2) := by decide +kernel
theorem dL_list_163 : decode cL_list 163 = .ok (.if_icmp .ge 225, 3) := by decide +kernel
theorem dL_list_166 : decode cL_list 166 = .ok (.aload_n 0, 1) := by decide +kernel
theorem dL_list_167 : decode cL_list 167 = .ok (.iconst 5, 1) := by decide +kernel
theorem dL_list_168 : decode cL_list 168 = .ok (.iload 5, 2) := by decide +kernel
theorem dL_list_170 : decode cL_list 170 = .ok (.iadd, 1) := by decide +kernel
theorem dL_list_171 : decode cL_list 171 = .ok (.invokestatic 73, 3) := by decide +kernel
theorem dL_list_174 : decode cL_list 174 = .ok (.bipush 7, 2) := by decide +kernel
theorem dL_list_176 : decode cL_list 176 = .ok (.iload 5, 2) := by decide +kernel
theorem dL_list_178 : decode cL_list 178 = .ok (.imul, 1) := by decide +kernel
theorem dL_list_179 : decode cL_list 179 = .ok (.iadd, 1) := by decide +kernel
theorem dL_list_180 : decode cL_list 180 = .ok (.istore 6, 2) := by decide +kernel
theorem dL_list_182 : decode cL_list 182 = .ok (.bipush 6, 2) := by decide +kernel
theorem dL_list_184 : decode cL_list 184 = .ok (.newarray .int, 2) := by decide +kernel
theorem dL_list_186 : decode cL_list 186 = .ok (.dup, 1) := by decide +kernel
theorem dL_list_187 : decode cL_list 187 = .ok (.iconst 0, 1) := by decide +kernel
theorem dL_list_188 : decode cL_list 188 = .ok (.iload 6, 2) := by decide +kernel
theorem dL_list_190 : decode cL_list 190 = .ok (.iload_n 3, 1) := by decide +kernel
theorem dL_list_191 : decode cL_list 191 = .ok (.invokestatic 79, 3) := by decide +kernel
theorem dL_list_194 : decode cL_list 194 = .ok (.iastore, 1) := by decide +kernel
theorem dL_list_195 : decode cL_list 195 = .ok (.dup, 1) := by decide +kernel
theorem dL_list_196 : decode cL_list 196 = .ok (.iconst 1, 1) := by decide +kernel
theorem dL_list_197 : decode cL_list 197 = .ok (.bipush 30, 2) := by decide +kernel
theorem dL_list_199 : decode cL_list 199 = .ok (.iload 6, 2) := by decide +kernel
theorem dL_list_201 : decode cL_list 201 = .ok (.iconst 3, 1) := by decide +kernel
theorem dL_list_202 : decode cL_list 202 = .ok (.ishr, 1) := by decide +kernel
theorem dL_list_203 : decode cL_list 203 = .ok (.bipush 8, 2) := by decide +kernel
theorem dL_list_205 : decode cL_list 205 = .ok (.invokestatic 79, 3) := by decide +kernel
theorem dL_list_208 : decode cL_list 208 = .ok (.iload 6, 2) := by decide +kernel
theorem dL_list_210 : decode cL_list 210 = .ok (.iconst 3, 1) := by decide +kernel
theorem dL_list_211 : decode cL_list 211 = .ok (.invokestatic 79, 3) := by decide +kernel
theorem dL_list_214 : decode cL_list 214 = .ok (.ifCond .ne 8, 3) := by decide +kernel
theorem dL_list_217 : decode cL_list 217 = .ok (.bipush 8, 2) := by decide +kernel
theorem dL_list_219 : decode cL_list 219 = .ok (.goto 4, 3) := by decide +kernel
theorem dL_list_222 : decode cL_list 222 = .ok (.iconst 1, 1) := by decide +kernel
theorem dL_list_223 : decode cL_list 223 = .ok (.imul, 1) := by decide +kernel
theorem dL_list_224 : decode cL_list 224 = .ok (.iadd, 1) := by decide +kernel
theorem dL_list_225 : decode cL_list 225 = .ok (.bipush 64, 2) := by decide +kernel
theorem dL_list_227 : decode cL_list 227 = .ok (.irem, 1) := by decide +kernel
theorem dL_list_228 : decode cL_list 228 = .ok (.iastore, 1) := by decide +kernel
theorem dL_list_229 : decode cL_list 229 = .ok (.dup, 1) := by decide +kernel
theorem dL_list_230 : decode cL_list 230 = .ok (.iconst 2, 1) := by decide +kernel
theorem dL_list_231 : decode cL_list 231 = .ok (.bipush 30, 2) := by decide +kernel
theorem dL_list_233 : decode cL_list 233 = .ok (.iload 6, 2) := by decide +kernel
theorem dL_list_235 : decode cL_list 235 = .ok (.bipush 6, 2) := by decide +kernel
theorem dL_list_237 : decode cL_list 237 = .ok (.ishr, 1) := by decide +kernel
theorem dL_list_238 : decode cL_list 238 = .ok (.bipush 8, 2) := by decide +kernel
theorem dL_list_240 : decode cL_list 240 = .ok (.invokestatic 79, 3) := by decide +kernel
theorem dL_list_243 : decode cL_list 243 = .ok (.iload 6, 2) := by decide +kernel
theorem dL_list_245 : decode cL_list 245 = .ok (.iconst 5, 1) := by decide +kernel
theorem dL_list_246 : decode cL_list 246 = .ok (.invokestatic 79, 3) := by decide +kernel
theorem dL_list_249 : decode cL_list 249 = .ok (.ifCond .ne 8, 3) := by decide +kernel
theorem dL_list_252 : decode cL_list 252 = .ok (.bipush 8, 2) := by decide +kernel
theorem dL_list_254 : decode cL_list 254 = .ok (.goto 4, 3) := by decide +kernel
theorem dL_list_257 : decode cL_list 257 = .ok (.iconst 1, 1) := by decide +kernel
theorem dL_list_258 : decode cL_list 258 = .ok (.imul, 1) := by decide +kernel
theorem dL_list_259 : decode cL_list 259 = .ok (.iadd, 1) := by decide +kernel
theorem dL_list_260 : decode cL_list 260 = .ok (.bipush 64, 2) := by decide +kernel
theorem dL_list_262 : decode cL_list 262 = .ok (.irem, 1) := by decide +kernel
theorem dL_list_263 : decode cL_list 263 = .ok (.iastore, 1) := by decide +kernel
theorem dL_list_264 : decode cL_list 264 = .ok (.dup, 1) := by decide +kernel
theorem dL_list_265 : decode cL_list 265 = .ok (.iconst 3, 1) := by decide +kernel
theorem dL_list_266 : decode cL_list 266 = .ok (.iload 6, 2) := by decide +kernel
theorem dL_list_268 : decode cL_list 268 = .ok (.bipush 9, 2) := by decide +kernel
theorem dL_list_270 : decode cL_list 270 = .ok (.ishr, 1) := by decide +kernel
theorem dL_list_271 : decode cL_list 271 = .ok (.iconst 4, 1) := by decide +kernel
theorem dL_list_272 : decode cL_list 272 = .ok (.invokestatic 79, 3) := by decide +kernel
theorem dL_list_275 : decode cL_list 275 = .ok (.iastore, 1) := by decide +kernel
theorem dL_list_276 : decode cL_list 276 = .ok (.dup, 1) := by decide +kernel
theorem dL_list_277 : decode cL_list 277 = .ok (.iconst 4, 1) := by decide +kernel
theorem dL_list_278 : decode cL_list 278 = .ok (.iconst 1, 1) := by decide +kernel
theorem dL_list_279 : decode cL_list 279 = .ok (.iastore, 1) := by decide +kernel
theorem dL_list_280 : decode cL_list 280 = .ok (.dup, 1) := by decide +kernel
theorem dL_list_281 : decode cL_list 281 = .ok (.iconst 5, 1) := by decide +kernel
theorem dL_list_282 : decode cL_list 282 = .ok (.iconst 0, 1) := by decide +kernel
theorem dL_list_283 : decode cL_list 283 = .ok (.iastore, 1) := by decide +kernel
theorem dL_list_284 : decode cL_list 284 = .ok (.astore 7, 2) := by decide +kernel
theorem dL_list_286 : decode cL_list 286 = .ok (.aload_n 1, 1) := by decide +kernel
theorem dL_list_287 : decode cL_list 287 = .ok (.ldc 101, 2) := by decide +kernel
theorem dL_list_289 : decode cL_list 289 = .ok (.invokevirtual 37, 3) := by decide +kernel
theorem dL_list_292 : decode cL_list 292 = .ok (.iload 5, 2) := by decide +kernel
theorem dL_list_294 : decode cL_list 294 = .ok (.invokevirtual 41, 3) := by decide +kernel
theorem dL_list_297 : decode cL_list 297 = .ok (.ldc 103, 2) := by decide +kernel
theorem dL_list_299 : decode cL_list 299 = .ok (.invokevirtual 37, 3) := by decide +kernel
theorem dL_list_302 : decode cL_list 302 = .ok (.aload 7, 2) := by decide +kernel
theorem dL_list_304 : decode cL_list 304 = .ok (.iconst 0, 1) := by decide +kernel
theorem dL_list_305 : decode cL_list 305 = .ok (.iaload, 1) := by decide +kernel
theorem dL_list_306 : decode cL_list 306 = .ok (.invokevirtual 41, 3) := by decide +kernel
theorem dL_list_309 : decode cL_list 309 = .ok (.ldc 105, 2) := by decide +kernel
theorem dL_list_311 : decode cL_list 311 = .ok (.invokevirtual 37, 3) := by decide +kernel
theorem dL_list_314 : decode cL_list 314 = .ok (.aload 7, 2) := by decide +kernel
theorem dL_list_316 : decode cL_list 316 = .ok (.iconst 1, 1) := by decide +kernel
theorem dL_list_317 : decode cL_list 317 = .ok (.iaload, 1) := by decide +kernel
theorem dL_list_318 : decode cL_list 318 = .ok (.invokevirtual 41, 3) := by decide +kernel
theorem dL_list_321 : decode cL_list 321 = .ok (.ldc 85, 2) := by decide +kernel
theorem dL_list_323 : decode cL_list 323 = .ok (.invokevirtual 37, 3) := by decide +kernel
theorem dL_list_326 : decode cL_list 326 = .ok (.aload 7, 2) := by decide +kernel
theorem dL_list_328 : decode cL_list 328 = .ok (.iconst 2, 1) := by decide +kernel
theorem dL_list_329 : decode cL_list 329 = .ok (.iaload, 1) := by decide +kernel
theorem dL_list_330 : decode cL_list 330 = .ok (.invokevirtual 41, 3) := by decide +kernel
theorem dL_list_333 : decode cL_list 333 = .ok (.ldc 107, 2) := by decide +kernel
theorem dL_list_335 : decode cL_list 335 = .ok (.invokevirtual 37, 3) := by decide +kernel
theorem dL_list_338 : decode cL_list 338 = .ok (.getstatic 109, 3) := by decide +kernel
theorem dL_list_341 : decode cL_list 341 = .ok (.aload 7, 2) := by decide +kernel
theorem dL_list_343 : decode cL_list 343 = .ok (.iconst 3, 1) := by decide +kernel
theorem dL_list_344 : decode cL_list 344 = .ok (.iaload, 1) := by decide +kernel
theorem dL_list_345 : decode cL_list 345 = .ok (.aaload, 1) := by decide +kernel
theorem dL_list_346 : decode cL_list 346 = .ok (.invokevirtual 37, 3) := by decide +kernel
theorem dL_list_349 : decode cL_list 349 = .ok (.ldc 112, 2) := by decide +kernel
theorem dL_list_351 : decode cL_list 351 = .ok (.invokevirtual 37, 3) := by decide +kernel
theorem dL_list_354 : decode cL_list 354 = .ok (.pop, 1) := by decide +kernel
theorem dL_list_355 : decode cL_list 355 = .ok (.aload_n 2, 1) := by decide +kernel
theorem dL_list_356 : decode cL_list 356 = .ok (.aload_n 2, 1) := by decide +kernel
theorem dL_list_357 : decode cL_list 357 = .ok (.getfield 114, 3) := by decide +kernel
theorem dL_list_360 : decode cL_list 360 = .ok (.aload 7, 2) := by decide +kernel
theorem dL_list_362 : decode cL_list 362 = .ok (.invokestatic 97, 3) := by decide +kernel
theorem dL_list_365 : decode cL_list 365 = .ok (.putfield 114, 3) := by decide +kernel
theorem dL_list_368 : decode cL_list 368 = .ok (.aload_n 2, 1) := by decide +kernel
theorem dL_list_369 : decode cL_list 369 = .ok (.aload_n 2, 1) := by decide +kernel
theorem dL_list_370 : decode cL_list 370 = .ok (.getfield 117, 3) := by decide +kernel
theorem dL_list_373 : decode cL_list 373 = .ok (.iconst 0, 1) := by decide +kernel
theorem dL_list_374 : decode cL_list 374 = .ok (.newarray .int, 2) := by decide +kernel
theorem dL_list_376 : decode cL_list 376 = .ok (.invokestatic 97, 3) := by decide +kernel
theorem dL_list_379 : decode cL_list 379 = .ok (.putfield 117, 3) := by decide +kernel
theorem dL_list_382 : decode cL_list 382 = .ok (.iinc 5 1, 3) := by decide +kernel
theorem dL_list_385 : decode cL_list 385 = .ok (.goto (-226), 3) := by decide +kernel
theorem dL_list_388 : decode cL_list 388 = .ok (.aload_n 0, 1) := by decide +kernel
theorem dL_list_389 : decode cL_list 389 = .ok (.bipush 10, 2) := by decide +kernel
theorem dL_list_391 : decode cL_list 391 = .ok (.invokestatic 73, 3) := by decide +kernel
theorem dL_list_394 : decode cL_list 394 = .ok (.bipush 9, 2) := by decide +kernel
theorem dL_list_396 : decode cL_list 396 = .ok (.invokestatic 79, 3) := by decide +kernel
theorem dL_list_399 : decode cL_list 399 = .ok (.istore 5, 2) := by decide +kernel
theorem dL_list_401 : decode cL_list 401 = .ok (.iload 5, 2) := by decide +kernel
theorem dL_list_403 : decode cL_list 403 = .ok (.ifCond .le 122, 3) := by decide +kernel
theorem dL_list_406 : decode cL_list 406 = .ok (.aload_n 0, 1) := by decide +kernel
theorem dL_list_407 : decode cL_list 407 = .ok (.bipush 11, 2) := by decide +kernel
theorem dL_list_409 : decode cL_list 409 = .ok (.invokestatic 73, 3) := by decide +kernel
theorem dL_list_412 : decode cL_list 412 = .ok (.bipush 97, 2) := by decide +kernel
theorem dL_list_414 : decode cL_list 414 = .ok (.iload 5, 2) := by decide +kernel
theorem dL_list_416 : decode cL_list 416 = .ok (.imul, 1) := by decide +kernel
theorem dL_list_417 : decode cL_list 417 = .ok (.iadd, 1) := by decide +kernel
theorem dL_list_418 : decode cL_list 418 = .ok (.istore 6, 2) := by decide +kernel
theorem dL_list_420 : decode cL_list 420 = .ok (.bipush 28, 2) := by decide +kernel
theorem dL_list_422 : decode cL_list 422 = .ok (.iload 6, 2) := by decide +kernel
theorem dL_list_424 : decode cL_list 424 = .ok (.iconst 2, 1) := by decide +kernel
theorem dL_list_425 : decode cL_list 425 = .ok (.ishr, 1) := by decide +kernel
theorem dL_list_426 : decode cL_list 426 = .ok (.bipush 12, 2) := by decide +kernel
theorem dL_list_428 : decode cL_list 428 = .ok (.invokestatic 79, 3) := by decide +kernel
theorem dL_list_431 : decode cL_list 431 = .ok (.iadd, 1) := by decide +kernel
theorem dL_list_432 : decode cL_list 432 = .ok (.bipush 64, 2) := by decide +kernel
theorem dL_list_434 : decode cL_list 434 = .ok (.irem, 1) := by decide +kernel
theorem dL_list_435 : decode cL_list 435 = .ok (.istore 7, 2) := by decide +kernel
theorem dL_list_437 : decode cL_list 437 = .ok (.bipush 28, 2) := by decide +kernel
theorem dL_list_439 : decode cL_list 439 = .ok (.iload 6, 2) := by decide +kernel
theorem dL_list_441 : decode cL_list 441 = .ok (.iconst 5, 1) := by decide +kernel
theorem dL_list_442 : decode cL_list 442 = .ok (.ishr, 1) := by decide +kernel
theorem dL_list_443 : decode cL_list 443 = .ok (.bipush 12, 2) := by decide +kernel
theorem dL_list_445 : decode cL_list 445 = .ok (.invokestatic 79, 3) := by decide +kernel
theorem dL_list_448 : decode cL_list 448 = .ok (.iadd, 1) := by decide +kernel
theorem dL_list_449 : decode cL_list 449 = .ok (.bipush 64, 2) := by decide +kernel
theorem dL_list_451 : decode cL_list 451 = .ok (.irem, 1) := by decide +kernel
theorem dL_list_452 : decode cL_list 452 = .ok (.istore 8, 2) := by decide +kernel
theorem dL_list_454 : decode cL_list 454 = .ok (.aload_n 2, 1) := by decide +kernel
theorem dL_list_455 : decode cL_list 455 = .ok (.getfield 120, 3) := by decide +kernel
theorem dL_list_458 : decode cL_list 458 = .ok (.iload 8, 2) := by decide +kernel
theorem dL_list_460 : decode cL_list 460 = .ok (.aaload, 1) := by decide +kernel
theorem dL_list_461 : decode cL_list 461 = .ok (.iload 7, 2) := by decide +kernel
theorem dL_list_463 : decode cL_list 463 = .ok (.iload 6, 2) := by decide +kernel
theorem dL_list_465 : decode cL_list 465 = .ok (.bipush 7, 2) := by decide +kernel
theorem dL_list_467 : decode cL_list 467 = .ok (.ishr, 1) := by decide +kernel
theorem dL_list_468 : decode cL_list 468 = .ok (.bipush 6, 2) := by decide +kernel
theorem dL_list_470 : decode cL_list 470 = .ok (.invokestatic 79, 3) := by decide +kernel
theorem dL_list_473 : decode cL_list 473 = .ok (.iastore, 1) := by decide +kernel
theorem dL_list_474 : decode cL_list 474 = .ok (.aload_n 1, 1) := by decide +kernel
theorem dL_list_475 : decode cL_list 475 = .ok (.ldc 123, 2) := by decide +kernel
theorem dL_list_477 : decode cL_list 477 = .ok (.invokevirtual 37, 3) := by decide +kernel
theorem dL_list_480 : decode cL_list 480 = .ok (.iload 7, 2) := by decide +kernel
theorem dL_list_482 : decode cL_list 482 = .ok (.invokevirtual 41, 3) := by decide +kernel
theorem dL_list_485 : decode cL_list 485 = .ok (.ldc 85, 2) := by decide +kernel
theorem dL_list_487 : decode cL_list 487 = .ok (.invokevirtual 37, 3) := by decide +kernel
theorem dL_list_490 : decode cL_list 490 = .ok (.iload 8, 2) := by decide +kernel
theorem dL_list_492 : decode cL_list 492 = .ok (.invokevirtual 41, 3) := by decide +kernel
theorem dL_list_495 : decode cL_list 495 = .ok (.ldc 85, 2) := by decide +kernel
theorem dL_list_497 : decode cL_list 497 = .ok (.invokevirtual 37, 3) := by decide +kernel
theorem dL_list_500 : decode cL_list 500 = .ok (.aload_n 2, 1) := by decide +kernel
theorem dL_list_501 : decode cL_list 501 = .ok (.getfield 120, 3) := by decide +kernel
theorem dL_list_504 : decode cL_list 504 = .ok (.iload 8, 2) := by decide +kernel
theorem dL_list_506 : decode cL_list 506 = .ok (.aaload, 1) := by decide +kernel
theorem dL_list_507 : decode cL_list 507 = .ok (.iload 7, 2) := by decide +kernel
theorem dL_list_509 : decode cL_list 509 = .ok (.iaload, 1) := by decide +kernel
theorem dL_list_510 : decode cL_list 510 = .ok (.invokevirtual 41, 3) := by decide +kernel
theorem dL_list_513 : decode cL_list 513 = .ok (.ldc 91, 2) := by decide +kernel
theorem dL_list_515 : decode cL_list 515 = .ok (.invokevirtual 37, 3) := by decide +kernel
theorem dL_list_518 : decode cL_list 518 = .ok (.pop, 1) := by decide +kernel
theorem dL_list_519 : decode cL_list 519 = .ok (.iinc 5 (-1), 3) := by decide +kernel
theorem dL_list_522 : decode cL_list 522 = .ok (.goto (-121), 3) := by decide +kernel
theorem dL_list_525 : decode cL_list 525 = .ok (.aload_n 0, 1) := by decide +kernel
theorem dL_list_526 : decode cL_list 526 = .ok (.bipush 12, 2) := by decide +kernel
theorem dL_list_528 : decode cL_list 528 = .ok (.invokestatic 73, 3) := by decide +kernel
theorem dL_list_531 : decode cL_list 531 = .ok (.bipush 6, 2) := by decide +kernel
theorem dL_list_533 : decode cL_list 533 = .ok (.invokestatic 79, 3) := by decide +kernel
theorem dL_list_536 : decode cL_list 536 = .ok (.istore 5, 2) := by decide +kernel
theorem dL_list_538 : decode cL_list 538 = .ok (.iload 5, 2) := by decide +kernel
theorem dL_list_540 : decode cL_list 540 = .ok (.ifCond .le 478, 3) := by decide +kernel
theorem dL_list_543 : decode cL_list 543 = .ok (.aload_n 0, 1) := by decide +kernel
theorem dL_list_544 : decode cL_list 544 = .ok (.bipush 13, 2) := by decide +kernel
theorem dL_list_546 : decode cL_list 546 = .ok (.invokestatic 73, 3) := by decide +kernel
theorem dL_list_549 : decode cL_list 549 = .ok (.iload 5, 2) := by decide +kernel
theorem dL_list_551 : decode cL_list 551 = .ok (.ishr, 1) := by decide +kernel
theorem dL_list_552 : decode cL_list 552 = .ok (.bipush 61, 2) := by decide +kernel
theorem dL_list_554 : decode cL_list 554 = .ok (.iload 5, 2) := by decide +kernel
theorem dL_list_556 : decode cL_list 556 = .ok (.imul, 1) := by decide +kernel
theorem dL_list_557 : decode cL_list 557 = .ok (.iadd, 1) := by decide +kernel
theorem dL_list_558 : decode cL_list 558 = .ok (.istore 6, 2) := by decide +kernel
theorem dL_list_560 : decode cL_list 560 = .ok (.iload 6, 2) := by decide +kernel
theorem dL_list_562 : decode cL_list 562 = .ok (.iconst 3, 1) := by decide +kernel
theorem dL_list_563 : decode cL_list 563 = .ok (.ishr, 1) := by decide +kernel
theorem dL_list_564 : decode cL_list 564 = .ok (.iload 4, 2) := by decide +kernel
theorem dL_list_566 : decode cL_list 566 = .ok (.invokestatic 79, 3) := by decide +kernel
theorem dL_list_569 : decode cL_list 569 = .ok (.istore 7, 2) := by decide +kernel
theorem dL_list_571 : decode cL_list 571 = .ok (.iload 6, 2) := by decide +kernel
theorem dL_list_573 : decode cL_list 573 = .ok (.iconst 4, 1) := by decide +kernel
theorem dL_list_574 : decode cL_list 574 = .ok (.invokestatic 79, 3) := by decide +kernel
theorem dL_list_577 : decode cL_list 577 = .ok (.istore 8, 2) := by decide +kernel
theorem dL_list_579 : decode cL_list 579 = .ok (.bipush 24, 2) := by decide +kernel
theorem dL_list_581 : decode cL_list 581 = .ok (.iload 6, 2) := by decide +kernel
theorem dL_list_583 : decode cL_list 583 = .ok (.iconst 4, 1) := by decide +kernel
theorem dL_list_584 : decode cL_list 584 = .ok (.ishr, 1) := by decide +kernel
theorem dL_list_585 : decode cL_list 585 = .ok (.bipush 16, 2) := by decide +kernel
theorem dL_list_587 : decode cL_list 587 = .ok (.invokestatic 79, 3) := by decide +kernel
theorem dL_list_590 : decode cL_list 590 = .ok (.iadd, 1) := by decide +kernel
theorem dL_list_591 : decode cL_list 591 = .ok (.istore 9, 2) := by decide +kernel
theorem dL_list_593 : decode cL_list 593 = .ok (.bipush 6, 2) := by decide +kernel
theorem dL_list_595 : decode cL_list 595 = .ok (.newarray .int, 2) := by decide +kernel
theorem dL_list_597 : decode cL_list 597 = .ok (.dup, 1) := by decide +kernel
theorem dL_list_598 : decode cL_list 598 = .ok (.iconst 0, 1) := by decide +kernel
theorem dL_list_599 : decode cL_list 599 = .ok (.iload 8, 2) := by decide +kernel
theorem dL_list_601 : decode cL_list 601 = .ok (.iastore, 1) := by decide +kernel
theorem dL_list_602 : decode cL_list 602 = .ok (.dup, 1) := by decide +kernel
theorem dL_list_603 : decode cL_list 603 = .ok (.iconst 1, 1) := by decide +kernel
theorem dL_list_604 : decode cL_list 604 = .ok (.iload 8, 2) := by decide +kernel
theorem dL_list_606 : decode cL_list 606 = .ok (.ifCond .ne 8, 3) := by decide +kernel
theorem dL_list_609 : decode cL_list 609 = .ok (.iload 9, 2) := by decide +kernel
theorem dL_list_611 : decode cL_list 611 = .ok (.goto 5, 3) := by decide +kernel
theorem dL_list_614 : decode cL_list 614 = .ok (.iload 7, 2) := by decide +kernel
theorem dL_list_616 : decode cL_list 616 = .ok (.iastore, 1) := by decide +kernel
theorem dL_list_617 : decode cL_list 617 = .ok (.dup, 1) := by decide +kernel
theorem dL_list_618 : decode cL_list 618 = .ok (.iconst 2, 1) := by decide +kernel
theorem dL_list_619 : decode cL_list 619 = .ok (.iload 8, 2) := by decide +kernel
theorem dL_list_621 : decode cL_list 621 = .ok (.ifCond .ne 24, 3) := by decide +kernel
theorem dL_list_624 : decode cL_list 624 = .ok (.bipush 63, 2) := by decide +kernel
theorem dL_list_626 : decode cL_list 626 = .ok (.iload 9, 2) := by decide +kernel
theorem dL_list_628 : decode cL_list 628 = .ok (.iload 6, 2) := by decide +kernel
theorem dL_list_630 : decode cL_list 630 = .ok (.bipush 6, 2) := by decide +kernel
theorem dL_list_632 : decode cL_list 632 = .ok (.ishr, 1) := by decide +kernel
theorem dL_list_633 : decode cL_list 633 = .ok (.bipush 30, 2) := by decide +kernel
theorem dL_list_635 : decode cL_list 635 = .ok (.invokestatic 79, 3) := by decide +kernel
theorem dL_list_638 : decode cL_list 638 = .ok (.iadd, 1) := by decide +kernel
theorem dL_list_639 : decode cL_list 639 = .ok (.invokestatic 125, 3) := by decide +kernel
theorem dL_list_642 : decode cL_list 642 = .ok (.goto 11, 3) := by decide +kernel
theorem dL_list_645 : decode cL_list 645 = .ok (.iload 6, 2) := by decide +kernel
theorem dL_list_647 : decode cL_list 647 = .ok (.iconst 5, 1) := by decide +kernel
theorem dL_list_648 : decode cL_list 648 = .ok (.ishr, 1) := by decide +kernel
theorem dL_list_649 : decode cL_list 649 = .ok (.iconst 4, 1) := by decide +kernel
theorem dL_list_650 : decode cL_list 650 = .ok (.invokestatic 79, 3) := by decide +kernel
theorem dL_list_653 : decode cL_list 653 = .ok (.iastore, 1) := by decide +kernel
theorem dL_list_654 : decode cL_list 654 = .ok (.dup, 1) := by decide +kernel
theorem dL_list_655 : decode cL_list 655 = .ok (.iconst 3, 1) := by decide +kernel
theorem dL_list_656 : decode cL_list 656 = .ok (.iload 6, 2) := by decide +kernel
theorem dL_list_658 : decode cL_list 658 = .ok (.bipush 7, 2) := by decide +kernel
theorem dL_list_660 : decode cL_list 660 = .ok (.ishr, 1) := by decide +kernel
theorem dL_list_661 : decode cL_list 661 = .ok (.iconst 5, 1) := by decide +kernel
theorem dL_list_662 : decode cL_list 662 = .ok (.invokestatic 79, 3) := by decide +kernel
theorem dL_list_665 : decode cL_list 665 = .ok (.iastore, 1) := by decide +kernel
theorem dL_list_666 : decode cL_list 666 = .ok (.dup, 1) := by decide +kernel
theorem dL_list_667 : decode cL_list 667 = .ok (.iconst 4, 1) := by decide +kernel
theorem dL_list_668 : decode cL_list 668 = .ok (.iconst 0, 1) := by decide +kernel
theorem dL_list_669 : decode cL_list 669 = .ok (.iastore, 1) := by decide +kernel
theorem dL_list_670 : decode cL_list 670 = .ok (.dup, 1) := by decide +kernel
theorem dL_list_671 : decode cL_list 671 = .ok (.iconst 5, 1) := by decide +kernel
theorem dL_list_672 : decode cL_list 672 = .ok (.iconst 0, 1) := by decide +kernel
theorem dL_list_673 : decode cL_list 673 = .ok (.iastore, 1) := by decide +kernel
theorem dL_list_674 : decode cL_list 674 = .ok (.astore 10, 2) := by decide +kernel
theorem dL_list_676 : decode cL_list 676 = .ok (.aload 10, 2) := by decide +kernel
theorem dL_list_678 : decode cL_list 678 = .ok (.iconst 3, 1) := by decide +kernel
theorem dL_list_679 : decode cL_list 679 = .ok (.iaload, 1) := by decide +kernel
theorem dL_list_680 : decode cL_list 680 = .ok (.ifCond .ne 16, 3) := by decide +kernel
theorem dL_list_683 : decode cL_list 683 = .ok (.aload 10, 2) := by decide +kernel
theorem dL_list_685 : decode cL_list 685 = .ok (.iconst 4, 1) := by decide +kernel
theorem dL_list_686 : decode cL_list 686 = .ok (.iload 6, 2) := by decide +kernel
theorem dL_list_688 : decode cL_list 688 = .ok (.iconst 2, 1) := by decide +kernel
theorem dL_list_689 : decode cL_list 689 = .ok (.ishr, 1) := by decide +kernel
theorem dL_list_690 : decode cL_list 690 = .ok (.bipush 30, 2) := by decide +kernel
theorem dL_list_692 : decode cL_list 692 = .ok (.invokestatic 79, 3) := by decide +kernel
theorem dL_list_695 : decode cL_list 695 = .ok (.iastore, 1) := by decide +kernel
theorem dL_list_696 : decode cL_list 696 = .ok (.aload 10, 2) := by decide +kernel
theorem dL_list_698 : decode cL_list 698 = .ok (.iconst 3, 1) := by decide +kernel
theorem dL_list_699 : decode cL_list 699 = .ok (.iaload, 1) := by decide +kernel
theorem dL_list_700 : decode cL_list 700 = .ok (.iconst 1, 1) := by decide +kernel
theorem dL_list_701 : decode cL_list 701 = .ok (.if_icmp .ne 18, 3) := by decide +kernel
theorem dL_list_704 : decode cL_list 704 = .ok (.aload 10, 2) := by decide +kernel
theorem dL_list_706 : decode cL_list 706 = .ok (.iconst 4, 1) := by decide +kernel
theorem dL_list_707 : decode cL_list 707 = .ok (.iconst 2, 1) := by decide +kernel
theorem dL_list_708 : decode cL_list 708 = .ok (.iload 6, 2) := by decide +kernel
theorem dL_list_710 : decode cL_list 710 = .ok (.iconst 2, 1) := by decide +kernel
theorem dL_list_711 : decode cL_list 711 = .ok (.ishr, 1) := by decide +kernel
theorem dL_list_712 : decode cL_list 712 = .ok (.bipush 9, 2) := by decide +kernel
theorem dL_list_714 : decode cL_list 714 = .ok (.invokestatic 79, 3) := by decide +kernel
theorem dL_list_717 : decode cL_list 717 = .ok (.iadd, 1) := by decide +kernel
theorem dL_list_718 : decode cL_list 718 = .ok (.iastore, 1) := by decide +kernel
theorem dL_list_719 : decode cL_list 719 = .ok (.aload 10, 2) := by decide +kernel
theorem dL_list_721 : decode cL_list 721 = .ok (.iconst 3, 1) := by decide +kernel
theorem dL_list_722 : decode cL_list 722 = .ok (.iaload, 1) := by decide +kernel
theorem dL_list_723 : decode cL_list 723 = .ok (.iconst 1, 1) := by decide +kernel
theorem dL_list_724 : decode cL_list 724 = .ok (.if_icmp .ne 19, 3) := by decide +kernel
theorem dL_list_727 : decode cL_list 727 = .ok (.aload 10, 2) := by decide +kernel
theorem dL_list_729 : decode cL_list 729 = .ok (.iconst 5, 1) := by decide +kernel
theorem dL_list_730 : decode cL_list 730 = .ok (.iload 6, 2) := by decide +kernel
theorem dL_list_732 : decode cL_list 732 = .ok (.bipush 6, 2) := by decide +kernel
theorem dL_list_734 : decode cL_list 734 = .ok (.ishr, 1) := by decide +kernel
theorem dL_list_735 : decode cL_list 735 = .ok (.aload 10, 2) := by decide +kernel
theorem dL_list_737 : decode cL_list 737 = .ok (.iconst 4, 1) := by decide +kernel
theorem dL_list_738 : decode cL_list 738 = .ok (.iaload, 1) := by decide +kernel
theorem dL_list_739 : decode cL_list 739 = .ok (.invokestatic 79, 3) := by decide +kernel
theorem dL_list_742 : decode cL_list 742 = .ok (.iastore, 1) := by decide +kernel
theorem dL_list_743 : decode cL_list 743 = .ok (.aload 10, 2) := by decide +kernel
theorem dL_list_745 : decode cL_list 745 = .ok (.iconst 3, 1) := by decide +kernel
theorem dL_list_746 : decode cL_list 746 = .ok (.iaload, 1) := by decide +kernel
theorem dL_list_747 : decode cL_list 747 = .ok (.iconst 1, 1) := by decide +kernel
theorem dL_list_748 : decode cL_list 748 = .ok (.if_icmp .le 40, 3) := by decide +kernel
theorem dL_list_751 : decode cL_list 751 = .ok (.aload 10, 2) := by decide +kernel
theorem dL_list_753 : decode cL_list 753 = .ok (.iconst 4, 1) := by decide +kernel
theorem dL_list_754 : decode cL_list 754 = .ok (.aload 10, 2) := by decide +kernel
theorem dL_list_756 : decode cL_list 756 = .ok (.iconst 3, 1) := by decide +kernel
theorem dL_list_757 : decode cL_list 757 = .ok (.iaload, 1) := by decide +kernel
theorem dL_list_758 : decode cL_list 758 = .ok (.iconst 4, 1) := by decide +kernel
theorem dL_list_759 : decode cL_list 759 = .ok (.if_icmp .ne 18, 3) := by decide +kernel
theorem dL_list_762 : decode cL_list 762 = .ok (.bipush 28, 2) := by decide +kernel
theorem dL_list_764 : decode cL_list 764 = .ok (.iload 6, 2) := by decide +kernel
theorem dL_list_766 : decode cL_list 766 = .ok (.iconst 2, 1) := by decide +kernel
theorem dL_list_767 : decode cL_list 767 = .ok (.ishr, 1) := by decide +kernel
theorem dL_list_768 : decode cL_list 768 = .ok (.bipush 12, 2) := by decide +kernel
theorem dL_list_770 : decode cL_list 770 = .ok (.invokestatic 79, 3) := by decide +kernel
theorem dL_list_773 : decode cL_list 773 = .ok (.iadd, 1) := by decide +kernel
theorem dL_list_774 : decode cL_list 774 = .ok (.goto 13, 3) := by decide +kernel
theorem dL_list_777 : decode cL_list 777 = .ok (.iload 6, 2) := by decide +kernel
theorem dL_list_779 : decode cL_list 779 = .ok (.bipush 8, 2) := by decide +kernel
theorem dL_list_781 : decode cL_list 781 = .ok (.ishr, 1) := by decide +kernel
theorem dL_list_782 : decode cL_list 782 = .ok (.iload 4, 2) := by decide +kernel
theorem dL_list_784 : decode cL_list 784 = .ok (.invokestatic 79, 3) := by decide +kernel
theorem dL_list_787 : decode cL_list 787 = .ok (.iastore, 1) := by decide +kernel
theorem dL_list_788 : decode cL_list 788 = .ok (.aload 10, 2) := by decide +kernel
theorem dL_list_790 : decode cL_list 790 = .ok (.iconst 3, 1) := by decide +kernel
theorem dL_list_791 : decode cL_list 791 = .ok (.iaload, 1) := by decide +kernel
theorem dL_list_792 : decode cL_list 792 = .ok (.iconst 2, 1) := by decide +kernel
theorem dL_list_793 : decode cL_list 793 = .ok (.if_icmp .ne 19, 3) := by decide +kernel
theorem dL_list_796 : decode cL_list 796 = .ok (.aload 10, 2) := by decide +kernel
theorem dL_list_798 : decode cL_list 798 = .ok (.iconst 5, 1) := by decide +kernel
theorem dL_list_799 : decode cL_list 799 = .ok (.bipush 26, 2) := by decide +kernel
theorem dL_list_801 : decode cL_list 801 = .ok (.iload 6, 2) := by decide +kernel
theorem dL_list_803 : decode cL_list 803 = .ok (.iconst 2, 1) := by decide +kernel
theorem dL_list_804 : decode cL_list 804 = .ok (.ishr, 1) := by decide +kernel
theorem dL_list_805 : decode cL_list 805 = .ok (.bipush 12, 2) := by decide +kernel
theorem dL_list_807 : decode cL_list 807 = .ok (.invokestatic 79, 3) := by decide +kernel
theorem dL_list_810 : decode cL_list 810 = .ok (.iadd, 1) := by decide +kernel
theorem dL_list_811 : decode cL_list 811 = .ok (.iastore, 1) := by decide +kernel
theorem dL_list_812 : decode cL_list 812 = .ok (.aload 10, 2) := by decide +kernel
theorem dL_list_814 : decode cL_list 814 = .ok (.iconst 3, 1) := by decide +kernel
theorem dL_list_815 : decode cL_list 815 = .ok (.iaload, 1) := by decide +kernel
theorem dL_list_816 : decode cL_list 816 = .ok (.iconst 4, 1) := by decide +kernel
theorem dL_list_817 : decode cL_list 817 = .ok (.if_icmp .ne 17, 3) := by decide +kernel
theorem dL_list_820 : decode cL_list 820 = .ok (.aload 10, 2) := by decide +kernel
theorem dL_list_822 : decode cL_list 822 = .ok (.iconst 5, 1) := by decide +kernel
theorem dL_list_823 : decode cL_list 823 = .ok (.iload 6, 2) := by decide +kernel
theorem dL_list_825 : decode cL_list 825 = .ok (.bipush 9, 2) := by decide +kernel
theorem dL_list_827 : decode cL_list 827 = .ok (.ishr, 1) := by decide +kernel
theorem dL_list_828 : decode cL_list 828 = .ok (.iload 4, 2) := by decide +kernel
theorem dL_list_830 : decode cL_list 830 = .ok (.invokestatic 79, 3) := by decide +kernel
theorem dL_list_833 : decode cL_list 833 = .ok (.iastore, 1) := by decide +kernel
theorem dL_list_834 : decode cL_list 834 = .ok (.aload_n 1, 1) := by decide +kernel
theorem dL_list_835 : decode cL_list 835 = .ok (.iload 8, 2) := by decide +kernel
theorem dL_list_837 : decode cL_list 837 = .ok (.ifCond .ne 40, 3) := by decide +kernel
theorem dL_list_840 : decode cL_list 840 = .ok (.new 32, 3) := by decide +kernel
theorem dL_list_843 : decode cL_list 843 = .ok (.dup, 1) := by decide +kernel
theorem dL_list_844 : decode cL_list 844 = .ok (.invokespecial 34, 3) := by decide +kernel
theorem dL_list_847 : decode cL_list 847 = .ok (.ldc 130, 2) := by decide +kernel
theorem dL_list_849 : decode cL_list 849 = .ok (.invokevirtual 37, 3) := by decide +kernel
theorem dL_list_852 : decode cL_list 852 = .ok (.aload 10, 2) := by decide +kernel
theorem dL_list_854 : decode cL_list 854 = .ok (.iconst 1, 1) := by decide +kernel
theorem dL_list_855 : decode cL_list 855 = .ok (.iaload, 1) := by decide +kernel
theorem dL_list_856 : decode cL_list 856 = .ok (.invokevirtual 41, 3) := by decide +kernel
theorem dL_list_859 : decode cL_list 859 = .ok (.ldc 132, 2) := by decide +kernel
theorem dL_list_861 : decode cL_list 861 = .ok (.invokevirtual 37, 3) := by decide +kernel
theorem dL_list_864 : decode cL_list 864 = .ok (.aload 10, 2) := by decide +kernel
theorem dL_list_866 : decode cL_list 866 = .ok (.iconst 2, 1) := by decide +kernel
theorem dL_list_867 : decode cL_list 867 = .ok (.iaload, 1) := by decide +kernel
theorem dL_list_868 : decode cL_list 868 = .ok (.invokevirtual 41, 3) := by decide +kernel
theorem dL_list_871 : decode cL_list 871 = .ok (.invokevirtual 44, 3) := by decide +kernel
theorem dL_list_874 : decode cL_list 874 = .ok (.goto 103, 3) := by decide +kernel
theorem dL_list_877 : decode cL_list 877 = .ok (.iload 8, 2) := by decide +kernel
theorem dL_list_879 : decode cL_list 879 = .ok (.iconst 1, 1) := by decide +kernel
theorem dL_list_880 : decode cL_list 880 = .ok (.if_icmp .ne 44, 3) := by decide +kernel
theorem dL_list_883 : decode cL_list 883 = .ok (.new 32, 3) := by decide +kernel
theorem dL_list_886 : decode cL_list 886 = .ok (.dup, 1) := by decide +kernel
theorem dL_list_887 : decode cL_list 887 = .ok (.invokespecial 34, 3) := by decide +kernel
theorem dL_list_890 : decode cL_list 890 = .ok (.ldc 134, 2) := by decide +kernel
theorem dL_list_892 : decode cL_list 892 = .ok (.invokevirtual 37, 3) := by decide +kernel
theorem dL_list_895 : decode cL_list 895 = .ok (.aload 10, 2) := by decide +kernel
theorem dL_list_897 : decode cL_list 897 = .ok (.iconst 1, 1) := by decide +kernel
theorem dL_list_898 : decode cL_list 898 = .ok (.iaload, 1) := by decide +kernel
theorem dL_list_899 : decode cL_list 899 = .ok (.invokevirtual 41, 3) := by decide +kernel
theorem dL_list_902 : decode cL_list 902 = .ok (.ldc 85, 2) := by decide +kernel
theorem dL_list_904 : decode cL_list 904 = .ok (.invokevirtual 37, 3) := by decide +kernel
theorem dL_list_907 : decode cL_list 907 = .ok (.getstatic 109, 3) := by decide +kernel
theorem dL_list_910 : decode cL_list 910 = .ok (.aload 10, 2) := by decide +kernel
theorem dL_list_912 : decode cL_list 912 = .ok (.iconst 2, 1) := by decide +kernel
theorem dL_list_913 : decode cL_list 913 = .ok (.iaload, 1) := by decide +kernel
theorem dL_list_914 : decode cL_list 914 = .ok (.aaload, 1) := by decide +kernel
theorem dL_list_915 : decode cL_list 915 = .ok (.invokevirtual 37, 3) := by decide +kernel
theorem dL_list_918 : decode cL_list 918 = .ok (.invokevirtual 44, 3) := by decide +kernel
theorem dL_list_921 : decode cL_list 921 = .ok (.goto 56, 3) := by decide +kernel
theorem dL_list_924 : decode cL_list 924 = .ok (.iload 8, 2) := by decide +kernel
theorem dL_list_926 : decode cL_list 926 = .ok (.iconst 2, 1) := by decide +kernel
theorem dL_list_927 : decode cL_list 927 = .ok (.if_icmp .ne 28, 3) := by decide +kernel
theorem dL_list_930 : decode cL_list 930 = .ok (.new 32, 3) := by decide +kernel
theorem dL_list_933 : decode cL_list 933 = .ok (.dup, 1) := by decide +kernel
theorem dL_list_934 : decode cL_list 934 = .ok (.invokespecial 34, 3) := by decide +kernel
theorem dL_list_937 : decode cL_list 937 = .ok (.ldc 136, 2) := by decide +kernel
theorem dL_list_939 : decode cL_list 939 = .ok (.invokevirtual 37, 3) := by decide +kernel
theorem dL_list_942 : decode cL_list 942 = .ok (.aload 10, 2) := by decide +kernel
theorem dL_list_944 : decode cL_list 944 = .ok (.iconst 1, 1) := by decide +kernel
theorem dL_list_945 : decode cL_list 945 = .ok (.iaload, 1) := by decide +kernel
theorem dL_list_946 : decode cL_list 946 = .ok (.invokevirtual 41, 3) := by decide +kernel
theorem dL_list_949 : decode cL_list 949 = .ok (.invokevirtual 44, 3) := by decide +kernel
theorem dL_list_952 : decode cL_list 952 = .ok (.goto 25, 3) := by decide +kernel
theorem dL_list_955 : decode cL_list 955 = .ok (.new 32, 3) := by decide +kernel
theorem dL_list_958 : decode cL_list 958 = .ok (.dup, 1) := by decide +kernel
theorem dL_list_959 : decode cL_list 959 = .ok (.invokespecial 34, 3) := by decide +kernel
theorem dL_list_962 : decode cL_list 962 = .ok (.ldc 138, 2) := by decide +kernel
theorem dL_list_964 : decode cL_list 964 = .ok (.invokevirtual 37, 3) := by decide +kernel
theorem dL_list_967 : decode cL_list 967 = .ok (.aload 10, 2) := by decide +kernel
theorem dL_list_969 : decode cL_list 969 = .ok (.iconst 1, 1) := by decide +kernel
theorem dL_list_970 : decode cL_list 970 = .ok (.iaload, 1) := by decide +kernel
theorem dL_list_971 : decode cL_list 971 = .ok (.invokevirtual 41, 3) := by decide +kernel
theorem dL_list_974 : decode cL_list 974 = .ok (.invokevirtual 44, 3) := by decide +kernel
theorem dL_list_977 : decode cL_list 977 = .ok (.invokevirtual 37, 3) := by decide +kernel
theorem dL_list_980 : decode cL_list 980 = .ok (.ldc 140, 2) := by decide +kernel
theorem dL_list_982 : decode cL_list 982 = .ok (.invokevirtual 37, 3) := by decide +kernel
theorem dL_list_985 : decode cL_list 985 = .ok (.aload 10, 2) := by decide +kernel
theorem dL_list_987 : decode cL_list 987 = .ok (.invokestatic 142, 3) := by decide +kernel
theorem dL_list_990 : decode cL_list 990 = .ok (.invokevirtual 37, 3) := by decide +kernel
theorem dL_list_993 : decode cL_list 993 = .ok (.ldc 112, 2) := by decide +kernel
theorem dL_list_995 : decode cL_list 995 = .ok (.invokevirtual 37, 3) := by decide +kernel
theorem dL_list_998 : decode cL_list 998 = .ok (.pop, 1) := by decide +kernel
theorem dL_list_999 : decode cL_list 999 = .ok (.aload_n 2, 1) := by decide +kernel
theorem dL_list_1000 : decode cL_list 1000 = .ok (.aload_n 2, 1) := by decide +kernel
theorem dL_list_1001 : decode cL_list 1001 = .ok (.getfield 146, 3) := by decide +kernel
theorem dL_list_1004 : decode cL_list 1004 = .ok (.aload 10, 2) := by decide +kernel
theorem dL_list_1006 : decode cL_list 1006 = .ok (.invokestatic 97, 3) := by decide +kernel
theorem dL_list_1009 : decode cL_list 1009 = .ok (.putfield 146, 3) := by decide +kernel
theorem dL_list_1012 : decode cL_list 1012 = .ok (.iinc 5 (-1), 3) := by decide +kernel
theorem dL_list_1015 : decode cL_list 1015 = .ok (.goto (-477), 3) := by decide +kernel
theorem dL_list_1018 : decode cL_list 1018 = .ok (.aload_n 2, 1) := by decide +kernel
theorem dL_list_1019 : decode cL_list 1019 = .ok (.areturn, 1) := by decide +kernel
set_option maxRecDepth 20000 in
theorem ggL_act_L_below : GoodIn wsL_act wsL_below := goodIn_r _ [12, 13] (by decide +kernel) (by decide +kernel)
set_option maxRecDepth 20000 in
theorem gL_act_L_below : GoodIn wsL_act (va_wsS RL 79 yL_below wsL_below) := goodIn_app (goodIn_of _ (by decide +kernel)) ggL_act_L_below
set_option maxRecDepth 20000 in
theorem ggL_act_X9_paint : GoodIn wsL_act wsX9_paint := goodIn_ca (goodIn_ca (goodIn_r _ [18, 19, 20, 21, 22, 23, 24, 25, 17, 26, 27, 28, 29, 30, 31, 32, 33, 34, 35, 36, 37, 38, 39, 40, 41, 42, 43, 44, 45, 309, 310, 311, 312, 313, 314, 315, 316, 317, 318, 319, 320, 321, 322, 323, 324] (by decide +kernel) (by decide +kernel)) (goodIn_sub (fun _ h => List.mem_cons_of_mem _ (List.mem_append_left _ (List.mem_append_right _ h))) (by decide +kernel))) (goodIn_sub (fun _ h => List.mem_cons_of_mem _ (List.mem_append_right _ h)) (by decide +kernel))
set_option maxRecDepth 20000 in
theorem gL_act_X9_paint : GoodIn wsL_act (wsV RL 149 RX9 yX9_paint wsX9_paint) := goodIn_app (goodIn_of _ (by decide +kernel)) ggL_act_X9_paint
set_option maxRecDepth 20000 in
theorem ggL_act_X9_wash : GoodIn wsL_act wsX9_wash := goodIn_ca (goodIn_ca (goodIn_r _ [49, 19, 20, 21, 22, 23, 27, 28, 17, 29, 50, 51, 52, 36, 53, 54, 55, 5, 56, 44, 57, 58, 59, 60, 61, 43, 62, 63, 64, 65, 66, 40, 41, 42, 38, 45, 34, 35, 37, 31, 32, 309, 310, 311, 312, 313, 314, 315, 316, 317, 318, 319, 320, 321, 322, 323, 324] (by decide +kernel) (by decide +kernel)) (goodIn_sub (fun _ h => List.mem_cons_of_mem _ (List.mem_append_left _ (List.mem_append_right _ h))) (by decide +kernel))) (goodIn_sub (fun _ h => List.mem_cons_of_mem _ (List.mem_append_right _ h)) (by decide +kernel))
set_option maxRecDepth 20000 in
theorem gL_act_X9_wash : GoodIn wsL_act (wsV RL 153 RX9 yX9_wash wsX9_wash) := goodIn_app (goodIn_of _ (by decide +kernel)) ggL_act_X9_wash
set_option maxRecDepth 20000 in
theorem ggL_act_X10_wash : GoodIn wsL_act wsX10_wash := goodIn_r _ [71, 72, 8, 73, 74, 75, 76, 70, 77, 300, 301, 302, 303, 304, 305, 306, 307, 308] (by decide +kernel) (by decide +kernel)
set_option maxRecDepth 20000 in
theorem gL_act_X10_wash : GoodIn wsL_act (wsV RL 156 RX10 yX10_wash wsX10_wash) := goodIn_app (goodIn_of _ (by decide +kernel)) ggL_act_X10_wash
set_option maxRecDepth 20000 in
theorem ggL_act_X9_face : GoodIn wsL_act wsX9_face := goodIn_ca (goodIn_r _ [81, 19, 20, 23, 82, 83, 84, 85, 86, 17, 87, 88, 89, 90, 91, 92, 93, 94, 95, 96, 97, 98, 99, 100, 309, 310, 311, 312, 313, 314, 315, 316, 317, 318, 319, 320, 321, 322, 323, 324, 325, 326, 327, 328, 329, 330, 331, 332, 333] (by decide +kernel) (by decide +kernel)) (goodIn_sub (fun _ h => List.mem_cons_of_mem _ (List.mem_append_left _ (List.mem_append_right _ h))) (by decide +kernel))
set_option maxRecDepth 20000 in
theorem gL_act_X9_face : GoodIn wsL_act (wsV RL 157 RX9 yX9_face wsX9_face) := goodIn_app (goodIn_of _ (by decide +kernel)) ggL_act_X9_face
set_option maxRecDepth 20000 in
theorem ggL_act_X9_halt : GoodIn wsL_act wsX9_halt := goodIn_ca (goodIn_r _ [104, 19, 20, 23, 82, 105, 84, 85, 86, 17, 87, 88, 309, 310, 311, 312, 313, 314, 315, 316, 317, 318, 319, 320, 321, 322, 323, 324, 325, 326, 327, 328, 329, 330, 331, 332, 333] (by decide +kernel) (by decide +kernel)) (goodIn_sub (fun _ h => List.mem_cons_of_mem _ (List.mem_append_left _ (List.mem_append_right _ h))) (by decide +kernel))
set_option maxRecDepth 20000 in
theorem gL_act_X9_halt : GoodIn wsL_act (wsV RL 160 RX9 yX9_halt wsX9_halt) := goodIn_app (goodIn_of _ (by decide +kernel)) ggL_act_X9_halt
set_option maxRecDepth 20000 in
theorem ggL_act_X9_place : GoodIn wsL_act wsX9_place := goodIn_ca (goodIn_r _ [109, 19, 20, 23, 82, 84, 85, 86, 17, 87, 88, 24, 25, 26, 27, 28, 29, 110, 111, 112, 92, 113, 114, 115, 116, 117, 118, 119, 95, 96, 97, 98, 99, 100, 309, 310, 311, 312, 313, 314, 315, 316, 317, 318, 319, 320, 321, 322, 323, 324, 325, 326, 327, 328, 329, 330, 331, 332, 333] (by decide +kernel) (by decide +kernel)) (goodIn_sub (fun _ h => List.mem_cons_of_mem _ (List.mem_append_left _ (List.mem_append_right _ h))) (by decide +kernel))
set_option maxRecDepth 20000 in
theorem gL_act_X9_place : GoodIn wsL_act (wsV RL 164 RX9 yX9_place wsX9_place) := goodIn_app (goodIn_of _ (by decide +kernel)) ggL_act_X9_place
set_option maxRecDepth 20000 in
theorem ggL_act_X10_dark : GoodIn wsL_act wsX10_dark := goodIn_r _ [123, 74, 75, 76, 70, 77, 72, 300, 301, 302, 303, 304, 305, 306, 307, 308] (by decide +kernel) (by decide +kernel)
set_option maxRecDepth 20000 in
theorem gL_act_X10_dark : GoodIn wsL_act (wsV RL 167 RX10 yX10_dark wsX10_dark) := goodIn_app (goodIn_of _ (by decide +kernel)) ggL_act_X10_dark
set_option maxRecDepth 20000 in
theorem ggL_act_X10_go_c1 : GoodIn wsL_act (.code yX10_go cX10_go 7 none :: wsX10_go_r1) := goodIn_r _ [127, 128, 129, 130, 131, 72, 8, 132, 133, 134, 135, 136, 137, 138, 139, 140, 141, 70, 142, 143, 121, 122, 123, 74, 75] (by decide +kernel) (by decide +kernel)
set_option maxRecDepth 20000 in
theorem ggL_act_X10_go_c2 : GoodIn wsL_act wsX10_go_r2 := goodIn_r _ [76, 77, 144, 145, 146, 147, 148, 149, 150, 151, 152, 153, 154, 155, 156, 157, 158, 159, 160, 161, 162, 163, 164, 68] (by decide +kernel) (by decide +kernel)
set_option maxRecDepth 20000 in
theorem ggL_act_X10_go_c3 : GoodIn wsL_act wsX10_go_r3 := goodIn_r _ [69, 71, 73] (by decide +kernel) (by decide +kernel)
set_option maxRecDepth 20000 in
theorem ggL_act_X10_go_c4 : GoodIn wsL_act wsX100 := goodIn_r _ [300, 301, 302, 303, 304, 305, 306, 307, 308] (by decide +kernel) (by decide +kernel)
set_option maxRecDepth 20000 in
theorem ggL_act_X10_go : GoodIn wsL_act wsX10_go := (goodIn_ca (goodIn_ca ggL_act_X10_go_c1 (goodIn_app ggL_act_X10_go_c2 ggL_act_X10_go_c3)) ggL_act_X10_go_c4)
set_option maxRecDepth 20000 in
theorem gL_act_X10_go : GoodIn wsL_act (wsV RL 170 RX10 yX10_go wsX10_go) := goodIn_app (goodIn_of _ (by decide +kernel)) ggL_act_X10_go
set_option maxRecDepth 20000 in
theorem ggL_act_X9_pass : GoodIn wsL_act wsX9_pass := goodIn_ca (goodIn_r _ [168, 21, 22, 23, 169, 170, 59, 60, 36, 61, 43, 171, 172, 173, 174, 175, 176, 177, 178, 179, 180, 181, 182, 183, 184, 185, 186, 187, 188, 189, 190, 191, 192, 193, 194, 195, 196, 197, 198, 199, 200, 201, 202, 203, 204, 205, 206, 207, 208, 209, 210, 211, 212, 213, 214, 215, 44, 216, 217, 218, 219, 220, 221, 222, 223, 224, 225, 226, 227, 228, 229, 230, 92, 231, 100, 99, 232, 233, 234, 235, 236, 237, 238, 239, 240, 241, 242, 243, 244, 245, 246, 247, 248, 111, 112, 113, 114, 115, 249, 250, 251, 252, 4, 5, 6, 253, 55, 56, 254, 255, 256, 257, 258, 259, 260, 261, 51, 52, 53, 54, 57, 58, 62, 63, 64, 65, 66, 40, 41, 42, 38, 45, 34, 35, 37, 31, 17, 32, 262, 263, 264, 265, 266, 267, 90, 91, 93, 94, 95, 96, 97, 98, 268, 269, 270, 271, 272, 273, 274, 275, 276, 277, 278, 279, 280, 281, 282, 283, 284, 285, 286, 287, 288, 289, 290, 291, 292, 293, 294, 295, 296, 297, 298, 299, 309, 310, 311, 312, 313, 314, 315, 316, 317, 318, 319, 320, 321, 322, 323, 324, 334, 335, 336, 337, 338, 339, 340, 341, 342, 343, 344, 345, 346, 325, 326, 327, 328, 329, 330, 331, 332, 333, 347, 348] (by decide +kernel) (by decide +kernel)) (goodIn_sub (fun _ h => List.mem_cons_of_mem _ (List.mem_append_right _ h)) (by decide +kernel))
set_option maxRecDepth 20000 in
theorem gL_act_X9_pass : GoodIn wsL_act (wsV RL 173 RX9 yX9_pass wsX9_pass) := goodIn_app (goodIn_of _ (by decide +kernel)) ggL_act_X9_pass
theorem dL_act_0 : decode cL_act 0 = .ok (.iload_n 2, 1) := by decide +kernel
theorem dL_act_1 : decode cL_act 1 = .ok (.iconst 3, 1) := by decide +kernel
theorem dL_act_2 : decode cL_act 2 = .ok (.ishr, 1) := by decide +kernel
theorem dL_act_3 : decode cL_act 3 = .ok (.aload_n 1, 1) := by decide +kernel
theorem dL_act_4 : decode cL_act 4 = .ok (.getfield 114, 3) := by decide +kernel
theorem dL_act_7 : decode cL_act 7 = .ok (.arraylength, 1) := by decide +kernel
theorem dL_act_8 : decode cL_act 8 = .ok (.invokestatic 79, 3) := by decide +kernel
theorem dL_act_11 : decode cL_act 11 = .ok (.istore_n 3, 1) := by decide +kernel
theorem dL_act_12 : decode cL_act 12 = .ok (.aload_n 1, 1) := by decide +kernel
theorem dL_act_13 : decode cL_act 13 = .ok (.getfield 114, 3) := by decide +kernel
theorem dL_act_16 : decode cL_act 16 = .ok (.iload_n 3, 1) := by decide +kernel
theorem dL_act_17 : decode cL_act 17 = .ok (.aaload, 1) := by decide +kernel
theorem dL_act_18 : decode cL_act 18 = .ok (.astore 4, 2) := by decide +kernel
theorem dL_act_20 : decode cL_act 20 = .ok (.iload_n 2, 1) := by decide +kernel
theorem dL_act_21 : decode cL_act 21 = .ok (.bipush 9, 2) := by decide +kernel
theorem dL_act_23 : decode cL_act 23 = .ok (.invokestatic 79, 3) := by decide +kernel
theorem dL_act_26 : decode cL_act 26 = .ok (.tableswitch 330 0 4 #[34, 118, 175, 221, 258], 34) := by decide +kernel
theorem dL_act_60 : decode cL_act 60 = .ok (.iload_n 2, 1) := by decide +kernel
theorem dL_act_61 : decode cL_act 61 = .ok (.iconst 4, 1) := by decide +kernel
theorem dL_act_62 : decode cL_act 62 = .ok (.ishr, 1) := by decide +kernel
theorem dL_act_63 : decode cL_act 63 = .ok (.bipush 64, 2) := by decide +kernel
theorem dL_act_65 : decode cL_act 65 = .ok (.invokestatic 79, 3) := by decide +kernel
theorem dL_act_68 : decode cL_act 68 = .ok (.istore 5, 2) := by decide +kernel
theorem dL_act_70 : decode cL_act 70 = .ok (.bipush 26, 2) := by decide +kernel
theorem dL_act_72 : decode cL_act 72 = .ok (.iload_n 2, 1) := by decide +kernel
theorem dL_act_73 : decode cL_act 73 = .ok (.bipush 6, 2) := by decide +kernel
theorem dL_act_75 : decode cL_act 75 = .ok (.ishr, 1) := by decide +kernel
theorem dL_act_76 : decode cL_act 76 = .ok (.bipush 14, 2) := by decide +kernel
theorem dL_act_78 : decode cL_act 78 = .ok (.invokestatic 79, 3) := by decide +kernel
theorem dL_act_81 : decode cL_act 81 = .ok (.iadd, 1) := by decide +kernel
theorem dL_act_82 : decode cL_act 82 = .ok (.istore 6, 2) := by decide +kernel
theorem dL_act_84 : decode cL_act 84 = .ok (.aload_n 1, 1) := by decide +kernel
theorem dL_act_85 : decode cL_act 85 = .ok (.getfield 120, 3) := by decide +kernel
theorem dL_act_88 : decode cL_act 88 = .ok (.iload 6, 2) := by decide +kernel
theorem dL_act_90 : decode cL_act 90 = .ok (.aaload, 1) := by decide +kernel
theorem dL_act_91 : decode cL_act 91 = .ok (.iload 5, 2) := by decide +kernel
theorem dL_act_93 : decode cL_act 93 = .ok (.iaload, 1) := by decide +kernel
theorem dL_act_94 : decode cL_act 94 = .ok (.istore 7, 2) := by decide +kernel
theorem dL_act_96 : decode cL_act 96 = .ok (.aload_n 1, 1) := by decide +kernel
theorem dL_act_97 : decode cL_act 97 = .ok (.getfield 120, 3) := by decide +kernel
theorem dL_act_100 : decode cL_act 100 = .ok (.iload 6, 2) := by decide +kernel
theorem dL_act_102 : decode cL_act 102 = .ok (.aaload, 1) := by decide +kernel
theorem dL_act_103 : decode cL_act 103 = .ok (.iload 5, 2) := by decide +kernel
theorem dL_act_105 : decode cL_act 105 = .ok (.iload_n 2, 1) := by decide +kernel
theorem dL_act_106 : decode cL_act 106 = .ok (.bipush 8, 2) := by decide +kernel
theorem dL_act_108 : decode cL_act 108 = .ok (.ishr, 1) := by decide +kernel
theorem dL_act_109 : decode cL_act 109 = .ok (.bipush 6, 2) := by decide +kernel
theorem dL_act_111 : decode cL_act 111 = .ok (.invokestatic 79, 3) := by decide +kernel
theorem dL_act_114 : decode cL_act 114 = .ok (.iastore, 1) := by decide +kernel
theorem dL_act_115 : decode cL_act 115 = .ok (.aload_n 0, 1) := by decide +kernel
theorem dL_act_116 : decode cL_act 116 = .ok (.iload 5, 2) := by decide +kernel
theorem dL_act_118 : decode cL_act 118 = .ok (.iload 6, 2) := by decide +kernel
theorem dL_act_120 : decode cL_act 120 = .ok (.aload_n 1, 1) := by decide +kernel
theorem dL_act_121 : decode cL_act 121 = .ok (.getfield 120, 3) := by decide +kernel
theorem dL_act_124 : decode cL_act 124 = .ok (.iload 6, 2) := by decide +kernel
theorem dL_act_126 : decode cL_act 126 = .ok (.aaload, 1) := by decide +kernel
theorem dL_act_127 : decode cL_act 127 = .ok (.iload 5, 2) := by decide +kernel
theorem dL_act_129 : decode cL_act 129 = .ok (.iaload, 1) := by decide +kernel
theorem dL_act_130 : decode cL_act 130 = .ok (.invokevirtual 149, 3) := by decide +kernel
theorem dL_act_133 : decode cL_act 133 = .ok (.iload 7, 2) := by decide +kernel
theorem dL_act_135 : decode cL_act 135 = .ok (.if_icmp .ne 7, 3) := by decide +kernel
theorem dL_act_138 : decode cL_act 138 = .ok (.iconst 1, 1) := by decide +kernel
theorem dL_act_139 : decode cL_act 139 = .ok (.goto 4, 3) := by decide +kernel
theorem dL_act_142 : decode cL_act 142 = .ok (.iconst 0, 1) := by decide +kernel
theorem dL_act_143 : decode cL_act 143 = .ok (.ireturn, 1) := by decide +kernel
theorem dL_act_144 : decode cL_act 144 = .ok (.bipush 20, 2) := by decide +kernel
theorem dL_act_146 : decode cL_act 146 = .ok (.iload_n 2, 1) := by decide +kernel
theorem dL_act_147 : decode cL_act 147 = .ok (.iconst 4, 1) := by decide +kernel
theorem dL_act_148 : decode cL_act 148 = .ok (.ishr, 1) := by decide +kernel
theorem dL_act_149 : decode cL_act 149 = .ok (.bipush 30, 2) := by decide +kernel
theorem dL_act_151 : decode cL_act 151 = .ok (.invokestatic 79, 3) := by decide +kernel
theorem dL_act_154 : decode cL_act 154 = .ok (.iadd, 1) := by decide +kernel
theorem dL_act_155 : decode cL_act 155 = .ok (.istore 5, 2) := by decide +kernel
theorem dL_act_157 : decode cL_act 157 = .ok (.bipush 63, 2) := by decide +kernel
theorem dL_act_159 : decode cL_act 159 = .ok (.iload 5, 2) := by decide +kernel
theorem dL_act_161 : decode cL_act 161 = .ok (.iload_n 2, 1) := by decide +kernel
theorem dL_act_162 : decode cL_act 162 = .ok (.bipush 7, 2) := by decide +kernel
theorem dL_act_164 : decode cL_act 164 = .ok (.ishr, 1) := by decide +kernel
theorem dL_act_165 : decode cL_act 165 = .ok (.bipush 12, 2) := by decide +kernel
theorem dL_act_167 : decode cL_act 167 = .ok (.invokestatic 79, 3) := by decide +kernel
theorem dL_act_170 : decode cL_act 170 = .ok (.iadd, 1) := by decide +kernel
theorem dL_act_171 : decode cL_act 171 = .ok (.invokestatic 125, 3) := by decide +kernel
theorem dL_act_174 : decode cL_act 174 = .ok (.istore 6, 2) := by decide +kernel
theorem dL_act_176 : decode cL_act 176 = .ok (.aload_n 0, 1) := by decide +kernel
theorem dL_act_177 : decode cL_act 177 = .ok (.iload 5, 2) := by decide +kernel
theorem dL_act_179 : decode cL_act 179 = .ok (.iload 6, 2) := by decide +kernel
theorem dL_act_181 : decode cL_act 181 = .ok (.invokevirtual 153, 3) := by decide +kernel
theorem dL_act_184 : decode cL_act 184 = .ok (.aload_n 1, 1) := by decide +kernel
theorem dL_act_185 : decode cL_act 185 = .ok (.iload 5, 2) := by decide +kernel
theorem dL_act_187 : decode cL_act 187 = .ok (.iload 6, 2) := by decide +kernel
theorem dL_act_189 : decode cL_act 189 = .ok (.invokevirtual 156, 3) := by decide +kernel
theorem dL_act_192 : decode cL_act 192 = .ok (.if_icmp .ne 7, 3) := by decide +kernel
theorem dL_act_195 : decode cL_act 195 = .ok (.iconst 1, 1) := by decide +kernel
theorem dL_act_196 : decode cL_act 196 = .ok (.goto 4, 3) := by decide +kernel
theorem dL_act_199 : decode cL_act 199 = .ok (.iconst 0, 1) := by decide +kernel
theorem dL_act_200 : decode cL_act 200 = .ok (.ireturn, 1) := by decide +kernel
theorem dL_act_201 : decode cL_act 201 = .ok (.aload 4, 2) := by decide +kernel
theorem dL_act_203 : decode cL_act 203 = .ok (.iconst 3, 1) := by decide +kernel
theorem dL_act_204 : decode cL_act 204 = .ok (.iaload, 1) := by decide +kernel
theorem dL_act_205 : decode cL_act 205 = .ok (.istore 5, 2) := by decide +kernel
theorem dL_act_207 : decode cL_act 207 = .ok (.aload 4, 2) := by decide +kernel
theorem dL_act_209 : decode cL_act 209 = .ok (.iconst 3, 1) := by decide +kernel
theorem dL_act_210 : decode cL_act 210 = .ok (.iload_n 2, 1) := by decide +kernel
theorem dL_act_211 : decode cL_act 211 = .ok (.iconst 5, 1) := by decide +kernel
theorem dL_act_212 : decode cL_act 212 = .ok (.ishr, 1) := by decide +kernel
theorem dL_act_213 : decode cL_act 213 = .ok (.iconst 4, 1) := by decide +kernel
theorem dL_act_214 : decode cL_act 214 = .ok (.invokestatic 79, 3) := by decide +kernel
theorem dL_act_217 : decode cL_act 217 = .ok (.iastore, 1) := by decide +kernel
theorem dL_act_218 : decode cL_act 218 = .ok (.aload_n 1, 1) := by decide +kernel
theorem dL_act_219 : decode cL_act 219 = .ok (.getfield 117, 3) := by decide +kernel
theorem dL_act_222 : decode cL_act 222 = .ok (.iload_n 3, 1) := by decide +kernel
theorem dL_act_223 : decode cL_act 223 = .ok (.iconst 0, 1) := by decide +kernel
theorem dL_act_224 : decode cL_act 224 = .ok (.newarray .int, 2) := by decide +kernel
theorem dL_act_226 : decode cL_act 226 = .ok (.aastore, 1) := by decide +kernel
theorem dL_act_227 : decode cL_act 227 = .ok (.aload_n 0, 1) := by decide +kernel
theorem dL_act_228 : decode cL_act 228 = .ok (.iload_n 3, 1) := by decide +kernel
theorem dL_act_229 : decode cL_act 229 = .ok (.aload 4, 2) := by decide +kernel
theorem dL_act_231 : decode cL_act 231 = .ok (.iconst 3, 1) := by decide +kernel
theorem dL_act_232 : decode cL_act 232 = .ok (.iaload, 1) := by decide +kernel
theorem dL_act_233 : decode cL_act 233 = .ok (.invokevirtual 157, 3) := by decide +kernel
theorem dL_act_236 : decode cL_act 236 = .ok (.iload 5, 2) := by decide +kernel
theorem dL_act_238 : decode cL_act 238 = .ok (.if_icmp .ne 7, 3) := by decide +kernel
theorem dL_act_241 : decode cL_act 241 = .ok (.iconst 1, 1) := by decide +kernel
theorem dL_act_242 : decode cL_act 242 = .ok (.goto 4, 3) := by decide +kernel
theorem dL_act_245 : decode cL_act 245 = .ok (.iconst 0, 1) := by decide +kernel
theorem dL_act_246 : decode cL_act 246 = .ok (.ireturn, 1) := by decide +kernel
theorem dL_act_247 : decode cL_act 247 = .ok (.aload 4, 2) := by decide +kernel
theorem dL_act_249 : decode cL_act 249 = .ok (.iconst 4, 1) := by decide +kernel
theorem dL_act_250 : decode cL_act 250 = .ok (.iconst 1, 1) := by decide +kernel
theorem dL_act_251 : decode cL_act 251 = .ok (.aload 4, 2) := by decide +kernel
theorem dL_act_253 : decode cL_act 253 = .ok (.iconst 4, 1) := by decide +kernel
theorem dL_act_254 : decode cL_act 254 = .ok (.iaload, 1) := by decide +kernel
theorem dL_act_255 : decode cL_act 255 = .ok (.isub, 1) := by decide +kernel
theorem dL_act_256 : decode cL_act 256 = .ok (.iastore, 1) := by decide +kernel
theorem dL_act_257 : decode cL_act 257 = .ok (.aload_n 0, 1) := by decide +kernel
theorem dL_act_258 : decode cL_act 258 = .ok (.iload_n 3, 1) := by decide +kernel
theorem dL_act_259 : decode cL_act 259 = .ok (.invokevirtual 160, 3) := by decide +kernel
theorem dL_act_262 : decode cL_act 262 = .ok (.aload 4, 2) := by decide +kernel
theorem dL_act_264 : decode cL_act 264 = .ok (.iconst 4, 1) := by decide +kernel
theorem dL_act_265 : decode cL_act 265 = .ok (.iaload, 1) := by decide +kernel
theorem dL_act_266 : decode cL_act 266 = .ok (.iconst 1, 1) := by decide +kernel
theorem dL_act_267 : decode cL_act 267 = .ok (.if_icmp .ne 7, 3) := by decide +kernel
theorem dL_act_270 : decode cL_act 270 = .ok (.iconst 1, 1) := by decide +kernel
theorem dL_act_271 : decode cL_act 271 = .ok (.goto 4, 3) := by decide +kernel
theorem dL_act_274 : decode cL_act 274 = .ok (.iconst 0, 1) := by decide +kernel
theorem dL_act_275 : decode cL_act 275 = .ok (.if_icmp .ne 7, 3) := by decide +kernel
theorem dL_act_278 : decode cL_act 278 = .ok (.iconst 1, 1) := by decide +kernel
theorem dL_act_279 : decode cL_act 279 = .ok (.goto 4, 3) := by decide +kernel
theorem dL_act_282 : decode cL_act 282 = .ok (.iconst 0, 1) := by decide +kernel
theorem dL_act_283 : decode cL_act 283 = .ok (.ireturn, 1) := by decide +kernel
theorem dL_act_284 : decode cL_act 284 = .ok (.bipush 64, 2) := by decide +kernel
theorem dL_act_286 : decode cL_act 286 = .ok (.aload 4, 2) := by decide +kernel
theorem dL_act_288 : decode cL_act 288 = .ok (.iconst 2, 1) := by decide +kernel
theorem dL_act_289 : decode cL_act 289 = .ok (.iaload, 1) := by decide +kernel
theorem dL_act_290 : decode cL_act 290 = .ok (.imul, 1) := by decide +kernel
theorem dL_act_291 : decode cL_act 291 = .ok (.aload 4, 2) := by decide +kernel
theorem dL_act_293 : decode cL_act 293 = .ok (.iconst 1, 1) := by decide +kernel
theorem dL_act_294 : decode cL_act 294 = .ok (.iaload, 1) := by decide +kernel
theorem dL_act_295 : decode cL_act 295 = .ok (.iadd, 1) := by decide +kernel
theorem dL_act_296 : decode cL_act 296 = .ok (.istore 5, 2) := by decide +kernel
theorem dL_act_298 : decode cL_act 298 = .ok (.aload 4, 2) := by decide +kernel
theorem dL_act_300 : decode cL_act 300 = .ok (.iconst 1, 1) := by decide +kernel
theorem dL_act_301 : decode cL_act 301 = .ok (.iload_n 2, 1) := by decide +kernel
theorem dL_act_302 : decode cL_act 302 = .ok (.iconst 4, 1) := by decide +kernel
theorem dL_act_303 : decode cL_act 303 = .ok (.ishr, 1) := by decide +kernel
theorem dL_act_304 : decode cL_act 304 = .ok (.bipush 64, 2) := by decide +kernel
theorem dL_act_306 : decode cL_act 306 = .ok (.invokestatic 79, 3) := by decide +kernel
theorem dL_act_309 : decode cL_act 309 = .ok (.iastore, 1) := by decide +kernel
theorem dL_act_310 : decode cL_act 310 = .ok (.aload 4, 2) := by decide +kernel
theorem dL_act_312 : decode cL_act 312 = .ok (.iconst 2, 1) := by decide +kernel
theorem dL_act_313 : decode cL_act 313 = .ok (.iload_n 2, 1) := by decide +kernel
theorem dL_act_314 : decode cL_act 314 = .ok (.bipush 6, 2) := by decide +kernel
theorem dL_act_316 : decode cL_act 316 = .ok (.ishr, 1) := by decide +kernel
theorem dL_act_317 : decode cL_act 317 = .ok (.bipush 64, 2) := by decide +kernel
theorem dL_act_319 : decode cL_act 319 = .ok (.invokestatic 79, 3) := by decide +kernel
theorem dL_act_322 : decode cL_act 322 = .ok (.iastore, 1) := by decide +kernel
theorem dL_act_323 : decode cL_act 323 = .ok (.aload_n 1, 1) := by decide +kernel
theorem dL_act_324 : decode cL_act 324 = .ok (.getfield 117, 3) := by decide +kernel
theorem dL_act_327 : decode cL_act 327 = .ok (.iload_n 3, 1) := by decide +kernel
theorem dL_act_328 : decode cL_act 328 = .ok (.iconst 0, 1) := by decide +kernel
theorem dL_act_329 : decode cL_act 329 = .ok (.newarray .int, 2) := by decide +kernel
theorem dL_act_331 : decode cL_act 331 = .ok (.aastore, 1) := by decide +kernel
theorem dL_act_332 : decode cL_act 332 = .ok (.aload_n 0, 1) := by decide +kernel
theorem dL_act_333 : decode cL_act 333 = .ok (.iload_n 3, 1) := by decide +kernel
theorem dL_act_334 : decode cL_act 334 = .ok (.aload 4, 2) := by decide +kernel
theorem dL_act_336 : decode cL_act 336 = .ok (.iconst 1, 1) := by decide +kernel
theorem dL_act_337 : decode cL_act 337 = .ok (.iaload, 1) := by decide +kernel
theorem dL_act_338 : decode cL_act 338 = .ok (.aload 4, 2) := by decide +kernel
theorem dL_act_340 : decode cL_act 340 = .ok (.iconst 2, 1) := by decide +kernel
theorem dL_act_341 : decode cL_act 341 = .ok (.iaload, 1) := by decide +kernel
theorem dL_act_342 : decode cL_act 342 = .ok (.invokevirtual 164, 3) := by decide +kernel
theorem dL_act_345 : decode cL_act 345 = .ok (.iload 5, 2) := by decide +kernel
theorem dL_act_347 : decode cL_act 347 = .ok (.if_icmp .ne 7, 3) := by decide +kernel
theorem dL_act_350 : decode cL_act 350 = .ok (.iconst 1, 1) := by decide +kernel
theorem dL_act_351 : decode cL_act 351 = .ok (.goto 4, 3) := by decide +kernel
theorem dL_act_354 : decode cL_act 354 = .ok (.iconst 0, 1) := by decide +kernel
theorem dL_act_355 : decode cL_act 355 = .ok (.ireturn, 1) := by decide +kernel
theorem dL_act_356 : decode cL_act 356 = .ok (.iconst 1, 1) := by decide +kernel
theorem dL_act_357 : decode cL_act 357 = .ok (.iload_n 2, 1) := by decide +kernel
theorem dL_act_358 : decode cL_act 358 = .ok (.iconst 4, 1) := by decide +kernel
theorem dL_act_359 : decode cL_act 359 = .ok (.ishr, 1) := by decide +kernel
theorem dL_act_360 : decode cL_act 360 = .ok (.iload_n 2, 1) := by decide +kernel
theorem dL_act_361 : decode cL_act 361 = .ok (.bipush 8, 2) := by decide +kernel
theorem dL_act_363 : decode cL_act 363 = .ok (.ishr, 1) := by decide +kernel
theorem dL_act_364 : decode cL_act 364 = .ok (.iconst 3, 1) := by decide +kernel
theorem dL_act_365 : decode cL_act 365 = .ok (.invokestatic 79, 3) := by decide +kernel
theorem dL_act_368 : decode cL_act 368 = .ok (.ifCond .ne 8, 3) := by decide +kernel
theorem dL_act_371 : decode cL_act 371 = .ok (.bipush 60, 2) := by decide +kernel
theorem dL_act_373 : decode cL_act 373 = .ok (.goto 5, 3) := by decide +kernel
theorem dL_act_376 : decode cL_act 376 = .ok (.bipush 9, 2) := by decide +kernel
theorem dL_act_378 : decode cL_act 378 = .ok (.invokestatic 79, 3) := by decide +kernel
theorem dL_act_381 : decode cL_act 381 = .ok (.iadd, 1) := by decide +kernel
theorem dL_act_382 : decode cL_act 382 = .ok (.istore 5, 2) := by decide +kernel
theorem dL_act_384 : decode cL_act 384 = .ok (.aload_n 1, 1) := by decide +kernel
theorem dL_act_385 : decode cL_act 385 = .ok (.invokevirtual 167, 3) := by decide +kernel
theorem dL_act_388 : decode cL_act 388 = .ok (.istore 6, 2) := by decide +kernel
theorem dL_act_390 : decode cL_act 390 = .ok (.iconst 0, 1) := by decide +kernel
theorem dL_act_391 : decode cL_act 391 = .ok (.istore 7, 2) := by decide +kernel
theorem dL_act_393 : decode cL_act 393 = .ok (.iload 7, 2) := by decide +kernel
theorem dL_act_395 : decode cL_act 395 = .ok (.iload 5, 2) := by decide +kernel
theorem dL_act_397 : decode cL_act 397 = .ok (.if_icmp .ge 13, 3) := by decide +kernel
theorem dL_act_400 : decode cL_act 400 = .ok (.aload_n 1, 1) := by decide +kernel
theorem dL_act_401 : decode cL_act 401 = .ok (.invokevirtual 170, 3) := by decide +kernel
theorem dL_act_404 : decode cL_act 404 = .ok (.iinc 7 1, 3) := by decide +kernel
theorem dL_act_407 : decode cL_act 407 = .ok (.goto (-14), 3) := by decide +kernel
theorem dL_act_410 : decode cL_act 410 = .ok (.aload_n 0, 1) := by decide +kernel
theorem dL_act_411 : decode cL_act 411 = .ok (.iload 5, 2) := by decide +kernel
theorem dL_act_413 : decode cL_act 413 = .ok (.invokevirtual 173, 3) := by decide +kernel
theorem dL_act_416 : decode cL_act 416 = .ok (.aload_n 1, 1) := by decide +kernel
theorem dL_act_417 : decode cL_act 417 = .ok (.invokevirtual 167, 3) := by decide +kernel
theorem dL_act_420 : decode cL_act 420 = .ok (.iload 6, 2) := by decide +kernel
theorem dL_act_422 : decode cL_act 422 = .ok (.isub, 1) := by decide +kernel
theorem dL_act_423 : decode cL_act 423 = .ok (.if_icmp .ne 7, 3) := by decide +kernel
theorem dL_act_426 : decode cL_act 426 = .ok (.iconst 1, 1) := by decide +kernel
theorem dL_act_427 : decode cL_act 427 = .ok (.goto 4, 3) := by decide +kernel
theorem dL_act_430 : decode cL_act 430 = .ok (.iconst 0, 1) := by decide +kernel
theorem dL_act_431 : decode cL_act 431 = .ok (.ireturn, 1) := by decide +kernel
