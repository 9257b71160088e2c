set_option maxRecDepth 20000 in
theorem ggL_law_J4_init_da8c8 : GoodIn wsL_law wsJ4_init_da8c8 := goodIn_2 lkL_in [(0, 16), (0, 17), (0, 18), (0, 19), (0, 20), (0, 21), (0, 22), (0, 23), (1, 0), (1, 1), (1, 2), (1, 3), (1, 4), (1, 5), (1, 6), (1, 7), (1, 8), (1, 9), (1, 10), (1, 11), (44, 0), (44, 1), (44, 2), (44, 3)] rfl (by decide +kernel)
set_option maxRecDepth 20000 in
theorem gL_law_J4_init_da8c8 : GoodIn wsL_law (wsJ4_init_da8c8) := ggL_law_J4_init_da8c8
set_option maxRecDepth 20000 in
theorem ggL_law_L_list_c1 : GoodIn wsL_law (.code yL_list cL_list 11 (some (.object "FlagAntsLaw$Sim")) :: wsL_list_r1) := goodIn_2 lkL_in [(1, 15), (1, 16), (1, 17), (1, 18), (0, 8), (1, 19), (0, 13), (1, 20), (1, 21), (1, 22), (1, 23), (2, 0), (2, 1), (0, 11), (2, 2), (0, 0), (0, 1), (0, 2), (2, 3), (2, 4), (2, 5), (2, 6), (0, 22), (0, 23), (2, 7)] rfl (by decide +kernel)
set_option maxRecDepth 20000 in
theorem ggL_law_L_list_c2 : GoodIn wsL_law wsL_list_r2 := goodIn_2 lkL_in [(2, 8), (2, 9), (2, 10), (2, 11), (2, 12), (2, 13), (2, 14), (2, 15), (1, 14), (2, 16), (2, 17), (2, 18), (2, 19), (2, 20), (2, 21), (2, 22), (2, 23), (3, 0), (3, 1), (3, 2), (3, 3), (3, 4), (3, 5), (0, 19)] rfl (by decide +kernel)
set_option maxRecDepth 20000 in
theorem ggL_law_L_list_c3 : GoodIn wsL_law wsL_list_r3 := goodIn_2 lkL_in [(3, 6), (3, 7), (3, 8), (3, 9), (3, 10), (3, 11), (3, 12), (1, 2), (3, 13), (3, 14), (3, 15), (3, 16), (3, 17), (1, 3), (3, 18), (3, 19), (3, 20), (3, 21), (3, 22), (3, 23), (4, 0), (4, 1), (4, 2), (4, 3)] rfl (by decide +kernel)
set_option maxRecDepth 20000 in
theorem ggL_law_L_list_c4 : GoodIn wsL_law wsL_list_r4 := goodIn_2 lkL_in [(4, 4), (4, 5), (4, 6), (4, 7), (4, 8), (4, 9), (4, 10), (4, 11), (4, 12), (4, 13), (4, 14), (4, 15), (4, 16), (4, 17), (4, 18), (4, 19), (4, 20), (1, 1), (4, 21), (4, 22), (4, 23), (5, 0), (5, 1), (5, 2)] rfl (by decide +kernel)
set_option maxRecDepth 20000 in
theorem ggL_law_L_list_c5 : GoodIn wsL_law wsL_list_r5 := goodIn_2 lkL_in [(5, 3), (5, 4), (5, 5), (5, 6), (1, 0), (5, 7), (5, 8), (1, 6), (5, 9), (5, 10), (5, 11), (5, 12), (5, 13), (5, 14), (5, 15), (5, 16), (5, 17), (5, 18), (5, 19), (5, 20), (5, 21), (5, 22), (5, 23), (6, 0)] rfl (by decide +kernel)
set_option maxRecDepth 20000 in
theorem ggL_law_L_list_c6 : GoodIn wsL_law wsL_list_r6 := goodIn_2 lkL_in [(6, 1), (6, 2), (6, 3), (6, 4), (6, 5), (6, 6), (6, 7), (6, 8), (6, 9), (6, 10), (6, 11), (6, 12), (6, 13), (6, 14), (6, 15), (6, 16), (6, 17), (6, 18), (6, 19), (6, 20), (6, 21), (6, 22), (6, 23), (7, 0)] rfl (by decide +kernel)
set_option maxRecDepth 20000 in
theorem ggL_law_L_list_c7 : GoodIn wsL_law wsL_list_r7 := goodIn_2 lkL_in [(7, 1), (7, 2), (7, 3), (7, 4), (7, 5), (7, 6), (7, 7), (7, 8), (7, 9), (1, 4), (1, 5), (1, 7), (1, 8), (1, 9), (1, 10), (1, 11), (7, 10), (7, 11), (7, 12), (7, 13), (7, 14), (7, 15), (7, 16), (7, 17)] rfl (by decide +kernel)
set_option maxRecDepth 20000 in
theorem ggL_law_L_list_c8 : GoodIn wsL_law wsL_list_r8 := goodIn_2 lkL_in [(7, 18), (7, 19), (7, 20), (7, 21), (7, 22), (7, 23), (8, 0), (8, 1), (8, 2), (8, 3), (8, 4), (8, 5), (8, 6), (8, 7), (8, 8), (8, 9), (8, 10), (8, 11), (8, 12), (8, 13), (8, 14), (8, 15), (8, 16), (8, 17)] rfl (by decide +kernel)
set_option maxRecDepth 20000 in
theorem ggL_law_L_list_c9 : GoodIn wsL_law wsL_list_r9 := goodIn_2 lkL_in [(8, 18), (8, 19), (8, 20), (8, 21), (8, 22), (8, 23), (9, 0), (9, 1), (9, 2), (9, 3), (9, 4), (9, 5), (9, 6), (9, 7), (9, 8), (9, 9), (9, 10), (9, 11), (0, 14), (0, 15), (0, 16), (0, 17), (0, 18), (0, 20)] rfl (by decide +kernel)
set_option maxRecDepth 20000 in
theorem ggL_law_L_list_c10 : GoodIn wsL_law wsL_list_r10 := goodIn_2 lkL_in [(0, 21), (9, 12), (9, 13), (9, 14), (9, 15), (9, 16), (9, 17), (9, 18), (9, 19), (9, 20), (9, 21), (9, 22), (9, 23), (10, 0), (10, 1), (10, 2), (10, 3), (10, 4), (10, 5), (10, 6), (10, 7), (10, 8), (10, 9), (10, 10)] rfl (by decide +kernel)
set_option maxRecDepth 20000 in
theorem ggL_law_L_list_c11 : GoodIn wsL_law wsL_list_r11 := goodIn_2 lkL_in [(10, 11), (10, 12), (10, 13), (10, 14), (10, 15), (10, 16), (10, 17), (10, 18), (10, 19), (10, 20), (10, 21), (10, 22), (10, 23), (11, 0), (11, 1), (11, 2), (11, 3), (11, 4), (11, 5), (11, 6), (11, 7), (11, 8), (11, 9), (11, 10)] rfl (by decide +kernel)
set_option maxRecDepth 20000 in
theorem ggL_law_L_list_c12 : GoodIn wsL_law wsL_list_r12 := goodIn_2 lkL_in [(11, 11), (11, 12), (11, 13), (11, 14), (11, 15), (11, 16), (11, 17)] rfl (by decide +kernel)
set_option maxRecDepth 20000 in
theorem ggL_law_L_list_c13 : GoodIn wsL_law wsX100 := goodIn_2 lkL_in [(46, 0), (46, 1), (46, 2), (46, 3), (46, 4), (46, 5), (46, 6), (46, 7), (46, 8)] rfl (by decide +kernel)
set_option maxRecDepth 20000 in
theorem ggL_law_L_list_c14 : GoodIn wsL_law wsJ40 := goodIn_2 lkL_in [(44, 0), (44, 1), (44, 2), (44, 3)] rfl (by decide +kernel)
set_option maxRecDepth 20000 in
theorem ggL_law_L_list_c15 : GoodIn wsL_law wsJ00 := goodIn_2 lkL_in [(47, 0), (47, 1), (47, 2), (47, 3)] rfl (by decide +kernel)
set_option maxRecDepth 20000 in
theorem ggL_law_L_list : GoodIn wsL_law wsL_list := (goodIn_ca (goodIn_ca (goodIn_ca (goodIn_ca ggL_law_L_list_c1 (goodIn_app ggL_law_L_list_c2 (goodIn_app ggL_law_L_list_c3 (goodIn_app ggL_law_L_list_c4 (goodIn_app ggL_law_L_list_c5 (goodIn_app ggL_law_L_list_c6 (goodIn_app ggL_law_L_list_c7 (goodIn_app ggL_law_L_list_c8 (goodIn_app ggL_law_L_list_c9 (goodIn_app ggL_law_L_list_c10 (goodIn_app ggL_law_L_list_c11 ggL_law_L_list_c12))))))))))) ggL_law_L_list_c13) ggL_law_L_list_c14) ggL_law_L_list_c15)
set_option maxRecDepth 20000 in
theorem gL_law_L_list : GoodIn wsL_law (va_wsS RL 176 yL_list wsL_list) := goodIn_app (goodIn_of _ (by decide +kernel)) ggL_law_L_list
set_option maxRecDepth 20000 in
theorem ggL_law_X9_init_c1 : GoodIn wsL_law (.code yX9_init cX9_init 1 none :: wsX9_init_r1) := goodIn_2 lkL_in [(11, 20), (11, 21), (0, 22), (0, 23), (11, 22), (11, 23), (12, 0), (12, 1), (12, 2), (12, 3), (12, 4), (12, 5), (12, 6), (12, 7), (12, 8), (12, 9), (12, 10), (12, 11), (12, 12), (12, 13), (12, 14), (12, 15), (12, 16), (12, 17), (12, 18)] rfl (by decide +kernel)
set_option maxRecDepth 20000 in
theorem ggL_law_X9_init_c2 : GoodIn wsL_law wsX9_init_r2 := goodIn_2 lkL_in [(12, 19), (12, 20), (12, 21), (12, 22), (0, 8), (12, 23), (13, 0), (13, 1), (13, 2), (13, 3), (13, 4), (13, 5), (13, 6), (13, 7), (13, 8), (13, 9), (13, 10), (13, 11), (13, 12), (13, 13), (13, 14), (13, 15), (13, 16), (13, 17)] rfl (by decide +kernel)
set_option maxRecDepth 20000 in
theorem ggL_law_X9_init_c3 : GoodIn wsL_law wsX9_init_r3 := goodIn_2 lkL_in [(13, 18), (13, 19), (13, 20), (13, 21), (13, 22), (13, 23), (14, 0), (14, 1), (14, 2), (14, 3), (14, 4), (14, 5), (14, 6), (14, 7), (14, 8), (14, 9), (14, 10), (14, 11), (14, 12), (14, 13), (14, 14), (14, 15), (14, 16), (14, 17)] rfl (by decide +kernel)
set_option maxRecDepth 20000 in
theorem ggL_law_X9_init_c4 : GoodIn wsL_law wsX9_init_r4 := goodIn_2 lkL_in [(14, 18), (14, 19), (14, 20), (14, 21), (14, 22), (14, 23), (15, 0), (15, 1), (15, 2), (15, 3), (15, 4), (15, 5), (6, 8), (6, 9), (5, 19), (6, 10), (6, 11), (6, 12), (6, 13), (6, 14), (6, 15), (6, 16), (6, 17), (15, 6)] rfl (by decide +kernel)
set_option maxRecDepth 20000 in
theorem ggL_law_X9_init_c5 : GoodIn wsL_law wsX9_init_r5 := goodIn_2 lkL_in [(15, 7), (15, 8), (15, 9), (15, 10), (15, 11), (15, 12), (15, 13), (15, 14), (15, 15), (7, 12), (15, 16), (15, 17), (15, 18), (15, 19), (5, 21), (15, 20), (15, 21), (6, 0), (15, 22), (15, 23), (16, 0), (1, 6), (16, 1), (16, 2)] rfl (by decide +kernel)
set_option maxRecDepth 20000 in
theorem ggL_law_X9_init_c6 : GoodIn wsL_law wsX9_init_r6 := goodIn_2 lkL_in [(16, 3), (16, 4), (5, 14), (5, 15), (5, 16), (16, 5), (11, 8), (11, 9), (11, 10), (5, 10), (6, 5), (6, 6), (16, 6), (16, 7), (16, 8), (16, 9), (16, 10), (16, 11), (16, 12), (16, 13), (16, 14), (16, 15), (16, 16), (16, 17)] rfl (by decide +kernel)
set_option maxRecDepth 20000 in
theorem ggL_law_X9_init_c7 : GoodIn wsL_law wsX9_init_r7 := goodIn_2 lkL_in [(16, 18), (16, 19), (16, 20), (16, 21), (16, 22), (16, 23), (17, 0), (17, 1)] rfl (by decide +kernel)
set_option maxRecDepth 20000 in
theorem ggL_law_X9_init_c8 : GoodIn wsL_law wsX60 := goodIn_2 lkL_in [(48, 0), (48, 1)] rfl (by decide +kernel)
set_option maxRecDepth 20000 in
theorem ggL_law_X9_init_c9 : GoodIn wsL_law wsX90 := goodIn_2 lkL_in [(45, 0), (45, 1), (45, 2), (45, 3), (45, 4), (45, 5), (45, 6)] rfl (by decide +kernel)
set_option maxRecDepth 20000 in
theorem ggL_law_X9_init_c10 : GoodIn wsL_law wsX30 := goodIn_2 lkL_in [(49, 0), (49, 1), (49, 2), (49, 3), (49, 4), (49, 5), (49, 6), (49, 7), (49, 8), (49, 9), (49, 10)] rfl (by decide +kernel)
set_option maxRecDepth 20000 in
theorem ggL_law_X9_init_c11 : GoodIn wsL_law wsX80 := goodIn_2 lkL_in [(50, 0), (50, 1), (50, 2), (50, 3), (50, 4), (50, 5), (50, 6), (50, 7), (50, 8)] rfl (by decide +kernel)
set_option maxRecDepth 20000 in
theorem ggL_law_X9_init_c12 : GoodIn wsL_law wsX20 := goodIn_2 lkL_in [(51, 0), (51, 1), (51, 2), (51, 3), (51, 4), (51, 5), (51, 6), (51, 7)] rfl (by decide +kernel)
set_option maxRecDepth 20000 in
theorem ggL_law_X9_init_c13 : GoodIn wsL_law wsX50 := goodIn_2 lkL_in [(52, 0), (52, 1)] rfl (by decide +kernel)
set_option maxRecDepth 20000 in
theorem ggL_law_X9_init_c14 : GoodIn wsL_law wsX00 := goodIn_2 lkL_in [(53, 0), (53, 1), (53, 2), (53, 3), (53, 4), (53, 5), (53, 6), (53, 7), (53, 8)] rfl (by decide +kernel)
set_option maxRecDepth 20000 in
theorem ggL_law_X9_init_c15 : GoodIn wsL_law wsX70 := goodIn_2 lkL_in [(54, 0), (54, 1), (54, 2), (54, 3), (54, 4), (54, 5)] rfl (by decide +kernel)
set_option maxRecDepth 20000 in
theorem ggL_law_X9_init_c16 : GoodIn wsL_law wsJ00 := goodIn_2 lkL_in [(47, 0), (47, 1), (47, 2), (47, 3)] rfl (by decide +kernel)
set_option maxRecDepth 20000 in
theorem ggL_law_X9_init_c17 : GoodIn wsL_law wsX40 := goodIn_2 lkL_in [(55, 0), (55, 1)] rfl (by decide +kernel)
set_option maxRecDepth 20000 in
theorem ggL_law_X9_init : GoodIn wsL_law wsX9_init := (goodIn_ca (goodIn_ca (goodIn_ca (goodIn_ca (goodIn_ca (goodIn_ca (goodIn_ca (goodIn_ca (goodIn_ca (goodIn_ca (goodIn_ca ggL_law_X9_init_c1 (goodIn_app ggL_law_X9_init_c2 (goodIn_app ggL_law_X9_init_c3 (goodIn_app ggL_law_X9_init_c4 (goodIn_app ggL_law_X9_init_c5 (goodIn_app ggL_law_X9_init_c6 ggL_law_X9_init_c7)))))) ggL_law_X9_init_c8) ggL_law_X9_init_c9) ggL_law_X9_init_c10) ggL_law_X9_init_c11) ggL_law_X9_init_c12) ggL_law_X9_init_c13) ggL_law_X9_init_c14) ggL_law_X9_init_c15) ggL_law_X9_init_c16) ggL_law_X9_init_c17)
set_option maxRecDepth 20000 in
theorem gL_law_X9_init : GoodIn wsL_law (wsX9_init) := ggL_law_X9_init
set_option maxRecDepth 20000 in
theorem ggL_law_J4_toString_0e30d_c1 : GoodIn wsL_law (.code yJ4_toString_0e30d cJ4_toString_0e30d 1 (some (.object "java/lang/String")) :: wsJ4_toString_0e30d_r1) := goodIn_2 lkL_in [(9, 15), (9, 16), (9, 17), (5, 19), (9, 18), (9, 19), (9, 20), (9, 21), (9, 22), (9, 23), (10, 0), (0, 22), (0, 23), (6, 17), (6, 11), (6, 16), (10, 1), (10, 2), (10, 3), (10, 4), (10, 5), (0, 19), (10, 6), (1, 2), (10, 7)] rfl (by decide +kernel)
set_option maxRecDepth 20000 in
theorem ggL_law_J4_toString_0e30d_c2 : GoodIn wsL_law wsJ4_toString_0e30d_r2 := goodIn_2 lkL_in [(10, 8), (10, 9), (10, 10), (10, 11), (0, 2), (10, 12), (10, 13), (3, 4), (10, 14), (10, 15), (3, 7), (10, 16), (5, 3), (5, 4), (5, 5), (5, 6), (1, 0), (1, 3), (10, 17), (10, 18), (4, 13), (10, 19), (4, 15), (4, 16)] rfl (by decide +kernel)
set_option maxRecDepth 20000 in
theorem ggL_law_J4_toString_0e30d_c3 : GoodIn wsL_law wsJ4_toString_0e30d_r3 := goodIn_2 lkL_in [(4, 17), (4, 18), (4, 19), (4, 20), (10, 20), (10, 21), (10, 22), (1, 1), (4, 21), (2, 1), (0, 11), (2, 2), (4, 22), (4, 23), (5, 0), (5, 1), (10, 23), (11, 0), (11, 1), (11, 2), (11, 3), (1, 6), (11, 4), (11, 5)] rfl (by decide +kernel)
set_option maxRecDepth 20000 in
theorem ggL_law_J4_toString_0e30d_c4 : GoodIn wsL_law wsJ4_toString_0e30d_r4 := goodIn_2 lkL_in [(11, 6), (11, 7), (7, 17), (7, 18), (7, 19), (5, 14), (5, 15), (5, 16), (7, 20), (7, 21), (7, 22), (5, 21), (7, 23), (8, 0), (6, 0), (8, 1), (11, 8), (11, 9), (11, 10), (5, 10), (6, 5), (6, 6), (1, 8), (1, 9)] rfl (by decide +kernel)
set_option maxRecDepth 20000 in
theorem ggL_law_J4_toString_0e30d_c5 : GoodIn wsL_law wsJ4_toString_0e30d_r5 := goodIn_2 lkL_in [(1, 10), (1, 11), (11, 11), (11, 12), (11, 13), (11, 14)] rfl (by decide +kernel)
set_option maxRecDepth 20000 in
theorem ggL_law_J4_toString_0e30d_c6 : GoodIn wsL_law wsJ00 := goodIn_2 lkL_in [(47, 0), (47, 1), (47, 2), (47, 3)] rfl (by decide +kernel)
set_option maxRecDepth 20000 in
theorem ggL_law_J4_toString_0e30d_c7 : GoodIn wsL_law wsJ40 := goodIn_2 lkL_in [(44, 0), (44, 1), (44, 2), (44, 3)] rfl (by decide +kernel)
set_option maxRecDepth 20000 in
theorem ggL_law_J4_toString_0e30d : GoodIn wsL_law wsJ4_toString_0e30d := (goodIn_ca (goodIn_ca (goodIn_ca ggL_law_J4_toString_0e30d_c1 (goodIn_app ggL_law_J4_toString_0e30d_c2 (goodIn_app ggL_law_J4_toString_0e30d_c3 (goodIn_app ggL_law_J4_toString_0e30d_c4 ggL_law_J4_toString_0e30d_c5)))) ggL_law_J4_toString_0e30d_c6) ggL_law_J4_toString_0e30d_c7)
set_option maxRecDepth 20000 in
theorem gL_law_J4_toString_0e30d : GoodIn wsL_law (wsV RL 44 RJ4 yJ4_toString_0e30d wsJ4_toString_0e30d) := goodIn_app (goodIn_of _ (by decide +kernel)) ggL_law_J4_toString_0e30d
set_option maxRecDepth 20000 in
theorem ggL_law_L_taught : GoodIn wsL_law wsL_taught := goodIn_ca (goodIn_ca (goodIn_2 lkL_in [(17, 4), (0, 8), (17, 5), (17, 6), (17, 7), (0, 5), (17, 8), (17, 9), (17, 10), (12, 1), (17, 11), (17, 12), (6, 8), (6, 9), (5, 19), (6, 10), (6, 11), (6, 12), (6, 13), (6, 14), (6, 15), (6, 16), (6, 17), (17, 13), (15, 7), (15, 8), (15, 9), (15, 10), (15, 11), (15, 12), (15, 13), (15, 14), (15, 15), (7, 12), (15, 16), (15, 17), (15, 18), (15, 19), (5, 21), (15, 20), (15, 21), (6, 0), (15, 22), (15, 23), (16, 0), (1, 6), (16, 1), (16, 2), (16, 3), (16, 4), (5, 14), (5, 15), (5, 16), (16, 5), (11, 8), (11, 9), (11, 10), (5, 10), (6, 5), (6, 6), (17, 14), (17, 15), (17, 16), (17, 17), (17, 18), (17, 19), (17, 20), (17, 21), (17, 22), (12, 0), (17, 23), (18, 0), (18, 1), (18, 2), (18, 3), (18, 4), (12, 23), (18, 5), (18, 6), (18, 7), (18, 8), (18, 9), (12, 14), (18, 10), (12, 19), (12, 5), (18, 11), (12, 9), (12, 10), (18, 12), (18, 13), (18, 14), (12, 13), (18, 15), (14, 12), (14, 14), (14, 15), (18, 16), (18, 17), (18, 18), (18, 19), (18, 20), (14, 11), (18, 21), (18, 22), (15, 0), (18, 23), (19, 0), (19, 1), (19, 2), (19, 3), (19, 4), (19, 5), (19, 6), (19, 7), (19, 8), (19, 9), (19, 10), (19, 11), (19, 12), (19, 13), (19, 14), (19, 15), (19, 16), (19, 17), (19, 18), (19, 19), (16, 10), (16, 11), (16, 12), (16, 6), (16, 7), (16, 8), (16, 9), (19, 20), (19, 21), (19, 22), (19, 23), (14, 20), (20, 0), (20, 1), (20, 2), (20, 3), (14, 21), (14, 22), (14, 23), (20, 4), (20, 5), (20, 6), (20, 7), (20, 8), (20, 9), (20, 10), (20, 11), (20, 12), (20, 13), (20, 14), (20, 15), (20, 16), (20, 17), (20, 18), (20, 19), (20, 20), (12, 4), (20, 21), (20, 22), (20, 23), (21, 0), (21, 1), (21, 2), (21, 3), (12, 8), (21, 4), (13, 15), (13, 16), (13, 17), (21, 5), (21, 6), (21, 7), (21, 8), (21, 9), (21, 10), (21, 11), (21, 12), (21, 13), (21, 14), (21, 15), (21, 16), (21, 17), (21, 18), (21, 19), (21, 20), (21, 21), (21, 22), (21, 23), (22, 0), (22, 1), (22, 2), (22, 3), (22, 4), (22, 5), (22, 6), (22, 7), (22, 8), (14, 7), (22, 9), (22, 10), (22, 11), (22, 12), (22, 13), (22, 14), (22, 15), (22, 16), (22, 17), (22, 18), (22, 19), (22, 20), (22, 21), (22, 22), (13, 3), (22, 23), (23, 0), (23, 1), (23, 2), (13, 4), (23, 3), (23, 4), (23, 5), (23, 6), (23, 7), (23, 8), (23, 9), (23, 10), (23, 11), (14, 8), (23, 12), (23, 13), (23, 14), (23, 15), (23, 16), (13, 19), (23, 17), (23, 18), (23, 19), (13, 21), (23, 20), (23, 21), (23, 22), (23, 23), (24, 0), (24, 1), (24, 2), (24, 3), (24, 4), (24, 5), (24, 6), (24, 7), (24, 8), (24, 9), (24, 10), (24, 11), (24, 12), (24, 13), (24, 14), (24, 15), (24, 16), (24, 17), (24, 18), (24, 19), (24, 20), (24, 21), (24, 22), (24, 23), (25, 0), (25, 1), (25, 2), (25, 3), (25, 4), (25, 5), (25, 6), (25, 7), (25, 8), (25, 9), (25, 10), (25, 11), (25, 12), (25, 13), (25, 14), (25, 15), (25, 16), (25, 17), (25, 18), (25, 19), (25, 20), (25, 21), (25, 22), (25, 23), (26, 0), (26, 1), (26, 2), (26, 3), (26, 4), (26, 5), (26, 6), (26, 7), (26, 8), (26, 9), (26, 10), (26, 11), (26, 12), (26, 13), (26, 14), (26, 15), (26, 16), (26, 17), (26, 18), (13, 5), (13, 6), (13, 7), (13, 8), (26, 19), (26, 20), (26, 21), (26, 22), (26, 23), (27, 0), (27, 1), (27, 2), (27, 3), (27, 4), (27, 5), (27, 6), (27, 7), (27, 8), (27, 9), (13, 9), (13, 10), (27, 10), (27, 11), (27, 12), (27, 13), (27, 14), (27, 15), (27, 16), (27, 17), (27, 18), (27, 19), (27, 20), (27, 21), (27, 22), (27, 23), (28, 0), (28, 1), (28, 2), (28, 3), (28, 4), (28, 5), (28, 6), (28, 7), (28, 8), (28, 9), (28, 10), (28, 11), (28, 12), (28, 13), (28, 14), (28, 15), (28, 16), (28, 17), (28, 18), (28, 19), (28, 20), (28, 21), (28, 22), (28, 23), (29, 0), (29, 1), (29, 2), (29, 3), (29, 4), (29, 5), (29, 6), (29, 7), (29, 8), (29, 9), (29, 10), (29, 11), (29, 12), (29, 13), (29, 14), (29, 15), (29, 16), (29, 17), (29, 18), (4, 23), (5, 0), (5, 1), (29, 19), (29, 20), (29, 21), (29, 22), (29, 23), (30, 0), (30, 1), (30, 2), (30, 3), (14, 1), (30, 4), (45, 0), (45, 1), (45, 2), (45, 3), (45, 4), (45, 5), (45, 6), (48, 0), (48, 1), (47, 0), (47, 1), (47, 2), (47, 3), (51, 0), (51, 1), (51, 2), (51, 3), (51, 4), (51, 5), (51, 6), (51, 7), (54, 0), (54, 1), (54, 2), (54, 3), (54, 4), (54, 5), (49, 0), (49, 1), (49, 2), (49, 3), (49, 4), (49, 5), (49, 6), (49, 7), (49, 8), (49, 9), (49, 10), (50, 0), (50, 1), (50, 2), (50, 3), (50, 4), (50, 5), (50, 6), (50, 7), (50, 8), (53, 0), (53, 1), (53, 2), (53, 3), (53, 4), (53, 5), (53, 6), (53, 7), (53, 8)] rfl (by decide +kernel)) (goodIn_sub (fun _ h => List.mem_append_left _ (List.mem_append_left _ (List.mem_append_right _ h))) (by decide +kernel))) (goodIn_sub (fun _ h => List.mem_append_left _ (List.mem_append_right _ h)) (by decide +kernel))
set_option maxRecDepth 20000 in
theorem gL_law_L_taught : GoodIn wsL_law (va_wsS RL 181 yL_taught wsL_taught) := goodIn_app (goodIn_of _ (by decide +kernel)) ggL_law_L_taught
set_option maxRecDepth 20000 in
theorem ggL_law_X9_count : GoodIn wsL_law wsX9_count := goodIn_ca (goodIn_2 lkL_in [(30, 8), (30, 9), (30, 10), (12, 9), (30, 11), (12, 5), (30, 12), (30, 13), (30, 14), (12, 1), (17, 11), (30, 15), (30, 16), (30, 17), (12, 8), (30, 18), (21, 7), (21, 8), (21, 9), (30, 19), (30, 20), (30, 21), (30, 22), (13, 17), (30, 23), (31, 0), (31, 1), (31, 2), (31, 3), (31, 4), (31, 5), (31, 6), (21, 5), (13, 19), (31, 7), (45, 0), (45, 1), (45, 2), (45, 3), (45, 4), (45, 5), (45, 6), (50, 0), (50, 1), (50, 2), (50, 3), (50, 4), (50, 5), (50, 6), (50, 7), (50, 8), (49, 0), (49, 1), (49, 2), (49, 3), (49, 4), (49, 5), (49, 6), (49, 7), (49, 8), (49, 9), (49, 10), (48, 0), (48, 1), (53, 0), (53, 1), (53, 2), (53, 3), (53, 4), (53, 5), (53, 6), (53, 7), (53, 8)] rfl (by decide +kernel)) (goodIn_sub (fun _ h => List.mem_append_right _ h) (by decide +kernel))
set_option maxRecDepth 20000 in
theorem gL_law_X9_count : GoodIn wsL_law (wsV RL 185 RX9 yX9_count wsX9_count) := goodIn_app (goodIn_of _ (by decide +kernel)) ggL_law_X9_count
set_option maxRecDepth 20000 in
theorem ggL_law_L_cell : GoodIn wsL_law wsL_cell := goodIn_2 lkL_in [(2, 16), (2, 17)] rfl (by decide +kernel)
set_option maxRecDepth 20000 in
theorem gL_law_L_cell : GoodIn wsL_law (va_wsS RL 73 yL_cell wsL_cell) := goodIn_app (goodIn_of _ (by decide +kernel)) ggL_law_L_cell
set_option maxRecDepth 20000 in
theorem ggL_law_L_act : GoodIn wsL_law wsL_act := goodIn_ca (goodIn_ca (goodIn_2 lkL_in [(31, 10), (1, 21), (1, 23), (2, 0), (2, 1), (0, 11), (2, 2), (1, 22), (0, 8), (2, 18), (2, 19), (1, 14), (2, 20), (2, 21), (31, 11), (31, 12), (31, 13), (0, 5), (31, 14), (30, 9), (30, 10), (17, 9), (17, 10), (12, 9), (31, 15), (31, 16), (31, 17), (31, 18), (31, 19), (31, 20), (31, 21), (26, 5), (26, 6), (31, 22), (26, 2), (26, 3), (12, 8), (26, 4), (13, 15), (31, 23), (25, 22), (25, 23), (26, 0), (13, 17), (13, 16), (26, 1), (32, 0), (32, 1), (32, 2), (32, 3), (32, 4), (32, 5), (32, 6), (32, 7), (32, 8), (4, 5), (4, 6), (21, 8), (30, 19), (30, 20), (30, 21), (30, 22), (32, 9), (32, 10), (32, 11), (32, 12), (32, 13), (32, 14), (32, 15), (32, 16), (1, 18), (32, 17), (2, 10), (32, 18), (32, 19), (32, 20), (32, 21), (32, 22), (32, 23), (33, 0), (33, 1), (33, 2), (33, 3), (33, 4), (33, 5), (33, 6), (33, 7), (33, 8), (30, 13), (33, 9), (25, 14), (25, 15), (13, 21), (25, 16), (24, 0), (24, 3), (24, 4), (24, 5), (24, 6), (24, 7), (24, 8), (33, 10), (33, 11), (33, 12), (33, 13), (33, 14), (33, 15), (33, 16), (33, 17), (33, 18), (33, 19), (33, 20), (33, 21), (33, 22), (23, 23), (23, 22), (33, 23), (25, 2), (25, 3), (25, 4), (34, 0), (34, 1), (34, 2), (34, 3), (34, 4), (34, 5), (34, 6), (34, 7), (2, 13), (34, 8), (2, 11), (2, 8), (2, 12), (34, 9), (4, 23), (5, 0), (5, 1), (34, 10), (34, 11), (34, 12), (34, 13), (34, 14), (34, 15), (34, 16), (34, 17), (34, 18), (34, 19), (34, 20), (34, 21), (34, 22), (34, 23), (35, 0), (35, 1), (35, 2), (35, 3), (35, 4), (35, 5), (35, 6), (35, 7), (35, 8), (35, 9), (35, 10), (35, 11), (35, 12), (35, 13), (35, 14), (35, 15), (35, 16), (35, 17), (12, 18), (35, 18), (35, 19), (35, 20), (35, 21), (12, 17), (35, 22), (35, 23), (36, 0), (36, 1), (36, 2), (16, 21), (36, 3), (16, 20), (36, 4), (36, 5), (36, 6), (36, 7), (36, 8), (36, 9), (36, 10), (36, 11), (16, 19), (36, 12), (36, 13), (36, 14), (36, 15), (36, 16), (36, 17), (36, 18), (36, 19), (36, 20), (36, 21), (36, 22), (36, 23), (37, 0), (37, 1), (17, 1), (37, 2), (37, 3), (37, 4), (37, 5), (37, 6), (37, 7), (37, 8), (37, 9), (37, 10), (37, 11), (37, 12), (37, 13), (37, 14), (21, 5), (37, 15), (37, 16), (37, 17), (37, 18), (37, 19), (37, 20), (37, 21), (37, 22), (37, 23), (38, 0), (38, 1), (38, 2), (38, 3), (38, 4), (38, 5), (38, 6), (38, 7), (14, 1), (38, 8), (38, 9), (38, 10), (38, 11), (38, 12), (38, 13), (38, 14), (38, 15), (13, 19), (38, 16), (38, 17), (38, 18), (38, 19), (38, 20), (38, 21), (38, 22), (38, 23), (39, 0), (39, 1), (39, 2), (39, 3), (39, 4), (39, 5), (39, 6), (39, 7), (39, 8), (39, 9), (39, 10), (39, 11), (39, 12), (39, 13), (39, 14), (39, 15), (39, 16), (39, 17), (39, 18), (39, 19), (39, 20), (39, 21), (12, 4), (39, 22), (20, 22), (13, 4), (39, 23), (40, 0), (40, 1), (40, 2), (13, 3), (40, 3), (40, 4), (40, 5), (40, 6), (40, 7), (40, 8), (40, 9), (24, 2), (40, 10), (40, 11), (40, 12), (40, 13), (21, 7), (46, 0), (46, 1), (46, 2), (46, 3), (46, 4), (46, 5), (46, 6), (46, 7), (46, 8), (45, 0), (45, 1), (45, 2), (45, 3), (45, 4), (45, 5), (45, 6), (50, 0), (50, 1), (50, 2), (50, 3), (50, 4), (50, 5), (50, 6), (50, 7), (50, 8), (53, 0), (53, 1), (53, 2), (53, 3), (53, 4), (53, 5), (53, 6), (53, 7), (53, 8), (52, 0), (52, 1), (49, 0), (49, 1), (49, 2), (49, 3), (49, 4), (49, 5), (49, 6), (49, 7), (49, 8), (49, 9), (49, 10), (55, 0), (55, 1)] rfl (by decide +kernel)) (goodIn_sub (fun _ h => List.mem_append_right _ h) (by decide +kernel))) (goodIn_sub (fun _ h => List.mem_append_left _ (List.mem_append_left _ (List.mem_append_right _ h))) (by decide +kernel))
set_option maxRecDepth 20000 in
theorem gL_law_L_act : GoodIn wsL_law (va_wsS RL 188 yL_act wsL_act) := goodIn_app (goodIn_of _ (by decide +kernel)) ggL_law_L_act
set_option maxRecDepth 20000 in
theorem ggL_law_X9_digest : GoodIn wsL_law wsX9_digest := goodIn_ca (goodIn_2 lkL_in [(40, 17), (40, 18), (40, 19), (12, 5), (30, 12), (12, 9), (30, 13), (33, 3), (40, 20), (30, 6), (30, 7), (0, 5), (30, 8), (30, 9), (30, 10), (30, 11), (30, 14), (12, 1), (17, 11), (30, 15), (30, 16), (30, 17), (12, 8), (30, 18), (21, 7), (21, 8), (21, 9), (30, 19), (30, 20), (30, 21), (30, 22), (13, 17), (30, 23), (31, 0), (31, 1), (31, 2), (31, 3), (31, 4), (31, 5), (31, 6), (21, 5), (13, 19), (31, 7), (40, 21), (39, 20), (39, 21), (12, 4), (39, 22), (20, 22), (13, 4), (39, 23), (40, 0), (40, 1), (40, 2), (13, 3), (40, 22), (40, 23), (41, 0), (13, 21), (41, 1), (23, 21), (23, 22), (23, 23), (24, 0), (24, 1), (24, 2), (41, 2), (37, 23), (38, 0), (38, 1), (24, 8), (24, 7), (38, 2), (38, 3), (38, 4), (38, 5), (38, 6), (38, 7), (14, 1), (38, 8), (38, 9), (38, 10), (38, 11), (41, 3), (41, 4), (41, 5), (41, 6), (41, 7), (41, 8), (41, 9), (41, 10), (31, 22), (26, 2), (26, 3), (26, 4), (13, 15), (45, 0), (45, 1), (45, 2), (45, 3), (45, 4), (45, 5), (45, 6), (49, 0), (49, 1), (49, 2), (49, 3), (49, 4), (49, 5), (49, 6), (49, 7), (49, 8), (49, 9), (49, 10), (50, 0), (50, 1), (50, 2), (50, 3), (50, 4), (50, 5), (50, 6), (50, 7), (50, 8), (48, 0), (48, 1), (53, 0), (53, 1), (53, 2), (53, 3), (53, 4), (53, 5), (53, 6), (53, 7), (53, 8)] rfl (by decide +kernel)) (goodIn_sub (fun _ h => List.mem_append_right _ h) (by decide +kernel))
set_option maxRecDepth 20000 in
theorem gL_law_X9_digest : GoodIn wsL_law (wsV RL 192 RX9 yX9_digest wsX9_digest) := goodIn_app (goodIn_of _ (by decide +kernel)) ggL_law_X9_digest
set_option maxRecDepth 20000 in
theorem ggL_law_X9_colour : GoodIn wsL_law wsX9_colour := goodIn_ca (goodIn_2 lkL_in [(41, 14), (30, 9), (30, 10), (12, 9), (41, 15), (31, 21), (26, 5), (0, 5), (26, 6), (45, 0), (45, 1), (45, 2), (45, 3), (45, 4), (45, 5), (45, 6), (50, 0), (50, 1), (50, 2), (50, 3), (50, 4), (50, 5), (50, 6), (50, 7), (50, 8)] rfl (by decide +kernel)) (goodIn_sub (fun _ h => List.mem_append_right _ h) (by decide +kernel))
set_option maxRecDepth 20000 in
theorem gL_law_X9_colour : GoodIn wsL_law (wsV RL 196 RX9 yX9_colour wsX9_colour) := goodIn_app (goodIn_of _ (by decide +kernel)) ggL_law_X9_colour
set_option maxRecDepth 20000 in
theorem ggL_law_X9_row : GoodIn wsL_law wsX9_row := goodIn_ca (goodIn_2 lkL_in [(41, 19), (30, 9), (30, 10), (12, 9), (41, 20), (31, 18), (31, 19), (0, 5), (31, 20), (45, 0), (45, 1), (45, 2), (45, 3), (45, 4), (45, 5), (45, 6), (50, 0), (50, 1), (50, 2), (50, 3), (50, 4), (50, 5), (50, 6), (50, 7), (50, 8)] rfl (by decide +kernel)) (goodIn_sub (fun _ h => List.mem_append_right _ h) (by decide +kernel))
set_option maxRecDepth 20000 in
theorem gL_law_X9_row : GoodIn wsL_law (wsV RL 199 RX9 yX9_row wsX9_row) := goodIn_app (goodIn_of _ (by decide +kernel)) ggL_law_X9_row
set_option maxRecDepth 20000 in
theorem ggL_law_X9_mean : GoodIn wsL_law wsX9_mean := goodIn_2 lkL_in [(42, 0), (12, 9), (42, 1), (42, 2), (31, 0), (31, 1), (12, 8), (31, 2), (13, 17), (45, 0), (45, 1), (45, 2), (45, 3), (45, 4), (45, 5), (45, 6), (50, 0), (50, 1), (50, 2), (50, 3), (50, 4), (50, 5), (50, 6), (50, 7), (50, 8)] rfl (by decide +kernel)
set_option maxRecDepth 20000 in
theorem gL_law_X9_mean : GoodIn wsL_law (wsV RL 202 RX9 yX9_mean wsX9_mean) := goodIn_app (goodIn_of _ (by decide +kernel)) ggL_law_X9_mean
set_option maxRecDepth 20000 in
theorem ggL_law_X9_ant : GoodIn wsL_law wsX9_ant := goodIn_ca (goodIn_2 lkL_in [(42, 6), (30, 9), (30, 10), (12, 9), (33, 3), (33, 5), (33, 6), (33, 7), (0, 5), (33, 8), (30, 13), (40, 22), (40, 23), (41, 0), (13, 21), (41, 1), (23, 21), (23, 22), (23, 23), (24, 0), (24, 1), (24, 2), (41, 2), (37, 23), (38, 0), (38, 1), (24, 8), (24, 7), (38, 2), (38, 3), (38, 4), (38, 5), (38, 6), (38, 7), (14, 1), (38, 8), (38, 9), (38, 10), (38, 11), (41, 3), (41, 4), (41, 5), (41, 6), (41, 7), (41, 8), (41, 9), (41, 10), (45, 0), (45, 1), (45, 2), (45, 3), (45, 4), (45, 5), (45, 6), (50, 0), (50, 1), (50, 2), (50, 3), (50, 4), (50, 5), (50, 6), (50, 7), (50, 8), (53, 0), (53, 1), (53, 2), (53, 3), (53, 4), (53, 5), (53, 6), (53, 7), (53, 8)] rfl (by decide +kernel)) (goodIn_sub (fun _ h => List.mem_append_right _ h) (by decide +kernel))
set_option maxRecDepth 20000 in
theorem gL_law_X9_ant : GoodIn wsL_law (wsV RL 209 RX9 yX9_ant wsX9_ant) := goodIn_app (goodIn_of _ (by decide +kernel)) ggL_law_X9_ant
set_option maxRecDepth 20000 in
theorem ggL_law_X9_stone : GoodIn wsL_law wsX9_stone := goodIn_ca (goodIn_2 lkL_in [(42, 10), (30, 9), (30, 10), (12, 9), (31, 15), (31, 16), (0, 5), (31, 17), (31, 18), (31, 19), (31, 20), (31, 22), (26, 2), (26, 3), (12, 8), (26, 4), (13, 15), (45, 0), (45, 1), (45, 2), (45, 3), (45, 4), (45, 5), (45, 6), (50, 0), (50, 1), (50, 2), (50, 3), (50, 4), (50, 5), (50, 6), (50, 7), (50, 8)] rfl (by decide +kernel)) (goodIn_sub (fun _ h => List.mem_append_right _ h) (by decide +kernel))
set_option maxRecDepth 20000 in
theorem gL_law_X9_stone : GoodIn wsL_law (wsV RL 212 RX9 yX9_stone wsX9_stone) := goodIn_app (goodIn_of _ (by decide +kernel)) ggL_law_X9_stone
set_option maxRecDepth 20000 in
theorem ggL_law_X9_foresee : GoodIn wsL_law wsX9_foresee := goodIn_ca (goodIn_ca (goodIn_2 lkL_in [(42, 14), (17, 9), (17, 10), (30, 9), (30, 10), (12, 10), (12, 9), (12, 18), (29, 19), (29, 20), (29, 21), (12, 8), (29, 22), (13, 15), (29, 23), (4, 23), (5, 0), (5, 1), (13, 16), (13, 17), (21, 5), (13, 19), (21, 6), (21, 7), (21, 8), (21, 9), (30, 0), (30, 1), (30, 2), (13, 21), (30, 3), (23, 21), (23, 22), (23, 23), (24, 0), (24, 1), (24, 2), (24, 7), (24, 8), (14, 1), (30, 4), (35, 19), (35, 20), (35, 21), (12, 17), (35, 22), (35, 23), (36, 0), (36, 1), (36, 2), (16, 21), (36, 3), (16, 20), (36, 4), (36, 5), (36, 6), (36, 7), (36, 8), (36, 9), (36, 10), (36, 11), (16, 19), (36, 12), (36, 13), (36, 14), (36, 15), (36, 16), (36, 17), (36, 18), (36, 19), (36, 20), (36, 21), (36, 22), (36, 23), (37, 0), (37, 1), (17, 1), (37, 2), (30, 20), (30, 21), (30, 22), (37, 3), (37, 4), (37, 5), (37, 6), (37, 7), (37, 8), (37, 9), (37, 10), (37, 11), (37, 12), (37, 13), (37, 14), (37, 15), (37, 16), (37, 17), (37, 18), (37, 19), (37, 20), (37, 21), (37, 22), (37, 23), (38, 0), (38, 1), (38, 2), (38, 3), (38, 4), (38, 5), (38, 6), (38, 7), (38, 8), (38, 9), (38, 10), (38, 11), (38, 12), (38, 13), (38, 14), (38, 15), (38, 16), (33, 20), (33, 21), (33, 22), (38, 17), (38, 18), (38, 19), (38, 20), (2, 1), (0, 11), (2, 2), (38, 21), (4, 5), (4, 6), (38, 22), (38, 23), (39, 0), (39, 1), (39, 2), (39, 3), (39, 4), (39, 5), (32, 5), (32, 6), (32, 7), (32, 8), (30, 19), (32, 9), (32, 10), (32, 11), (32, 12), (32, 13), (25, 22), (25, 23), (26, 0), (26, 1), (26, 2), (26, 3), (26, 4), (26, 5), (0, 5), (26, 6), (39, 6), (39, 7), (39, 8), (39, 9), (39, 10), (39, 11), (25, 14), (25, 15), (25, 16), (24, 3), (24, 4), (24, 5), (24, 6), (39, 12), (39, 13), (39, 14), (39, 15), (39, 16), (39, 17), (39, 18), (39, 19), (39, 20), (39, 21), (12, 4), (39, 22), (20, 22), (13, 4), (39, 23), (40, 0), (40, 1), (40, 2), (13, 3), (40, 3), (40, 4), (40, 5), (40, 6), (40, 7), (40, 8), (40, 9), (40, 10), (40, 11), (40, 12), (40, 13), (30, 15), (30, 16), (30, 17), (30, 18), (30, 23), (31, 0), (31, 1), (31, 2), (31, 3), (31, 4), (31, 5), (31, 6), (31, 7), (45, 0), (45, 1), (45, 2), (45, 3), (45, 4), (45, 5), (45, 6), (50, 0), (50, 1), (50, 2), (50, 3), (50, 4), (50, 5), (50, 6), (50, 7), (50, 8), (53, 0), (53, 1), (53, 2), (53, 3), (53, 4), (53, 5), (53, 6), (53, 7), (53, 8), (52, 0), (52, 1), (49, 0), (49, 1), (49, 2), (49, 3), (49, 4), (49, 5), (49, 6), (49, 7), (49, 8), (49, 9), (49, 10), (55, 0), (55, 1)] rfl (by decide +kernel)) (goodIn_sub (fun _ h => List.mem_append_left _ (List.mem_append_left _ (List.mem_append_right _ h))) (by decide +kernel))) (goodIn_sub (fun _ h => List.mem_append_right _ h) (by decide +kernel))
set_option maxRecDepth 20000 in
theorem gL_law_X9_foresee : GoodIn wsL_law (wsV RL 218 RX9 yX9_foresee wsX9_foresee) := goodIn_app (goodIn_of _ (by decide +kernel)) ggL_law_X9_foresee
set_option maxRecDepth 20000 in
theorem ggL_law_X9_pass : GoodIn wsL_law wsX9_pass := goodIn_ca (goodIn_2 lkL_in [(35, 17), (17, 9), (17, 10), (12, 9), (12, 18), (35, 18), (30, 20), (30, 21), (12, 8), (30, 22), (13, 17), (35, 19), (35, 20), (35, 21), (12, 17), (35, 22), (35, 23), (36, 0), (36, 1), (36, 2), (16, 21), (36, 3), (16, 20), (36, 4), (36, 5), (36, 6), (36, 7), (36, 8), (36, 9), (36, 10), (36, 11), (16, 19), (36, 12), (36, 13), (36, 14), (36, 15), (36, 16), (36, 17), (36, 18), (36, 19), (36, 20), (36, 21), (36, 22), (36, 23), (37, 0), (37, 1), (17, 1), (37, 2), (37, 3), (37, 4), (37, 5), (37, 6), (37, 7), (37, 8), (37, 9), (37, 10), (13, 16), (37, 11), (37, 12), (37, 13), (37, 14), (21, 5), (37, 15), (37, 16), (37, 17), (37, 18), (37, 19), (37, 20), (37, 21), (37, 22), (37, 23), (38, 0), (13, 21), (38, 1), (24, 8), (24, 7), (38, 2), (38, 3), (38, 4), (38, 5), (38, 6), (38, 7), (14, 1), (38, 8), (38, 9), (38, 10), (38, 11), (38, 12), (38, 13), (38, 14), (38, 15), (13, 19), (38, 16), (33, 20), (33, 21), (33, 22), (23, 23), (23, 22), (38, 17), (38, 18), (38, 19), (38, 20), (2, 1), (0, 11), (2, 2), (38, 21), (4, 5), (4, 6), (38, 22), (38, 23), (39, 0), (39, 1), (39, 2), (39, 3), (39, 4), (39, 5), (32, 5), (32, 6), (32, 7), (32, 8), (21, 8), (30, 19), (32, 9), (32, 10), (32, 11), (32, 12), (32, 13), (25, 22), (25, 23), (26, 0), (13, 15), (26, 1), (26, 2), (26, 3), (26, 4), (26, 5), (0, 5), (26, 6), (39, 6), (39, 7), (39, 8), (39, 9), (39, 10), (39, 11), (25, 14), (25, 15), (25, 16), (24, 0), (24, 3), (24, 4), (24, 5), (24, 6), (39, 12), (39, 13), (39, 14), (39, 15), (39, 16), (39, 17), (39, 18), (39, 19), (39, 20), (39, 21), (12, 4), (39, 22), (20, 22), (13, 4), (39, 23), (40, 0), (40, 1), (40, 2), (13, 3), (40, 3), (40, 4), (40, 5), (40, 6), (40, 7), (40, 8), (40, 9), (24, 2), (40, 10), (40, 11), (40, 12), (40, 13), (21, 7), (45, 0), (45, 1), (45, 2), (45, 3), (45, 4), (45, 5), (45, 6), (50, 0), (50, 1), (50, 2), (50, 3), (50, 4), (50, 5), (50, 6), (50, 7), (50, 8), (52, 0), (52, 1), (49, 0), (49, 1), (49, 2), (49, 3), (49, 4), (49, 5), (49, 6), (49, 7), (49, 8), (49, 9), (49, 10), (53, 0), (53, 1), (53, 2), (53, 3), (53, 4), (53, 5), (53, 6), (53, 7), (53, 8), (55, 0), (55, 1)] rfl (by decide +kernel)) (goodIn_sub (fun _ h => List.mem_append_left _ (List.mem_append_left _ (List.mem_append_right _ h))) (by decide +kernel))
set_option maxRecDepth 20000 in
theorem gL_law_X9_pass : GoodIn wsL_law (wsV RL 173 RX9 yX9_pass wsX9_pass) := goodIn_app (goodIn_of _ (by decide +kernel)) ggL_law_X9_pass
set_option maxRecDepth 20000 in
theorem ggL_law_X10_go_c1 : GoodIn wsL_law (.code yX10_go cX10_go 7 none :: wsX10_go_r1) := goodIn_2 lkL_in [(34, 7), (2, 13), (34, 8), (2, 11), (2, 8), (2, 10), (0, 8), (2, 12), (34, 9), (4, 23), (5, 0), (5, 1), (34, 10), (34, 11), (34, 12), (34, 13), (34, 14), (1, 18), (34, 15), (34, 16), (34, 1), (34, 2), (34, 3), (32, 19), (32, 20)] rfl (by decide +kernel)
set_option maxRecDepth 20000 in
theorem ggL_law_X10_go_c2 : GoodIn wsL_law wsX10_go_r2 := goodIn_2 lkL_in [(32, 21), (32, 22), (34, 17), (34, 18), (34, 19), (34, 20), (34, 21), (34, 22), (34, 23), (35, 0), (35, 1), (35, 2), (35, 3), (35, 4), (35, 5), (35, 6), (35, 7), (35, 8), (35, 9), (35, 10), (35, 11), (35, 12), (35, 13), (32, 15)] rfl (by decide +kernel)
set_option maxRecDepth 20000 in
theorem ggL_law_X10_go_c3 : GoodIn wsL_law wsX10_go_r3 := goodIn_2 lkL_in [(32, 16), (32, 17), (32, 18)] rfl (by decide +kernel)
set_option maxRecDepth 20000 in
theorem ggL_law_X10_go_c4 : GoodIn wsL_law wsX100 := goodIn_2 lkL_in [(46, 0), (46, 1), (46, 2), (46, 3), (46, 4), (46, 5), (46, 6), (46, 7), (46, 8)] rfl (by decide +kernel)
set_option maxRecDepth 20000 in
theorem ggL_law_X10_go : GoodIn wsL_law wsX10_go := (goodIn_ca (goodIn_ca ggL_law_X10_go_c1 (goodIn_app ggL_law_X10_go_c2 ggL_law_X10_go_c3)) ggL_law_X10_go_c4)
set_option maxRecDepth 20000 in
theorem gL_law_X10_go : GoodIn wsL_law (wsV RL 170 RX10 yX10_go wsX10_go) := goodIn_app (goodIn_of _ (by decide +kernel)) ggL_law_X10_go
set_option maxRecDepth 20000 in
theorem ggL_law_X9_turn : GoodIn wsL_law wsX9_turn := goodIn_ca (goodIn_2 lkL_in [(42, 18), (30, 9), (30, 10), (12, 5), (30, 12), (31, 21), (26, 5), (0, 5), (26, 6), (40, 21), (39, 20), (39, 21), (12, 4), (39, 22), (20, 22), (13, 4), (39, 23), (40, 0), (40, 1), (40, 2), (13, 3), (45, 0), (45, 1), (45, 2), (45, 3), (45, 4), (45, 5), (45, 6), (49, 0), (49, 1), (49, 2), (49, 3), (49, 4), (49, 5), (49, 6), (49, 7), (49, 8), (49, 9), (49, 10)] rfl (by decide +kernel)) (goodIn_sub (fun _ h => List.mem_append_right _ h) (by decide +kernel))
set_option maxRecDepth 20000 in
theorem gL_law_X9_turn : GoodIn wsL_law (wsV RL 221 RX9 yX9_turn wsX9_turn) := goodIn_app (goodIn_of _ (by decide +kernel)) ggL_law_X9_turn
set_option maxRecDepth 20000 in
theorem ggL_law_X9_wash : GoodIn wsL_law wsX9_wash := goodIn_ca (goodIn_ca (goodIn_2 lkL_in [(32, 3), (30, 9), (30, 10), (17, 9), (17, 10), (12, 9), (31, 18), (31, 19), (0, 5), (31, 20), (32, 4), (32, 5), (32, 6), (12, 8), (32, 7), (32, 8), (4, 5), (0, 11), (4, 6), (13, 16), (21, 8), (30, 19), (30, 20), (30, 21), (30, 22), (13, 17), (32, 9), (32, 10), (32, 11), (32, 12), (32, 13), (25, 22), (25, 23), (26, 0), (13, 15), (26, 1), (26, 2), (26, 3), (26, 4), (26, 5), (26, 6), (45, 0), (45, 1), (45, 2), (45, 3), (45, 4), (45, 5), (45, 6), (50, 0), (50, 1), (50, 2), (50, 3), (50, 4), (50, 5), (50, 6), (50, 7), (50, 8)] rfl (by decide +kernel)) (goodIn_sub (fun _ h => List.mem_append_right _ h) (by decide +kernel))) (goodIn_sub (fun _ h => List.mem_append_left _ (List.mem_append_left _ (List.mem_append_right _ h))) (by decide +kernel))
set_option maxRecDepth 20000 in
theorem gL_law_X9_wash : GoodIn wsL_law (wsV RL 153 RX9 yX9_wash wsX9_wash) := goodIn_app (goodIn_of _ (by decide +kernel)) ggL_law_X9_wash
set_option maxRecDepth 20000 in
theorem ggL_law_X10_wash : GoodIn wsL_law wsX10_wash := goodIn_2 lkL_in [(32, 17), (2, 10), (0, 8), (32, 18), (32, 19), (32, 20), (32, 21), (1, 18), (32, 22), (46, 0), (46, 1), (46, 2), (46, 3), (46, 4), (46, 5), (46, 6), (46, 7), (46, 8)] rfl (by decide +kernel)
set_option maxRecDepth 20000 in
theorem gL_law_X10_wash : GoodIn wsL_law (wsV RL 156 RX10 yX10_wash wsX10_wash) := goodIn_app (goodIn_of _ (by decide +kernel)) ggL_law_X10_wash
set_option maxRecDepth 20000 in
theorem ggL_law_X10_isSame : GoodIn wsL_law wsX10_isSame := goodIn_ca (goodIn_2 lkL_in [(42, 22), (0, 8), (2, 10), (2, 11), (42, 23), (43, 0), (30, 6), (30, 7), (0, 5), (30, 8), (30, 9), (30, 10), (12, 9), (30, 11), (12, 5), (30, 12), (30, 13), (30, 14), (12, 1), (17, 11), (30, 15), (30, 16), (30, 17), (12, 8), (30, 18), (21, 7), (21, 8), (21, 9), (30, 19), (30, 20), (30, 21), (30, 22), (13, 17), (30, 23), (31, 0), (31, 1), (31, 2), (31, 3), (31, 4), (31, 5), (31, 6), (21, 5), (13, 19), (31, 7), (43, 1), (43, 2), (43, 3), (1, 18), (43, 4), (34, 11), (2, 8), (2, 13), (34, 10), (32, 18), (34, 8), (34, 16), (34, 1), (34, 2), (34, 3), (32, 19), (32, 20), (32, 21), (32, 22), (43, 5), (43, 6), (43, 7), (43, 8), (43, 9), (41, 17), (41, 18), (41, 19), (41, 20), (31, 18), (31, 19), (31, 20), (43, 10), (41, 12), (41, 13), (41, 14), (41, 15), (31, 21), (26, 5), (26, 6), (35, 1), (35, 2), (35, 3), (35, 4), (2, 12), (35, 5), (35, 6), (35, 7), (35, 8), (43, 11), (42, 4), (42, 5), (42, 6), (33, 3), (33, 5), (33, 6), (33, 7), (33, 8), (40, 22), (40, 23), (41, 0), (13, 21), (41, 1), (23, 21), (23, 22), (23, 23), (24, 0), (24, 1), (24, 2), (41, 2), (37, 23), (38, 0), (38, 1), (24, 8), (24, 7), (38, 2), (38, 3), (38, 4), (38, 5), (38, 6), (38, 7), (14, 1), (38, 8), (38, 9), (38, 10), (38, 11), (41, 3), (41, 4), (41, 5), (41, 6), (41, 7), (41, 8), (41, 9), (41, 10), (43, 12), (42, 8), (42, 9), (42, 10), (31, 15), (31, 16), (31, 17), (31, 22), (26, 2), (26, 3), (26, 4), (13, 15), (43, 13), (41, 22), (41, 23), (42, 0), (42, 1), (42, 2), (46, 0), (46, 1), (46, 2), (46, 3), (46, 4), (46, 5), (46, 6), (46, 7), (46, 8), (45, 0), (45, 1), (45, 2), (45, 3), (45, 4), (45, 5), (45, 6), (50, 0), (50, 1), (50, 2), (50, 3), (50, 4), (50, 5), (50, 6), (50, 7), (50, 8), (49, 0), (49, 1), (49, 2), (49, 3), (49, 4), (49, 5), (49, 6), (49, 7), (49, 8), (49, 9), (49, 10), (48, 0), (48, 1), (53, 0), (53, 1), (53, 2), (53, 3), (53, 4), (53, 5), (53, 6), (53, 7), (53, 8)] rfl (by decide +kernel)) (goodIn_sub (fun _ h => List.mem_append_right _ h) (by decide +kernel))
set_option maxRecDepth 20000 in
theorem gL_law_X10_isSame : GoodIn wsL_law (wsV RL 224 RX10 yX10_isSame wsX10_isSame) := goodIn_app (goodIn_of _ (by decide +kernel)) ggL_law_X10_isSame
theorem dL_law_0 : decode cL_law 0 = .ok (.new 32, 3) := by decide +kernel
theorem dL_law_3 : decode cL_law 3 = .ok (.dup, 1) := by decide +kernel
theorem dL_law_4 : decode cL_law 4 = .ok (.invokespecial 34, 3) := by decide +kernel
theorem dL_law_7 : decode cL_law 7 = .ok (.astore_n 1, 1) := by decide +kernel
theorem dL_law_8 : decode cL_law 8 = .ok (.aload_n 0, 1) := by decide +kernel
theorem dL_law_9 : decode cL_law 9 = .ok (.aload_n 1, 1) := by decide +kernel
theorem dL_law_10 : decode cL_law 10 = .ok (.invokestatic 176, 3) := by decide +kernel
theorem dL_law_13 : decode cL_law 13 = .ok (.astore_n 2, 1) := by decide +kernel
theorem dL_law_14 : decode cL_law 14 = .ok (.new 10, 3) := by decide +kernel
theorem dL_law_17 : decode cL_law 17 = .ok (.dup, 1) := by decide +kernel
theorem dL_law_18 : decode cL_law 18 = .ok (.invokespecial 180, 3) := by decide +kernel
theorem dL_law_21 : decode cL_law 21 = .ok (.astore_n 3, 1) := by decide +kernel
theorem dL_law_22 : decode cL_law 22 = .ok (.aload_n 3, 1) := by decide +kernel
theorem dL_law_23 : decode cL_law 23 = .ok (.aload_n 1, 1) := by decide +kernel
theorem dL_law_24 : decode cL_law 24 = .ok (.invokevirtual 44, 3) := by decide +kernel
theorem dL_law_27 : decode cL_law 27 = .ok (.invokestatic 181, 3) := by decide +kernel
theorem dL_law_30 : decode cL_law 30 = .ok (.ifCond .eq 5, 3) := by decide +kernel
theorem dL_law_33 : decode cL_law 33 = .ok (.iconst 0, 1) := by decide +kernel
theorem dL_law_34 : decode cL_law 34 = .ok (.ireturn, 1) := by decide +kernel
theorem dL_law_35 : decode cL_law 35 = .ok (.aload_n 3, 1) := by decide +kernel
theorem dL_law_36 : decode cL_law 36 = .ok (.iconst 2, 1) := by decide +kernel
theorem dL_law_37 : decode cL_law 37 = .ok (.invokevirtual 185, 3) := by decide +kernel
theorem dL_law_40 : decode cL_law 40 = .ok (.istore 4, 2) := by decide +kernel
theorem dL_law_42 : decode cL_law 42 = .ok (.iconst 0, 1) := by decide +kernel
theorem dL_law_43 : decode cL_law 43 = .ok (.istore 5, 2) := by decide +kernel
theorem dL_law_45 : decode cL_law 45 = .ok (.iload 5, 2) := by decide +kernel
theorem dL_law_47 : decode cL_law 47 = .ok (.bipush 10, 2) := by decide +kernel
theorem dL_law_49 : decode cL_law 49 = .ok (.if_icmp .ge 1089, 3) := by decide +kernel
theorem dL_law_52 : decode cL_law 52 = .ok (.aload_n 0, 1) := by decide +kernel
theorem dL_law_53 : decode cL_law 53 = .ok (.iload 5, 2) := by decide +kernel
theorem dL_law_55 : decode cL_law 55 = .ok (.iconst 2, 1) := by decide +kernel
theorem dL_law_56 : decode cL_law 56 = .ok (.iadd, 1) := by decide +kernel
theorem dL_law_57 : decode cL_law 57 = .ok (.invokestatic 73, 3) := by decide +kernel
theorem dL_law_60 : decode cL_law 60 = .ok (.iconst 1, 1) := by decide +kernel
theorem dL_law_61 : decode cL_law 61 = .ok (.ishr, 1) := by decide +kernel
theorem dL_law_62 : decode cL_law 62 = .ok (.bipush 67, 2) := by decide +kernel
theorem dL_law_64 : decode cL_law 64 = .ok (.iload 5, 2) := by decide +kernel
theorem dL_law_66 : decode cL_law 66 = .ok (.imul, 1) := by decide +kernel
theorem dL_law_67 : decode cL_law 67 = .ok (.iadd, 1) := by decide +kernel
theorem dL_law_68 : decode cL_law 68 = .ok (.istore 6, 2) := by decide +kernel
theorem dL_law_70 : decode cL_law 70 = .ok (.aload_n 3, 1) := by decide +kernel
theorem dL_law_71 : decode cL_law 71 = .ok (.aload_n 2, 1) := by decide +kernel
theorem dL_law_72 : decode cL_law 72 = .ok (.iload 6, 2) := by decide +kernel
theorem dL_law_74 : decode cL_law 74 = .ok (.invokestatic 188, 3) := by decide +kernel
theorem dL_law_77 : decode cL_law 77 = .ok (.ifCond .ne 5, 3) := by decide +kernel
theorem dL_law_80 : decode cL_law 80 = .ok (.iconst 0, 1) := by decide +kernel
theorem dL_law_81 : decode cL_law 81 = .ok (.ireturn, 1) := by decide +kernel
theorem dL_law_82 : decode cL_law 82 = .ok (.aload_n 3, 1) := by decide +kernel
theorem dL_law_83 : decode cL_law 83 = .ok (.invokevirtual 192, 3) := by decide +kernel
theorem dL_law_86 : decode cL_law 86 = .ok (.lstore 7, 2) := by decide +kernel
theorem dL_law_88 : decode cL_law 88 = .ok (.iconst 0, 1) := by decide +kernel
theorem dL_law_89 : decode cL_law 89 = .ok (.istore 9, 2) := by decide +kernel
theorem dL_law_91 : decode cL_law 91 = .ok (.iconst 0, 1) := by decide +kernel
theorem dL_law_92 : decode cL_law 92 = .ok (.istore 10, 2) := by decide +kernel
theorem dL_law_94 : decode cL_law 94 = .ok (.iconst 0, 1) := by decide +kernel
theorem dL_law_95 : decode cL_law 95 = .ok (.istore 11, 2) := by decide +kernel
theorem dL_law_97 : decode cL_law 97 = .ok (.iconst 0, 1) := by decide +kernel
theorem dL_law_98 : decode cL_law 98 = .ok (.istore 12, 2) := by decide +kernel
theorem dL_law_100 : decode cL_law 100 = .ok (.iload 12, 2) := by decide +kernel
theorem dL_law_102 : decode cL_law 102 = .ok (.bipush 6, 2) := by decide +kernel
theorem dL_law_104 : decode cL_law 104 = .ok (.if_icmp .ge 34, 3) := by decide +kernel
theorem dL_law_107 : decode cL_law 107 = .ok (.iload 9, 2) := by decide +kernel
theorem dL_law_109 : decode cL_law 109 = .ok (.aload_n 3, 1) := by decide +kernel
theorem dL_law_110 : decode cL_law 110 = .ok (.iload 12, 2) := by decide +kernel
theorem dL_law_112 : decode cL_law 112 = .ok (.invokevirtual 196, 3) := by decide +kernel
theorem dL_law_115 : decode cL_law 115 = .ok (.iadd, 1) := by decide +kernel
theorem dL_law_116 : decode cL_law 116 = .ok (.istore 9, 2) := by decide +kernel
theorem dL_law_118 : decode cL_law 118 = .ok (.iload 10, 2) := by decide +kernel
theorem dL_law_120 : decode cL_law 120 = .ok (.iload 12, 2) := by decide +kernel
theorem dL_law_122 : decode cL_law 122 = .ok (.aload_n 3, 1) := by decide +kernel
theorem dL_law_123 : decode cL_law 123 = .ok (.iload 12, 2) := by decide +kernel
theorem dL_law_125 : decode cL_law 125 = .ok (.invokevirtual 196, 3) := by decide +kernel
theorem dL_law_128 : decode cL_law 128 = .ok (.imul, 1) := by decide +kernel
theorem dL_law_129 : decode cL_law 129 = .ok (.iadd, 1) := by decide +kernel
theorem dL_law_130 : decode cL_law 130 = .ok (.istore 10, 2) := by decide +kernel
theorem dL_law_132 : decode cL_law 132 = .ok (.iinc 12 1, 3) := by decide +kernel
theorem dL_law_135 : decode cL_law 135 = .ok (.goto (-35), 3) := by decide +kernel
theorem dL_law_138 : decode cL_law 138 = .ok (.iconst 0, 1) := by decide +kernel
theorem dL_law_139 : decode cL_law 139 = .ok (.istore 12, 2) := by decide +kernel
theorem dL_law_141 : decode cL_law 141 = .ok (.iload 12, 2) := by decide +kernel
theorem dL_law_143 : decode cL_law 143 = .ok (.bipush 64, 2) := by decide +kernel
theorem dL_law_145 : decode cL_law 145 = .ok (.if_icmp .ge 20, 3) := by decide +kernel
theorem dL_law_148 : decode cL_law 148 = .ok (.iload 11, 2) := by decide +kernel
theorem dL_law_150 : decode cL_law 150 = .ok (.aload_n 3, 1) := by decide +kernel
theorem dL_law_151 : decode cL_law 151 = .ok (.iload 12, 2) := by decide +kernel
theorem dL_law_153 : decode cL_law 153 = .ok (.invokevirtual 199, 3) := by decide +kernel
theorem dL_law_156 : decode cL_law 156 = .ok (.iadd, 1) := by decide +kernel
theorem dL_law_157 : decode cL_law 157 = .ok (.istore 11, 2) := by decide +kernel
theorem dL_law_159 : decode cL_law 159 = .ok (.iinc 12 1, 3) := by decide +kernel
theorem dL_law_162 : decode cL_law 162 = .ok (.goto (-21), 3) := by decide +kernel
theorem dL_law_165 : decode cL_law 165 = .ok (.iload 9, 2) := by decide +kernel
theorem dL_law_167 : decode cL_law 167 = .ok (.sipush 4096, 3) := by decide +kernel
theorem dL_law_170 : decode cL_law 170 = .ok (.if_icmp .ne 63, 3) := by decide +kernel
theorem dL_law_173 : decode cL_law 173 = .ok (.iload 10, 2) := by decide +kernel
theorem dL_law_175 : decode cL_law 175 = .ok (.aload_n 3, 1) := by decide +kernel
theorem dL_law_176 : decode cL_law 176 = .ok (.iconst 5, 1) := by decide +kernel
theorem dL_law_177 : decode cL_law 177 = .ok (.invokevirtual 185, 3) := by decide +kernel
theorem dL_law_180 : decode cL_law 180 = .ok (.if_icmp .ne 53, 3) := by decide +kernel
theorem dL_law_183 : decode cL_law 183 = .ok (.iload 11, 2) := by decide +kernel
theorem dL_law_185 : decode cL_law 185 = .ok (.aload_n 3, 1) := by decide +kernel
theorem dL_law_186 : decode cL_law 186 = .ok (.iconst 4, 1) := by decide +kernel
theorem dL_law_187 : decode cL_law 187 = .ok (.invokevirtual 185, 3) := by decide +kernel
theorem dL_law_190 : decode cL_law 190 = .ok (.if_icmp .ne 43, 3) := by decide +kernel
theorem dL_law_193 : decode cL_law 193 = .ok (.iload 11, 2) := by decide +kernel
theorem dL_law_195 : decode cL_law 195 = .ok (.sipush 4096, 3) := by decide +kernel
theorem dL_law_198 : decode cL_law 198 = .ok (.aload_n 3, 1) := by decide +kernel
theorem dL_law_199 : decode cL_law 199 = .ok (.iconst 0, 1) := by decide +kernel
theorem dL_law_200 : decode cL_law 200 = .ok (.invokevirtual 196, 3) := by decide +kernel
theorem dL_law_203 : decode cL_law 203 = .ok (.isub, 1) := by decide +kernel
theorem dL_law_204 : decode cL_law 204 = .ok (.if_icmp .ne 29, 3) := by decide +kernel
theorem dL_law_207 : decode cL_law 207 = .ok (.aload_n 3, 1) := by decide +kernel
theorem dL_law_208 : decode cL_law 208 = .ok (.invokevirtual 202, 3) := by decide +kernel
theorem dL_law_211 : decode cL_law 211 = .ok (.iload 10, 2) := by decide +kernel
theorem dL_law_213 : decode cL_law 213 = .ok (.i2d, 1) := by decide +kernel
theorem dL_law_214 : decode cL_law 214 = .ok (.ldc2_w 206, 3) := by decide +kernel
theorem dL_law_217 : decode cL_law 217 = .ok (.ddiv, 1) := by decide +kernel
theorem dL_law_218 : decode cL_law 218 = .ok (.dcmp .l, 1) := by decide +kernel
theorem dL_law_219 : decode cL_law 219 = .ok (.ifCond .ne 14, 3) := by decide +kernel
theorem dL_law_222 : decode cL_law 222 = .ok (.aload_n 3, 1) := by decide +kernel
theorem dL_law_223 : decode cL_law 223 = .ok (.bipush 6, 2) := by decide +kernel
theorem dL_law_225 : decode cL_law 225 = .ok (.invokevirtual 185, 3) := by decide +kernel
theorem dL_law_228 : decode cL_law 228 = .ok (.iload 4, 2) := by decide +kernel
theorem dL_law_230 : decode cL_law 230 = .ok (.if_icmp .le 5, 3) := by decide +kernel
theorem dL_law_233 : decode cL_law 233 = .ok (.iconst 0, 1) := by decide +kernel
theorem dL_law_234 : decode cL_law 234 = .ok (.ireturn, 1) := by decide +kernel
theorem dL_law_235 : decode cL_law 235 = .ok (.iload 4, 2) := by decide +kernel
theorem dL_law_237 : decode cL_law 237 = .ok (.bipush 9, 2) := by decide +kernel
theorem dL_law_239 : decode cL_law 239 = .ok (.multianewarray 208 2, 4) := by decide +kernel
theorem dL_law_243 : decode cL_law 243 = .ok (.astore 12, 2) := by decide +kernel
theorem dL_law_245 : decode cL_law 245 = .ok (.iload 4, 2) := by decide +kernel
theorem dL_law_247 : decode cL_law 247 = .ok (.newarray .int, 2) := by decide +kernel
theorem dL_law_249 : decode cL_law 249 = .ok (.astore 13, 2) := by decide +kernel
theorem dL_law_251 : decode cL_law 251 = .ok (.iconst 0, 1) := by decide +kernel
theorem dL_law_252 : decode cL_law 252 = .ok (.istore 14, 2) := by decide +kernel
theorem dL_law_254 : decode cL_law 254 = .ok (.iconst 0, 1) := by decide +kernel
theorem dL_law_255 : decode cL_law 255 = .ok (.istore 15, 2) := by decide +kernel
theorem dL_law_257 : decode cL_law 257 = .ok (.iload 15, 2) := by decide +kernel
theorem dL_law_259 : decode cL_law 259 = .ok (.iload 4, 2) := by decide +kernel
theorem dL_law_261 : decode cL_law 261 = .ok (.if_icmp .ge 202, 3) := by decide +kernel
theorem dL_law_264 : decode cL_law 264 = .ok (.iconst 0, 1) := by decide +kernel
theorem dL_law_265 : decode cL_law 265 = .ok (.istore 16, 2) := by decide +kernel
theorem dL_law_267 : decode cL_law 267 = .ok (.iload 16, 2) := by decide +kernel
theorem dL_law_269 : decode cL_law 269 = .ok (.bipush 9, 2) := by decide +kernel
theorem dL_law_271 : decode cL_law 271 = .ok (.if_icmp .ge 25, 3) := by decide +kernel
theorem dL_law_274 : decode cL_law 274 = .ok (.aload 12, 2) := by decide +kernel
theorem dL_law_276 : decode cL_law 276 = .ok (.iload 15, 2) := by decide +kernel
theorem dL_law_278 : decode cL_law 278 = .ok (.aaload, 1) := by decide +kernel
theorem dL_law_279 : decode cL_law 279 = .ok (.iload 16, 2) := by decide +kernel
theorem dL_law_281 : decode cL_law 281 = .ok (.aload_n 3, 1) := by decide +kernel
theorem dL_law_282 : decode cL_law 282 = .ok (.iload 15, 2) := by decide +kernel
theorem dL_law_284 : decode cL_law 284 = .ok (.iload 16, 2) := by decide +kernel
theorem dL_law_286 : decode cL_law 286 = .ok (.invokevirtual 209, 3) := by decide +kernel
theorem dL_law_289 : decode cL_law 289 = .ok (.iastore, 1) := by decide +kernel
theorem dL_law_290 : decode cL_law 290 = .ok (.iinc 16 1, 3) := by decide +kernel
theorem dL_law_293 : decode cL_law 293 = .ok (.goto (-26), 3) := by decide +kernel
theorem dL_law_296 : decode cL_law 296 = .ok (.aload 13, 2) := by decide +kernel
theorem dL_law_298 : decode cL_law 298 = .ok (.iload 15, 2) := by decide +kernel
theorem dL_law_300 : decode cL_law 300 = .ok (.aload_n 3, 1) := by decide +kernel
theorem dL_law_301 : decode cL_law 301 = .ok (.aload 12, 2) := by decide +kernel
theorem dL_law_303 : decode cL_law 303 = .ok (.iload 15, 2) := by decide +kernel
theorem dL_law_305 : decode cL_law 305 = .ok (.aaload, 1) := by decide +kernel
theorem dL_law_306 : decode cL_law 306 = .ok (.iconst 1, 1) := by decide +kernel
theorem dL_law_307 : decode cL_law 307 = .ok (.iaload, 1) := by decide +kernel
theorem dL_law_308 : decode cL_law 308 = .ok (.aload 12, 2) := by decide +kernel
theorem dL_law_310 : decode cL_law 310 = .ok (.iload 15, 2) := by decide +kernel
theorem dL_law_312 : decode cL_law 312 = .ok (.aaload, 1) := by decide +kernel
theorem dL_law_313 : decode cL_law 313 = .ok (.iconst 2, 1) := by decide +kernel
theorem dL_law_314 : decode cL_law 314 = .ok (.iaload, 1) := by decide +kernel
theorem dL_law_315 : decode cL_law 315 = .ok (.invokevirtual 212, 3) := by decide +kernel
theorem dL_law_318 : decode cL_law 318 = .ok (.iastore, 1) := by decide +kernel
theorem dL_law_319 : decode cL_law 319 = .ok (.iload 14, 2) := by decide +kernel
theorem dL_law_321 : decode cL_law 321 = .ok (.aload 12, 2) := by decide +kernel
theorem dL_law_323 : decode cL_law 323 = .ok (.iload 15, 2) := by decide +kernel
theorem dL_law_325 : decode cL_law 325 = .ok (.aaload, 1) := by decide +kernel
theorem dL_law_326 : decode cL_law 326 = .ok (.iconst 4, 1) := by decide +kernel
theorem dL_law_327 : decode cL_law 327 = .ok (.iaload, 1) := by decide +kernel
theorem dL_law_328 : decode cL_law 328 = .ok (.iadd, 1) := by decide +kernel
theorem dL_law_329 : decode cL_law 329 = .ok (.istore 14, 2) := by decide +kernel
theorem dL_law_331 : decode cL_law 331 = .ok (.aload 12, 2) := by decide +kernel
theorem dL_law_333 : decode cL_law 333 = .ok (.iload 15, 2) := by decide +kernel
theorem dL_law_335 : decode cL_law 335 = .ok (.aaload, 1) := by decide +kernel
theorem dL_law_336 : decode cL_law 336 = .ok (.bipush 6, 2) := by decide +kernel
theorem dL_law_338 : decode cL_law 338 = .ok (.iaload, 1) := by decide +kernel
theorem dL_law_339 : decode cL_law 339 = .ok (.ifCond .lt 116, 3) := by decide +kernel
theorem dL_law_342 : decode cL_law 342 = .ok (.aload 12, 2) := by decide +kernel
theorem dL_law_344 : decode cL_law 344 = .ok (.iload 15, 2) := by decide +kernel
theorem dL_law_346 : decode cL_law 346 = .ok (.aaload, 1) := by decide +kernel
theorem dL_law_347 : decode cL_law 347 = .ok (.bipush 6, 2) := by decide +kernel
theorem dL_law_349 : decode cL_law 349 = .ok (.iaload, 1) := by decide +kernel
theorem dL_law_350 : decode cL_law 350 = .ok (.bipush 120, 2) := by decide +kernel
theorem dL_law_352 : decode cL_law 352 = .ok (.if_icmp .gt 103, 3) := by decide +kernel
theorem dL_law_355 : decode cL_law 355 = .ok (.aload 12, 2) := by decide +kernel
theorem dL_law_357 : decode cL_law 357 = .ok (.iload 15, 2) := by decide +kernel
theorem dL_law_359 : decode cL_law 359 = .ok (.aaload, 1) := by decide +kernel
theorem dL_law_360 : decode cL_law 360 = .ok (.bipush 6, 2) := by decide +kernel
theorem dL_law_362 : decode cL_law 362 = .ok (.iaload, 1) := by decide +kernel
theorem dL_law_363 : decode cL_law 363 = .ok (.ifCond .le 7, 3) := by decide +kernel
theorem dL_law_366 : decode cL_law 366 = .ok (.iconst 1, 1) := by decide +kernel
theorem dL_law_367 : decode cL_law 367 = .ok (.goto 4, 3) := by decide +kernel
theorem dL_law_370 : decode cL_law 370 = .ok (.iconst 0, 1) := by decide +kernel
theorem dL_law_371 : decode cL_law 371 = .ok (.aload 12, 2) := by decide +kernel
theorem dL_law_373 : decode cL_law 373 = .ok (.iload 15, 2) := by decide +kernel
theorem dL_law_375 : decode cL_law 375 = .ok (.aaload, 1) := by decide +kernel
theorem dL_law_376 : decode cL_law 376 = .ok (.bipush 7, 2) := by decide +kernel
theorem dL_law_378 : decode cL_law 378 = .ok (.iaload, 1) := by decide +kernel
theorem dL_law_379 : decode cL_law 379 = .ok (.ifCond .ne 14, 3) := by decide +kernel
theorem dL_law_382 : decode cL_law 382 = .ok (.aload 12, 2) := by decide +kernel
theorem dL_law_384 : decode cL_law 384 = .ok (.iload 15, 2) := by decide +kernel
theorem dL_law_386 : decode cL_law 386 = .ok (.aaload, 1) := by decide +kernel
theorem dL_law_387 : decode cL_law 387 = .ok (.bipush 8, 2) := by decide +kernel
theorem dL_law_389 : decode cL_law 389 = .ok (.iaload, 1) := by decide +kernel
theorem dL_law_390 : decode cL_law 390 = .ok (.ifCond .eq 7, 3) := by decide +kernel
theorem dL_law_393 : decode cL_law 393 = .ok (.iconst 1, 1) := by decide +kernel
theorem dL_law_394 : decode cL_law 394 = .ok (.goto 4, 3) := by decide +kernel
theorem dL_law_397 : decode cL_law 397 = .ok (.iconst 0, 1) := by decide +kernel
theorem dL_law_398 : decode cL_law 398 = .ok (.if_icmp .ne 57, 3) := by decide +kernel
theorem dL_law_401 : decode cL_law 401 = .ok (.aload 12, 2) := by decide +kernel
theorem dL_law_403 : decode cL_law 403 = .ok (.iload 15, 2) := by decide +kernel
theorem dL_law_405 : decode cL_law 405 = .ok (.aaload, 1) := by decide +kernel
theorem dL_law_406 : decode cL_law 406 = .ok (.bipush 7, 2) := by decide +kernel
theorem dL_law_408 : decode cL_law 408 = .ok (.iaload, 1) := by decide +kernel
theorem dL_law_409 : decode cL_law 409 = .ok (.invokestatic 215, 3) := by decide +kernel
theorem dL_law_412 : decode cL_law 412 = .ok (.aload 12, 2) := by decide +kernel
theorem dL_law_414 : decode cL_law 414 = .ok (.iload 15, 2) := by decide +kernel
theorem dL_law_416 : decode cL_law 416 = .ok (.aaload, 1) := by decide +kernel
theorem dL_law_417 : decode cL_law 417 = .ok (.bipush 8, 2) := by decide +kernel
theorem dL_law_419 : decode cL_law 419 = .ok (.iaload, 1) := by decide +kernel
theorem dL_law_420 : decode cL_law 420 = .ok (.invokestatic 215, 3) := by decide +kernel
theorem dL_law_423 : decode cL_law 423 = .ok (.iadd, 1) := by decide +kernel
theorem dL_law_424 : decode cL_law 424 = .ok (.aload 12, 2) := by decide +kernel
theorem dL_law_426 : decode cL_law 426 = .ok (.iload 15, 2) := by decide +kernel
theorem dL_law_428 : decode cL_law 428 = .ok (.aaload, 1) := by decide +kernel
theorem dL_law_429 : decode cL_law 429 = .ok (.bipush 6, 2) := by decide +kernel
theorem dL_law_431 : decode cL_law 431 = .ok (.iaload, 1) := by decide +kernel
theorem dL_law_432 : decode cL_law 432 = .ok (.if_icmp .gt 23, 3) := by decide +kernel
theorem dL_law_435 : decode cL_law 435 = .ok (.iconst 3, 1) := by decide +kernel
theorem dL_law_436 : decode cL_law 436 = .ok (.aload 12, 2) := by decide +kernel
theorem dL_law_438 : decode cL_law 438 = .ok (.iload 15, 2) := by decide +kernel
theorem dL_law_440 : decode cL_law 440 = .ok (.aaload, 1) := by decide +kernel
theorem dL_law_441 : decode cL_law 441 = .ok (.bipush 6, 2) := by decide +kernel
theorem dL_law_443 : decode cL_law 443 = .ok (.iaload, 1) := by decide +kernel
theorem dL_law_444 : decode cL_law 444 = .ok (.imul, 1) := by decide +kernel
theorem dL_law_445 : decode cL_law 445 = .ok (.aload 12, 2) := by decide +kernel
theorem dL_law_447 : decode cL_law 447 = .ok (.iload 15, 2) := by decide +kernel
theorem dL_law_449 : decode cL_law 449 = .ok (.aaload, 1) := by decide +kernel
theorem dL_law_450 : decode cL_law 450 = .ok (.iconst 5, 1) := by decide +kernel
theorem dL_law_451 : decode cL_law 451 = .ok (.iaload, 1) := by decide +kernel
theorem dL_law_452 : decode cL_law 452 = .ok (.if_icmp .le 5, 3) := by decide +kernel
theorem dL_law_455 : decode cL_law 455 = .ok (.iconst 0, 1) := by decide +kernel
theorem dL_law_456 : decode cL_law 456 = .ok (.ireturn, 1) := by decide +kernel
theorem dL_law_457 : decode cL_law 457 = .ok (.iinc 15 1, 3) := by decide +kernel
theorem dL_law_460 : decode cL_law 460 = .ok (.goto (-203), 3) := by decide +kernel
theorem dL_law_463 : decode cL_law 463 = .ok (.aload_n 3, 1) := by decide +kernel
theorem dL_law_464 : decode cL_law 464 = .ok (.iconst 1, 1) := by decide +kernel
theorem dL_law_465 : decode cL_law 465 = .ok (.iconst 4, 1) := by decide +kernel
theorem dL_law_466 : decode cL_law 466 = .ok (.invokevirtual 218, 3) := by decide +kernel
theorem dL_law_469 : decode cL_law 469 = .ok (.istore 15, 2) := by decide +kernel
theorem dL_law_471 : decode cL_law 471 = .ok (.aload_n 3, 1) := by decide +kernel
theorem dL_law_472 : decode cL_law 472 = .ok (.bipush 7, 2) := by decide +kernel
theorem dL_law_474 : decode cL_law 474 = .ok (.invokevirtual 185, 3) := by decide +kernel
theorem dL_law_477 : decode cL_law 477 = .ok (.istore 16, 2) := by decide +kernel
theorem dL_law_479 : decode cL_law 479 = .ok (.aload_n 3, 1) := by decide +kernel
theorem dL_law_480 : decode cL_law 480 = .ok (.bipush 8, 2) := by decide +kernel
theorem dL_law_482 : decode cL_law 482 = .ok (.invokevirtual 185, 3) := by decide +kernel
theorem dL_law_485 : decode cL_law 485 = .ok (.istore 17, 2) := by decide +kernel
theorem dL_law_487 : decode cL_law 487 = .ok (.aload_n 3, 1) := by decide +kernel
theorem dL_law_488 : decode cL_law 488 = .ok (.bipush 9, 2) := by decide +kernel
theorem dL_law_490 : decode cL_law 490 = .ok (.invokevirtual 185, 3) := by decide +kernel
theorem dL_law_493 : decode cL_law 493 = .ok (.istore 18, 2) := by decide +kernel
theorem dL_law_495 : decode cL_law 495 = .ok (.iload 14, 2) := by decide +kernel
theorem dL_law_497 : decode cL_law 497 = .ok (.aload_n 3, 1) := by decide +kernel
theorem dL_law_498 : decode cL_law 498 = .ok (.bipush 6, 2) := by decide +kernel
theorem dL_law_500 : decode cL_law 500 = .ok (.invokevirtual 185, 3) := by decide +kernel
theorem dL_law_503 : decode cL_law 503 = .ok (.if_icmp .ne 13, 3) := by decide +kernel
theorem dL_law_506 : decode cL_law 506 = .ok (.aload_n 3, 1) := by decide +kernel
theorem dL_law_507 : decode cL_law 507 = .ok (.invokevirtual 192, 3) := by decide +kernel
theorem dL_law_510 : decode cL_law 510 = .ok (.lload 7, 2) := by decide +kernel
theorem dL_law_512 : decode cL_law 512 = .ok (.lcmp, 1) := by decide +kernel
theorem dL_law_513 : decode cL_law 513 = .ok (.ifCond .eq 5, 3) := by decide +kernel
theorem dL_law_516 : decode cL_law 516 = .ok (.iconst 0, 1) := by decide +kernel
theorem dL_law_517 : decode cL_law 517 = .ok (.ireturn, 1) := by decide +kernel
theorem dL_law_518 : decode cL_law 518 = .ok (.aload_n 3, 1) := by decide +kernel
theorem dL_law_519 : decode cL_law 519 = .ok (.iconst 1, 1) := by decide +kernel
theorem dL_law_520 : decode cL_law 520 = .ok (.invokevirtual 173, 3) := by decide +kernel
theorem dL_law_523 : decode cL_law 523 = .ok (.istore 19, 2) := by decide +kernel
theorem dL_law_525 : decode cL_law 525 = .ok (.aload_n 2, 1) := by decide +kernel
theorem dL_law_526 : decode cL_law 526 = .ok (.invokevirtual 170, 3) := by decide +kernel
theorem dL_law_529 : decode cL_law 529 = .ok (.aload_n 3, 1) := by decide +kernel
theorem dL_law_530 : decode cL_law 530 = .ok (.iconst 4, 1) := by decide +kernel
theorem dL_law_531 : decode cL_law 531 = .ok (.invokevirtual 185, 3) := by decide +kernel
theorem dL_law_534 : decode cL_law 534 = .ok (.iload 11, 2) := by decide +kernel
theorem dL_law_536 : decode cL_law 536 = .ok (.iload 19, 2) := by decide +kernel
theorem dL_law_538 : decode cL_law 538 = .ok (.iadd, 1) := by decide +kernel
theorem dL_law_539 : decode cL_law 539 = .ok (.if_icmp .ne 63, 3) := by decide +kernel
theorem dL_law_542 : decode cL_law 542 = .ok (.aload_n 3, 1) := by decide +kernel
theorem dL_law_543 : decode cL_law 543 = .ok (.iconst 4, 1) := by decide +kernel
theorem dL_law_544 : decode cL_law 544 = .ok (.invokevirtual 185, 3) := by decide +kernel
theorem dL_law_547 : decode cL_law 547 = .ok (.iload 15, 2) := by decide +kernel
theorem dL_law_549 : decode cL_law 549 = .ok (.if_icmp .ne 53, 3) := by decide +kernel
theorem dL_law_552 : decode cL_law 552 = .ok (.aload_n 3, 1) := by decide +kernel
theorem dL_law_553 : decode cL_law 553 = .ok (.bipush 7, 2) := by decide +kernel
theorem dL_law_555 : decode cL_law 555 = .ok (.invokevirtual 185, 3) := by decide +kernel
theorem dL_law_558 : decode cL_law 558 = .ok (.iload 16, 2) := by decide +kernel
theorem dL_law_560 : decode cL_law 560 = .ok (.if_icmp .lt 42, 3) := by decide +kernel
theorem dL_law_563 : decode cL_law 563 = .ok (.aload_n 3, 1) := by decide +kernel
theorem dL_law_564 : decode cL_law 564 = .ok (.bipush 8, 2) := by decide +kernel
theorem dL_law_566 : decode cL_law 566 = .ok (.invokevirtual 185, 3) := by decide +kernel
theorem dL_law_569 : decode cL_law 569 = .ok (.iload 17, 2) := by decide +kernel
theorem dL_law_571 : decode cL_law 571 = .ok (.if_icmp .lt 31, 3) := by decide +kernel
theorem dL_law_574 : decode cL_law 574 = .ok (.aload_n 3, 1) := by decide +kernel
theorem dL_law_575 : decode cL_law 575 = .ok (.bipush 9, 2) := by decide +kernel
theorem dL_law_577 : decode cL_law 577 = .ok (.invokevirtual 185, 3) := by decide +kernel
theorem dL_law_580 : decode cL_law 580 = .ok (.iload 18, 2) := by decide +kernel
theorem dL_law_582 : decode cL_law 582 = .ok (.if_icmp .lt 20, 3) := by decide +kernel
theorem dL_law_585 : decode cL_law 585 = .ok (.aload_n 3, 1) := by decide +kernel
theorem dL_law_586 : decode cL_law 586 = .ok (.bipush 9, 2) := by decide +kernel
theorem dL_law_588 : decode cL_law 588 = .ok (.invokevirtual 185, 3) := by decide +kernel
theorem dL_law_591 : decode cL_law 591 = .ok (.iload 18, 2) := by decide +kernel
theorem dL_law_593 : decode cL_law 593 = .ok (.aload_n 3, 1) := by decide +kernel
theorem dL_law_594 : decode cL_law 594 = .ok (.iconst 3, 1) := by decide +kernel
theorem dL_law_595 : decode cL_law 595 = .ok (.invokevirtual 185, 3) := by decide +kernel
theorem dL_law_598 : decode cL_law 598 = .ok (.iadd, 1) := by decide +kernel
theorem dL_law_599 : decode cL_law 599 = .ok (.if_icmp .le 5, 3) := by decide +kernel
theorem dL_law_602 : decode cL_law 602 = .ok (.iconst 0, 1) := by decide +kernel
theorem dL_law_603 : decode cL_law 603 = .ok (.ireturn, 1) := by decide +kernel
theorem dL_law_604 : decode cL_law 604 = .ok (.aload_n 3, 1) := by decide +kernel
theorem dL_law_605 : decode cL_law 605 = .ok (.bipush 9, 2) := by decide +kernel
theorem dL_law_607 : decode cL_law 607 = .ok (.invokevirtual 185, 3) := by decide +kernel
theorem dL_law_610 : decode cL_law 610 = .ok (.iload 18, 2) := by decide +kernel
theorem dL_law_612 : decode cL_law 612 = .ok (.if_icmp .le 7, 3) := by decide +kernel
theorem dL_law_615 : decode cL_law 615 = .ok (.iconst 1, 1) := by decide +kernel
theorem dL_law_616 : decode cL_law 616 = .ok (.goto 4, 3) := by decide +kernel
theorem dL_law_619 : decode cL_law 619 = .ok (.iconst 0, 1) := by decide +kernel
theorem dL_law_620 : decode cL_law 620 = .ok (.istore 20, 2) := by decide +kernel
theorem dL_law_622 : decode cL_law 622 = .ok (.iconst 0, 1) := by decide +kernel
theorem dL_law_623 : decode cL_law 623 = .ok (.istore 21, 2) := by decide +kernel
theorem dL_law_625 : decode cL_law 625 = .ok (.iload 21, 2) := by decide +kernel
theorem dL_law_627 : decode cL_law 627 = .ok (.iload 4, 2) := by decide +kernel
theorem dL_law_629 : decode cL_law 629 = .ok (.if_icmp .ge 454, 3) := by decide +kernel
theorem dL_law_632 : decode cL_law 632 = .ok (.aload_n 3, 1) := by decide +kernel
theorem dL_law_633 : decode cL_law 633 = .ok (.iload 21, 2) := by decide +kernel
theorem dL_law_635 : decode cL_law 635 = .ok (.iconst 1, 1) := by decide +kernel
theorem dL_law_636 : decode cL_law 636 = .ok (.invokevirtual 209, 3) := by decide +kernel
theorem dL_law_639 : decode cL_law 639 = .ok (.aload 12, 2) := by decide +kernel
theorem dL_law_641 : decode cL_law 641 = .ok (.iload 21, 2) := by decide +kernel
theorem dL_law_643 : decode cL_law 643 = .ok (.aaload, 1) := by decide +kernel
theorem dL_law_644 : decode cL_law 644 = .ok (.iconst 1, 1) := by decide +kernel
theorem dL_law_645 : decode cL_law 645 = .ok (.iaload, 1) := by decide +kernel
theorem dL_law_646 : decode cL_law 646 = .ok (.isub, 1) := by decide +kernel
theorem dL_law_647 : decode cL_law 647 = .ok (.bipush 64, 2) := by decide +kernel
theorem dL_law_649 : decode cL_law 649 = .ok (.iadd, 1) := by decide +kernel
theorem dL_law_650 : decode cL_law 650 = .ok (.bipush 64, 2) := by decide +kernel
theorem dL_law_652 : decode cL_law 652 = .ok (.irem, 1) := by decide +kernel
theorem dL_law_653 : decode cL_law 653 = .ok (.bipush 64, 2) := by decide +kernel
theorem dL_law_655 : decode cL_law 655 = .ok (.aload_n 3, 1) := by decide +kernel
theorem dL_law_656 : decode cL_law 656 = .ok (.iload 21, 2) := by decide +kernel
theorem dL_law_658 : decode cL_law 658 = .ok (.iconst 2, 1) := by decide +kernel
theorem dL_law_659 : decode cL_law 659 = .ok (.invokevirtual 209, 3) := by decide +kernel
theorem dL_law_662 : decode cL_law 662 = .ok (.aload 12, 2) := by decide +kernel
theorem dL_law_664 : decode cL_law 664 = .ok (.iload 21, 2) := by decide +kernel
theorem dL_law_666 : decode cL_law 666 = .ok (.aaload, 1) := by decide +kernel
theorem dL_law_667 : decode cL_law 667 = .ok (.iconst 2, 1) := by decide +kernel
theorem dL_law_668 : decode cL_law 668 = .ok (.iaload, 1) := by decide +kernel
theorem dL_law_669 : decode cL_law 669 = .ok (.isub, 1) := by decide +kernel
theorem dL_law_670 : decode cL_law 670 = .ok (.bipush 64, 2) := by decide +kernel
theorem dL_law_672 : decode cL_law 672 = .ok (.iadd, 1) := by decide +kernel
theorem dL_law_673 : decode cL_law 673 = .ok (.bipush 64, 2) := by decide +kernel
theorem dL_law_675 : decode cL_law 675 = .ok (.irem, 1) := by decide +kernel
theorem dL_law_676 : decode cL_law 676 = .ok (.imul, 1) := by decide +kernel
theorem dL_law_677 : decode cL_law 677 = .ok (.iadd, 1) := by decide +kernel
theorem dL_law_678 : decode cL_law 678 = .ok (.istore 22, 2) := by decide +kernel
theorem dL_law_680 : decode cL_law 680 = .ok (.aload_n 3, 1) := by decide +kernel
theorem dL_law_681 : decode cL_law 681 = .ok (.iload 21, 2) := by decide +kernel
theorem dL_law_683 : decode cL_law 683 = .ok (.iconst 5, 1) := by decide +kernel
theorem dL_law_684 : decode cL_law 684 = .ok (.invokevirtual 209, 3) := by decide +kernel
theorem dL_law_687 : decode cL_law 687 = .ok (.aload 12, 2) := by decide +kernel
theorem dL_law_689 : decode cL_law 689 = .ok (.iload 21, 2) := by decide +kernel
theorem dL_law_691 : decode cL_law 691 = .ok (.aaload, 1) := by decide +kernel
theorem dL_law_692 : decode cL_law 692 = .ok (.iconst 5, 1) := by decide +kernel
theorem dL_law_693 : decode cL_law 693 = .ok (.iaload, 1) := by decide +kernel
theorem dL_law_694 : decode cL_law 694 = .ok (.isub, 1) := by decide +kernel
theorem dL_law_695 : decode cL_law 695 = .ok (.istore 23, 2) := by decide +kernel
theorem dL_law_697 : decode cL_law 697 = .ok (.iconst 4, 1) := by decide +kernel
theorem dL_law_698 : decode cL_law 698 = .ok (.newarray .int, 2) := by decide +kernel
theorem dL_law_700 : decode cL_law 700 = .ok (.dup, 1) := by decide +kernel
theorem dL_law_701 : decode cL_law 701 = .ok (.iconst 0, 1) := by decide +kernel
theorem dL_law_702 : decode cL_law 702 = .ok (.sipush 4032, 3) := by decide +kernel
theorem dL_law_705 : decode cL_law 705 = .ok (.iastore, 1) := by decide +kernel
theorem dL_law_706 : decode cL_law 706 = .ok (.dup, 1) := by decide +kernel
theorem dL_law_707 : decode cL_law 707 = .ok (.iconst 1, 1) := by decide +kernel
theorem dL_law_708 : decode cL_law 708 = .ok (.iconst 1, 1) := by decide +kernel
theorem dL_law_709 : decode cL_law 709 = .ok (.iastore, 1) := by decide +kernel
theorem dL_law_710 : decode cL_law 710 = .ok (.dup, 1) := by decide +kernel
theorem dL_law_711 : decode cL_law 711 = .ok (.iconst 2, 1) := by decide +kernel
theorem dL_law_712 : decode cL_law 712 = .ok (.bipush 64, 2) := by decide +kernel
theorem dL_law_714 : decode cL_law 714 = .ok (.iastore, 1) := by decide +kernel
theorem dL_law_715 : decode cL_law 715 = .ok (.dup, 1) := by decide +kernel
theorem dL_law_716 : decode cL_law 716 = .ok (.iconst 3, 1) := by decide +kernel
theorem dL_law_717 : decode cL_law 717 = .ok (.bipush 63, 2) := by decide +kernel
theorem dL_law_719 : decode cL_law 719 = .ok (.iastore, 1) := by decide +kernel
theorem dL_law_720 : decode cL_law 720 = .ok (.astore 24, 2) := by decide +kernel
theorem dL_law_722 : decode cL_law 722 = .ok (.iload 23, 2) := by decide +kernel
theorem dL_law_724 : decode cL_law 724 = .ok (.ifCond .lt 67, 3) := by decide +kernel
theorem dL_law_727 : decode cL_law 727 = .ok (.iload 23, 2) := by decide +kernel
theorem dL_law_729 : decode cL_law 729 = .ok (.iconst 1, 1) := by decide +kernel
theorem dL_law_730 : decode cL_law 730 = .ok (.if_icmp .gt 61, 3) := by decide +kernel
theorem dL_law_733 : decode cL_law 733 = .ok (.iload 22, 2) := by decide +kernel
theorem dL_law_735 : decode cL_law 735 = .ok (.iload 23, 2) := by decide +kernel
theorem dL_law_737 : decode cL_law 737 = .ok (.ifCond .ne 7, 3) := by decide +kernel
theorem dL_law_740 : decode cL_law 740 = .ok (.iconst 0, 1) := by decide +kernel
theorem dL_law_741 : decode cL_law 741 = .ok (.goto 13, 3) := by decide +kernel
theorem dL_law_744 : decode cL_law 744 = .ok (.aload 24, 2) := by decide +kernel
theorem dL_law_746 : decode cL_law 746 = .ok (.aload_n 3, 1) := by decide +kernel
theorem dL_law_747 : decode cL_law 747 = .ok (.iload 21, 2) := by decide +kernel
theorem dL_law_749 : decode cL_law 749 = .ok (.iconst 3, 1) := by decide +kernel
theorem dL_law_750 : decode cL_law 750 = .ok (.invokevirtual 209, 3) := by decide +kernel
theorem dL_law_753 : decode cL_law 753 = .ok (.iaload, 1) := by decide +kernel
theorem dL_law_754 : decode cL_law 754 = .ok (.if_icmp .ne 37, 3) := by decide +kernel
theorem dL_law_757 : decode cL_law 757 = .ok (.iload 20, 2) := by decide +kernel
theorem dL_law_759 : decode cL_law 759 = .ok (.ifCond .ne 15, 3) := by decide +kernel
theorem dL_law_762 : decode cL_law 762 = .ok (.iload 23, 2) := by decide +kernel
theorem dL_law_764 : decode cL_law 764 = .ok (.aload 12, 2) := by decide +kernel
theorem dL_law_766 : decode cL_law 766 = .ok (.iload 21, 2) := by decide +kernel
theorem dL_law_768 : decode cL_law 768 = .ok (.aaload, 1) := by decide +kernel
theorem dL_law_769 : decode cL_law 769 = .ok (.iconst 4, 1) := by decide +kernel
theorem dL_law_770 : decode cL_law 770 = .ok (.iaload, 1) := by decide +kernel
theorem dL_law_771 : decode cL_law 771 = .ok (.if_icmp .ne 20, 3) := by decide +kernel
theorem dL_law_774 : decode cL_law 774 = .ok (.aload_n 3, 1) := by decide +kernel
theorem dL_law_775 : decode cL_law 775 = .ok (.iload 21, 2) := by decide +kernel
theorem dL_law_777 : decode cL_law 777 = .ok (.iconst 0, 1) := by decide +kernel
theorem dL_law_778 : decode cL_law 778 = .ok (.invokevirtual 209, 3) := by decide +kernel
theorem dL_law_781 : decode cL_law 781 = .ok (.aload 12, 2) := by decide +kernel
theorem dL_law_783 : decode cL_law 783 = .ok (.iload 21, 2) := by decide +kernel
theorem dL_law_785 : decode cL_law 785 = .ok (.aaload, 1) := by decide +kernel
theorem dL_law_786 : decode cL_law 786 = .ok (.iconst 0, 1) := by decide +kernel
theorem dL_law_787 : decode cL_law 787 = .ok (.iaload, 1) := by decide +kernel
theorem dL_law_788 : decode cL_law 788 = .ok (.if_icmp .eq 5, 3) := by decide +kernel
theorem dL_law_791 : decode cL_law 791 = .ok (.iconst 0, 1) := by decide +kernel
theorem dL_law_792 : decode cL_law 792 = .ok (.ireturn, 1) := by decide +kernel
theorem dL_law_793 : decode cL_law 793 = .ok (.iload 20, 2) := by decide +kernel
theorem dL_law_795 : decode cL_law 795 = .ok (.ifCond .ne 13, 3) := by decide +kernel
theorem dL_law_798 : decode cL_law 798 = .ok (.iload 23, 2) := by decide +kernel
theorem dL_law_800 : decode cL_law 800 = .ok (.iconst 1, 1) := by decide +kernel
theorem dL_law_801 : decode cL_law 801 = .ok (.if_icmp .ne 7, 3) := by decide +kernel
theorem dL_law_804 : decode cL_law 804 = .ok (.iconst 1, 1) := by decide +kernel
theorem dL_law_805 : decode cL_law 805 = .ok (.goto 4, 3) := by decide +kernel
theorem dL_law_808 : decode cL_law 808 = .ok (.iconst 0, 1) := by decide +kernel
theorem dL_law_809 : decode cL_law 809 = .ok (.istore 25, 2) := by decide +kernel
theorem dL_law_811 : decode cL_law 811 = .ok (.iconst 0, 1) := by decide +kernel
theorem dL_law_812 : decode cL_law 812 = .ok (.istore 26, 2) := by decide +kernel
theorem dL_law_814 : decode cL_law 814 = .ok (.iload 26, 2) := by decide +kernel
theorem dL_law_816 : decode cL_law 816 = .ok (.iload 4, 2) := by decide +kernel
theorem dL_law_818 : decode cL_law 818 = .ok (.if_icmp .ge 60, 3) := by decide +kernel
theorem dL_law_821 : decode cL_law 821 = .ok (.iload 25, 2) := by decide +kernel
theorem dL_law_823 : decode cL_law 823 = .ok (.iload 26, 2) := by decide +kernel
theorem dL_law_825 : decode cL_law 825 = .ok (.iload 21, 2) := by decide +kernel
theorem dL_law_827 : decode cL_law 827 = .ok (.if_icmp .eq 37, 3) := by decide +kernel
theorem dL_law_830 : decode cL_law 830 = .ok (.aload 12, 2) := by decide +kernel
theorem dL_law_832 : decode cL_law 832 = .ok (.iload 26, 2) := by decide +kernel
theorem dL_law_834 : decode cL_law 834 = .ok (.aaload, 1) := by decide +kernel
theorem dL_law_835 : decode cL_law 835 = .ok (.iconst 1, 1) := by decide +kernel
theorem dL_law_836 : decode cL_law 836 = .ok (.iaload, 1) := by decide +kernel
theorem dL_law_837 : decode cL_law 837 = .ok (.aload 12, 2) := by decide +kernel
theorem dL_law_839 : decode cL_law 839 = .ok (.iload 21, 2) := by decide +kernel
theorem dL_law_841 : decode cL_law 841 = .ok (.aaload, 1) := by decide +kernel
theorem dL_law_842 : decode cL_law 842 = .ok (.iconst 1, 1) := by decide +kernel
theorem dL_law_843 : decode cL_law 843 = .ok (.iaload, 1) := by decide +kernel
theorem dL_law_844 : decode cL_law 844 = .ok (.if_icmp .ne 20, 3) := by decide +kernel
theorem dL_law_847 : decode cL_law 847 = .ok (.aload 12, 2) := by decide +kernel
theorem dL_law_849 : decode cL_law 849 = .ok (.iload 26, 2) := by decide +kernel
theorem dL_law_851 : decode cL_law 851 = .ok (.aaload, 1) := by decide +kernel
theorem dL_law_852 : decode cL_law 852 = .ok (.iconst 2, 1) := by decide +kernel
theorem dL_law_853 : decode cL_law 853 = .ok (.iaload, 1) := by decide +kernel
theorem dL_law_854 : decode cL_law 854 = .ok (.aload 12, 2) := by decide +kernel
theorem dL_law_856 : decode cL_law 856 = .ok (.iload 21, 2) := by decide +kernel
theorem dL_law_858 : decode cL_law 858 = .ok (.aaload, 1) := by decide +kernel
theorem dL_law_859 : decode cL_law 859 = .ok (.iconst 2, 1) := by decide +kernel
theorem dL_law_860 : decode cL_law 860 = .ok (.iaload, 1) := by decide +kernel
theorem dL_law_861 : decode cL_law 861 = .ok (.if_icmp .eq 7, 3) := by decide +kernel
theorem dL_law_864 : decode cL_law 864 = .ok (.iconst 1, 1) := by decide +kernel
theorem dL_law_865 : decode cL_law 865 = .ok (.goto 4, 3) := by decide +kernel
theorem dL_law_868 : decode cL_law 868 = .ok (.iconst 0, 1) := by decide +kernel
theorem dL_law_869 : decode cL_law 869 = .ok (.iand, 1) := by decide +kernel
theorem dL_law_870 : decode cL_law 870 = .ok (.istore 25, 2) := by decide +kernel
theorem dL_law_872 : decode cL_law 872 = .ok (.iinc 26 1, 3) := by decide +kernel
theorem dL_law_875 : decode cL_law 875 = .ok (.goto (-61), 3) := by decide +kernel
theorem dL_law_878 : decode cL_law 878 = .ok (.aload_n 2, 1) := by decide +kernel
theorem dL_law_879 : decode cL_law 879 = .ok (.getfield 93, 3) := by decide +kernel
theorem dL_law_882 : decode cL_law 882 = .ok (.aload 12, 2) := by decide +kernel
theorem dL_law_884 : decode cL_law 884 = .ok (.iload 21, 2) := by decide +kernel
theorem dL_law_886 : decode cL_law 886 = .ok (.aaload, 1) := by decide +kernel
theorem dL_law_887 : decode cL_law 887 = .ok (.iconst 0, 1) := by decide +kernel
theorem dL_law_888 : decode cL_law 888 = .ok (.iaload, 1) := by decide +kernel
theorem dL_law_889 : decode cL_law 889 = .ok (.aaload, 1) := by decide +kernel
theorem dL_law_890 : decode cL_law 890 = .ok (.arraylength, 1) := by decide +kernel
theorem dL_law_891 : decode cL_law 891 = .ok (.istore 26, 2) := by decide +kernel
theorem dL_law_893 : decode cL_law 893 = .ok (.iload 25, 2) := by decide +kernel
theorem dL_law_895 : decode cL_law 895 = .ok (.ifCond .eq 39, 3) := by decide +kernel
theorem dL_law_898 : decode cL_law 898 = .ok (.aload_n 3, 1) := by decide +kernel
theorem dL_law_899 : decode cL_law 899 = .ok (.aload 12, 2) := by decide +kernel
theorem dL_law_901 : decode cL_law 901 = .ok (.iload 21, 2) := by decide +kernel
theorem dL_law_903 : decode cL_law 903 = .ok (.aaload, 1) := by decide +kernel
theorem dL_law_904 : decode cL_law 904 = .ok (.iconst 1, 1) := by decide +kernel
theorem dL_law_905 : decode cL_law 905 = .ok (.iaload, 1) := by decide +kernel
theorem dL_law_906 : decode cL_law 906 = .ok (.aload 12, 2) := by decide +kernel
theorem dL_law_908 : decode cL_law 908 = .ok (.iload 21, 2) := by decide +kernel
theorem dL_law_910 : decode cL_law 910 = .ok (.aaload, 1) := by decide +kernel
theorem dL_law_911 : decode cL_law 911 = .ok (.iconst 2, 1) := by decide +kernel
theorem dL_law_912 : decode cL_law 912 = .ok (.iaload, 1) := by decide +kernel
theorem dL_law_913 : decode cL_law 913 = .ok (.invokevirtual 212, 3) := by decide +kernel
theorem dL_law_916 : decode cL_law 916 = .ok (.aload 13, 2) := by decide +kernel
theorem dL_law_918 : decode cL_law 918 = .ok (.iload 21, 2) := by decide +kernel
theorem dL_law_920 : decode cL_law 920 = .ok (.iaload, 1) := by decide +kernel
theorem dL_law_921 : decode cL_law 921 = .ok (.iload 26, 2) := by decide +kernel
theorem dL_law_923 : decode cL_law 923 = .ok (.irem, 1) := by decide +kernel
theorem dL_law_924 : decode cL_law 924 = .ok (.iconst 1, 1) := by decide +kernel
theorem dL_law_925 : decode cL_law 925 = .ok (.iadd, 1) := by decide +kernel
theorem dL_law_926 : decode cL_law 926 = .ok (.iload 26, 2) := by decide +kernel
theorem dL_law_928 : decode cL_law 928 = .ok (.irem, 1) := by decide +kernel
theorem dL_law_929 : decode cL_law 929 = .ok (.if_icmp .eq 5, 3) := by decide +kernel
theorem dL_law_932 : decode cL_law 932 = .ok (.iconst 0, 1) := by decide +kernel
theorem dL_law_933 : decode cL_law 933 = .ok (.ireturn, 1) := by decide +kernel
theorem dL_law_934 : decode cL_law 934 = .ok (.aload_n 3, 1) := by decide +kernel
theorem dL_law_935 : decode cL_law 935 = .ok (.aload 12, 2) := by decide +kernel
theorem dL_law_937 : decode cL_law 937 = .ok (.iload 21, 2) := by decide +kernel
theorem dL_law_939 : decode cL_law 939 = .ok (.aaload, 1) := by decide +kernel
theorem dL_law_940 : decode cL_law 940 = .ok (.iconst 0, 1) := by decide +kernel
theorem dL_law_941 : decode cL_law 941 = .ok (.iaload, 1) := by decide +kernel
theorem dL_law_942 : decode cL_law 942 = .ok (.aload 13, 2) := by decide +kernel
theorem dL_law_944 : decode cL_law 944 = .ok (.iload 21, 2) := by decide +kernel
theorem dL_law_946 : decode cL_law 946 = .ok (.iaload, 1) := by decide +kernel
theorem dL_law_947 : decode cL_law 947 = .ok (.invokevirtual 221, 3) := by decide +kernel
theorem dL_law_950 : decode cL_law 950 = .ok (.istore 27, 2) := by decide +kernel
theorem dL_law_952 : decode cL_law 952 = .ok (.iconst 4, 1) := by decide +kernel
theorem dL_law_953 : decode cL_law 953 = .ok (.newarray .int, 2) := by decide +kernel
theorem dL_law_955 : decode cL_law 955 = .ok (.dup, 1) := by decide +kernel
theorem dL_law_956 : decode cL_law 956 = .ok (.iconst 0, 1) := by decide +kernel
theorem dL_law_957 : decode cL_law 957 = .ok (.iconst 3, 1) := by decide +kernel
theorem dL_law_958 : decode cL_law 958 = .ok (.iastore, 1) := by decide +kernel
theorem dL_law_959 : decode cL_law 959 = .ok (.dup, 1) := by decide +kernel
theorem dL_law_960 : decode cL_law 960 = .ok (.iconst 1, 1) := by decide +kernel
theorem dL_law_961 : decode cL_law 961 = .ok (.iconst 1, 1) := by decide +kernel
theorem dL_law_962 : decode cL_law 962 = .ok (.iastore, 1) := by decide +kernel
theorem dL_law_963 : decode cL_law 963 = .ok (.dup, 1) := by decide +kernel
theorem dL_law_964 : decode cL_law 964 = .ok (.iconst 2, 1) := by decide +kernel
theorem dL_law_965 : decode cL_law 965 = .ok (.iconst 0, 1) := by decide +kernel
theorem dL_law_966 : decode cL_law 966 = .ok (.iastore, 1) := by decide +kernel
theorem dL_law_967 : decode cL_law 967 = .ok (.dup, 1) := by decide +kernel
theorem dL_law_968 : decode cL_law 968 = .ok (.iconst 3, 1) := by decide +kernel
theorem dL_law_969 : decode cL_law 969 = .ok (.iconst 2, 1) := by decide +kernel
theorem dL_law_970 : decode cL_law 970 = .ok (.iastore, 1) := by decide +kernel
theorem dL_law_971 : decode cL_law 971 = .ok (.astore 28, 2) := by decide +kernel
theorem dL_law_973 : decode cL_law 973 = .ok (.iload 25, 2) := by decide +kernel
theorem dL_law_975 : decode cL_law 975 = .ok (.ifCond .eq 30, 3) := by decide +kernel
theorem dL_law_978 : decode cL_law 978 = .ok (.aload_n 3, 1) := by decide +kernel
theorem dL_law_979 : decode cL_law 979 = .ok (.iload 21, 2) := by decide +kernel
theorem dL_law_981 : decode cL_law 981 = .ok (.iconst 3, 1) := by decide +kernel
theorem dL_law_982 : decode cL_law 982 = .ok (.invokevirtual 209, 3) := by decide +kernel
theorem dL_law_985 : decode cL_law 985 = .ok (.aload 12, 2) := by decide +kernel
theorem dL_law_987 : decode cL_law 987 = .ok (.iload 21, 2) := by decide +kernel
theorem dL_law_989 : decode cL_law 989 = .ok (.aaload, 1) := by decide +kernel
theorem dL_law_990 : decode cL_law 990 = .ok (.iconst 3, 1) := by decide +kernel
theorem dL_law_991 : decode cL_law 991 = .ok (.iaload, 1) := by decide +kernel
theorem dL_law_992 : decode cL_law 992 = .ok (.aload 28, 2) := by decide +kernel
theorem dL_law_994 : decode cL_law 994 = .ok (.iload 27, 2) := by decide +kernel
theorem dL_law_996 : decode cL_law 996 = .ok (.iaload, 1) := by decide +kernel
theorem dL_law_997 : decode cL_law 997 = .ok (.iadd, 1) := by decide +kernel
theorem dL_law_998 : decode cL_law 998 = .ok (.iconst 4, 1) := by decide +kernel
theorem dL_law_999 : decode cL_law 999 = .ok (.irem, 1) := by decide +kernel
theorem dL_law_1000 : decode cL_law 1000 = .ok (.if_icmp .eq 5, 3) := by decide +kernel
theorem dL_law_1003 : decode cL_law 1003 = .ok (.iconst 0, 1) := by decide +kernel
theorem dL_law_1004 : decode cL_law 1004 = .ok (.ireturn, 1) := by decide +kernel
theorem dL_law_1005 : decode cL_law 1005 = .ok (.aload 12, 2) := by decide +kernel
theorem dL_law_1007 : decode cL_law 1007 = .ok (.iload 21, 2) := by decide +kernel
theorem dL_law_1009 : decode cL_law 1009 = .ok (.aaload, 1) := by decide +kernel
theorem dL_law_1010 : decode cL_law 1010 = .ok (.bipush 6, 2) := by decide +kernel
theorem dL_law_1012 : decode cL_law 1012 = .ok (.iaload, 1) := by decide +kernel
theorem dL_law_1013 : decode cL_law 1013 = .ok (.ifCond .le 64, 3) := by decide +kernel
theorem dL_law_1016 : decode cL_law 1016 = .ok (.iload 20, 2) := by decide +kernel
theorem dL_law_1018 : decode cL_law 1018 = .ok (.ifCond .ne 59, 3) := by decide +kernel
theorem dL_law_1021 : decode cL_law 1021 = .ok (.iload 23, 2) := by decide +kernel
theorem dL_law_1023 : decode cL_law 1023 = .ok (.iconst 1, 1) := by decide +kernel
theorem dL_law_1024 : decode cL_law 1024 = .ok (.if_icmp .ne 53, 3) := by decide +kernel
theorem dL_law_1027 : decode cL_law 1027 = .ok (.aload_n 3, 1) := by decide +kernel
theorem dL_law_1028 : decode cL_law 1028 = .ok (.iload 21, 2) := by decide +kernel
theorem dL_law_1030 : decode cL_law 1030 = .ok (.bipush 6, 2) := by decide +kernel
theorem dL_law_1032 : decode cL_law 1032 = .ok (.invokevirtual 209, 3) := by decide +kernel
theorem dL_law_1035 : decode cL_law 1035 = .ok (.aload 12, 2) := by decide +kernel
theorem dL_law_1037 : decode cL_law 1037 = .ok (.iload 21, 2) := by decide +kernel
theorem dL_law_1039 : decode cL_law 1039 = .ok (.aaload, 1) := by decide +kernel
theorem dL_law_1040 : decode cL_law 1040 = .ok (.bipush 6, 2) := by decide +kernel
theorem dL_law_1042 : decode cL_law 1042 = .ok (.iaload, 1) := by decide +kernel
theorem dL_law_1043 : decode cL_law 1043 = .ok (.if_icmp .ne 34, 3) := by decide +kernel
theorem dL_law_1046 : decode cL_law 1046 = .ok (.aload 12, 2) := by decide +kernel
theorem dL_law_1048 : decode cL_law 1048 = .ok (.iload 21, 2) := by decide +kernel
theorem dL_law_1050 : decode cL_law 1050 = .ok (.aaload, 1) := by decide +kernel
theorem dL_law_1051 : decode cL_law 1051 = .ok (.bipush 6, 2) := by decide +kernel
theorem dL_law_1053 : decode cL_law 1053 = .ok (.iaload, 1) := by decide +kernel
theorem dL_law_1054 : decode cL_law 1054 = .ok (.iconst 1, 1) := by decide +kernel
theorem dL_law_1055 : decode cL_law 1055 = .ok (.if_icmp .ne 22, 3) := by decide +kernel
theorem dL_law_1058 : decode cL_law 1058 = .ok (.aload_n 3, 1) := by decide +kernel
theorem dL_law_1059 : decode cL_law 1059 = .ok (.iload 21, 2) := by decide +kernel
theorem dL_law_1061 : decode cL_law 1061 = .ok (.iconst 3, 1) := by decide +kernel
theorem dL_law_1062 : decode cL_law 1062 = .ok (.invokevirtual 209, 3) := by decide +kernel
theorem dL_law_1065 : decode cL_law 1065 = .ok (.aload 12, 2) := by decide +kernel
theorem dL_law_1067 : decode cL_law 1067 = .ok (.iload 21, 2) := by decide +kernel
theorem dL_law_1069 : decode cL_law 1069 = .ok (.aaload, 1) := by decide +kernel
theorem dL_law_1070 : decode cL_law 1070 = .ok (.iconst 3, 1) := by decide +kernel
theorem dL_law_1071 : decode cL_law 1071 = .ok (.iaload, 1) := by decide +kernel
theorem dL_law_1072 : decode cL_law 1072 = .ok (.if_icmp .eq 5, 3) := by decide +kernel
theorem dL_law_1075 : decode cL_law 1075 = .ok (.iconst 0, 1) := by decide +kernel
theorem dL_law_1076 : decode cL_law 1076 = .ok (.ireturn, 1) := by decide +kernel
theorem dL_law_1077 : decode cL_law 1077 = .ok (.iinc 21 1, 3) := by decide +kernel
theorem dL_law_1080 : decode cL_law 1080 = .ok (.goto (-455), 3) := by decide +kernel
theorem dL_law_1083 : decode cL_law 1083 = .ok (.aload_n 3, 1) := by decide +kernel
theorem dL_law_1084 : decode cL_law 1084 = .ok (.bipush 40, 2) := by decide +kernel
theorem dL_law_1086 : decode cL_law 1086 = .ok (.bipush 63, 2) := by decide +kernel
theorem dL_law_1088 : decode cL_law 1088 = .ok (.invokevirtual 153, 3) := by decide +kernel
theorem dL_law_1091 : decode cL_law 1091 = .ok (.aload_n 2, 1) := by decide +kernel
theorem dL_law_1092 : decode cL_law 1092 = .ok (.bipush 40, 2) := by decide +kernel
theorem dL_law_1094 : decode cL_law 1094 = .ok (.bipush 63, 2) := by decide +kernel
theorem dL_law_1096 : decode cL_law 1096 = .ok (.invokevirtual 156, 3) := by decide +kernel
theorem dL_law_1099 : decode cL_law 1099 = .ok (.if_icmp .eq 5, 3) := by decide +kernel
theorem dL_law_1102 : decode cL_law 1102 = .ok (.iconst 0, 1) := by decide +kernel
theorem dL_law_1103 : decode cL_law 1103 = .ok (.ireturn, 1) := by decide +kernel
theorem dL_law_1104 : decode cL_law 1104 = .ok (.bipush 40, 2) := by decide +kernel
theorem dL_law_1106 : decode cL_law 1106 = .ok (.istore 21, 2) := by decide +kernel
theorem dL_law_1108 : decode cL_law 1108 = .ok (.iload 21, 2) := by decide +kernel
theorem dL_law_1110 : decode cL_law 1110 = .ok (.bipush 64, 2) := by decide +kernel
theorem dL_law_1112 : decode cL_law 1112 = .ok (.if_icmp .ge 20, 3) := by decide +kernel
theorem dL_law_1115 : decode cL_law 1115 = .ok (.aload_n 3, 1) := by decide +kernel
theorem dL_law_1116 : decode cL_law 1116 = .ok (.iload 21, 2) := by decide +kernel
theorem dL_law_1118 : decode cL_law 1118 = .ok (.invokevirtual 199, 3) := by decide +kernel
theorem dL_law_1121 : decode cL_law 1121 = .ok (.ifCond .eq 5, 3) := by decide +kernel
theorem dL_law_1124 : decode cL_law 1124 = .ok (.iconst 0, 1) := by decide +kernel
theorem dL_law_1125 : decode cL_law 1125 = .ok (.ireturn, 1) := by decide +kernel
theorem dL_law_1126 : decode cL_law 1126 = .ok (.iinc 21 1, 3) := by decide +kernel
theorem dL_law_1129 : decode cL_law 1129 = .ok (.goto (-21), 3) := by decide +kernel
theorem dL_law_1132 : decode cL_law 1132 = .ok (.iinc 5 1, 3) := by decide +kernel
theorem dL_law_1135 : decode cL_law 1135 = .ok (.goto (-1090), 3) := by decide +kernel
theorem dL_law_1138 : decode cL_law 1138 = .ok (.aload_n 2, 1) := by decide +kernel
theorem dL_law_1139 : decode cL_law 1139 = .ok (.aload_n 3, 1) := by decide +kernel
theorem dL_law_1140 : decode cL_law 1140 = .ok (.invokevirtual 224, 3) := by decide +kernel
theorem dL_law_1143 : decode cL_law 1143 = .ok (.ireturn, 1) := by decide +kernel
