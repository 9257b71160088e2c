set_option maxRecDepth 20000 in
theorem ggL_law_X9_init_c1 : GoodIn wsL_law (.code yX9_init cX9_init 1 none :: wsX9_init_r1) := goodIn_2 lkL_in [(0, 9), (0, 10), (0, 11), (0, 12), (0, 13), (0, 14), (0, 15), (0, 16), (0, 17), (0, 18), (0, 19), (0, 20), (0, 21), (0, 22), (0, 23), (1, 0), (1, 1), (1, 2), (1, 3), (1, 4), (1, 5), (1, 6), (1, 7), (1, 8), (1, 9)] rfl (by decide +kernel)
set_option maxRecDepth 20000 in
theorem ggL_law_X9_init_c2 : GoodIn wsL_law wsX9_init_r2 := goodIn_2 lkL_in [(1, 10), (1, 11), (1, 12), (1, 13), (1, 14), (1, 15), (1, 16), (1, 17), (1, 18), (1, 19), (1, 20), (1, 21), (1, 22), (1, 23), (2, 0), (2, 1), (2, 2), (2, 3), (2, 4), (2, 5), (2, 6), (2, 7), (2, 8), (2, 9)] rfl (by decide +kernel)
set_option maxRecDepth 20000 in
theorem ggL_law_X9_init_c3 : GoodIn wsL_law wsX9_init_r3 := goodIn_2 lkL_in [(2, 10), (2, 11), (2, 12), (2, 13), (2, 14), (2, 15), (2, 16), (2, 17), (2, 18), (2, 19), (2, 20), (2, 21), (0, 6), (2, 22), (2, 23), (3, 0), (3, 1), (3, 2), (3, 3), (3, 4), (3, 5), (3, 6), (3, 7), (3, 8)] rfl (by decide +kernel)
set_option maxRecDepth 20000 in
theorem ggL_law_X9_init_c4 : GoodIn wsL_law wsX9_init_r4 := goodIn_2 lkL_in [(3, 9), (3, 10), (3, 11), (3, 12), (3, 13), (3, 14), (3, 15), (3, 16), (3, 17), (3, 18), (3, 19), (3, 20), (3, 21), (3, 22), (3, 23), (4, 0), (4, 1), (4, 2), (4, 3), (4, 4), (4, 5), (4, 6), (4, 7), (4, 8)] rfl (by decide +kernel)
set_option maxRecDepth 20000 in
theorem ggL_law_X9_init_c5 : GoodIn wsL_law wsX9_init_r5 := goodIn_2 lkL_in [(4, 9), (4, 10), (4, 11), (4, 12), (4, 13), (4, 14), (4, 15), (4, 16), (4, 17), (4, 18), (4, 19), (4, 20), (4, 21), (4, 22), (4, 23), (5, 0), (5, 1), (5, 2), (5, 3), (5, 4), (5, 5), (5, 6), (5, 7), (5, 8)] rfl (by decide +kernel)
set_option maxRecDepth 20000 in
theorem ggL_law_X9_init_c6 : GoodIn wsL_law wsX9_init_r6 := goodIn_2 lkL_in [(5, 9), (5, 10), (5, 11), (5, 12), (5, 13), (5, 14), (5, 15), (5, 16), (5, 17), (5, 18), (5, 19), (5, 20), (5, 21), (5, 22), (5, 23), (6, 0), (6, 1), (6, 2), (6, 3), (6, 4), (6, 5), (6, 6), (6, 7), (6, 8)] rfl (by decide +kernel)
set_option maxRecDepth 20000 in
theorem ggL_law_X9_init_c7 : GoodIn wsL_law wsX9_init_r7 := goodIn_2 lkL_in [(6, 9), (6, 10), (6, 11), (6, 12), (6, 13), (6, 14), (6, 15), (6, 16)] rfl (by decide +kernel)
set_option maxRecDepth 20000 in
theorem ggL_law_X9_init_c8 : GoodIn wsL_law wsX60 := goodIn_2 lkL_in [(58, 0), (58, 1)] rfl (by decide +kernel)
set_option maxRecDepth 20000 in
theorem ggL_law_X9_init_c9 : GoodIn wsL_law wsX90 := goodIn_2 lkL_in [(56, 0), (56, 1), (56, 2), (56, 3), (56, 4), (56, 5), (56, 6)] rfl (by decide +kernel)
set_option maxRecDepth 20000 in
theorem ggL_law_X9_init_c10 : GoodIn wsL_law wsX30 := goodIn_2 lkL_in [(59, 0), (59, 1), (59, 2), (59, 3), (59, 4), (59, 5), (59, 6), (59, 7), (59, 8), (59, 9), (59, 10)] rfl (by decide +kernel)
set_option maxRecDepth 20000 in
theorem ggL_law_X9_init_c11 : GoodIn wsL_law wsX80 := goodIn_2 lkL_in [(60, 0), (60, 1), (60, 2), (60, 3), (60, 4), (60, 5), (60, 6), (60, 7), (60, 8)] rfl (by decide +kernel)
set_option maxRecDepth 20000 in
theorem ggL_law_X9_init_c12 : GoodIn wsL_law wsX20 := goodIn_2 lkL_in [(61, 0), (61, 1), (61, 2), (61, 3), (61, 4), (61, 5), (61, 6), (61, 7)] rfl (by decide +kernel)
set_option maxRecDepth 20000 in
theorem ggL_law_X9_init_c13 : GoodIn wsL_law wsX50 := goodIn_2 lkL_in [(62, 0), (62, 1)] rfl (by decide +kernel)
set_option maxRecDepth 20000 in
theorem ggL_law_X9_init_c14 : GoodIn wsL_law wsX00 := goodIn_2 lkL_in [(63, 0), (63, 1), (63, 2), (63, 3), (63, 4), (63, 5), (63, 6), (63, 7), (63, 8)] rfl (by decide +kernel)
set_option maxRecDepth 20000 in
theorem ggL_law_X9_init_c15 : GoodIn wsL_law wsX70 := goodIn_2 lkL_in [(64, 0), (64, 1), (64, 2), (64, 3), (64, 4), (64, 5)] rfl (by decide +kernel)
set_option maxRecDepth 20000 in
theorem ggL_law_X9_init_c16 : GoodIn wsL_law wsX40 := goodIn_2 lkL_in [(65, 0), (65, 1)] rfl (by decide +kernel)
set_option maxRecDepth 20000 in
theorem ggL_law_X9_init : GoodIn wsL_law wsX9_init := (goodIn_ca (goodIn_ca (goodIn_ca (goodIn_ca (goodIn_ca (goodIn_ca (goodIn_ca (goodIn_ca (goodIn_ca (goodIn_ca ggL_law_X9_init_c1 (goodIn_app ggL_law_X9_init_c2 (goodIn_app ggL_law_X9_init_c3 (goodIn_app ggL_law_X9_init_c4 (goodIn_app ggL_law_X9_init_c5 (goodIn_app ggL_law_X9_init_c6 ggL_law_X9_init_c7)))))) ggL_law_X9_init_c8) ggL_law_X9_init_c9) ggL_law_X9_init_c10) ggL_law_X9_init_c11) ggL_law_X9_init_c12) ggL_law_X9_init_c13) ggL_law_X9_init_c14) ggL_law_X9_init_c15) ggL_law_X9_init_c16)
set_option maxRecDepth 20000 in
theorem gL_law_X9_init : GoodIn wsL_law (wsX9_init) := ggL_law_X9_init
set_option maxRecDepth 20000 in
theorem ggL_law_X12_init_c1 : GoodIn wsL_law (.code yX12_init cX12_init 1 none :: wsX12_init_r1) := goodIn_2 lkL_in [(6, 19), (6, 20), (0, 11), (0, 12), (1, 14), (6, 21), (6, 22), (6, 23), (7, 0), (7, 1), (7, 2), (7, 3), (7, 4), (7, 5), (7, 6), (7, 7), (7, 8), (7, 9), (7, 10), (7, 11), (7, 12), (7, 13), (7, 14), (7, 15), (7, 16)] rfl (by decide +kernel)
set_option maxRecDepth 20000 in
theorem ggL_law_X12_init_c2 : GoodIn wsL_law wsX12_init_r2 := goodIn_2 lkL_in [(7, 17), (7, 18), (7, 19), (7, 20), (7, 21), (7, 22), (7, 23), (8, 0), (8, 1), (8, 2), (8, 3), (8, 4), (8, 5), (8, 6), (8, 7), (8, 8), (8, 9), (8, 10), (8, 11), (8, 12), (8, 13), (8, 14), (8, 15), (8, 16)] rfl (by decide +kernel)
set_option maxRecDepth 20000 in
theorem ggL_law_X12_init_c3 : GoodIn wsL_law wsX12_init_r3 := goodIn_2 lkL_in [(8, 17), (8, 18), (8, 19), (8, 20), (8, 21), (8, 22), (8, 23), (9, 0), (9, 1), (9, 2), (9, 3), (9, 4), (9, 5), (9, 6), (9, 7), (9, 8), (9, 9), (9, 10), (9, 11), (9, 12), (9, 13), (9, 14), (9, 15), (9, 16)] rfl (by decide +kernel)
set_option maxRecDepth 20000 in
theorem ggL_law_X12_init_c4 : GoodIn wsL_law wsX12_init_r4 := goodIn_2 lkL_in [(9, 17), (9, 18)] rfl (by decide +kernel)
set_option maxRecDepth 20000 in
theorem ggL_law_X12_init_c5 : GoodIn wsL_law wsX120 := goodIn_2 lkL_in [(57, 0), (57, 1), (57, 2), (57, 3), (57, 4), (57, 5), (57, 6), (57, 7), (57, 8), (57, 9), (57, 10), (57, 11), (57, 12), (57, 13), (57, 14)] rfl (by decide +kernel)
set_option maxRecDepth 20000 in
theorem ggL_law_X12_init_c6 : GoodIn wsL_law wsX100 := goodIn_2 lkL_in [(66, 0), (66, 1), (66, 2), (66, 3), (66, 4), (66, 5), (66, 6), (66, 7), (66, 8), (66, 9), (66, 10), (66, 11), (66, 12), (66, 13), (66, 14), (66, 15), (66, 16), (66, 17), (66, 18), (66, 19), (66, 20), (66, 21)] rfl (by decide +kernel)
set_option maxRecDepth 20000 in
theorem ggL_law_X12_init_c7 : GoodIn wsL_law wsX110 := goodIn_2 lkL_in [(67, 0), (67, 1), (67, 2), (67, 3), (67, 4), (67, 5), (67, 6), (67, 7), (67, 8), (67, 9), (67, 10), (67, 11), (67, 12), (67, 13), (67, 14), (67, 15)] rfl (by decide +kernel)
set_option maxRecDepth 20000 in
theorem ggL_law_X12_init : GoodIn wsL_law wsX12_init := (goodIn_ca (goodIn_ca (goodIn_ca (goodIn_ca ggL_law_X12_init_c1 (goodIn_app ggL_law_X12_init_c2 (goodIn_app ggL_law_X12_init_c3 ggL_law_X12_init_c4))) ggL_law_X12_init_c5) ggL_law_X12_init_c6) ggL_law_X12_init_c7)
set_option maxRecDepth 20000 in
theorem gL_law_X12_init : GoodIn wsL_law (wsX12_init) := ggL_law_X12_init
set_option maxRecDepth 20000 in
theorem ggL_law_L_feed : GoodIn wsL_law wsL_feed := goodIn_ca (goodIn_2 lkL_in [(9, 22), (9, 23), (10, 0), (10, 1), (10, 2), (0, 2), (10, 3), (10, 4), (10, 5), (0, 16), (10, 6), (10, 7), (10, 8), (10, 9), (0, 15), (10, 10), (10, 11), (10, 12), (10, 13), (10, 14), (10, 15), (1, 15), (10, 16), (56, 0), (56, 1), (56, 2), (56, 3), (56, 4), (56, 5), (56, 6), (58, 0), (58, 1)] rfl (by decide +kernel)) (goodIn_sub (fun _ h => List.mem_append_left _ (List.mem_append_left _ (List.mem_append_right _ h))) (by decide +kernel))
set_option maxRecDepth 20000 in
theorem gL_law_L_feed : GoodIn wsL_law (va_wsS RL 75 yL_feed wsL_feed) := goodIn_app (goodIn_of _ (by decide +kernel)) ggL_law_L_feed
set_option maxRecDepth 20000 in
theorem ggL_law_X12_feed : GoodIn wsL_law wsX12_feed := goodIn_2 lkL_in [(10, 20), (10, 21), (10, 22), (1, 14), (6, 21), (10, 23), (11, 0), (11, 1), (0, 5), (11, 2), (57, 0), (57, 1), (57, 2), (57, 3), (57, 4), (57, 5), (57, 6), (57, 7), (57, 8), (57, 9), (57, 10), (57, 11), (57, 12), (57, 13), (57, 14)] rfl (by decide +kernel)
set_option maxRecDepth 20000 in
theorem gL_law_X12_feed : GoodIn wsL_law (wsV RL 80 RX12 yX12_feed wsX12_feed) := goodIn_app (goodIn_of _ (by decide +kernel)) ggL_law_X12_feed
set_option maxRecDepth 20000 in
theorem ggL_law_X12_thrown : GoodIn wsL_law wsX12_thrown := goodIn_2 lkL_in [(11, 6), (10, 21), (57, 0), (57, 1), (57, 2), (57, 3), (57, 4), (57, 5), (57, 6), (57, 7), (57, 8), (57, 9), (57, 10), (57, 11), (57, 12), (57, 13), (57, 14)] rfl (by decide +kernel)
set_option maxRecDepth 20000 in
theorem gL_law_X12_thrown : GoodIn wsL_law (wsV RL 81 RX12 yX12_thrown wsX12_thrown) := goodIn_app (goodIn_of _ (by decide +kernel)) ggL_law_X12_thrown
set_option maxRecDepth 20000 in
theorem ggL_law_L_trim : GoodIn wsL_law wsL_trim := goodIn_ca (goodIn_2 lkL_in [(11, 9), (11, 10), (11, 11), (11, 12), (11, 13), (0, 2), (11, 14), (11, 15), (11, 16), (0, 16), (10, 6), (56, 0), (56, 1), (56, 2), (56, 3), (56, 4), (56, 5), (56, 6), (58, 0), (58, 1)] rfl (by decide +kernel)) (goodIn_sub (fun _ h => List.mem_append_left _ (List.mem_append_right _ h)) (by decide +kernel))
set_option maxRecDepth 20000 in
theorem gL_law_L_trim : GoodIn wsL_law (va_wsS RL 85 yL_trim wsL_trim) := goodIn_app (goodIn_of _ (by decide +kernel)) ggL_law_L_trim
set_option maxRecDepth 20000 in
theorem ggL_law_X12_trim : GoodIn wsL_law wsX12_trim := goodIn_2 lkL_in [(11, 20), (10, 21), (10, 22), (11, 21), (11, 22), (0, 5), (11, 23), (10, 23), (11, 0), (11, 1), (11, 2), (57, 0), (57, 1), (57, 2), (57, 3), (57, 4), (57, 5), (57, 6), (57, 7), (57, 8), (57, 9), (57, 10), (57, 11), (57, 12), (57, 13), (57, 14)] rfl (by decide +kernel)
set_option maxRecDepth 20000 in
theorem gL_law_X12_trim : GoodIn wsL_law (wsV RL 88 RX12 yX12_trim wsX12_trim) := goodIn_app (goodIn_of _ (by decide +kernel)) ggL_law_X12_trim
set_option maxRecDepth 20000 in
theorem ggL_law_X9_teach_c1 : GoodIn wsL_law (.code yX9_teach cX9_teach 2 (some .int) :: wsX9_teach_r1) := goodIn_2 lkL_in [(12, 3), (1, 5), (12, 4), (1, 10), (0, 16), (10, 6), (0, 20), (12, 5), (1, 0), (1, 1), (12, 6), (12, 7), (12, 8), (1, 4), (12, 9), (3, 3), (3, 5), (3, 6), (12, 10), (12, 11), (12, 12), (12, 13), (12, 14), (3, 2), (12, 15)] rfl (by decide +kernel)
set_option maxRecDepth 20000 in
theorem ggL_law_X9_teach_c2 : GoodIn wsL_law wsX9_teach_r2 := goodIn_2 lkL_in [(12, 16), (3, 15), (12, 17), (12, 18), (12, 19), (0, 15), (12, 20), (10, 11), (12, 21), (12, 22), (12, 23), (13, 0), (1, 15), (13, 1), (13, 2), (13, 3), (13, 4), (13, 5), (13, 6), (13, 7), (13, 8), (13, 9), (13, 10), (13, 11)] rfl (by decide +kernel)
set_option maxRecDepth 20000 in
theorem ggL_law_X9_teach_c3 : GoodIn wsL_law wsX9_teach_r3 := goodIn_2 lkL_in [(13, 12), (13, 13), (6, 1), (6, 2), (6, 3), (5, 21), (5, 22), (5, 23), (6, 0), (13, 14), (13, 15), (13, 16), (13, 17), (3, 11), (13, 18), (13, 19), (13, 20), (13, 21), (3, 12), (3, 13), (3, 14), (13, 22), (13, 23), (14, 0)] rfl (by decide +kernel)
set_option maxRecDepth 20000 in
theorem ggL_law_X9_teach_c4 : GoodIn wsL_law wsX9_teach_r4 := goodIn_2 lkL_in [(14, 1), (14, 2), (14, 3), (14, 4), (14, 5), (14, 6), (14, 7), (14, 8), (14, 9), (14, 10), (14, 11), (14, 12), (14, 13), (14, 14), (0, 19), (14, 15), (14, 16), (14, 17), (14, 18), (14, 19), (14, 20), (14, 21), (0, 23), (14, 22)] rfl (by decide +kernel)
set_option maxRecDepth 20000 in
theorem ggL_law_X9_teach_c5 : GoodIn wsL_law wsX9_teach_r5 := goodIn_2 lkL_in [(2, 7), (2, 8), (2, 9), (14, 23), (15, 0), (15, 1), (15, 2), (15, 3), (15, 4), (15, 5), (15, 6), (15, 7), (15, 8), (15, 9), (15, 10), (15, 11), (15, 12), (15, 13), (15, 14), (15, 15), (15, 16), (15, 17), (15, 18), (15, 19)] rfl (by decide +kernel)
set_option maxRecDepth 20000 in
theorem ggL_law_X9_teach_c6 : GoodIn wsL_law wsX9_teach_r6 := goodIn_2 lkL_in [(15, 20), (15, 21), (15, 22), (15, 23), (16, 0), (16, 1), (16, 2), (2, 22), (16, 3), (16, 4), (16, 5), (16, 6), (16, 7), (16, 8), (16, 9), (16, 10), (16, 11), (16, 12), (16, 13), (16, 14), (16, 15), (16, 16), (1, 19), (16, 17)] rfl (by decide +kernel)
set_option maxRecDepth 20000 in
theorem ggL_law_X9_teach_c7 : GoodIn wsL_law wsX9_teach_r7 := goodIn_2 lkL_in [(16, 18), (16, 19), (16, 20), (1, 20), (16, 21), (16, 22), (16, 23), (17, 0), (17, 1), (17, 2), (17, 3), (17, 4), (17, 5), (2, 23), (17, 6), (17, 7), (17, 8), (17, 9), (17, 10), (2, 11), (17, 11), (17, 12), (17, 13), (2, 13)] rfl (by decide +kernel)
set_option maxRecDepth 20000 in
theorem ggL_law_X9_teach_c8 : GoodIn wsL_law wsX9_teach_r8 := goodIn_2 lkL_in [(17, 14), (17, 15), (17, 16), (17, 17), (17, 18), (17, 19), (17, 20), (17, 21), (17, 22), (17, 23), (18, 0), (18, 1), (18, 2), (18, 3), (18, 4), (18, 5), (18, 6), (18, 7), (18, 8), (18, 9), (18, 10), (18, 11), (18, 12), (18, 13)] rfl (by decide +kernel)
set_option maxRecDepth 20000 in
theorem ggL_law_X9_teach_c9 : GoodIn wsL_law wsX9_teach_r9 := goodIn_2 lkL_in [(18, 14), (18, 15), (18, 16), (18, 17), (18, 18), (18, 19), (18, 20), (18, 21), (18, 22), (18, 23), (19, 0), (19, 1), (19, 2), (19, 3), (19, 4), (19, 5), (19, 6), (19, 7), (19, 8), (19, 9), (19, 10), (19, 11), (19, 12), (19, 13)] rfl (by decide +kernel)
set_option maxRecDepth 20000 in
theorem ggL_law_X9_teach_c10 : GoodIn wsL_law wsX9_teach_r10 := goodIn_2 lkL_in [(19, 14), (19, 15), (19, 16), (19, 17), (19, 18), (19, 19), (19, 20), (19, 21), (19, 22), (19, 23), (0, 2), (20, 0), (20, 1), (20, 2), (20, 3), (20, 4), (20, 5), (20, 6), (20, 7), (20, 8), (20, 9), (20, 10), (20, 11), (20, 12)] rfl (by decide +kernel)
set_option maxRecDepth 20000 in
theorem ggL_law_X9_teach_c11 : GoodIn wsL_law wsX9_teach_r11 := goodIn_2 lkL_in [(1, 21), (1, 22), (1, 23), (2, 0), (20, 13), (20, 14), (20, 15), (20, 16), (20, 17), (20, 18), (20, 19), (20, 20), (20, 21), (20, 22), (20, 23), (21, 0), (21, 1), (21, 2), (21, 3), (2, 1), (2, 2), (21, 4), (21, 5), (21, 6)] rfl (by decide +kernel)
set_option maxRecDepth 20000 in
theorem ggL_law_X9_teach_c12 : GoodIn wsL_law wsX9_teach_r12 := goodIn_2 lkL_in [(21, 7), (21, 8), (21, 9), (21, 10), (21, 11), (21, 12), (21, 13), (21, 14), (21, 15), (21, 16), (21, 17), (21, 18), (21, 19), (21, 20), (21, 21), (21, 22), (21, 23), (22, 0), (22, 1), (22, 2), (22, 3), (22, 4), (22, 5), (22, 6)] rfl (by decide +kernel)
set_option maxRecDepth 20000 in
theorem ggL_law_X9_teach_c13 : GoodIn wsL_law wsX9_teach_r13 := goodIn_2 lkL_in [(22, 7), (22, 8), (22, 9), (22, 10), (22, 11), (22, 12), (22, 13), (22, 14), (22, 15), (22, 16), (22, 17), (22, 18), (22, 19), (22, 20), (22, 21), (22, 22), (22, 23), (23, 0), (23, 1), (23, 2), (23, 3), (23, 4), (23, 5), (23, 6)] rfl (by decide +kernel)
set_option maxRecDepth 20000 in
theorem ggL_law_X9_teach_c14 : GoodIn wsL_law wsX9_teach_r14 := goodIn_2 lkL_in [(23, 7), (23, 8), (23, 9), (23, 10), (23, 11), (23, 12), (9, 12), (9, 13), (9, 14), (23, 13), (23, 14), (23, 15), (23, 16), (23, 17), (23, 18), (23, 19), (23, 20), (23, 21), (2, 17), (23, 22)] rfl (by decide +kernel)
set_option maxRecDepth 20000 in
theorem ggL_law_X9_teach_c15 : GoodIn wsL_law wsX90 := goodIn_2 lkL_in [(56, 0), (56, 1), (56, 2), (56, 3), (56, 4), (56, 5), (56, 6)] rfl (by decide +kernel)
set_option maxRecDepth 20000 in
theorem ggL_law_X9_teach_c16 : GoodIn wsL_law wsX20 := goodIn_2 lkL_in [(61, 0), (61, 1), (61, 2), (61, 3), (61, 4), (61, 5), (61, 6), (61, 7)] rfl (by decide +kernel)
set_option maxRecDepth 20000 in
theorem ggL_law_X9_teach_c17 : GoodIn wsL_law wsX60 := goodIn_2 lkL_in [(58, 0), (58, 1)] rfl (by decide +kernel)
set_option maxRecDepth 20000 in
theorem ggL_law_X9_teach_c18 : GoodIn wsL_law wsX70 := goodIn_2 lkL_in [(64, 0), (64, 1), (64, 2), (64, 3), (64, 4), (64, 5)] rfl (by decide +kernel)
set_option maxRecDepth 20000 in
theorem ggL_law_X9_teach_c19 : GoodIn wsL_law wsX30 := goodIn_2 lkL_in [(59, 0), (59, 1), (59, 2), (59, 3), (59, 4), (59, 5), (59, 6), (59, 7), (59, 8), (59, 9), (59, 10)] rfl (by decide +kernel)
set_option maxRecDepth 20000 in
theorem ggL_law_X9_teach_c20 : GoodIn wsL_law wsX80 := goodIn_2 lkL_in [(60, 0), (60, 1), (60, 2), (60, 3), (60, 4), (60, 5), (60, 6), (60, 7), (60, 8)] rfl (by decide +kernel)
set_option maxRecDepth 20000 in
theorem ggL_law_X9_teach_c21 : GoodIn wsL_law wsX00 := goodIn_2 lkL_in [(63, 0), (63, 1), (63, 2), (63, 3), (63, 4), (63, 5), (63, 6), (63, 7), (63, 8)] rfl (by decide +kernel)
set_option maxRecDepth 20000 in
theorem ggL_law_X9_teach : GoodIn wsL_law wsX9_teach := (goodIn_ca (goodIn_ca (goodIn_ca (goodIn_ca (goodIn_ca (goodIn_ca (goodIn_ca (goodIn_ca ggL_law_X9_teach_c1 (goodIn_app ggL_law_X9_teach_c2 (goodIn_app ggL_law_X9_teach_c3 (goodIn_app ggL_law_X9_teach_c4 (goodIn_app ggL_law_X9_teach_c5 (goodIn_app ggL_law_X9_teach_c6 (goodIn_app ggL_law_X9_teach_c7 (goodIn_app ggL_law_X9_teach_c8 (goodIn_app ggL_law_X9_teach_c9 (goodIn_app ggL_law_X9_teach_c10 (goodIn_app ggL_law_X9_teach_c11 (goodIn_app ggL_law_X9_teach_c12 (goodIn_app ggL_law_X9_teach_c13 ggL_law_X9_teach_c14))))))))))))) ggL_law_X9_teach_c15) ggL_law_X9_teach_c16) ggL_law_X9_teach_c17) ggL_law_X9_teach_c18) ggL_law_X9_teach_c19) ggL_law_X9_teach_c20) ggL_law_X9_teach_c21)
set_option maxRecDepth 20000 in
theorem gL_law_X9_teach : GoodIn wsL_law (wsV RL 89 RX9 yX9_teach wsX9_teach) := goodIn_app (goodIn_of _ (by decide +kernel)) ggL_law_X9_teach
set_option maxRecDepth 20000 in
theorem ggL_law_X12_teach_c1 : GoodIn wsL_law (.code yX12_teach cX12_teach 2 (some .int) :: wsX12_teach_r1) := goodIn_2 lkL_in [(24, 2), (10, 21), (6, 22), (10, 22), (7, 8), (7, 7), (7, 12), (24, 3), (24, 4), (24, 5), (0, 5), (24, 6), (7, 4), (7, 5), (7, 6), (24, 7), (24, 8), (7, 0), (7, 3), (7, 14), (7, 15), (7, 16), (0, 11), (0, 12), (1, 14)] rfl (by decide +kernel)
set_option maxRecDepth 20000 in
theorem ggL_law_X12_teach_c2 : GoodIn wsL_law wsX12_teach_r2 := goodIn_2 lkL_in [(7, 17), (7, 18), (7, 19), (7, 20), (7, 21), (7, 22), (7, 23), (8, 0), (8, 1), (8, 2), (8, 3), (8, 4), (8, 5), (8, 6), (8, 7), (24, 9), (24, 10), (24, 11), (24, 12), (7, 2), (6, 23), (7, 1), (24, 13), (24, 14)] rfl (by decide +kernel)
set_option maxRecDepth 20000 in
theorem ggL_law_X12_teach_c3 : GoodIn wsL_law wsX12_teach_r3 := goodIn_2 lkL_in [(24, 15), (24, 16), (6, 21), (24, 17), (24, 18), (24, 19), (24, 20), (24, 21), (24, 22), (24, 23), (25, 0), (25, 1), (25, 2), (25, 3), (25, 4), (25, 5), (25, 6), (25, 7), (25, 8), (3, 21), (3, 22), (3, 23), (4, 0), (4, 1)] rfl (by decide +kernel)
set_option maxRecDepth 20000 in
theorem ggL_law_X12_teach_c4 : GoodIn wsL_law wsX12_teach_r4 := goodIn_2 lkL_in [(4, 2), (4, 3), (4, 4), (4, 5), (4, 6), (4, 7), (25, 9), (4, 9), (4, 10), (4, 11), (4, 12), (4, 13), (4, 14), (4, 15), (4, 16), (4, 17), (4, 18), (4, 19), (4, 20), (4, 21), (4, 22), (4, 23), (5, 0), (5, 1)] rfl (by decide +kernel)
set_option maxRecDepth 20000 in
theorem ggL_law_X12_teach_c5 : GoodIn wsL_law wsX12_teach_r5 := goodIn_2 lkL_in [(5, 2), (5, 3), (5, 4), (5, 5), (5, 6), (5, 7), (5, 8), (5, 9), (5, 10), (5, 11), (5, 12), (5, 13), (5, 14), (5, 15), (5, 16), (5, 17), (5, 18), (5, 19), (5, 20), (25, 10), (25, 11), (25, 12), (25, 13), (25, 14)] rfl (by decide +kernel)
set_option maxRecDepth 20000 in
theorem ggL_law_X12_teach_c6 : GoodIn wsL_law wsX12_teach_r6 := goodIn_2 lkL_in [(25, 15), (25, 16), (25, 17), (25, 18), (25, 19), (25, 20), (25, 21), (25, 22), (25, 23), (26, 0), (26, 1), (26, 2), (26, 3), (26, 4), (26, 5), (26, 6), (26, 7), (26, 8), (26, 9), (26, 10), (26, 11), (26, 12), (26, 13), (26, 14)] rfl (by decide +kernel)
set_option maxRecDepth 20000 in
theorem ggL_law_X12_teach_c7 : GoodIn wsL_law wsX12_teach_r7 := goodIn_2 lkL_in [(26, 15), (26, 16), (26, 17), (26, 18), (26, 19), (26, 20), (26, 21), (26, 22), (26, 23), (27, 0), (27, 1), (27, 2), (27, 3), (27, 4), (27, 5), (27, 6), (27, 7), (27, 8), (27, 9), (27, 10), (27, 11), (27, 12), (27, 13), (27, 14)] rfl (by decide +kernel)
set_option maxRecDepth 20000 in
theorem ggL_law_X12_teach_c8 : GoodIn wsL_law wsX12_teach_r8 := goodIn_2 lkL_in [(27, 15), (27, 16), (27, 17), (27, 18), (27, 19), (27, 20), (27, 21), (27, 22), (27, 23), (28, 0), (28, 1), (28, 2), (28, 3), (28, 4), (28, 5), (28, 6), (28, 7), (28, 8), (28, 9), (28, 10), (28, 11), (28, 12), (28, 13), (28, 14)] rfl (by decide +kernel)
set_option maxRecDepth 20000 in
theorem ggL_law_X12_teach_c9 : GoodIn wsL_law wsX12_teach_r9 := goodIn_2 lkL_in [(28, 15), (28, 16), (28, 17), (28, 18), (28, 19), (28, 20), (28, 21), (28, 22), (28, 23), (29, 0), (29, 1), (29, 2), (11, 21), (11, 22), (11, 23), (29, 3), (29, 4), (29, 5), (29, 6), (29, 7), (29, 8), (29, 9), (29, 10), (29, 11)] rfl (by decide +kernel)
set_option maxRecDepth 20000 in
theorem ggL_law_X12_teach_c10 : GoodIn wsL_law wsX12_teach_r10 := goodIn_2 lkL_in [(29, 12), (29, 13), (29, 14), (29, 15), (29, 16), (29, 17), (29, 18), (29, 19), (29, 20), (29, 21), (29, 22), (29, 23), (30, 0), (30, 1), (30, 2), (30, 3), (30, 4), (30, 5), (30, 6), (30, 7), (30, 8), (30, 9), (30, 10), (30, 11)] rfl (by decide +kernel)
set_option maxRecDepth 20000 in
theorem ggL_law_X12_teach_c11 : GoodIn wsL_law wsX12_teach_r11 := goodIn_2 lkL_in [(30, 12), (30, 13), (30, 14), (30, 15), (30, 16), (30, 17), (30, 18), (30, 19), (30, 20), (30, 21), (30, 22), (30, 23), (31, 0), (31, 1), (31, 2), (31, 3), (31, 4), (31, 5), (31, 6), (31, 7), (31, 8), (31, 9), (31, 10), (31, 11)] rfl (by decide +kernel)
set_option maxRecDepth 20000 in
theorem ggL_law_X12_teach_c12 : GoodIn wsL_law wsX12_teach_r12 := goodIn_2 lkL_in [(31, 12), (31, 13), (31, 14), (31, 15), (31, 16), (31, 17), (31, 18), (31, 19), (31, 20), (31, 21), (31, 22), (31, 23), (32, 0), (32, 1), (32, 2), (32, 3), (32, 4), (32, 5), (32, 6), (32, 7), (32, 8), (32, 9), (32, 10), (32, 11)] rfl (by decide +kernel)
set_option maxRecDepth 20000 in
theorem ggL_law_X12_teach_c13 : GoodIn wsL_law wsX12_teach_r13 := goodIn_2 lkL_in [(32, 12), (32, 13), (32, 14), (32, 15), (32, 16), (32, 17), (32, 18), (32, 19), (32, 20), (32, 21), (32, 22), (32, 23), (33, 0), (33, 1), (33, 2), (33, 3), (33, 4), (33, 5), (33, 6), (33, 7), (33, 8), (33, 9), (33, 10), (33, 11)] rfl (by decide +kernel)
set_option maxRecDepth 20000 in
theorem ggL_law_X12_teach_c14 : GoodIn wsL_law wsX12_teach_r14 := goodIn_2 lkL_in [(33, 12), (33, 13), (33, 14), (33, 15), (33, 16), (33, 17), (33, 18), (33, 19), (33, 20), (33, 21), (33, 22), (33, 23), (34, 0), (34, 1), (34, 2), (34, 3), (34, 4), (34, 5), (34, 6), (34, 7), (8, 23), (9, 0), (9, 1), (7, 11)] rfl (by decide +kernel)
set_option maxRecDepth 20000 in
theorem ggL_law_X12_teach_c15 : GoodIn wsL_law wsX12_teach_r15 := goodIn_2 lkL_in [(9, 2), (9, 3), (9, 4), (9, 5), (9, 6), (8, 10), (8, 12), (8, 13), (8, 14), (8, 15), (8, 16), (8, 17), (8, 18), (9, 7), (9, 8), (9, 9), (9, 10), (9, 11), (9, 12), (9, 13), (9, 14), (9, 15), (9, 16), (9, 17)] rfl (by decide +kernel)
set_option maxRecDepth 20000 in
theorem ggL_law_X12_teach_c16 : GoodIn wsL_law wsX12_teach_r16 := goodIn_2 lkL_in [(9, 18), (8, 19), (8, 21)] rfl (by decide +kernel)
set_option maxRecDepth 20000 in
theorem ggL_law_X12_teach_c17 : GoodIn wsL_law wsX120 := goodIn_2 lkL_in [(57, 0), (57, 1), (57, 2), (57, 3), (57, 4), (57, 5), (57, 6), (57, 7), (57, 8), (57, 9), (57, 10), (57, 11), (57, 12), (57, 13), (57, 14)] rfl (by decide +kernel)
set_option maxRecDepth 20000 in
theorem ggL_law_X12_teach_c18 : GoodIn wsL_law wsX100 := goodIn_2 lkL_in [(66, 0), (66, 1), (66, 2), (66, 3), (66, 4), (66, 5), (66, 6), (66, 7), (66, 8), (66, 9), (66, 10), (66, 11), (66, 12), (66, 13), (66, 14), (66, 15), (66, 16), (66, 17), (66, 18), (66, 19), (66, 20), (66, 21)] rfl (by decide +kernel)
set_option maxRecDepth 20000 in
theorem ggL_law_X12_teach_c19 : GoodIn wsL_law wsX110 := goodIn_2 lkL_in [(67, 0), (67, 1), (67, 2), (67, 3), (67, 4), (67, 5), (67, 6), (67, 7), (67, 8), (67, 9), (67, 10), (67, 11), (67, 12), (67, 13), (67, 14), (67, 15)] rfl (by decide +kernel)
set_option maxRecDepth 20000 in
theorem ggL_law_X12_teach : GoodIn wsL_law wsX12_teach := (goodIn_ca (goodIn_ca (goodIn_ca (goodIn_ca ggL_law_X12_teach_c1 (goodIn_app ggL_law_X12_teach_c2 (goodIn_app ggL_law_X12_teach_c3 (goodIn_app ggL_law_X12_teach_c4 (goodIn_app ggL_law_X12_teach_c5 (goodIn_app ggL_law_X12_teach_c6 (goodIn_app ggL_law_X12_teach_c7 (goodIn_app ggL_law_X12_teach_c8 (goodIn_app ggL_law_X12_teach_c9 (goodIn_app ggL_law_X12_teach_c10 (goodIn_app ggL_law_X12_teach_c11 (goodIn_app ggL_law_X12_teach_c12 (goodIn_app ggL_law_X12_teach_c13 (goodIn_app ggL_law_X12_teach_c14 (goodIn_app ggL_law_X12_teach_c15 ggL_law_X12_teach_c16))))))))))))))) ggL_law_X12_teach_c17) ggL_law_X12_teach_c18) ggL_law_X12_teach_c19)
set_option maxRecDepth 20000 in
theorem gL_law_X12_teach : GoodIn wsL_law (wsV RL 92 RX12 yX12_teach wsX12_teach) := goodIn_app (goodIn_of _ (by decide +kernel)) ggL_law_X12_teach
set_option maxRecDepth 20000 in
theorem ggL_law_X9_errorAt : GoodIn wsL_law wsX9_errorAt := goodIn_2 lkL_in [(34, 11), (1, 10), (56, 0), (56, 1), (56, 2), (56, 3), (56, 4), (56, 5), (56, 6)] rfl (by decide +kernel)
set_option maxRecDepth 20000 in
theorem gL_law_X9_errorAt : GoodIn wsL_law (wsV RL 93 RX9 yX9_errorAt wsX9_errorAt) := goodIn_app (goodIn_of _ (by decide +kernel)) ggL_law_X9_errorAt
set_option maxRecDepth 20000 in
theorem ggL_law_X12_errorAt : GoodIn wsL_law wsX12_errorAt := goodIn_2 lkL_in [(34, 15), (10, 21), (6, 22), (57, 0), (57, 1), (57, 2), (57, 3), (57, 4), (57, 5), (57, 6), (57, 7), (57, 8), (57, 9), (57, 10), (57, 11), (57, 12), (57, 13), (57, 14)] rfl (by decide +kernel)
set_option maxRecDepth 20000 in
theorem gL_law_X12_errorAt : GoodIn wsL_law (wsV RL 96 RX12 yX12_errorAt wsX12_errorAt) := goodIn_app (goodIn_of _ (by decide +kernel)) ggL_law_X12_errorAt
set_option maxRecDepth 20000 in
theorem ggL_law_L_count : GoodIn wsL_law wsL_count := goodIn_ca (goodIn_2 lkL_in [(34, 18), (34, 19), (34, 20), (34, 21), (34, 22), (0, 2), (34, 23), (35, 0), (35, 1), (1, 0), (35, 2), (0, 20), (35, 3), (35, 4), (35, 5), (0, 16), (10, 6), (35, 6), (35, 7), (35, 8), (0, 23), (35, 9), (15, 1), (15, 2), (15, 3), (35, 10), (35, 11), (35, 12), (35, 13), (2, 9), (35, 14), (35, 15), (35, 16), (35, 17), (35, 18), (35, 19), (35, 20), (35, 21), (14, 23), (2, 11), (35, 22), (56, 0), (56, 1), (56, 2), (56, 3), (56, 4), (56, 5), (56, 6), (60, 0), (60, 1), (60, 2), (60, 3), (60, 4), (60, 5), (60, 6), (60, 7), (60, 8), (59, 0), (59, 1), (59, 2), (59, 3), (59, 4), (59, 5), (59, 6), (59, 7), (59, 8), (59, 9), (59, 10), (58, 0), (58, 1), (63, 0), (63, 1), (63, 2), (63, 3), (63, 4), (63, 5), (63, 6), (63, 7), (63, 8)] rfl (by decide +kernel)) (goodIn_sub (fun _ h => List.mem_append_right _ h) (by decide +kernel))
set_option maxRecDepth 20000 in
theorem gL_law_L_count : GoodIn wsL_law (va_wsS RL 97 yL_count wsL_count) := goodIn_app (goodIn_of _ (by decide +kernel)) ggL_law_L_count
set_option maxRecDepth 20000 in
theorem ggL_law_X12_count_c1 : GoodIn wsL_law (.code yX12_count cX12_count 2 (some .int) :: wsX12_count_r1) := goodIn_2 lkL_in [(36, 2), (10, 21), (11, 21), (11, 22), (0, 5), (11, 23), (36, 3), (36, 4), (36, 5), (36, 6), (7, 12), (1, 14), (7, 7), (10, 22), (36, 7), (36, 8), (36, 9), (7, 11), (36, 10), (9, 4), (9, 5), (9, 6), (36, 11), (36, 12), (36, 13)] rfl (by decide +kernel)
set_option maxRecDepth 20000 in
theorem ggL_law_X12_count_c2 : GoodIn wsL_law wsX12_count_r2 := goodIn_2 lkL_in [(36, 14), (8, 13), (36, 15), (36, 16), (36, 17), (36, 18), (8, 12), (36, 19), (36, 20), (36, 21), (36, 22), (8, 10), (8, 17), (10, 23), (11, 0), (11, 1), (11, 2)] rfl (by decide +kernel)
set_option maxRecDepth 20000 in
theorem ggL_law_X12_count_c3 : GoodIn wsL_law wsX120 := goodIn_2 lkL_in [(57, 0), (57, 1), (57, 2), (57, 3), (57, 4), (57, 5), (57, 6), (57, 7), (57, 8), (57, 9), (57, 10), (57, 11), (57, 12), (57, 13), (57, 14)] rfl (by decide +kernel)
set_option maxRecDepth 20000 in
theorem ggL_law_X12_count_c4 : GoodIn wsL_law wsX110 := goodIn_2 lkL_in [(67, 0), (67, 1), (67, 2), (67, 3), (67, 4), (67, 5), (67, 6), (67, 7), (67, 8), (67, 9), (67, 10), (67, 11), (67, 12), (67, 13), (67, 14), (67, 15)] rfl (by decide +kernel)
set_option maxRecDepth 20000 in
theorem ggL_law_X12_count_c5 : GoodIn wsL_law wsX100 := goodIn_2 lkL_in [(66, 0), (66, 1), (66, 2), (66, 3), (66, 4), (66, 5), (66, 6), (66, 7), (66, 8), (66, 9), (66, 10), (66, 11), (66, 12), (66, 13), (66, 14), (66, 15), (66, 16), (66, 17), (66, 18), (66, 19), (66, 20), (66, 21)] rfl (by decide +kernel)
set_option maxRecDepth 20000 in
theorem ggL_law_X12_count : GoodIn wsL_law wsX12_count := (goodIn_ca (goodIn_ca (goodIn_ca (goodIn_ca ggL_law_X12_count_c1 ggL_law_X12_count_c2) ggL_law_X12_count_c3) ggL_law_X12_count_c4) ggL_law_X12_count_c5)
set_option maxRecDepth 20000 in
theorem gL_law_X12_count : GoodIn wsL_law (wsV RL 99 RX12 yX12_count wsX12_count) := goodIn_app (goodIn_of _ (by decide +kernel)) ggL_law_X12_count
set_option maxRecDepth 20000 in
theorem ggL_law_L_stone : GoodIn wsL_law wsL_stone := goodIn_ca (goodIn_2 lkL_in [(37, 1), (34, 19), (37, 2), (37, 3), (37, 4), (0, 2), (37, 5), (35, 0), (35, 1), (1, 0), (37, 6), (37, 7), (37, 8), (37, 9), (37, 10), (37, 11), (37, 12), (19, 20), (19, 21), (0, 23), (19, 22), (2, 7), (56, 0), (56, 1), (56, 2), (56, 3), (56, 4), (56, 5), (56, 6), (60, 0), (60, 1), (60, 2), (60, 3), (60, 4), (60, 5), (60, 6), (60, 7), (60, 8)] rfl (by decide +kernel)) (goodIn_sub (fun _ h => List.mem_append_right _ h) (by decide +kernel))
set_option maxRecDepth 20000 in
theorem gL_law_L_stone : GoodIn wsL_law (va_wsS RL 100 yL_stone wsL_stone) := goodIn_app (goodIn_of _ (by decide +kernel)) ggL_law_L_stone
set_option maxRecDepth 20000 in
theorem ggL_law_X12_stone : GoodIn wsL_law wsX12_stone := goodIn_2 lkL_in [(37, 16), (10, 21), (7, 12), (37, 17), (37, 18), (0, 5), (37, 19), (11, 21), (11, 22), (11, 23), (10, 23), (11, 0), (11, 1), (11, 2), (57, 0), (57, 1), (57, 2), (57, 3), (57, 4), (57, 5), (57, 6), (57, 7), (57, 8), (57, 9), (57, 10), (57, 11), (57, 12), (57, 13), (57, 14), (67, 0), (67, 1), (67, 2), (67, 3), (67, 4), (67, 5), (67, 6), (67, 7), (67, 8), (67, 9), (67, 10), (67, 11), (67, 12), (67, 13), (67, 14), (67, 15)] rfl (by decide +kernel)
set_option maxRecDepth 20000 in
theorem gL_law_X12_stone : GoodIn wsL_law (wsV RL 103 RX12 yX12_stone wsX12_stone) := goodIn_app (goodIn_of _ (by decide +kernel)) ggL_law_X12_stone
set_option maxRecDepth 20000 in
theorem ggL_law_L_colour : GoodIn wsL_law wsL_colour := goodIn_ca (goodIn_2 lkL_in [(37, 22), (34, 19), (37, 23), (38, 0), (38, 1), (0, 2), (38, 2), (35, 0), (35, 1), (1, 0), (38, 3), (38, 4), (19, 23), (20, 0), (56, 0), (56, 1), (56, 2), (56, 3), (56, 4), (56, 5), (56, 6), (60, 0), (60, 1), (60, 2), (60, 3), (60, 4), (60, 5), (60, 6), (60, 7), (60, 8)] rfl (by decide +kernel)) (goodIn_sub (fun _ h => List.mem_append_right _ h) (by decide +kernel))
set_option maxRecDepth 20000 in
theorem gL_law_L_colour : GoodIn wsL_law (va_wsS RL 104 yL_colour wsL_colour) := goodIn_app (goodIn_of _ (by decide +kernel)) ggL_law_L_colour
set_option maxRecDepth 20000 in
theorem ggL_law_X12_colour : GoodIn wsL_law wsX12_colour := goodIn_2 lkL_in [(38, 8), (10, 21), (11, 21), (11, 22), (0, 5), (11, 23), (38, 9), (38, 10), (38, 11), (38, 12), (7, 12), (10, 23), (11, 0), (11, 1), (11, 2), (57, 0), (57, 1), (57, 2), (57, 3), (57, 4), (57, 5), (57, 6), (57, 7), (57, 8), (57, 9), (57, 10), (57, 11), (57, 12), (57, 13), (57, 14), (67, 0), (67, 1), (67, 2), (67, 3), (67, 4), (67, 5), (67, 6), (67, 7), (67, 8), (67, 9), (67, 10), (67, 11), (67, 12), (67, 13), (67, 14), (67, 15)] rfl (by decide +kernel)
set_option maxRecDepth 20000 in
theorem gL_law_X12_colour : GoodIn wsL_law (wsV RL 106 RX12 yX12_colour wsX12_colour) := goodIn_app (goodIn_of _ (by decide +kernel)) ggL_law_X12_colour
set_option maxRecDepth 20000 in
theorem ggL_law_L_row : GoodIn wsL_law wsL_row := goodIn_ca (goodIn_2 lkL_in [(38, 15), (34, 19), (38, 16), (38, 17), (38, 18), (0, 2), (38, 19), (35, 0), (35, 1), (1, 0), (38, 20), (37, 9), (37, 10), (37, 11), (56, 0), (56, 1), (56, 2), (56, 3), (56, 4), (56, 5), (56, 6), (60, 0), (60, 1), (60, 2), (60, 3), (60, 4), (60, 5), (60, 6), (60, 7), (60, 8)] rfl (by decide +kernel)) (goodIn_sub (fun _ h => List.mem_append_right _ h) (by decide +kernel))
set_option maxRecDepth 20000 in
theorem gL_law_L_row : GoodIn wsL_law (va_wsS RL 107 yL_row wsL_row) := goodIn_app (goodIn_of _ (by decide +kernel)) ggL_law_L_row
set_option maxRecDepth 20000 in
theorem ggL_law_X12_row : GoodIn wsL_law wsX12_row := goodIn_2 lkL_in [(39, 0), (10, 21), (7, 12), (11, 21), (11, 22), (0, 5), (11, 23), (10, 23), (11, 0), (11, 1), (11, 2), (57, 0), (57, 1), (57, 2), (57, 3), (57, 4), (57, 5), (57, 6), (57, 7), (57, 8), (57, 9), (57, 10), (57, 11), (57, 12), (57, 13), (57, 14), (67, 0), (67, 1), (67, 2), (67, 3), (67, 4), (67, 5), (67, 6), (67, 7), (67, 8), (67, 9), (67, 10), (67, 11), (67, 12), (67, 13), (67, 14), (67, 15)] rfl (by decide +kernel)
set_option maxRecDepth 20000 in
theorem gL_law_X12_row : GoodIn wsL_law (wsV RL 109 RX12 yX12_row wsX12_row) := goodIn_app (goodIn_of _ (by decide +kernel)) ggL_law_X12_row
set_option maxRecDepth 20000 in
theorem ggL_law_L_turn : GoodIn wsL_law wsL_turn := goodIn_ca (goodIn_2 lkL_in [(39, 3), (34, 19), (39, 4), (39, 5), (39, 6), (0, 2), (39, 7), (35, 0), (35, 1), (0, 20), (35, 3), (38, 4), (19, 23), (20, 0), (39, 8), (39, 9), (39, 10), (0, 19), (39, 11), (14, 16), (1, 20), (39, 12), (39, 13), (39, 14), (39, 15), (1, 19), (56, 0), (56, 1), (56, 2), (56, 3), (56, 4), (56, 5), (56, 6), (59, 0), (59, 1), (59, 2), (59, 3), (59, 4), (59, 5), (59, 6), (59, 7), (59, 8), (59, 9), (59, 10)] rfl (by decide +kernel)) (goodIn_sub (fun _ h => List.mem_append_right _ h) (by decide +kernel))
set_option maxRecDepth 20000 in
theorem gL_law_L_turn : GoodIn wsL_law (va_wsS RL 110 yL_turn wsL_turn) := goodIn_app (goodIn_of _ (by decide +kernel)) ggL_law_L_turn
set_option maxRecDepth 20000 in
theorem ggL_law_X12_turn : GoodIn wsL_law wsX12_turn := goodIn_2 lkL_in [(39, 19), (10, 21), (7, 7), (11, 21), (11, 22), (0, 5), (11, 23), (10, 23), (11, 0), (11, 1), (11, 2), (57, 0), (57, 1), (57, 2), (57, 3), (57, 4), (57, 5), (57, 6), (57, 7), (57, 8), (57, 9), (57, 10), (57, 11), (57, 12), (57, 13), (57, 14), (66, 0), (66, 1), (66, 2), (66, 3), (66, 4), (66, 5), (66, 6), (66, 7), (66, 8), (66, 9), (66, 10), (66, 11), (66, 12), (66, 13), (66, 14), (66, 15), (66, 16), (66, 17), (66, 18), (66, 19), (66, 20), (66, 21)] rfl (by decide +kernel)
set_option maxRecDepth 20000 in
theorem gL_law_X12_turn : GoodIn wsL_law (wsV RL 112 RX12 yX12_turn wsX12_turn) := goodIn_app (goodIn_of _ (by decide +kernel)) ggL_law_X12_turn
set_option maxRecDepth 20000 in
theorem ggL_law_L_ant : GoodIn wsL_law wsL_ant := goodIn_ca (goodIn_2 lkL_in [(39, 22), (34, 19), (39, 23), (40, 0), (40, 1), (0, 2), (40, 2), (35, 0), (35, 1), (1, 0), (40, 3), (40, 4), (40, 5), (40, 6), (40, 7), (35, 4), (40, 8), (40, 9), (40, 10), (2, 13), (40, 11), (17, 15), (17, 16), (17, 17), (17, 18), (17, 19), (17, 20), (40, 12), (40, 13), (40, 14), (40, 15), (18, 2), (18, 1), (40, 16), (40, 17), (40, 18), (40, 19), (40, 20), (40, 21), (2, 17), (40, 22), (40, 23), (41, 0), (41, 1), (41, 2), (41, 3), (41, 4), (41, 5), (41, 6), (41, 7), (41, 8), (41, 9), (56, 0), (56, 1), (56, 2), (56, 3), (56, 4), (56, 5), (56, 6), (60, 0), (60, 1), (60, 2), (60, 3), (60, 4), (60, 5), (60, 6), (60, 7), (60, 8), (63, 0), (63, 1), (63, 2), (63, 3), (63, 4), (63, 5), (63, 6), (63, 7), (63, 8)] rfl (by decide +kernel)) (goodIn_sub (fun _ h => List.mem_append_right _ h) (by decide +kernel))
set_option maxRecDepth 20000 in
theorem gL_law_L_ant : GoodIn wsL_law (va_wsS RL 113 yL_ant wsL_ant) := goodIn_app (goodIn_of _ (by decide +kernel)) ggL_law_L_ant
set_option maxRecDepth 20000 in
theorem ggL_law_X12_ant_c1 : GoodIn wsL_law (.code yX12_ant cX12_ant 3 (some .int) :: wsX12_ant_r1) := goodIn_2 lkL_in [(41, 13), (10, 21), (41, 14), (41, 15), (41, 16), (0, 5), (41, 17), (7, 7), (11, 21), (11, 22), (11, 23), (41, 18), (41, 19), (41, 20), (41, 21), (7, 12), (41, 22), (41, 23), (42, 0), (7, 11), (42, 1), (8, 21), (42, 2), (42, 3), (42, 4)] rfl (by decide +kernel)
set_option maxRecDepth 20000 in
theorem ggL_law_X12_ant_c2 : GoodIn wsL_law wsX12_ant_r2 := goodIn_2 lkL_in [(42, 5), (8, 20), (8, 19), (42, 6), (10, 23), (11, 0), (11, 1), (11, 2)] rfl (by decide +kernel)
set_option maxRecDepth 20000 in
theorem ggL_law_X12_ant_c3 : GoodIn wsL_law wsX120 := goodIn_2 lkL_in [(57, 0), (57, 1), (57, 2), (57, 3), (57, 4), (57, 5), (57, 6), (57, 7), (57, 8), (57, 9), (57, 10), (57, 11), (57, 12), (57, 13), (57, 14)] rfl (by decide +kernel)
set_option maxRecDepth 20000 in
theorem ggL_law_X12_ant_c4 : GoodIn wsL_law wsX100 := goodIn_2 lkL_in [(66, 0), (66, 1), (66, 2), (66, 3), (66, 4), (66, 5), (66, 6), (66, 7), (66, 8), (66, 9), (66, 10), (66, 11), (66, 12), (66, 13), (66, 14), (66, 15), (66, 16), (66, 17), (66, 18), (66, 19), (66, 20), (66, 21)] rfl (by decide +kernel)
set_option maxRecDepth 20000 in
theorem ggL_law_X12_ant_c5 : GoodIn wsL_law wsX110 := goodIn_2 lkL_in [(67, 0), (67, 1), (67, 2), (67, 3), (67, 4), (67, 5), (67, 6), (67, 7), (67, 8), (67, 9), (67, 10), (67, 11), (67, 12), (67, 13), (67, 14), (67, 15)] rfl (by decide +kernel)
set_option maxRecDepth 20000 in
theorem ggL_law_X12_ant : GoodIn wsL_law wsX12_ant := (goodIn_ca (goodIn_ca (goodIn_ca (goodIn_ca ggL_law_X12_ant_c1 ggL_law_X12_ant_c2) ggL_law_X12_ant_c3) ggL_law_X12_ant_c4) ggL_law_X12_ant_c5)
set_option maxRecDepth 20000 in
theorem gL_law_X12_ant : GoodIn wsL_law (wsV RL 115 RX12 yX12_ant wsX12_ant) := goodIn_app (goodIn_of _ (by decide +kernel)) ggL_law_X12_ant
set_option maxRecDepth 20000 in
theorem ggL_law_L_paint : GoodIn wsL_law wsL_paint := goodIn_ca (goodIn_ca (goodIn_2 lkL_in [(42, 9), (34, 19), (11, 10), (42, 10), (42, 11), (42, 12), (0, 2), (42, 13), (35, 0), (35, 1), (11, 15), (11, 16), (1, 0), (37, 6), (37, 7), (37, 8), (37, 9), (37, 10), (37, 11), (38, 4), (19, 23), (20, 0), (37, 12), (19, 20), (19, 21), (0, 23), (19, 22), (2, 7), (42, 14), (19, 16), (19, 17), (19, 18), (2, 9), (2, 8), (19, 19), (56, 0), (56, 1), (56, 2), (56, 3), (56, 4), (56, 5), (56, 6), (60, 0), (60, 1), (60, 2), (60, 3), (60, 4), (60, 5), (60, 6), (60, 7), (60, 8)] rfl (by decide +kernel)) (goodIn_sub (fun _ h => List.mem_append_right _ h) (by decide +kernel))) (goodIn_sub (fun _ h => List.mem_append_left _ (List.mem_append_right _ h)) (by decide +kernel))
set_option maxRecDepth 20000 in
theorem gL_law_L_paint : GoodIn wsL_law (va_wsS RL 116 yL_paint wsL_paint) := goodIn_app (goodIn_of _ (by decide +kernel)) ggL_law_L_paint
set_option maxRecDepth 20000 in
theorem ggL_law_X12_paint : GoodIn wsL_law wsX12_paint := goodIn_2 lkL_in [(42, 18), (10, 21), (7, 12), (37, 17), (37, 18), (0, 5), (37, 19), (11, 21), (11, 22), (11, 23), (10, 23), (11, 0), (11, 1), (11, 2), (42, 19), (42, 20), (42, 21), (7, 11), (42, 22), (8, 13), (8, 12), (57, 0), (57, 1), (57, 2), (57, 3), (57, 4), (57, 5), (57, 6), (57, 7), (57, 8), (57, 9), (57, 10), (57, 11), (57, 12), (57, 13), (57, 14), (67, 0), (67, 1), (67, 2), (67, 3), (67, 4), (67, 5), (67, 6), (67, 7), (67, 8), (67, 9), (67, 10), (67, 11), (67, 12), (67, 13), (67, 14), (67, 15)] rfl (by decide +kernel)
set_option maxRecDepth 20000 in
theorem gL_law_X12_paint : GoodIn wsL_law (wsV RL 119 RX12 yX12_paint wsX12_paint) := goodIn_app (goodIn_of _ (by decide +kernel)) ggL_law_X12_paint
set_option maxRecDepth 20000 in
theorem ggL_law_L_wash : GoodIn wsL_law wsL_wash := goodIn_ca (goodIn_ca (goodIn_2 lkL_in [(43, 1), (34, 19), (11, 10), (43, 2), (43, 3), (43, 4), (0, 2), (43, 5), (35, 0), (35, 1), (11, 15), (11, 16), (1, 0), (37, 9), (37, 10), (37, 11), (43, 6), (43, 7), (43, 8), (0, 23), (43, 9), (43, 10), (25, 23), (26, 0), (26, 1), (2, 8), (15, 2), (35, 10), (35, 11), (35, 12), (35, 13), (2, 9), (43, 11), (43, 12), (43, 13), (43, 14), (43, 15), (19, 16), (19, 17), (19, 18), (2, 7), (19, 19), (19, 20), (19, 21), (19, 22), (19, 23), (20, 0), (56, 0), (56, 1), (56, 2), (56, 3), (56, 4), (56, 5), (56, 6), (60, 0), (60, 1), (60, 2), (60, 3), (60, 4), (60, 5), (60, 6), (60, 7), (60, 8)] rfl (by decide +kernel)) (goodIn_sub (fun _ h => List.mem_append_right _ h) (by decide +kernel))) (goodIn_sub (fun _ h => List.mem_append_left _ (List.mem_append_right _ h)) (by decide +kernel))
set_option maxRecDepth 20000 in
theorem gL_law_L_wash : GoodIn wsL_law (va_wsS RL 120 yL_wash wsL_wash) := goodIn_app (goodIn_of _ (by decide +kernel)) ggL_law_L_wash
set_option maxRecDepth 20000 in
theorem ggL_law_X12_wash : GoodIn wsL_law wsX12_wash := goodIn_2 lkL_in [(43, 19), (10, 21), (7, 12), (37, 17), (37, 18), (0, 5), (37, 19), (11, 21), (11, 22), (11, 23), (10, 23), (11, 0), (11, 1), (11, 2), (43, 20), (43, 21), (43, 22), (7, 11), (43, 23), (8, 13), (9, 5), (44, 0), (42, 20), (42, 21), (42, 22), (8, 12), (57, 0), (57, 1), (57, 2), (57, 3), (57, 4), (57, 5), (57, 6), (57, 7), (57, 8), (57, 9), (57, 10), (57, 11), (57, 12), (57, 13), (57, 14), (67, 0), (67, 1), (67, 2), (67, 3), (67, 4), (67, 5), (67, 6), (67, 7), (67, 8), (67, 9), (67, 10), (67, 11), (67, 12), (67, 13), (67, 14), (67, 15)] rfl (by decide +kernel)
set_option maxRecDepth 20000 in
theorem gL_law_X12_wash : GoodIn wsL_law (wsV RL 122 RX12 yX12_wash wsX12_wash) := goodIn_app (goodIn_of _ (by decide +kernel)) ggL_law_X12_wash
set_option maxRecDepth 20000 in
theorem ggL_law_L_face : GoodIn wsL_law wsL_face := goodIn_ca (goodIn_2 lkL_in [(44, 3), (34, 19), (44, 4), (44, 5), (44, 6), (0, 2), (44, 7), (35, 0), (35, 1), (1, 0), (40, 3), (44, 8), (40, 4), (40, 5), (40, 6), (40, 7), (35, 4), (44, 9), (19, 8), (19, 9), (2, 13), (19, 10), (17, 18), (17, 21), (17, 22), (17, 23), (18, 0), (18, 1), (18, 2), (56, 0), (56, 1), (56, 2), (56, 3), (56, 4), (56, 5), (56, 6), (60, 0), (60, 1), (60, 2), (60, 3), (60, 4), (60, 5), (60, 6), (60, 7), (60, 8), (63, 0), (63, 1), (63, 2), (63, 3), (63, 4), (63, 5), (63, 6), (63, 7), (63, 8)] rfl (by decide +kernel)) (goodIn_sub (fun _ h => List.mem_append_right _ h) (by decide +kernel))
set_option maxRecDepth 20000 in
theorem gL_law_L_face : GoodIn wsL_law (va_wsS RL 123 yL_face wsL_face) := goodIn_app (goodIn_of _ (by decide +kernel)) ggL_law_L_face
set_option maxRecDepth 20000 in
theorem ggL_law_X12_face_c1 : GoodIn wsL_law (.code yX12_face cX12_face 4 (some .int) :: [.fieldLink RX12 57 "FlagAntsModel" "thrown" "I", .fieldLink RX12 47 "FlagAntsModel" "s" "LFlagAntsModel$State;", .methodLink RX12 343 yX12_isAnt, .instanceMethod yX12_isAnt, .selects RX12 yX12_isAnt yX12_isAnt, .initialized RX12, .code yX12_isAnt cX12_isAnt 2 (some .boolean), .fieldLink RX12 35 "FlagAntsModel" "plan" "LFlagAntsModel$Plan;", .methodLink RX12 60 yX12_isIn, .static yX12_isIn, .code yX12_isIn cX12_isIn 3 (some .boolean), .methodLink RX12 305 yX12_no, .instanceMethod yX12_no, .selects RX12 yX12_no yX12_no, .code yX12_no cX12_no 2 (some .int), .methodLink RX12 356 yX11_forget, .instanceMethod yX11_forget, .selects RX11 yX11_forget yX11_forget, .initialized RX11, .code yX11_forget cX11_forget 3 none, .fieldLink RX11 37 "FlagAntsModel$State" "length" "[I", .fieldLink RX11 43 "FlagAntsModel$State" "runs" "[I"]) := goodIn_2 lkL_in [(44, 13), (10, 21), (7, 12), (41, 14), (41, 15), (41, 16), (0, 5), (41, 17), (7, 7), (11, 21), (11, 22), (11, 23), (10, 23), (11, 0), (11, 1), (11, 2), (44, 14), (9, 16), (9, 17), (7, 11), (9, 18), (8, 19), (8, 21)] rfl (by decide +kernel)
set_option maxRecDepth 20000 in
theorem ggL_law_X12_face_c2 : GoodIn wsL_law wsX120 := goodIn_2 lkL_in [(57, 0), (57, 1), (57, 2), (57, 3), (57, 4), (57, 5), (57, 6), (57, 7), (57, 8), (57, 9), (57, 10), (57, 11), (57, 12), (57, 13), (57, 14)] rfl (by decide +kernel)
set_option maxRecDepth 20000 in
theorem ggL_law_X12_face_c3 : GoodIn wsL_law wsX110 := goodIn_2 lkL_in [(67, 0), (67, 1), (67, 2), (67, 3), (67, 4), (67, 5), (67, 6), (67, 7), (67, 8), (67, 9), (67, 10), (67, 11), (67, 12), (67, 13), (67, 14), (67, 15)] rfl (by decide +kernel)
set_option maxRecDepth 20000 in
theorem ggL_law_X12_face_c4 : GoodIn wsL_law wsX100 := goodIn_2 lkL_in [(66, 0), (66, 1), (66, 2), (66, 3), (66, 4), (66, 5), (66, 6), (66, 7), (66, 8), (66, 9), (66, 10), (66, 11), (66, 12), (66, 13), (66, 14), (66, 15), (66, 16), (66, 17), (66, 18), (66, 19), (66, 20), (66, 21)] rfl (by decide +kernel)
set_option maxRecDepth 20000 in
theorem ggL_law_X12_face : GoodIn wsL_law wsX12_face := (goodIn_ca (goodIn_ca (goodIn_ca ggL_law_X12_face_c1 ggL_law_X12_face_c2) ggL_law_X12_face_c3) ggL_law_X12_face_c4)
set_option maxRecDepth 20000 in
theorem gL_law_X12_face : GoodIn wsL_law (wsV RL 125 RX12 yX12_face wsX12_face) := goodIn_app (goodIn_of _ (by decide +kernel)) ggL_law_X12_face
set_option maxRecDepth 20000 in
theorem ggL_law_L_halt : GoodIn wsL_law wsL_halt := goodIn_ca (goodIn_2 lkL_in [(44, 17), (34, 19), (44, 18), (44, 19), (44, 20), (0, 2), (44, 21), (35, 0), (35, 1), (1, 0), (40, 3), (44, 22), (40, 4), (40, 5), (40, 6), (40, 7), (35, 4), (56, 0), (56, 1), (56, 2), (56, 3), (56, 4), (56, 5), (56, 6), (60, 0), (60, 1), (60, 2), (60, 3), (60, 4), (60, 5), (60, 6), (60, 7), (60, 8), (63, 0), (63, 1), (63, 2), (63, 3), (63, 4), (63, 5), (63, 6), (63, 7), (63, 8)] rfl (by decide +kernel)) (goodIn_sub (fun _ h => List.mem_append_right _ h) (by decide +kernel))
set_option maxRecDepth 20000 in
theorem gL_law_L_halt : GoodIn wsL_law (va_wsS RL 126 yL_halt wsL_halt) := goodIn_app (goodIn_of _ (by decide +kernel)) ggL_law_L_halt
set_option maxRecDepth 20000 in
theorem ggL_law_X12_halt_c1 : GoodIn wsL_law (.code yX12_halt cX12_halt 2 (some .boolean) :: [.fieldLink RX12 57 "FlagAntsModel" "thrown" "I", .fieldLink RX12 47 "FlagAntsModel" "s" "LFlagAntsModel$State;", .methodLink RX12 343 yX12_isAnt, .instanceMethod yX12_isAnt, .selects RX12 yX12_isAnt yX12_isAnt, .initialized RX12, .code yX12_isAnt cX12_isAnt 2 (some .boolean), .fieldLink RX12 35 "FlagAntsModel" "plan" "LFlagAntsModel$Plan;", .methodLink RX12 60 yX12_isIn, .static yX12_isIn, .code yX12_isIn cX12_isIn 3 (some .boolean)]) := goodIn_2 lkL_in [(45, 2), (10, 21), (7, 12), (41, 14), (41, 15), (41, 16), (0, 5), (41, 17), (7, 7), (11, 21), (11, 22), (11, 23)] rfl (by decide +kernel)
set_option maxRecDepth 20000 in
theorem ggL_law_X12_halt_c2 : GoodIn wsL_law wsX120 := goodIn_2 lkL_in [(57, 0), (57, 1), (57, 2), (57, 3), (57, 4), (57, 5), (57, 6), (57, 7), (57, 8), (57, 9), (57, 10), (57, 11), (57, 12), (57, 13), (57, 14)] rfl (by decide +kernel)
set_option maxRecDepth 20000 in
theorem ggL_law_X12_halt_c3 : GoodIn wsL_law wsX110 := goodIn_2 lkL_in [(67, 0), (67, 1), (67, 2), (67, 3), (67, 4), (67, 5), (67, 6), (67, 7), (67, 8), (67, 9), (67, 10), (67, 11), (67, 12), (67, 13), (67, 14), (67, 15)] rfl (by decide +kernel)
set_option maxRecDepth 20000 in
theorem ggL_law_X12_halt_c4 : GoodIn wsL_law wsX100 := goodIn_2 lkL_in [(66, 0), (66, 1), (66, 2), (66, 3), (66, 4), (66, 5), (66, 6), (66, 7), (66, 8), (66, 9), (66, 10), (66, 11), (66, 12), (66, 13), (66, 14), (66, 15), (66, 16), (66, 17), (66, 18), (66, 19), (66, 20), (66, 21)] rfl (by decide +kernel)
set_option maxRecDepth 20000 in
theorem ggL_law_X12_halt : GoodIn wsL_law wsX12_halt := (goodIn_ca (goodIn_ca (goodIn_ca ggL_law_X12_halt_c1 ggL_law_X12_halt_c2) ggL_law_X12_halt_c3) ggL_law_X12_halt_c4)
set_option maxRecDepth 20000 in
theorem gL_law_X12_halt : GoodIn wsL_law (wsV RL 128 RX12 yX12_halt wsX12_halt) := goodIn_app (goodIn_of _ (by decide +kernel)) ggL_law_X12_halt
set_option maxRecDepth 20000 in
theorem ggL_law_L_place : GoodIn wsL_law wsL_place := goodIn_ca (goodIn_2 lkL_in [(45, 5), (34, 19), (45, 6), (45, 7), (45, 8), (0, 2), (45, 9), (35, 0), (35, 1), (1, 0), (40, 3), (40, 4), (40, 5), (40, 6), (40, 7), (35, 4), (37, 6), (37, 7), (37, 8), (37, 9), (37, 10), (37, 11), (45, 10), (45, 11), (45, 12), (2, 13), (45, 13), (17, 17), (17, 16), (45, 14), (18, 20), (18, 21), (18, 22), (17, 21), (17, 22), (17, 23), (18, 0), (18, 1), (18, 2), (56, 0), (56, 1), (56, 2), (56, 3), (56, 4), (56, 5), (56, 6), (60, 0), (60, 1), (60, 2), (60, 3), (60, 4), (60, 5), (60, 6), (60, 7), (60, 8), (63, 0), (63, 1), (63, 2), (63, 3), (63, 4), (63, 5), (63, 6), (63, 7), (63, 8)] rfl (by decide +kernel)) (goodIn_sub (fun _ h => List.mem_append_right _ h) (by decide +kernel))
set_option maxRecDepth 20000 in
theorem gL_law_L_place : GoodIn wsL_law (va_wsS RL 129 yL_place wsL_place) := goodIn_app (goodIn_of _ (by decide +kernel)) ggL_law_L_place
set_option maxRecDepth 20000 in
theorem ggL_law_X12_place__c1 : GoodIn wsL_law (.code yX12_place_ cX12_place_ 5 (some .int) :: wsX12_place__r1) := goodIn_2 lkL_in [(45, 18), (10, 21), (7, 12), (41, 14), (41, 15), (41, 16), (0, 5), (41, 17), (7, 7), (11, 21), (11, 22), (11, 23), (37, 17), (37, 18), (37, 19), (10, 23), (11, 0), (11, 1), (11, 2), (44, 14), (9, 16), (9, 17), (7, 11), (9, 18), (8, 19)] rfl (by decide +kernel)
set_option maxRecDepth 20000 in
theorem ggL_law_X12_place__c2 : GoodIn wsL_law wsX12_place__r2 := goodIn_2 lkL_in [(8, 21)] rfl (by decide +kernel)
set_option maxRecDepth 20000 in
theorem ggL_law_X12_place__c3 : GoodIn wsL_law wsX120 := goodIn_2 lkL_in [(57, 0), (57, 1), (57, 2), (57, 3), (57, 4), (57, 5), (57, 6), (57, 7), (57, 8), (57, 9), (57, 10), (57, 11), (57, 12), (57, 13), (57, 14)] rfl (by decide +kernel)
set_option maxRecDepth 20000 in
theorem ggL_law_X12_place__c4 : GoodIn wsL_law wsX110 := goodIn_2 lkL_in [(67, 0), (67, 1), (67, 2), (67, 3), (67, 4), (67, 5), (67, 6), (67, 7), (67, 8), (67, 9), (67, 10), (67, 11), (67, 12), (67, 13), (67, 14), (67, 15)] rfl (by decide +kernel)
set_option maxRecDepth 20000 in
theorem ggL_law_X12_place__c5 : GoodIn wsL_law wsX100 := goodIn_2 lkL_in [(66, 0), (66, 1), (66, 2), (66, 3), (66, 4), (66, 5), (66, 6), (66, 7), (66, 8), (66, 9), (66, 10), (66, 11), (66, 12), (66, 13), (66, 14), (66, 15), (66, 16), (66, 17), (66, 18), (66, 19), (66, 20), (66, 21)] rfl (by decide +kernel)
set_option maxRecDepth 20000 in
theorem ggL_law_X12_place_ : GoodIn wsL_law wsX12_place_ := (goodIn_ca (goodIn_ca (goodIn_ca (goodIn_ca ggL_law_X12_place__c1 ggL_law_X12_place__c2) ggL_law_X12_place__c3) ggL_law_X12_place__c4) ggL_law_X12_place__c5)
set_option maxRecDepth 20000 in
theorem gL_law_X12_place_ : GoodIn wsL_law (wsV RL 131 RX12 yX12_place_ wsX12_place_) := goodIn_app (goodIn_of _ (by decide +kernel)) ggL_law_X12_place_
set_option maxRecDepth 20000 in
theorem ggL_law_L_pass : GoodIn wsL_law wsL_pass := goodIn_ca (goodIn_2 lkL_in [(45, 21), (11, 10), (45, 22), (45, 23), (46, 0), (0, 2), (46, 1), (11, 15), (11, 16), (1, 0), (1, 9), (46, 2), (35, 11), (35, 12), (0, 23), (35, 13), (2, 9), (46, 3), (46, 4), (46, 5), (1, 8), (46, 6), (46, 7), (46, 8), (46, 9), (46, 10), (6, 12), (46, 11), (6, 11), (46, 12), (46, 13), (46, 14), (46, 15), (46, 16), (46, 17), (46, 18), (46, 19), (6, 10), (46, 20), (46, 21), (46, 22), (46, 23), (47, 0), (47, 1), (47, 2), (47, 3), (47, 4), (47, 5), (47, 6), (47, 7), (47, 8), (47, 9), (6, 16), (47, 10), (47, 11), (47, 12), (47, 13), (47, 14), (47, 15), (47, 16), (47, 17), (47, 18), (2, 8), (47, 19), (47, 20), (47, 21), (47, 22), (14, 23), (47, 23), (48, 0), (48, 1), (48, 2), (48, 3), (48, 4), (48, 5), (48, 6), (40, 13), (40, 14), (2, 13), (40, 15), (18, 2), (18, 1), (40, 16), (40, 17), (40, 18), (40, 19), (40, 20), (40, 21), (2, 17), (40, 22), (40, 23), (41, 0), (41, 1), (48, 7), (48, 8), (48, 9), (48, 10), (2, 11), (48, 11), (45, 11), (45, 12), (45, 13), (17, 17), (17, 16), (48, 12), (48, 13), (48, 14), (48, 15), (26, 3), (26, 0), (26, 4), (48, 16), (25, 23), (26, 1), (48, 17), (48, 18), (48, 19), (48, 20), (48, 21), (48, 22), (48, 23), (49, 0), (43, 7), (43, 8), (43, 9), (43, 10), (15, 2), (35, 10), (43, 11), (43, 12), (43, 13), (43, 14), (43, 15), (19, 16), (19, 17), (19, 18), (2, 7), (19, 19), (19, 20), (19, 21), (19, 22), (19, 23), (20, 0), (49, 1), (49, 2), (49, 3), (49, 4), (49, 5), (49, 6), (19, 8), (19, 9), (19, 10), (17, 18), (17, 21), (17, 22), (17, 23), (18, 0), (49, 7), (49, 8), (49, 9), (49, 10), (49, 11), (49, 12), (49, 13), (49, 14), (39, 9), (39, 10), (0, 19), (39, 11), (14, 16), (1, 20), (39, 12), (39, 13), (39, 14), (39, 15), (1, 19), (49, 15), (49, 16), (49, 17), (49, 18), (49, 19), (49, 20), (49, 21), (17, 20), (49, 22), (49, 23), (50, 0), (50, 1), (15, 1), (56, 0), (56, 1), (56, 2), (56, 3), (56, 4), (56, 5), (56, 6), (60, 0), (60, 1), (60, 2), (60, 3), (60, 4), (60, 5), (60, 6), (60, 7), (60, 8), (62, 0), (62, 1), (59, 0), (59, 1), (59, 2), (59, 3), (59, 4), (59, 5), (59, 6), (59, 7), (59, 8), (59, 9), (59, 10), (63, 0), (63, 1), (63, 2), (63, 3), (63, 4), (63, 5), (63, 6), (63, 7), (63, 8), (65, 0), (65, 1)] rfl (by decide +kernel)) (goodIn_sub (fun _ h => List.mem_append_left _ (List.mem_append_right _ h)) (by decide +kernel))
set_option maxRecDepth 20000 in
theorem gL_law_L_pass : GoodIn wsL_law (va_wsS RL 132 yL_pass wsL_pass) := goodIn_app (goodIn_of _ (by decide +kernel)) ggL_law_L_pass
set_option maxRecDepth 20000 in
theorem ggL_law_X12_pass_c1 : GoodIn wsL_law (.code yX12_pass cX12_pass 3 (some .int) :: wsX12_pass_r1) := goodIn_2 lkL_in [(50, 5), (10, 21), (7, 12), (11, 21), (11, 22), (0, 5), (11, 23), (10, 23), (11, 0), (11, 1), (11, 2), (50, 6), (36, 12), (36, 13), (7, 11), (36, 14), (8, 13), (50, 7), (50, 8), (50, 9), (50, 10), (50, 11), (50, 12), (50, 13), (50, 14)] rfl (by decide +kernel)
set_option maxRecDepth 20000 in
theorem ggL_law_X12_pass_c2 : GoodIn wsL_law wsX12_pass_r2 := goodIn_2 lkL_in [(8, 10), (9, 6), (8, 17), (9, 4), (9, 3), (50, 15), (50, 16), (50, 17), (50, 18), (8, 22), (36, 11), (50, 19), (50, 20), (50, 21), (50, 22), (50, 23), (51, 0), (8, 14), (8, 15), (51, 1), (41, 23), (42, 0), (42, 1), (8, 21)] rfl (by decide +kernel)
set_option maxRecDepth 20000 in
theorem ggL_law_X12_pass_c3 : GoodIn wsL_law wsX12_pass_r3 := goodIn_2 lkL_in [(42, 2), (42, 3), (42, 4), (42, 5), (8, 20), (8, 19), (51, 2), (51, 3), (51, 4), (51, 5), (51, 6), (51, 7), (51, 8), (51, 9), (51, 10), (51, 11), (29, 15), (26, 3), (26, 0), (26, 4), (51, 12), (25, 23), (26, 1), (51, 13)] rfl (by decide +kernel)
set_option maxRecDepth 20000 in
theorem ggL_law_X12_pass_c4 : GoodIn wsL_law wsX12_pass_r4 := goodIn_2 lkL_in [(51, 14), (51, 15), (51, 16), (8, 16), (51, 17), (43, 21), (43, 22), (43, 23), (9, 5), (44, 0), (42, 20), (42, 21), (42, 22), (8, 12), (9, 15), (9, 16), (9, 17), (9, 18), (51, 18), (51, 19), (51, 20), (51, 21), (51, 22), (51, 23)] rfl (by decide +kernel)
set_option maxRecDepth 20000 in
theorem ggL_law_X12_pass_c5 : GoodIn wsL_law wsX12_pass_r5 := goodIn_2 lkL_in [(52, 0), (52, 1), (8, 18)] rfl (by decide +kernel)
set_option maxRecDepth 20000 in
theorem ggL_law_X12_pass_c6 : GoodIn wsL_law wsX120 := goodIn_2 lkL_in [(57, 0), (57, 1), (57, 2), (57, 3), (57, 4), (57, 5), (57, 6), (57, 7), (57, 8), (57, 9), (57, 10), (57, 11), (57, 12), (57, 13), (57, 14)] rfl (by decide +kernel)
set_option maxRecDepth 20000 in
theorem ggL_law_X12_pass_c7 : GoodIn wsL_law wsX110 := goodIn_2 lkL_in [(67, 0), (67, 1), (67, 2), (67, 3), (67, 4), (67, 5), (67, 6), (67, 7), (67, 8), (67, 9), (67, 10), (67, 11), (67, 12), (67, 13), (67, 14), (67, 15)] rfl (by decide +kernel)
set_option maxRecDepth 20000 in
theorem ggL_law_X12_pass_c8 : GoodIn wsL_law wsX100 := goodIn_2 lkL_in [(66, 0), (66, 1), (66, 2), (66, 3), (66, 4), (66, 5), (66, 6), (66, 7), (66, 8), (66, 9), (66, 10), (66, 11), (66, 12), (66, 13), (66, 14), (66, 15), (66, 16), (66, 17), (66, 18), (66, 19), (66, 20), (66, 21)] rfl (by decide +kernel)
set_option maxRecDepth 20000 in
theorem ggL_law_X12_pass : GoodIn wsL_law wsX12_pass := (goodIn_ca (goodIn_ca (goodIn_ca (goodIn_ca ggL_law_X12_pass_c1 (goodIn_app ggL_law_X12_pass_c2 (goodIn_app ggL_law_X12_pass_c3 (goodIn_app ggL_law_X12_pass_c4 ggL_law_X12_pass_c5)))) ggL_law_X12_pass_c6) ggL_law_X12_pass_c7) ggL_law_X12_pass_c8)
set_option maxRecDepth 20000 in
theorem gL_law_X12_pass : GoodIn wsL_law (wsV RL 134 RX12 yX12_pass wsX12_pass) := goodIn_app (goodIn_of _ (by decide +kernel)) ggL_law_X12_pass
set_option maxRecDepth 20000 in
theorem ggL_law_L_foresee : GoodIn wsL_law wsL_foresee := goodIn_ca (goodIn_ca (goodIn_2 lkL_in [(52, 4), (11, 10), (34, 19), (52, 5), (52, 6), (52, 7), (0, 2), (52, 8), (11, 15), (11, 16), (35, 0), (35, 1), (1, 1), (1, 0), (1, 9), (23, 13), (23, 14), (23, 15), (0, 23), (23, 16), (2, 7), (23, 17), (9, 12), (9, 13), (9, 14), (2, 8), (2, 9), (14, 23), (2, 11), (15, 0), (15, 1), (15, 2), (15, 3), (23, 18), (23, 19), (23, 20), (2, 13), (23, 21), (17, 15), (17, 16), (17, 17), (17, 18), (17, 19), (17, 20), (18, 1), (18, 2), (2, 17), (23, 22), (46, 3), (46, 4), (46, 5), (1, 8), (46, 6), (46, 7), (46, 8), (46, 9), (46, 10), (6, 12), (46, 11), (6, 11), (46, 12), (46, 13), (46, 14), (46, 15), (46, 16), (46, 17), (46, 18), (46, 19), (6, 10), (46, 20), (46, 21), (46, 22), (46, 23), (47, 0), (47, 1), (47, 2), (47, 3), (47, 4), (47, 5), (47, 6), (47, 7), (47, 8), (47, 9), (6, 16), (47, 10), (35, 11), (35, 12), (35, 13), (47, 11), (47, 12), (47, 13), (47, 14), (47, 15), (47, 16), (47, 17), (47, 18), (47, 19), (47, 20), (47, 21), (47, 22), (47, 23), (48, 0), (48, 1), (48, 2), (48, 3), (48, 4), (48, 5), (48, 6), (40, 13), (40, 14), (40, 15), (40, 16), (40, 17), (40, 18), (40, 19), (40, 20), (40, 21), (40, 22), (40, 23), (41, 0), (41, 1), (48, 7), (48, 8), (48, 9), (48, 10), (48, 11), (45, 11), (45, 12), (45, 13), (48, 12), (48, 13), (48, 14), (48, 15), (26, 3), (26, 0), (26, 4), (48, 16), (25, 23), (26, 1), (48, 17), (48, 18), (48, 19), (48, 20), (48, 21), (48, 22), (48, 23), (49, 0), (43, 7), (43, 8), (43, 9), (43, 10), (35, 10), (43, 11), (43, 12), (43, 13), (43, 14), (43, 15), (19, 16), (19, 17), (19, 18), (19, 19), (19, 20), (19, 21), (19, 22), (19, 23), (20, 0), (49, 1), (49, 2), (49, 3), (49, 4), (49, 5), (49, 6), (19, 8), (19, 9), (19, 10), (17, 21), (17, 22), (17, 23), (18, 0), (49, 7), (49, 8), (49, 9), (49, 10), (49, 11), (49, 12), (49, 13), (49, 14), (39, 9), (39, 10), (0, 19), (39, 11), (14, 16), (1, 20), (39, 12), (39, 13), (39, 14), (39, 15), (1, 19), (49, 15), (49, 16), (49, 17), (49, 18), (49, 19), (49, 20), (49, 21), (49, 22), (49, 23), (50, 0), (50, 1), (35, 6), (35, 7), (35, 8), (35, 9), (35, 14), (35, 15), (35, 16), (35, 17), (35, 18), (35, 19), (35, 20), (35, 21), (35, 22), (56, 0), (56, 1), (56, 2), (56, 3), (56, 4), (56, 5), (56, 6), (60, 0), (60, 1), (60, 2), (60, 3), (60, 4), (60, 5), (60, 6), (60, 7), (60, 8), (63, 0), (63, 1), (63, 2), (63, 3), (63, 4), (63, 5), (63, 6), (63, 7), (63, 8), (62, 0), (62, 1), (59, 0), (59, 1), (59, 2), (59, 3), (59, 4), (59, 5), (59, 6), (59, 7), (59, 8), (59, 9), (59, 10), (65, 0), (65, 1)] rfl (by decide +kernel)) (goodIn_sub (fun _ h => List.mem_append_left _ (List.mem_append_right _ h)) (by decide +kernel))) (goodIn_sub (fun _ h => List.mem_append_right _ h) (by decide +kernel))
set_option maxRecDepth 20000 in
theorem gL_law_L_foresee : GoodIn wsL_law (va_wsS RL 135 yL_foresee wsL_foresee) := goodIn_app (goodIn_of _ (by decide +kernel)) ggL_law_L_foresee
set_option maxRecDepth 20000 in
theorem ggL_law_X12_foresee_c1 : GoodIn wsL_law (.code yX12_foresee cX12_foresee 3 (some .int) :: wsX12_foresee_r1) := goodIn_2 lkL_in [(52, 12), (10, 21), (7, 13), (7, 12), (11, 21), (11, 22), (0, 5), (11, 23), (10, 23), (11, 0), (11, 1), (11, 2), (52, 13), (52, 14), (52, 15), (7, 11), (52, 16), (9, 3), (9, 4), (9, 5), (9, 6), (8, 12), (8, 13), (8, 14), (8, 15)] rfl (by decide +kernel)
set_option maxRecDepth 20000 in
theorem ggL_law_X12_foresee_c2 : GoodIn wsL_law wsX12_foresee_r2 := goodIn_2 lkL_in [(8, 16), (8, 17), (8, 18), (8, 19), (8, 20), (8, 21), (9, 7), (9, 8), (9, 9), (9, 10), (9, 11), (9, 12), (9, 13), (9, 14), (50, 7), (50, 8), (50, 9), (50, 10), (50, 11), (50, 12), (50, 13), (50, 14), (8, 10), (50, 15)] rfl (by decide +kernel)
set_option maxRecDepth 20000 in
theorem ggL_law_X12_foresee_c3 : GoodIn wsL_law wsX12_foresee_r3 := goodIn_2 lkL_in [(50, 16), (50, 17), (50, 18), (8, 22), (36, 11), (36, 12), (36, 13), (36, 14), (50, 19), (50, 20), (50, 21), (50, 22), (50, 23), (51, 0), (51, 1), (41, 23), (42, 0), (42, 1), (42, 2), (42, 3), (42, 4), (42, 5), (51, 2), (51, 3)] rfl (by decide +kernel)
set_option maxRecDepth 20000 in
theorem ggL_law_X12_foresee_c4 : GoodIn wsL_law wsX12_foresee_r4 := goodIn_2 lkL_in [(51, 4), (51, 5), (51, 6), (51, 7), (51, 8), (51, 9), (51, 10), (51, 11), (29, 15), (26, 3), (26, 0), (26, 4), (51, 12), (25, 23), (26, 1), (51, 13), (51, 14), (51, 15), (51, 16), (51, 17), (43, 21), (43, 22), (43, 23), (44, 0)] rfl (by decide +kernel)
set_option maxRecDepth 20000 in
theorem ggL_law_X12_foresee_c5 : GoodIn wsL_law wsX12_foresee_r5 := goodIn_2 lkL_in [(42, 20), (42, 21), (42, 22), (9, 15), (9, 16), (9, 17), (9, 18), (51, 18), (51, 19), (51, 20), (51, 21), (51, 22), (51, 23), (52, 0), (52, 1), (36, 7), (36, 8), (36, 9), (36, 10), (36, 15), (36, 16), (36, 17), (36, 18), (36, 19)] rfl (by decide +kernel)
set_option maxRecDepth 20000 in
theorem ggL_law_X12_foresee_c6 : GoodIn wsL_law wsX12_foresee_r6 := goodIn_2 lkL_in [(36, 20), (36, 21), (36, 22)] rfl (by decide +kernel)
set_option maxRecDepth 20000 in
theorem ggL_law_X12_foresee_c7 : GoodIn wsL_law wsX120 := goodIn_2 lkL_in [(57, 0), (57, 1), (57, 2), (57, 3), (57, 4), (57, 5), (57, 6), (57, 7), (57, 8), (57, 9), (57, 10), (57, 11), (57, 12), (57, 13), (57, 14)] rfl (by decide +kernel)
set_option maxRecDepth 20000 in
theorem ggL_law_X12_foresee_c8 : GoodIn wsL_law wsX110 := goodIn_2 lkL_in [(67, 0), (67, 1), (67, 2), (67, 3), (67, 4), (67, 5), (67, 6), (67, 7), (67, 8), (67, 9), (67, 10), (67, 11), (67, 12), (67, 13), (67, 14), (67, 15)] rfl (by decide +kernel)
set_option maxRecDepth 20000 in
theorem ggL_law_X12_foresee_c9 : GoodIn wsL_law wsX100 := goodIn_2 lkL_in [(66, 0), (66, 1), (66, 2), (66, 3), (66, 4), (66, 5), (66, 6), (66, 7), (66, 8), (66, 9), (66, 10), (66, 11), (66, 12), (66, 13), (66, 14), (66, 15), (66, 16), (66, 17), (66, 18), (66, 19), (66, 20), (66, 21)] rfl (by decide +kernel)
set_option maxRecDepth 20000 in
theorem ggL_law_X12_foresee : GoodIn wsL_law wsX12_foresee := (goodIn_ca (goodIn_ca (goodIn_ca (goodIn_ca ggL_law_X12_foresee_c1 (goodIn_app ggL_law_X12_foresee_c2 (goodIn_app ggL_law_X12_foresee_c3 (goodIn_app ggL_law_X12_foresee_c4 (goodIn_app ggL_law_X12_foresee_c5 ggL_law_X12_foresee_c6))))) ggL_law_X12_foresee_c7) ggL_law_X12_foresee_c8) ggL_law_X12_foresee_c9)
set_option maxRecDepth 20000 in
theorem gL_law_X12_foresee : GoodIn wsL_law (wsV RL 137 RX12 yX12_foresee wsX12_foresee) := goodIn_app (goodIn_of _ (by decide +kernel)) ggL_law_X12_foresee
set_option maxRecDepth 20000 in
theorem ggL_law_L_until : GoodIn wsL_law wsL_until := goodIn_ca (goodIn_2 lkL_in [(52, 19), (34, 19), (52, 20), (52, 21), (52, 22), (0, 2), (52, 23), (35, 0), (35, 1), (1, 1), (1, 0), (40, 3), (1, 9), (40, 4), (40, 5), (40, 6), (40, 7), (35, 4), (37, 6), (37, 7), (37, 8), (37, 9), (37, 10), (37, 11), (23, 13), (23, 14), (23, 15), (0, 23), (23, 16), (2, 7), (23, 17), (9, 12), (9, 13), (9, 14), (2, 8), (2, 9), (14, 23), (2, 11), (15, 0), (15, 1), (15, 2), (15, 3), (23, 18), (23, 19), (23, 20), (2, 13), (23, 21), (17, 15), (17, 16), (17, 17), (17, 18), (17, 19), (17, 20), (18, 1), (18, 2), (2, 17), (23, 22), (45, 10), (45, 11), (45, 12), (45, 13), (53, 0), (46, 8), (46, 9), (1, 8), (46, 10), (6, 12), (46, 11), (6, 11), (46, 12), (46, 13), (46, 14), (46, 15), (46, 16), (46, 17), (46, 18), (46, 19), (6, 10), (46, 20), (46, 21), (46, 22), (46, 23), (47, 0), (47, 1), (47, 2), (47, 3), (47, 4), (47, 5), (47, 6), (47, 7), (47, 8), (47, 9), (6, 16), (47, 10), (35, 11), (35, 12), (35, 13), (47, 11), (47, 12), (47, 13), (47, 14), (47, 15), (47, 16), (47, 17), (47, 18), (47, 19), (47, 20), (47, 21), (47, 22), (47, 23), (48, 0), (48, 1), (48, 2), (48, 3), (48, 4), (48, 5), (48, 6), (40, 13), (40, 14), (40, 15), (40, 16), (40, 17), (40, 18), (40, 19), (40, 20), (40, 21), (40, 22), (40, 23), (41, 0), (41, 1), (48, 7), (48, 8), (48, 9), (48, 10), (48, 11), (48, 12), (48, 13), (48, 14), (48, 15), (26, 3), (26, 0), (26, 4), (48, 16), (25, 23), (26, 1), (48, 17), (48, 18), (48, 19), (48, 20), (48, 21), (48, 22), (48, 23), (49, 0), (43, 7), (43, 8), (43, 9), (43, 10), (35, 10), (43, 11), (43, 12), (43, 13), (43, 14), (43, 15), (19, 16), (19, 17), (19, 18), (19, 19), (19, 20), (19, 21), (19, 22), (19, 23), (20, 0), (49, 1), (49, 2), (49, 3), (49, 4), (49, 5), (49, 6), (19, 8), (19, 9), (19, 10), (17, 21), (17, 22), (17, 23), (18, 0), (49, 7), (49, 8), (49, 9), (49, 10), (49, 11), (49, 12), (49, 13), (49, 14), (39, 9), (39, 10), (0, 19), (39, 11), (14, 16), (1, 20), (39, 12), (39, 13), (39, 14), (39, 15), (1, 19), (49, 15), (49, 16), (49, 17), (49, 18), (49, 19), (49, 20), (49, 21), (49, 22), (49, 23), (50, 0), (50, 1), (56, 0), (56, 1), (56, 2), (56, 3), (56, 4), (56, 5), (56, 6), (60, 0), (60, 1), (60, 2), (60, 3), (60, 4), (60, 5), (60, 6), (60, 7), (60, 8), (63, 0), (63, 1), (63, 2), (63, 3), (63, 4), (63, 5), (63, 6), (63, 7), (63, 8), (62, 0), (62, 1), (59, 0), (59, 1), (59, 2), (59, 3), (59, 4), (59, 5), (59, 6), (59, 7), (59, 8), (59, 9), (59, 10), (65, 0), (65, 1)] rfl (by decide +kernel)) (goodIn_sub (fun _ h => List.mem_append_right _ h) (by decide +kernel))
set_option maxRecDepth 20000 in
theorem gL_law_L_until : GoodIn wsL_law (va_wsS RL 138 yL_until wsL_until) := goodIn_app (goodIn_of _ (by decide +kernel)) ggL_law_L_until
set_option maxRecDepth 20000 in
theorem ggL_law_X12_until_c1 : GoodIn wsL_law (.code yX12_until cX12_until 5 (some .int) :: wsX12_until_r1) := goodIn_2 lkL_in [(53, 4), (10, 21), (7, 13), (7, 12), (41, 14), (41, 15), (41, 16), (0, 5), (41, 17), (7, 7), (11, 21), (11, 22), (11, 23), (37, 17), (37, 18), (37, 19), (10, 23), (11, 0), (11, 1), (11, 2), (52, 13), (52, 14), (52, 15), (7, 11), (52, 16)] rfl (by decide +kernel)
set_option maxRecDepth 20000 in
theorem ggL_law_X12_until_c2 : GoodIn wsL_law wsX12_until_r2 := goodIn_2 lkL_in [(9, 3), (9, 4), (9, 5), (9, 6), (8, 12), (8, 13), (8, 14), (8, 15), (8, 16), (8, 17), (8, 18), (8, 19), (8, 20), (8, 21), (9, 7), (9, 8), (9, 9), (9, 10), (9, 11), (9, 12), (9, 13), (9, 14), (53, 5), (50, 12)] rfl (by decide +kernel)
set_option maxRecDepth 20000 in
theorem ggL_law_X12_until_c3 : GoodIn wsL_law wsX12_until_r3 := goodIn_2 lkL_in [(50, 13), (50, 14), (8, 10), (50, 15), (50, 16), (50, 17), (50, 18), (8, 22), (36, 11), (36, 12), (36, 13), (36, 14), (50, 19), (50, 20), (50, 21), (50, 22), (50, 23), (51, 0), (51, 1), (41, 23), (42, 0), (42, 1), (42, 2), (42, 3)] rfl (by decide +kernel)
set_option maxRecDepth 20000 in
theorem ggL_law_X12_until_c4 : GoodIn wsL_law wsX12_until_r4 := goodIn_2 lkL_in [(42, 4), (42, 5), (51, 2), (51, 3), (51, 4), (51, 5), (51, 6), (51, 7), (51, 8), (51, 9), (51, 10), (51, 11), (29, 15), (26, 3), (26, 0), (26, 4), (51, 12), (25, 23), (26, 1), (51, 13), (51, 14), (51, 15), (51, 16), (51, 17)] rfl (by decide +kernel)
set_option maxRecDepth 20000 in
theorem ggL_law_X12_until_c5 : GoodIn wsL_law wsX12_until_r5 := goodIn_2 lkL_in [(43, 21), (43, 22), (43, 23), (44, 0), (42, 20), (42, 21), (42, 22), (9, 15), (9, 16), (9, 17), (9, 18), (51, 18), (51, 19), (51, 20), (51, 21), (51, 22), (51, 23), (52, 0), (52, 1)] rfl (by decide +kernel)
set_option maxRecDepth 20000 in
theorem ggL_law_X12_until_c6 : GoodIn wsL_law wsX120 := goodIn_2 lkL_in [(57, 0), (57, 1), (57, 2), (57, 3), (57, 4), (57, 5), (57, 6), (57, 7), (57, 8), (57, 9), (57, 10), (57, 11), (57, 12), (57, 13), (57, 14)] rfl (by decide +kernel)
set_option maxRecDepth 20000 in
theorem ggL_law_X12_until_c7 : GoodIn wsL_law wsX110 := goodIn_2 lkL_in [(67, 0), (67, 1), (67, 2), (67, 3), (67, 4), (67, 5), (67, 6), (67, 7), (67, 8), (67, 9), (67, 10), (67, 11), (67, 12), (67, 13), (67, 14), (67, 15)] rfl (by decide +kernel)
set_option maxRecDepth 20000 in
theorem ggL_law_X12_until_c8 : GoodIn wsL_law wsX100 := goodIn_2 lkL_in [(66, 0), (66, 1), (66, 2), (66, 3), (66, 4), (66, 5), (66, 6), (66, 7), (66, 8), (66, 9), (66, 10), (66, 11), (66, 12), (66, 13), (66, 14), (66, 15), (66, 16), (66, 17), (66, 18), (66, 19), (66, 20), (66, 21)] rfl (by decide +kernel)
set_option maxRecDepth 20000 in
theorem ggL_law_X12_until : GoodIn wsL_law wsX12_until := (goodIn_ca (goodIn_ca (goodIn_ca (goodIn_ca ggL_law_X12_until_c1 (goodIn_app ggL_law_X12_until_c2 (goodIn_app ggL_law_X12_until_c3 (goodIn_app ggL_law_X12_until_c4 ggL_law_X12_until_c5)))) ggL_law_X12_until_c6) ggL_law_X12_until_c7) ggL_law_X12_until_c8)
set_option maxRecDepth 20000 in
theorem gL_law_X12_until : GoodIn wsL_law (wsV RL 140 RX12 yX12_until wsX12_until) := goodIn_app (goodIn_of _ (by decide +kernel)) ggL_law_X12_until
set_option maxRecDepth 20000 in
theorem ggL_law_X9_found_c1 : GoodIn wsL_law (.code yX9_found cX9_found 2 (some .int) :: wsX9_found_r1) := goodIn_2 lkL_in [(53, 9), (1, 1), (1, 0), (1, 9), (23, 13), (23, 14), (23, 15), (0, 23), (23, 16), (2, 7), (23, 17), (9, 12), (9, 13), (9, 14), (2, 8), (2, 9), (14, 23), (2, 11), (15, 0), (15, 1), (15, 2), (15, 3), (23, 18), (23, 19), (23, 20)] rfl (by decide +kernel)
set_option maxRecDepth 20000 in
theorem ggL_law_X9_found_c2 : GoodIn wsL_law wsX9_found_r2 := goodIn_2 lkL_in [(2, 13), (23, 21), (17, 15), (17, 16), (17, 17), (17, 18), (17, 19), (17, 20), (18, 1), (18, 2), (2, 17), (23, 22), (53, 10), (53, 11), (53, 12), (53, 13), (53, 14), (40, 13), (40, 14), (40, 15), (40, 16), (40, 17), (40, 18), (40, 19)] rfl (by decide +kernel)
set_option maxRecDepth 20000 in
theorem ggL_law_X9_found_c3 : GoodIn wsL_law wsX9_found_r3 := goodIn_2 lkL_in [(40, 20), (40, 21), (40, 22), (40, 23), (41, 0), (41, 1), (53, 0), (46, 8), (46, 9), (1, 8), (46, 10), (6, 12), (46, 11), (6, 11), (46, 12), (46, 13), (46, 14), (46, 15), (46, 16), (46, 17), (46, 18), (46, 19), (6, 10), (46, 20)] rfl (by decide +kernel)
set_option maxRecDepth 20000 in
theorem ggL_law_X9_found_c4 : GoodIn wsL_law wsX9_found_r4 := goodIn_2 lkL_in [(46, 21), (46, 22), (46, 23), (47, 0), (47, 1), (47, 2), (47, 3), (47, 4), (47, 5), (47, 6), (47, 7), (47, 8), (47, 9), (6, 16), (47, 10), (35, 11), (35, 12), (35, 13), (47, 11), (47, 12), (47, 13), (47, 14), (47, 15), (47, 16)] rfl (by decide +kernel)
set_option maxRecDepth 20000 in
theorem ggL_law_X9_found_c5 : GoodIn wsL_law wsX9_found_r5 := goodIn_2 lkL_in [(47, 17), (47, 18), (47, 19), (47, 20), (47, 21), (47, 22), (47, 23), (48, 0), (48, 1), (48, 2), (48, 3), (48, 4), (48, 5), (48, 6), (48, 7), (48, 8), (48, 9), (48, 10), (48, 11), (45, 11), (45, 12), (45, 13), (48, 12), (48, 13)] rfl (by decide +kernel)
set_option maxRecDepth 20000 in
theorem ggL_law_X9_found_c6 : GoodIn wsL_law wsX9_found_r6 := goodIn_2 lkL_in [(48, 14), (48, 15), (26, 3), (26, 0), (26, 4), (48, 16), (25, 23), (26, 1), (48, 17), (48, 18), (48, 19), (48, 20), (48, 21), (48, 22), (48, 23), (49, 0), (43, 7), (43, 8), (43, 9), (43, 10), (35, 10), (43, 11), (43, 12), (43, 13)] rfl (by decide +kernel)
set_option maxRecDepth 20000 in
theorem ggL_law_X9_found_c7 : GoodIn wsL_law wsX9_found_r7 := goodIn_2 lkL_in [(43, 14), (43, 15), (19, 16), (19, 17), (19, 18), (19, 19), (19, 20), (19, 21), (19, 22), (19, 23), (0, 2), (20, 0), (49, 1), (49, 2), (49, 3), (49, 4), (49, 5), (49, 6), (19, 8), (19, 9), (19, 10), (17, 21), (17, 22), (17, 23)] rfl (by decide +kernel)
set_option maxRecDepth 20000 in
theorem ggL_law_X9_found_c8 : GoodIn wsL_law wsX9_found_r8 := goodIn_2 lkL_in [(18, 0), (49, 7), (49, 8), (49, 9), (49, 10), (49, 11), (49, 12), (49, 13), (49, 14), (39, 9), (39, 10), (0, 19), (39, 11), (14, 16), (1, 20), (39, 12), (39, 13), (39, 14), (39, 15), (1, 19), (49, 15), (49, 16), (49, 17), (49, 18)] rfl (by decide +kernel)
set_option maxRecDepth 20000 in
theorem ggL_law_X9_found_c9 : GoodIn wsL_law wsX9_found_r9 := goodIn_2 lkL_in [(49, 19), (49, 20), (49, 21), (49, 22), (49, 23), (50, 0), (50, 1)] rfl (by decide +kernel)
set_option maxRecDepth 20000 in
theorem ggL_law_X9_found_c10 : GoodIn wsL_law wsX90 := goodIn_2 lkL_in [(56, 0), (56, 1), (56, 2), (56, 3), (56, 4), (56, 5), (56, 6)] rfl (by decide +kernel)
set_option maxRecDepth 20000 in
theorem ggL_law_X9_found_c11 : GoodIn wsL_law wsX80 := goodIn_2 lkL_in [(60, 0), (60, 1), (60, 2), (60, 3), (60, 4), (60, 5), (60, 6), (60, 7), (60, 8)] rfl (by decide +kernel)
set_option maxRecDepth 20000 in
theorem ggL_law_X9_found_c12 : GoodIn wsL_law wsX00 := goodIn_2 lkL_in [(63, 0), (63, 1), (63, 2), (63, 3), (63, 4), (63, 5), (63, 6), (63, 7), (63, 8)] rfl (by decide +kernel)
set_option maxRecDepth 20000 in
theorem ggL_law_X9_found_c13 : GoodIn wsL_law wsX50 := goodIn_2 lkL_in [(62, 0), (62, 1)] rfl (by decide +kernel)
set_option maxRecDepth 20000 in
theorem ggL_law_X9_found_c14 : GoodIn wsL_law wsX30 := goodIn_2 lkL_in [(59, 0), (59, 1), (59, 2), (59, 3), (59, 4), (59, 5), (59, 6), (59, 7), (59, 8), (59, 9), (59, 10)] rfl (by decide +kernel)
set_option maxRecDepth 20000 in
theorem ggL_law_X9_found_c15 : GoodIn wsL_law wsX40 := goodIn_2 lkL_in [(65, 0), (65, 1)] rfl (by decide +kernel)
set_option maxRecDepth 20000 in
theorem ggL_law_X9_found : GoodIn wsL_law wsX9_found := (goodIn_ca (goodIn_ca (goodIn_ca (goodIn_ca (goodIn_ca (goodIn_ca (goodIn_ca ggL_law_X9_found_c1 (goodIn_app ggL_law_X9_found_c2 (goodIn_app ggL_law_X9_found_c3 (goodIn_app ggL_law_X9_found_c4 (goodIn_app ggL_law_X9_found_c5 (goodIn_app ggL_law_X9_found_c6 (goodIn_app ggL_law_X9_found_c7 (goodIn_app ggL_law_X9_found_c8 ggL_law_X9_found_c9)))))))) ggL_law_X9_found_c10) ggL_law_X9_found_c11) ggL_law_X9_found_c12) ggL_law_X9_found_c13) ggL_law_X9_found_c14) ggL_law_X9_found_c15)
set_option maxRecDepth 20000 in
theorem gL_law_X9_found : GoodIn wsL_law (wsV RL 141 RX9 yX9_found wsX9_found) := goodIn_app (goodIn_of _ (by decide +kernel)) ggL_law_X9_found
set_option maxRecDepth 20000 in
theorem ggL_law_X12_found_c1 : GoodIn wsL_law (.code yX12_found cX12_found 2 (some .int) :: wsX12_found_r1) := goodIn_2 lkL_in [(53, 18), (10, 21), (7, 13), (7, 12), (52, 13), (52, 14), (52, 15), (7, 11), (52, 16), (9, 3), (9, 4), (9, 5), (9, 6), (8, 12), (8, 13), (8, 14), (8, 15), (8, 16), (8, 17), (8, 18), (8, 19), (8, 20), (8, 21), (9, 7), (9, 8)] rfl (by decide +kernel)
set_option maxRecDepth 20000 in
theorem ggL_law_X12_found_c2 : GoodIn wsL_law wsX12_found_r2 := goodIn_2 lkL_in [(9, 9), (9, 10), (9, 11), (9, 12), (9, 13), (9, 14), (53, 19), (53, 20), (53, 21), (53, 22), (8, 10), (51, 1), (41, 23), (42, 0), (42, 1), (42, 2), (42, 3), (42, 4), (42, 5), (53, 5), (50, 12), (50, 13), (50, 14), (50, 15)] rfl (by decide +kernel)
set_option maxRecDepth 20000 in
theorem ggL_law_X12_found_c3 : GoodIn wsL_law wsX12_found_r3 := goodIn_2 lkL_in [(50, 16), (50, 17), (50, 18), (8, 22), (36, 11), (36, 12), (36, 13), (36, 14), (50, 19), (0, 5), (50, 20), (11, 21), (11, 22), (11, 23), (50, 21), (50, 22), (50, 23), (51, 0), (51, 2), (51, 3), (51, 4), (51, 5), (51, 6), (51, 7)] rfl (by decide +kernel)
set_option maxRecDepth 20000 in
theorem ggL_law_X12_found_c4 : GoodIn wsL_law wsX12_found_r4 := goodIn_2 lkL_in [(51, 8), (51, 9), (51, 10), (51, 11), (29, 15), (26, 3), (26, 0), (26, 4), (51, 12), (25, 23), (26, 1), (51, 13), (51, 14), (51, 15), (51, 16), (51, 17), (43, 21), (43, 22), (43, 23), (44, 0), (42, 20), (42, 21), (42, 22), (9, 15)] rfl (by decide +kernel)
set_option maxRecDepth 20000 in
theorem ggL_law_X12_found_c5 : GoodIn wsL_law wsX12_found_r5 := goodIn_2 lkL_in [(9, 16), (9, 17), (9, 18), (51, 18), (51, 19), (51, 20), (51, 21), (51, 22), (51, 23), (52, 0), (52, 1)] rfl (by decide +kernel)
set_option maxRecDepth 20000 in
theorem ggL_law_X12_found_c6 : GoodIn wsL_law wsX120 := goodIn_2 lkL_in [(57, 0), (57, 1), (57, 2), (57, 3), (57, 4), (57, 5), (57, 6), (57, 7), (57, 8), (57, 9), (57, 10), (57, 11), (57, 12), (57, 13), (57, 14)] rfl (by decide +kernel)
set_option maxRecDepth 20000 in
theorem ggL_law_X12_found_c7 : GoodIn wsL_law wsX110 := goodIn_2 lkL_in [(67, 0), (67, 1), (67, 2), (67, 3), (67, 4), (67, 5), (67, 6), (67, 7), (67, 8), (67, 9), (67, 10), (67, 11), (67, 12), (67, 13), (67, 14), (67, 15)] rfl (by decide +kernel)
set_option maxRecDepth 20000 in
theorem ggL_law_X12_found_c8 : GoodIn wsL_law wsX100 := goodIn_2 lkL_in [(66, 0), (66, 1), (66, 2), (66, 3), (66, 4), (66, 5), (66, 6), (66, 7), (66, 8), (66, 9), (66, 10), (66, 11), (66, 12), (66, 13), (66, 14), (66, 15), (66, 16), (66, 17), (66, 18), (66, 19), (66, 20), (66, 21)] rfl (by decide +kernel)
set_option maxRecDepth 20000 in
theorem ggL_law_X12_found : GoodIn wsL_law wsX12_found := (goodIn_ca (goodIn_ca (goodIn_ca (goodIn_ca ggL_law_X12_found_c1 (goodIn_app ggL_law_X12_found_c2 (goodIn_app ggL_law_X12_found_c3 (goodIn_app ggL_law_X12_found_c4 ggL_law_X12_found_c5)))) ggL_law_X12_found_c6) ggL_law_X12_found_c7) ggL_law_X12_found_c8)
set_option maxRecDepth 20000 in
theorem gL_law_X12_found : GoodIn wsL_law (wsV RL 144 RX12 yX12_found wsX12_found) := goodIn_app (goodIn_of _ (by decide +kernel)) ggL_law_X12_found
set_option maxRecDepth 20000 in
theorem ggL_law_L_advise : GoodIn wsL_law wsL_advise := goodIn_ca (goodIn_2 lkL_in [(54, 1), (11, 10), (54, 2), (54, 3), (54, 4), (0, 2), (54, 5), (11, 15), (11, 16), (1, 1), (1, 0), (1, 9), (23, 13), (23, 14), (23, 15), (0, 23), (23, 16), (2, 7), (23, 17), (9, 12), (9, 13), (9, 14), (2, 8), (2, 9), (14, 23), (2, 11), (15, 0), (15, 1), (15, 2), (15, 3), (23, 18), (23, 19), (23, 20), (2, 13), (23, 21), (17, 15), (17, 16), (17, 17), (17, 18), (17, 19), (17, 20), (18, 1), (18, 2), (2, 17), (23, 22), (46, 3), (46, 4), (46, 5), (1, 8), (46, 6), (46, 7), (46, 8), (46, 9), (46, 10), (6, 12), (46, 11), (6, 11), (46, 12), (46, 13), (46, 14), (46, 15), (46, 16), (46, 17), (46, 18), (46, 19), (6, 10), (46, 20), (46, 21), (46, 22), (46, 23), (47, 0), (47, 1), (47, 2), (47, 3), (47, 4), (47, 5), (47, 6), (47, 7), (47, 8), (47, 9), (6, 16), (47, 10), (35, 11), (35, 12), (35, 13), (47, 11), (47, 12), (47, 13), (47, 14), (47, 15), (47, 16), (47, 17), (47, 18), (47, 19), (47, 20), (47, 21), (47, 22), (47, 23), (48, 0), (48, 1), (48, 2), (48, 3), (48, 4), (48, 5), (48, 6), (40, 13), (40, 14), (40, 15), (40, 16), (40, 17), (40, 18), (40, 19), (40, 20), (40, 21), (40, 22), (40, 23), (41, 0), (41, 1), (48, 7), (48, 8), (48, 9), (48, 10), (48, 11), (45, 11), (45, 12), (45, 13), (48, 12), (48, 13), (48, 14), (48, 15), (26, 3), (26, 0), (26, 4), (48, 16), (25, 23), (26, 1), (48, 17), (48, 18), (48, 19), (48, 20), (48, 21), (48, 22), (48, 23), (49, 0), (43, 7), (43, 8), (43, 9), (43, 10), (35, 10), (43, 11), (43, 12), (43, 13), (43, 14), (43, 15), (19, 16), (19, 17), (19, 18), (19, 19), (19, 20), (19, 21), (19, 22), (19, 23), (20, 0), (49, 1), (49, 2), (49, 3), (49, 4), (49, 5), (49, 6), (19, 8), (19, 9), (19, 10), (17, 21), (17, 22), (17, 23), (18, 0), (49, 7), (49, 8), (49, 9), (49, 10), (49, 11), (49, 12), (49, 13), (49, 14), (39, 9), (39, 10), (0, 19), (39, 11), (14, 16), (1, 20), (39, 12), (39, 13), (39, 14), (39, 15), (1, 19), (49, 15), (49, 16), (49, 17), (49, 18), (49, 19), (49, 20), (49, 21), (49, 22), (49, 23), (50, 0), (50, 1), (46, 2), (43, 6), (56, 0), (56, 1), (56, 2), (56, 3), (56, 4), (56, 5), (56, 6), (60, 0), (60, 1), (60, 2), (60, 3), (60, 4), (60, 5), (60, 6), (60, 7), (60, 8), (63, 0), (63, 1), (63, 2), (63, 3), (63, 4), (63, 5), (63, 6), (63, 7), (63, 8), (62, 0), (62, 1), (59, 0), (59, 1), (59, 2), (59, 3), (59, 4), (59, 5), (59, 6), (59, 7), (59, 8), (59, 9), (59, 10), (65, 0), (65, 1)] rfl (by decide +kernel)) (goodIn_sub (fun _ h => List.mem_append_left _ (List.mem_append_right _ h)) (by decide +kernel))
set_option maxRecDepth 20000 in
theorem gL_law_L_advise : GoodIn wsL_law (va_wsS RL 145 yL_advise wsL_advise) := goodIn_app (goodIn_of _ (by decide +kernel)) ggL_law_L_advise
set_option maxRecDepth 20000 in
theorem ggL_law_X12_advise_c1 : GoodIn wsL_law (.code yX12_advise cX12_advise 6 (some .int) :: wsX12_advise_r1) := goodIn_2 lkL_in [(54, 9), (10, 21), (7, 13), (7, 12), (11, 21), (11, 22), (0, 5), (11, 23), (10, 23), (11, 0), (11, 1), (11, 2), (52, 13), (52, 14), (52, 15), (7, 11), (52, 16), (9, 3), (9, 4), (9, 5), (9, 6), (8, 12), (8, 13), (8, 14), (8, 15)] rfl (by decide +kernel)
set_option maxRecDepth 20000 in
theorem ggL_law_X12_advise_c2 : GoodIn wsL_law wsX12_advise_r2 := goodIn_2 lkL_in [(8, 16), (8, 17), (8, 18), (8, 19), (8, 20), (8, 21), (9, 7), (9, 8), (9, 9), (9, 10), (9, 11), (9, 12), (9, 13), (9, 14), (50, 7), (50, 8), (50, 9), (50, 10), (50, 11), (50, 12), (50, 13), (50, 14), (8, 10), (50, 15)] rfl (by decide +kernel)
set_option maxRecDepth 20000 in
theorem ggL_law_X12_advise_c3 : GoodIn wsL_law wsX12_advise_r3 := goodIn_2 lkL_in [(50, 16), (50, 17), (50, 18), (8, 22), (36, 11), (36, 12), (36, 13), (36, 14), (50, 19), (50, 20), (50, 21), (50, 22), (50, 23), (51, 0), (51, 1), (41, 23), (42, 0), (42, 1), (42, 2), (42, 3), (42, 4), (42, 5), (51, 2), (51, 3)] rfl (by decide +kernel)
set_option maxRecDepth 20000 in
theorem ggL_law_X12_advise_c4 : GoodIn wsL_law wsX12_advise_r4 := goodIn_2 lkL_in [(51, 4), (51, 5), (51, 6), (51, 7), (51, 8), (51, 9), (51, 10), (51, 11), (29, 15), (26, 3), (26, 0), (26, 4), (51, 12), (25, 23), (26, 1), (51, 13), (51, 14), (51, 15), (51, 16), (51, 17), (43, 21), (43, 22), (43, 23), (44, 0)] rfl (by decide +kernel)
set_option maxRecDepth 20000 in
theorem ggL_law_X12_advise_c5 : GoodIn wsL_law wsX12_advise_r5 := goodIn_2 lkL_in [(42, 20), (42, 21), (42, 22), (9, 15), (9, 16), (9, 17), (9, 18), (51, 18), (51, 19), (51, 20), (51, 21), (51, 22), (51, 23), (52, 0), (52, 1), (50, 6), (43, 20)] rfl (by decide +kernel)
set_option maxRecDepth 20000 in
theorem ggL_law_X12_advise_c6 : GoodIn wsL_law wsX120 := goodIn_2 lkL_in [(57, 0), (57, 1), (57, 2), (57, 3), (57, 4), (57, 5), (57, 6), (57, 7), (57, 8), (57, 9), (57, 10), (57, 11), (57, 12), (57, 13), (57, 14)] rfl (by decide +kernel)
set_option maxRecDepth 20000 in
theorem ggL_law_X12_advise_c7 : GoodIn wsL_law wsX110 := goodIn_2 lkL_in [(67, 0), (67, 1), (67, 2), (67, 3), (67, 4), (67, 5), (67, 6), (67, 7), (67, 8), (67, 9), (67, 10), (67, 11), (67, 12), (67, 13), (67, 14), (67, 15)] rfl (by decide +kernel)
set_option maxRecDepth 20000 in
theorem ggL_law_X12_advise_c8 : GoodIn wsL_law wsX100 := goodIn_2 lkL_in [(66, 0), (66, 1), (66, 2), (66, 3), (66, 4), (66, 5), (66, 6), (66, 7), (66, 8), (66, 9), (66, 10), (66, 11), (66, 12), (66, 13), (66, 14), (66, 15), (66, 16), (66, 17), (66, 18), (66, 19), (66, 20), (66, 21)] rfl (by decide +kernel)
set_option maxRecDepth 20000 in
theorem ggL_law_X12_advise : GoodIn wsL_law wsX12_advise := (goodIn_ca (goodIn_ca (goodIn_ca (goodIn_ca ggL_law_X12_advise_c1 (goodIn_app ggL_law_X12_advise_c2 (goodIn_app ggL_law_X12_advise_c3 (goodIn_app ggL_law_X12_advise_c4 ggL_law_X12_advise_c5)))) ggL_law_X12_advise_c6) ggL_law_X12_advise_c7) ggL_law_X12_advise_c8)
set_option maxRecDepth 20000 in
theorem gL_law_X12_advise : GoodIn wsL_law (wsV RL 147 RX12 yX12_advise wsX12_advise) := goodIn_app (goodIn_of _ (by decide +kernel)) ggL_law_X12_advise
set_option maxRecDepth 20000 in
theorem ggL_law_X9_mean : GoodIn wsL_law wsX9_mean := goodIn_2 lkL_in [(54, 13), (1, 0), (54, 14), (54, 15), (35, 15), (35, 16), (0, 23), (35, 17), (2, 9), (56, 0), (56, 1), (56, 2), (56, 3), (56, 4), (56, 5), (56, 6), (60, 0), (60, 1), (60, 2), (60, 3), (60, 4), (60, 5), (60, 6), (60, 7), (60, 8)] rfl (by decide +kernel)
set_option maxRecDepth 20000 in
theorem gL_law_X9_mean : GoodIn wsL_law (wsV RL 148 RX9 yX9_mean wsX9_mean) := goodIn_app (goodIn_of _ (by decide +kernel)) ggL_law_X9_mean
set_option maxRecDepth 20000 in
theorem ggL_law_X12_mean : GoodIn wsL_law wsX12_mean := goodIn_2 lkL_in [(54, 19), (10, 21), (7, 12), (54, 20), (36, 16), (7, 11), (36, 17), (36, 18), (8, 12), (57, 0), (57, 1), (57, 2), (57, 3), (57, 4), (57, 5), (57, 6), (57, 7), (57, 8), (57, 9), (57, 10), (57, 11), (57, 12), (57, 13), (57, 14), (67, 0), (67, 1), (67, 2), (67, 3), (67, 4), (67, 5), (67, 6), (67, 7), (67, 8), (67, 9), (67, 10), (67, 11), (67, 12), (67, 13), (67, 14), (67, 15)] rfl (by decide +kernel)
set_option maxRecDepth 20000 in
theorem gL_law_X12_mean : GoodIn wsL_law (wsV RL 152 RX12 yX12_mean wsX12_mean) := goodIn_app (goodIn_of _ (by decide +kernel)) ggL_law_X12_mean
set_option maxRecDepth 20000 in
theorem ggL_law_X9_digest : GoodIn wsL_law wsX9_digest := goodIn_ca (goodIn_2 lkL_in [(55, 0), (55, 1), (55, 2), (0, 20), (35, 3), (1, 0), (35, 4), (40, 3), (55, 3), (34, 21), (34, 22), (0, 2), (34, 23), (35, 0), (35, 1), (35, 2), (35, 5), (0, 16), (10, 6), (35, 6), (35, 7), (35, 8), (0, 23), (35, 9), (15, 1), (15, 2), (15, 3), (35, 10), (35, 11), (35, 12), (35, 13), (2, 9), (35, 14), (35, 15), (35, 16), (35, 17), (35, 18), (35, 19), (35, 20), (35, 21), (14, 23), (2, 11), (35, 22), (39, 8), (39, 9), (39, 10), (0, 19), (39, 11), (14, 16), (1, 20), (39, 12), (39, 13), (39, 14), (39, 15), (1, 19), (40, 8), (40, 9), (40, 10), (2, 13), (40, 11), (17, 15), (17, 16), (17, 17), (17, 18), (17, 19), (17, 20), (40, 12), (40, 13), (40, 14), (40, 15), (18, 2), (18, 1), (40, 16), (40, 17), (40, 18), (40, 19), (40, 20), (40, 21), (2, 17), (40, 22), (40, 23), (41, 0), (41, 1), (41, 2), (41, 3), (41, 4), (41, 5), (41, 6), (41, 7), (41, 8), (41, 9), (37, 12), (19, 20), (19, 21), (19, 22), (2, 7), (56, 0), (56, 1), (56, 2), (56, 3), (56, 4), (56, 5), (56, 6), (59, 0), (59, 1), (59, 2), (59, 3), (59, 4), (59, 5), (59, 6), (59, 7), (59, 8), (59, 9), (59, 10), (60, 0), (60, 1), (60, 2), (60, 3), (60, 4), (60, 5), (60, 6), (60, 7), (60, 8), (58, 0), (58, 1), (63, 0), (63, 1), (63, 2), (63, 3), (63, 4), (63, 5), (63, 6), (63, 7), (63, 8)] rfl (by decide +kernel)) (goodIn_sub (fun _ h => List.mem_append_right _ h) (by decide +kernel))
set_option maxRecDepth 20000 in
theorem gL_law_X9_digest : GoodIn wsL_law (wsV RL 153 RX9 yX9_digest wsX9_digest) := goodIn_app (goodIn_of _ (by decide +kernel)) ggL_law_X9_digest
set_option maxRecDepth 20000 in
theorem ggL_law_X12_digest_c1 : GoodIn wsL_law (.code yX12_digest cX12_digest 7 (some .long) :: wsX12_digest_r1) := goodIn_2 lkL_in [(55, 7), (10, 21), (55, 8), (55, 9), (7, 7), (7, 12), (36, 3), (36, 4), (36, 5), (0, 5), (36, 6), (1, 14), (10, 22), (11, 21), (11, 22), (11, 23), (36, 7), (36, 8), (36, 9), (7, 11), (36, 10), (9, 4), (9, 5), (9, 6), (36, 11)] rfl (by decide +kernel)
set_option maxRecDepth 20000 in
theorem ggL_law_X12_digest_c2 : GoodIn wsL_law wsX12_digest_r2 := goodIn_2 lkL_in [(36, 12), (36, 13), (36, 14), (8, 13), (36, 15), (36, 16), (36, 17), (36, 18), (8, 12), (36, 19), (36, 20), (36, 21), (36, 22), (8, 10), (8, 17), (41, 18), (41, 19), (41, 20), (41, 21), (41, 22), (41, 23), (42, 0), (42, 1), (8, 21)] rfl (by decide +kernel)
set_option maxRecDepth 20000 in
theorem ggL_law_X12_digest_c3 : GoodIn wsL_law wsX12_digest_r3 := goodIn_2 lkL_in [(42, 2), (42, 3), (42, 4), (42, 5), (8, 20), (8, 19), (42, 6)] rfl (by decide +kernel)
set_option maxRecDepth 20000 in
theorem ggL_law_X12_digest_c4 : GoodIn wsL_law wsX120 := goodIn_2 lkL_in [(57, 0), (57, 1), (57, 2), (57, 3), (57, 4), (57, 5), (57, 6), (57, 7), (57, 8), (57, 9), (57, 10), (57, 11), (57, 12), (57, 13), (57, 14)] rfl (by decide +kernel)
set_option maxRecDepth 20000 in
theorem ggL_law_X12_digest_c5 : GoodIn wsL_law wsX100 := goodIn_2 lkL_in [(66, 0), (66, 1), (66, 2), (66, 3), (66, 4), (66, 5), (66, 6), (66, 7), (66, 8), (66, 9), (66, 10), (66, 11), (66, 12), (66, 13), (66, 14), (66, 15), (66, 16), (66, 17), (66, 18), (66, 19), (66, 20), (66, 21)] rfl (by decide +kernel)
set_option maxRecDepth 20000 in
theorem ggL_law_X12_digest_c6 : GoodIn wsL_law wsX110 := goodIn_2 lkL_in [(67, 0), (67, 1), (67, 2), (67, 3), (67, 4), (67, 5), (67, 6), (67, 7), (67, 8), (67, 9), (67, 10), (67, 11), (67, 12), (67, 13), (67, 14), (67, 15)] rfl (by decide +kernel)
set_option maxRecDepth 20000 in
theorem ggL_law_X12_digest : GoodIn wsL_law wsX12_digest := (goodIn_ca (goodIn_ca (goodIn_ca (goodIn_ca ggL_law_X12_digest_c1 (goodIn_app ggL_law_X12_digest_c2 ggL_law_X12_digest_c3)) ggL_law_X12_digest_c4) ggL_law_X12_digest_c5) ggL_law_X12_digest_c6)
set_option maxRecDepth 20000 in
theorem gL_law_X12_digest : GoodIn wsL_law (wsV RL 157 RX12 yX12_digest wsX12_digest) := goodIn_app (goodIn_of _ (by decide +kernel)) ggL_law_X12_digest
theorem dL_law_0 : decode cL_law 0 = .ok (.new 8, 3) := by decide +kernel
theorem dL_law_3 : decode cL_law 3 = .ok (.dup, 1) := by decide +kernel
theorem dL_law_4 : decode cL_law 4 = .ok (.invokespecial 71, 3) := by decide +kernel
theorem dL_law_7 : decode cL_law 7 = .ok (.astore_n 1, 1) := by decide +kernel
theorem dL_law_8 : decode cL_law 8 = .ok (.new 72, 3) := by decide +kernel
theorem dL_law_11 : decode cL_law 11 = .ok (.dup, 1) := by decide +kernel
theorem dL_law_12 : decode cL_law 12 = .ok (.invokespecial 74, 3) := by decide +kernel
theorem dL_law_15 : decode cL_law 15 = .ok (.astore_n 2, 1) := by decide +kernel
theorem dL_law_16 : decode cL_law 16 = .ok (.iconst 1, 1) := by decide +kernel
theorem dL_law_17 : decode cL_law 17 = .ok (.newarray .long, 2) := by decide +kernel
theorem dL_law_19 : decode cL_law 19 = .ok (.astore_n 3, 1) := by decide +kernel
theorem dL_law_20 : decode cL_law 20 = .ok (.iconst 0, 1) := by decide +kernel
theorem dL_law_21 : decode cL_law 21 = .ok (.istore 4, 2) := by decide +kernel
theorem dL_law_23 : decode cL_law 23 = .ok (.iload 4, 2) := by decide +kernel
theorem dL_law_25 : decode cL_law 25 = .ok (.aload_n 0, 1) := by decide +kernel
theorem dL_law_26 : decode cL_law 26 = .ok (.arraylength, 1) := by decide +kernel
theorem dL_law_27 : decode cL_law 27 = .ok (.bipush 6, 2) := by decide +kernel
theorem dL_law_29 : decode cL_law 29 = .ok (.isub, 1) := by decide +kernel
theorem dL_law_30 : decode cL_law 30 = .ok (.if_icmp .gt 1365, 3) := by decide +kernel
theorem dL_law_33 : decode cL_law 33 = .ok (.aload_n 0, 1) := by decide +kernel
theorem dL_law_34 : decode cL_law 34 = .ok (.iload 4, 2) := by decide +kernel
theorem dL_law_36 : decode cL_law 36 = .ok (.iaload, 1) := by decide +kernel
theorem dL_law_37 : decode cL_law 37 = .ok (.bipush 31, 2) := by decide +kernel
theorem dL_law_39 : decode cL_law 39 = .ok (.iand, 1) := by decide +kernel
theorem dL_law_40 : decode cL_law 40 = .ok (.tableswitch 1349 0 21 #[104, 208, 264, 277, 290, 346, 414, 470, 526, 594, 662, 742, 810, 878, 941, 1021, 1077, 1145, 1225, 1238, 1294, 1335], 104) := by decide +kernel
theorem dL_law_144 : decode cL_law 144 = .ok (.aload_n 1, 1) := by decide +kernel
theorem dL_law_145 : decode cL_law 145 = .ok (.aload_n 0, 1) := by decide +kernel
theorem dL_law_146 : decode cL_law 146 = .ok (.iload 4, 2) := by decide +kernel
theorem dL_law_148 : decode cL_law 148 = .ok (.iconst 1, 1) := by decide +kernel
theorem dL_law_149 : decode cL_law 149 = .ok (.iadd, 1) := by decide +kernel
theorem dL_law_150 : decode cL_law 150 = .ok (.iaload, 1) := by decide +kernel
theorem dL_law_151 : decode cL_law 151 = .ok (.aload_n 0, 1) := by decide +kernel
theorem dL_law_152 : decode cL_law 152 = .ok (.iload 4, 2) := by decide +kernel
theorem dL_law_154 : decode cL_law 154 = .ok (.iconst 2, 1) := by decide +kernel
theorem dL_law_155 : decode cL_law 155 = .ok (.iadd, 1) := by decide +kernel
theorem dL_law_156 : decode cL_law 156 = .ok (.iaload, 1) := by decide +kernel
theorem dL_law_157 : decode cL_law 157 = .ok (.aload_n 0, 1) := by decide +kernel
theorem dL_law_158 : decode cL_law 158 = .ok (.iload 4, 2) := by decide +kernel
theorem dL_law_160 : decode cL_law 160 = .ok (.iconst 3, 1) := by decide +kernel
theorem dL_law_161 : decode cL_law 161 = .ok (.iadd, 1) := by decide +kernel
theorem dL_law_162 : decode cL_law 162 = .ok (.iaload, 1) := by decide +kernel
theorem dL_law_163 : decode cL_law 163 = .ok (.aload_n 0, 1) := by decide +kernel
theorem dL_law_164 : decode cL_law 164 = .ok (.iload 4, 2) := by decide +kernel
theorem dL_law_166 : decode cL_law 166 = .ok (.iconst 4, 1) := by decide +kernel
theorem dL_law_167 : decode cL_law 167 = .ok (.iadd, 1) := by decide +kernel
theorem dL_law_168 : decode cL_law 168 = .ok (.iaload, 1) := by decide +kernel
theorem dL_law_169 : decode cL_law 169 = .ok (.aload_n 0, 1) := by decide +kernel
theorem dL_law_170 : decode cL_law 170 = .ok (.iload 4, 2) := by decide +kernel
theorem dL_law_172 : decode cL_law 172 = .ok (.iconst 5, 1) := by decide +kernel
theorem dL_law_173 : decode cL_law 173 = .ok (.iadd, 1) := by decide +kernel
theorem dL_law_174 : decode cL_law 174 = .ok (.iaload, 1) := by decide +kernel
theorem dL_law_175 : decode cL_law 175 = .ok (.aload_n 3, 1) := by decide +kernel
theorem dL_law_176 : decode cL_law 176 = .ok (.invokestatic 75, 3) := by decide +kernel
theorem dL_law_179 : decode cL_law 179 = .ok (.istore 5, 2) := by decide +kernel
theorem dL_law_181 : decode cL_law 181 = .ok (.aload_n 2, 1) := by decide +kernel
theorem dL_law_182 : decode cL_law 182 = .ok (.aload_n 0, 1) := by decide +kernel
theorem dL_law_183 : decode cL_law 183 = .ok (.iload 4, 2) := by decide +kernel
theorem dL_law_185 : decode cL_law 185 = .ok (.iconst 1, 1) := by decide +kernel
theorem dL_law_186 : decode cL_law 186 = .ok (.iadd, 1) := by decide +kernel
theorem dL_law_187 : decode cL_law 187 = .ok (.iaload, 1) := by decide +kernel
theorem dL_law_188 : decode cL_law 188 = .ok (.aload_n 0, 1) := by decide +kernel
theorem dL_law_189 : decode cL_law 189 = .ok (.iload 4, 2) := by decide +kernel
theorem dL_law_191 : decode cL_law 191 = .ok (.iconst 2, 1) := by decide +kernel
theorem dL_law_192 : decode cL_law 192 = .ok (.iadd, 1) := by decide +kernel
theorem dL_law_193 : decode cL_law 193 = .ok (.iaload, 1) := by decide +kernel
theorem dL_law_194 : decode cL_law 194 = .ok (.aload_n 0, 1) := by decide +kernel
theorem dL_law_195 : decode cL_law 195 = .ok (.iload 4, 2) := by decide +kernel
theorem dL_law_197 : decode cL_law 197 = .ok (.iconst 3, 1) := by decide +kernel
theorem dL_law_198 : decode cL_law 198 = .ok (.iadd, 1) := by decide +kernel
theorem dL_law_199 : decode cL_law 199 = .ok (.iaload, 1) := by decide +kernel
theorem dL_law_200 : decode cL_law 200 = .ok (.aload_n 0, 1) := by decide +kernel
theorem dL_law_201 : decode cL_law 201 = .ok (.iload 4, 2) := by decide +kernel
theorem dL_law_203 : decode cL_law 203 = .ok (.iconst 4, 1) := by decide +kernel
theorem dL_law_204 : decode cL_law 204 = .ok (.iadd, 1) := by decide +kernel
theorem dL_law_205 : decode cL_law 205 = .ok (.iaload, 1) := by decide +kernel
theorem dL_law_206 : decode cL_law 206 = .ok (.aload_n 0, 1) := by decide +kernel
theorem dL_law_207 : decode cL_law 207 = .ok (.iload 4, 2) := by decide +kernel
theorem dL_law_209 : decode cL_law 209 = .ok (.iconst 5, 1) := by decide +kernel
theorem dL_law_210 : decode cL_law 210 = .ok (.iadd, 1) := by decide +kernel
theorem dL_law_211 : decode cL_law 211 = .ok (.iaload, 1) := by decide +kernel
theorem dL_law_212 : decode cL_law 212 = .ok (.invokevirtual 80, 3) := by decide +kernel
theorem dL_law_215 : decode cL_law 215 = .ok (.istore 6, 2) := by decide +kernel
theorem dL_law_217 : decode cL_law 217 = .ok (.aload_n 2, 1) := by decide +kernel
theorem dL_law_218 : decode cL_law 218 = .ok (.invokevirtual 81, 3) := by decide +kernel
theorem dL_law_221 : decode cL_law 221 = .ok (.iload 5, 2) := by decide +kernel
theorem dL_law_223 : decode cL_law 223 = .ok (.if_icmp .eq 5, 3) := by decide +kernel
theorem dL_law_226 : decode cL_law 226 = .ok (.iconst 0, 1) := by decide +kernel
theorem dL_law_227 : decode cL_law 227 = .ok (.ireturn, 1) := by decide +kernel
theorem dL_law_228 : decode cL_law 228 = .ok (.iload 5, 2) := by decide +kernel
theorem dL_law_230 : decode cL_law 230 = .ok (.ifCond .ne 15, 3) := by decide +kernel
theorem dL_law_233 : decode cL_law 233 = .ok (.aload_n 3, 1) := by decide +kernel
theorem dL_law_234 : decode cL_law 234 = .ok (.iconst 0, 1) := by decide +kernel
theorem dL_law_235 : decode cL_law 235 = .ok (.laload, 1) := by decide +kernel
theorem dL_law_236 : decode cL_law 236 = .ok (.iload 6, 2) := by decide +kernel
theorem dL_law_238 : decode cL_law 238 = .ok (.i2l, 1) := by decide +kernel
theorem dL_law_239 : decode cL_law 239 = .ok (.lcmp, 1) := by decide +kernel
theorem dL_law_240 : decode cL_law 240 = .ok (.ifCond .eq 5, 3) := by decide +kernel
theorem dL_law_243 : decode cL_law 243 = .ok (.iconst 0, 1) := by decide +kernel
theorem dL_law_244 : decode cL_law 244 = .ok (.ireturn, 1) := by decide +kernel
theorem dL_law_245 : decode cL_law 245 = .ok (.goto 1144, 3) := by decide +kernel
theorem dL_law_248 : decode cL_law 248 = .ok (.aload_n 1, 1) := by decide +kernel
theorem dL_law_249 : decode cL_law 249 = .ok (.aload_n 0, 1) := by decide +kernel
theorem dL_law_250 : decode cL_law 250 = .ok (.iload 4, 2) := by decide +kernel
theorem dL_law_252 : decode cL_law 252 = .ok (.iconst 1, 1) := by decide +kernel
theorem dL_law_253 : decode cL_law 253 = .ok (.iadd, 1) := by decide +kernel
theorem dL_law_254 : decode cL_law 254 = .ok (.iaload, 1) := by decide +kernel
theorem dL_law_255 : decode cL_law 255 = .ok (.aload_n 3, 1) := by decide +kernel
theorem dL_law_256 : decode cL_law 256 = .ok (.invokestatic 85, 3) := by decide +kernel
theorem dL_law_259 : decode cL_law 259 = .ok (.istore 5, 2) := by decide +kernel
theorem dL_law_261 : decode cL_law 261 = .ok (.aload_n 2, 1) := by decide +kernel
theorem dL_law_262 : decode cL_law 262 = .ok (.aload_n 0, 1) := by decide +kernel
theorem dL_law_263 : decode cL_law 263 = .ok (.iload 4, 2) := by decide +kernel
theorem dL_law_265 : decode cL_law 265 = .ok (.iconst 1, 1) := by decide +kernel
theorem dL_law_266 : decode cL_law 266 = .ok (.iadd, 1) := by decide +kernel
theorem dL_law_267 : decode cL_law 267 = .ok (.iaload, 1) := by decide +kernel
theorem dL_law_268 : decode cL_law 268 = .ok (.invokevirtual 88, 3) := by decide +kernel
theorem dL_law_271 : decode cL_law 271 = .ok (.istore 6, 2) := by decide +kernel
theorem dL_law_273 : decode cL_law 273 = .ok (.aload_n 2, 1) := by decide +kernel
theorem dL_law_274 : decode cL_law 274 = .ok (.invokevirtual 81, 3) := by decide +kernel
theorem dL_law_277 : decode cL_law 277 = .ok (.iload 5, 2) := by decide +kernel
theorem dL_law_279 : decode cL_law 279 = .ok (.if_icmp .eq 5, 3) := by decide +kernel
theorem dL_law_282 : decode cL_law 282 = .ok (.iconst 0, 1) := by decide +kernel
theorem dL_law_283 : decode cL_law 283 = .ok (.ireturn, 1) := by decide +kernel
theorem dL_law_284 : decode cL_law 284 = .ok (.iload 5, 2) := by decide +kernel
theorem dL_law_286 : decode cL_law 286 = .ok (.ifCond .ne 15, 3) := by decide +kernel
theorem dL_law_289 : decode cL_law 289 = .ok (.aload_n 3, 1) := by decide +kernel
theorem dL_law_290 : decode cL_law 290 = .ok (.iconst 0, 1) := by decide +kernel
theorem dL_law_291 : decode cL_law 291 = .ok (.laload, 1) := by decide +kernel
theorem dL_law_292 : decode cL_law 292 = .ok (.iload 6, 2) := by decide +kernel
theorem dL_law_294 : decode cL_law 294 = .ok (.i2l, 1) := by decide +kernel
theorem dL_law_295 : decode cL_law 295 = .ok (.lcmp, 1) := by decide +kernel
theorem dL_law_296 : decode cL_law 296 = .ok (.ifCond .eq 5, 3) := by decide +kernel
theorem dL_law_299 : decode cL_law 299 = .ok (.iconst 0, 1) := by decide +kernel
theorem dL_law_300 : decode cL_law 300 = .ok (.ireturn, 1) := by decide +kernel
theorem dL_law_301 : decode cL_law 301 = .ok (.goto 1088, 3) := by decide +kernel
theorem dL_law_304 : decode cL_law 304 = .ok (.aload_n 1, 1) := by decide +kernel
theorem dL_law_305 : decode cL_law 305 = .ok (.invokevirtual 89, 3) := by decide +kernel
theorem dL_law_308 : decode cL_law 308 = .ok (.aload_n 2, 1) := by decide +kernel
theorem dL_law_309 : decode cL_law 309 = .ok (.invokevirtual 92, 3) := by decide +kernel
theorem dL_law_312 : decode cL_law 312 = .ok (.if_icmp .eq 1077, 3) := by decide +kernel
theorem dL_law_315 : decode cL_law 315 = .ok (.iconst 0, 1) := by decide +kernel
theorem dL_law_316 : decode cL_law 316 = .ok (.ireturn, 1) := by decide +kernel
theorem dL_law_317 : decode cL_law 317 = .ok (.aload_n 1, 1) := by decide +kernel
theorem dL_law_318 : decode cL_law 318 = .ok (.invokevirtual 93, 3) := by decide +kernel
theorem dL_law_321 : decode cL_law 321 = .ok (.aload_n 2, 1) := by decide +kernel
theorem dL_law_322 : decode cL_law 322 = .ok (.invokevirtual 96, 3) := by decide +kernel
theorem dL_law_325 : decode cL_law 325 = .ok (.if_icmp .eq 1064, 3) := by decide +kernel
theorem dL_law_328 : decode cL_law 328 = .ok (.iconst 0, 1) := by decide +kernel
theorem dL_law_329 : decode cL_law 329 = .ok (.ireturn, 1) := by decide +kernel
theorem dL_law_330 : decode cL_law 330 = .ok (.aload_n 1, 1) := by decide +kernel
theorem dL_law_331 : decode cL_law 331 = .ok (.aload_n 0, 1) := by decide +kernel
theorem dL_law_332 : decode cL_law 332 = .ok (.iload 4, 2) := by decide +kernel
theorem dL_law_334 : decode cL_law 334 = .ok (.iconst 1, 1) := by decide +kernel
theorem dL_law_335 : decode cL_law 335 = .ok (.iadd, 1) := by decide +kernel
theorem dL_law_336 : decode cL_law 336 = .ok (.iaload, 1) := by decide +kernel
theorem dL_law_337 : decode cL_law 337 = .ok (.aload_n 3, 1) := by decide +kernel
theorem dL_law_338 : decode cL_law 338 = .ok (.invokestatic 97, 3) := by decide +kernel
theorem dL_law_341 : decode cL_law 341 = .ok (.istore 5, 2) := by decide +kernel
theorem dL_law_343 : decode cL_law 343 = .ok (.aload_n 2, 1) := by decide +kernel
theorem dL_law_344 : decode cL_law 344 = .ok (.aload_n 0, 1) := by decide +kernel
theorem dL_law_345 : decode cL_law 345 = .ok (.iload 4, 2) := by decide +kernel
theorem dL_law_347 : decode cL_law 347 = .ok (.iconst 1, 1) := by decide +kernel
theorem dL_law_348 : decode cL_law 348 = .ok (.iadd, 1) := by decide +kernel
theorem dL_law_349 : decode cL_law 349 = .ok (.iaload, 1) := by decide +kernel
theorem dL_law_350 : decode cL_law 350 = .ok (.invokevirtual 99, 3) := by decide +kernel
theorem dL_law_353 : decode cL_law 353 = .ok (.istore 6, 2) := by decide +kernel
theorem dL_law_355 : decode cL_law 355 = .ok (.aload_n 2, 1) := by decide +kernel
theorem dL_law_356 : decode cL_law 356 = .ok (.invokevirtual 81, 3) := by decide +kernel
theorem dL_law_359 : decode cL_law 359 = .ok (.iload 5, 2) := by decide +kernel
theorem dL_law_361 : decode cL_law 361 = .ok (.if_icmp .eq 5, 3) := by decide +kernel
theorem dL_law_364 : decode cL_law 364 = .ok (.iconst 0, 1) := by decide +kernel
theorem dL_law_365 : decode cL_law 365 = .ok (.ireturn, 1) := by decide +kernel
theorem dL_law_366 : decode cL_law 366 = .ok (.iload 5, 2) := by decide +kernel
theorem dL_law_368 : decode cL_law 368 = .ok (.ifCond .ne 15, 3) := by decide +kernel
theorem dL_law_371 : decode cL_law 371 = .ok (.aload_n 3, 1) := by decide +kernel
theorem dL_law_372 : decode cL_law 372 = .ok (.iconst 0, 1) := by decide +kernel
theorem dL_law_373 : decode cL_law 373 = .ok (.laload, 1) := by decide +kernel
theorem dL_law_374 : decode cL_law 374 = .ok (.iload 6, 2) := by decide +kernel
theorem dL_law_376 : decode cL_law 376 = .ok (.i2l, 1) := by decide +kernel
theorem dL_law_377 : decode cL_law 377 = .ok (.lcmp, 1) := by decide +kernel
theorem dL_law_378 : decode cL_law 378 = .ok (.ifCond .eq 5, 3) := by decide +kernel
theorem dL_law_381 : decode cL_law 381 = .ok (.iconst 0, 1) := by decide +kernel
theorem dL_law_382 : decode cL_law 382 = .ok (.ireturn, 1) := by decide +kernel
theorem dL_law_383 : decode cL_law 383 = .ok (.goto 1006, 3) := by decide +kernel
theorem dL_law_386 : decode cL_law 386 = .ok (.aload_n 1, 1) := by decide +kernel
theorem dL_law_387 : decode cL_law 387 = .ok (.aload_n 0, 1) := by decide +kernel
theorem dL_law_388 : decode cL_law 388 = .ok (.iload 4, 2) := by decide +kernel
theorem dL_law_390 : decode cL_law 390 = .ok (.iconst 1, 1) := by decide +kernel
theorem dL_law_391 : decode cL_law 391 = .ok (.iadd, 1) := by decide +kernel
theorem dL_law_392 : decode cL_law 392 = .ok (.iaload, 1) := by decide +kernel
theorem dL_law_393 : decode cL_law 393 = .ok (.aload_n 0, 1) := by decide +kernel
theorem dL_law_394 : decode cL_law 394 = .ok (.iload 4, 2) := by decide +kernel
theorem dL_law_396 : decode cL_law 396 = .ok (.iconst 2, 1) := by decide +kernel
theorem dL_law_397 : decode cL_law 397 = .ok (.iadd, 1) := by decide +kernel
theorem dL_law_398 : decode cL_law 398 = .ok (.iaload, 1) := by decide +kernel
theorem dL_law_399 : decode cL_law 399 = .ok (.aload_n 3, 1) := by decide +kernel
theorem dL_law_400 : decode cL_law 400 = .ok (.invokestatic 100, 3) := by decide +kernel
theorem dL_law_403 : decode cL_law 403 = .ok (.istore 5, 2) := by decide +kernel
theorem dL_law_405 : decode cL_law 405 = .ok (.aload_n 2, 1) := by decide +kernel
theorem dL_law_406 : decode cL_law 406 = .ok (.aload_n 0, 1) := by decide +kernel
theorem dL_law_407 : decode cL_law 407 = .ok (.iload 4, 2) := by decide +kernel
theorem dL_law_409 : decode cL_law 409 = .ok (.iconst 1, 1) := by decide +kernel
theorem dL_law_410 : decode cL_law 410 = .ok (.iadd, 1) := by decide +kernel
theorem dL_law_411 : decode cL_law 411 = .ok (.iaload, 1) := by decide +kernel
theorem dL_law_412 : decode cL_law 412 = .ok (.aload_n 0, 1) := by decide +kernel
theorem dL_law_413 : decode cL_law 413 = .ok (.iload 4, 2) := by decide +kernel
theorem dL_law_415 : decode cL_law 415 = .ok (.iconst 2, 1) := by decide +kernel
theorem dL_law_416 : decode cL_law 416 = .ok (.iadd, 1) := by decide +kernel
theorem dL_law_417 : decode cL_law 417 = .ok (.iaload, 1) := by decide +kernel
theorem dL_law_418 : decode cL_law 418 = .ok (.invokevirtual 103, 3) := by decide +kernel
theorem dL_law_421 : decode cL_law 421 = .ok (.istore 6, 2) := by decide +kernel
theorem dL_law_423 : decode cL_law 423 = .ok (.aload_n 2, 1) := by decide +kernel
theorem dL_law_424 : decode cL_law 424 = .ok (.invokevirtual 81, 3) := by decide +kernel
theorem dL_law_427 : decode cL_law 427 = .ok (.iload 5, 2) := by decide +kernel
theorem dL_law_429 : decode cL_law 429 = .ok (.if_icmp .eq 5, 3) := by decide +kernel
theorem dL_law_432 : decode cL_law 432 = .ok (.iconst 0, 1) := by decide +kernel
theorem dL_law_433 : decode cL_law 433 = .ok (.ireturn, 1) := by decide +kernel
theorem dL_law_434 : decode cL_law 434 = .ok (.iload 5, 2) := by decide +kernel
theorem dL_law_436 : decode cL_law 436 = .ok (.ifCond .ne 15, 3) := by decide +kernel
theorem dL_law_439 : decode cL_law 439 = .ok (.aload_n 3, 1) := by decide +kernel
theorem dL_law_440 : decode cL_law 440 = .ok (.iconst 0, 1) := by decide +kernel
theorem dL_law_441 : decode cL_law 441 = .ok (.laload, 1) := by decide +kernel
theorem dL_law_442 : decode cL_law 442 = .ok (.iload 6, 2) := by decide +kernel
theorem dL_law_444 : decode cL_law 444 = .ok (.i2l, 1) := by decide +kernel
theorem dL_law_445 : decode cL_law 445 = .ok (.lcmp, 1) := by decide +kernel
theorem dL_law_446 : decode cL_law 446 = .ok (.ifCond .eq 5, 3) := by decide +kernel
theorem dL_law_449 : decode cL_law 449 = .ok (.iconst 0, 1) := by decide +kernel
theorem dL_law_450 : decode cL_law 450 = .ok (.ireturn, 1) := by decide +kernel
theorem dL_law_451 : decode cL_law 451 = .ok (.goto 938, 3) := by decide +kernel
theorem dL_law_454 : decode cL_law 454 = .ok (.aload_n 1, 1) := by decide +kernel
theorem dL_law_455 : decode cL_law 455 = .ok (.aload_n 0, 1) := by decide +kernel
theorem dL_law_456 : decode cL_law 456 = .ok (.iload 4, 2) := by decide +kernel
theorem dL_law_458 : decode cL_law 458 = .ok (.iconst 1, 1) := by decide +kernel
theorem dL_law_459 : decode cL_law 459 = .ok (.iadd, 1) := by decide +kernel
theorem dL_law_460 : decode cL_law 460 = .ok (.iaload, 1) := by decide +kernel
theorem dL_law_461 : decode cL_law 461 = .ok (.aload_n 3, 1) := by decide +kernel
theorem dL_law_462 : decode cL_law 462 = .ok (.invokestatic 104, 3) := by decide +kernel
theorem dL_law_465 : decode cL_law 465 = .ok (.istore 5, 2) := by decide +kernel
theorem dL_law_467 : decode cL_law 467 = .ok (.aload_n 2, 1) := by decide +kernel
theorem dL_law_468 : decode cL_law 468 = .ok (.aload_n 0, 1) := by decide +kernel
theorem dL_law_469 : decode cL_law 469 = .ok (.iload 4, 2) := by decide +kernel
theorem dL_law_471 : decode cL_law 471 = .ok (.iconst 1, 1) := by decide +kernel
theorem dL_law_472 : decode cL_law 472 = .ok (.iadd, 1) := by decide +kernel
theorem dL_law_473 : decode cL_law 473 = .ok (.iaload, 1) := by decide +kernel
theorem dL_law_474 : decode cL_law 474 = .ok (.invokevirtual 106, 3) := by decide +kernel
theorem dL_law_477 : decode cL_law 477 = .ok (.istore 6, 2) := by decide +kernel
theorem dL_law_479 : decode cL_law 479 = .ok (.aload_n 2, 1) := by decide +kernel
theorem dL_law_480 : decode cL_law 480 = .ok (.invokevirtual 81, 3) := by decide +kernel
theorem dL_law_483 : decode cL_law 483 = .ok (.iload 5, 2) := by decide +kernel
theorem dL_law_485 : decode cL_law 485 = .ok (.if_icmp .eq 5, 3) := by decide +kernel
theorem dL_law_488 : decode cL_law 488 = .ok (.iconst 0, 1) := by decide +kernel
theorem dL_law_489 : decode cL_law 489 = .ok (.ireturn, 1) := by decide +kernel
theorem dL_law_490 : decode cL_law 490 = .ok (.iload 5, 2) := by decide +kernel
theorem dL_law_492 : decode cL_law 492 = .ok (.ifCond .ne 15, 3) := by decide +kernel
theorem dL_law_495 : decode cL_law 495 = .ok (.aload_n 3, 1) := by decide +kernel
theorem dL_law_496 : decode cL_law 496 = .ok (.iconst 0, 1) := by decide +kernel
theorem dL_law_497 : decode cL_law 497 = .ok (.laload, 1) := by decide +kernel
theorem dL_law_498 : decode cL_law 498 = .ok (.iload 6, 2) := by decide +kernel
theorem dL_law_500 : decode cL_law 500 = .ok (.i2l, 1) := by decide +kernel
theorem dL_law_501 : decode cL_law 501 = .ok (.lcmp, 1) := by decide +kernel
theorem dL_law_502 : decode cL_law 502 = .ok (.ifCond .eq 5, 3) := by decide +kernel
theorem dL_law_505 : decode cL_law 505 = .ok (.iconst 0, 1) := by decide +kernel
theorem dL_law_506 : decode cL_law 506 = .ok (.ireturn, 1) := by decide +kernel
theorem dL_law_507 : decode cL_law 507 = .ok (.goto 882, 3) := by decide +kernel
theorem dL_law_510 : decode cL_law 510 = .ok (.aload_n 1, 1) := by decide +kernel
theorem dL_law_511 : decode cL_law 511 = .ok (.aload_n 0, 1) := by decide +kernel
theorem dL_law_512 : decode cL_law 512 = .ok (.iload 4, 2) := by decide +kernel
theorem dL_law_514 : decode cL_law 514 = .ok (.iconst 1, 1) := by decide +kernel
theorem dL_law_515 : decode cL_law 515 = .ok (.iadd, 1) := by decide +kernel
theorem dL_law_516 : decode cL_law 516 = .ok (.iaload, 1) := by decide +kernel
theorem dL_law_517 : decode cL_law 517 = .ok (.aload_n 3, 1) := by decide +kernel
theorem dL_law_518 : decode cL_law 518 = .ok (.invokestatic 107, 3) := by decide +kernel
theorem dL_law_521 : decode cL_law 521 = .ok (.istore 5, 2) := by decide +kernel
theorem dL_law_523 : decode cL_law 523 = .ok (.aload_n 2, 1) := by decide +kernel
theorem dL_law_524 : decode cL_law 524 = .ok (.aload_n 0, 1) := by decide +kernel
theorem dL_law_525 : decode cL_law 525 = .ok (.iload 4, 2) := by decide +kernel
theorem dL_law_527 : decode cL_law 527 = .ok (.iconst 1, 1) := by decide +kernel
theorem dL_law_528 : decode cL_law 528 = .ok (.iadd, 1) := by decide +kernel
theorem dL_law_529 : decode cL_law 529 = .ok (.iaload, 1) := by decide +kernel
theorem dL_law_530 : decode cL_law 530 = .ok (.invokevirtual 109, 3) := by decide +kernel
theorem dL_law_533 : decode cL_law 533 = .ok (.istore 6, 2) := by decide +kernel
theorem dL_law_535 : decode cL_law 535 = .ok (.aload_n 2, 1) := by decide +kernel
theorem dL_law_536 : decode cL_law 536 = .ok (.invokevirtual 81, 3) := by decide +kernel
theorem dL_law_539 : decode cL_law 539 = .ok (.iload 5, 2) := by decide +kernel
theorem dL_law_541 : decode cL_law 541 = .ok (.if_icmp .eq 5, 3) := by decide +kernel
theorem dL_law_544 : decode cL_law 544 = .ok (.iconst 0, 1) := by decide +kernel
theorem dL_law_545 : decode cL_law 545 = .ok (.ireturn, 1) := by decide +kernel
theorem dL_law_546 : decode cL_law 546 = .ok (.iload 5, 2) := by decide +kernel
theorem dL_law_548 : decode cL_law 548 = .ok (.ifCond .ne 15, 3) := by decide +kernel
theorem dL_law_551 : decode cL_law 551 = .ok (.aload_n 3, 1) := by decide +kernel
theorem dL_law_552 : decode cL_law 552 = .ok (.iconst 0, 1) := by decide +kernel
theorem dL_law_553 : decode cL_law 553 = .ok (.laload, 1) := by decide +kernel
theorem dL_law_554 : decode cL_law 554 = .ok (.iload 6, 2) := by decide +kernel
theorem dL_law_556 : decode cL_law 556 = .ok (.i2l, 1) := by decide +kernel
theorem dL_law_557 : decode cL_law 557 = .ok (.lcmp, 1) := by decide +kernel
theorem dL_law_558 : decode cL_law 558 = .ok (.ifCond .eq 5, 3) := by decide +kernel
theorem dL_law_561 : decode cL_law 561 = .ok (.iconst 0, 1) := by decide +kernel
theorem dL_law_562 : decode cL_law 562 = .ok (.ireturn, 1) := by decide +kernel
theorem dL_law_563 : decode cL_law 563 = .ok (.goto 826, 3) := by decide +kernel
theorem dL_law_566 : decode cL_law 566 = .ok (.aload_n 1, 1) := by decide +kernel
theorem dL_law_567 : decode cL_law 567 = .ok (.aload_n 0, 1) := by decide +kernel
theorem dL_law_568 : decode cL_law 568 = .ok (.iload 4, 2) := by decide +kernel
theorem dL_law_570 : decode cL_law 570 = .ok (.iconst 1, 1) := by decide +kernel
theorem dL_law_571 : decode cL_law 571 = .ok (.iadd, 1) := by decide +kernel
theorem dL_law_572 : decode cL_law 572 = .ok (.iaload, 1) := by decide +kernel
theorem dL_law_573 : decode cL_law 573 = .ok (.aload_n 0, 1) := by decide +kernel
theorem dL_law_574 : decode cL_law 574 = .ok (.iload 4, 2) := by decide +kernel
theorem dL_law_576 : decode cL_law 576 = .ok (.iconst 2, 1) := by decide +kernel
theorem dL_law_577 : decode cL_law 577 = .ok (.iadd, 1) := by decide +kernel
theorem dL_law_578 : decode cL_law 578 = .ok (.iaload, 1) := by decide +kernel
theorem dL_law_579 : decode cL_law 579 = .ok (.aload_n 3, 1) := by decide +kernel
theorem dL_law_580 : decode cL_law 580 = .ok (.invokestatic 110, 3) := by decide +kernel
theorem dL_law_583 : decode cL_law 583 = .ok (.istore 5, 2) := by decide +kernel
theorem dL_law_585 : decode cL_law 585 = .ok (.aload_n 2, 1) := by decide +kernel
theorem dL_law_586 : decode cL_law 586 = .ok (.aload_n 0, 1) := by decide +kernel
theorem dL_law_587 : decode cL_law 587 = .ok (.iload 4, 2) := by decide +kernel
theorem dL_law_589 : decode cL_law 589 = .ok (.iconst 1, 1) := by decide +kernel
theorem dL_law_590 : decode cL_law 590 = .ok (.iadd, 1) := by decide +kernel
theorem dL_law_591 : decode cL_law 591 = .ok (.iaload, 1) := by decide +kernel
theorem dL_law_592 : decode cL_law 592 = .ok (.aload_n 0, 1) := by decide +kernel
theorem dL_law_593 : decode cL_law 593 = .ok (.iload 4, 2) := by decide +kernel
theorem dL_law_595 : decode cL_law 595 = .ok (.iconst 2, 1) := by decide +kernel
theorem dL_law_596 : decode cL_law 596 = .ok (.iadd, 1) := by decide +kernel
theorem dL_law_597 : decode cL_law 597 = .ok (.iaload, 1) := by decide +kernel
theorem dL_law_598 : decode cL_law 598 = .ok (.invokevirtual 112, 3) := by decide +kernel
theorem dL_law_601 : decode cL_law 601 = .ok (.istore 6, 2) := by decide +kernel
theorem dL_law_603 : decode cL_law 603 = .ok (.aload_n 2, 1) := by decide +kernel
theorem dL_law_604 : decode cL_law 604 = .ok (.invokevirtual 81, 3) := by decide +kernel
theorem dL_law_607 : decode cL_law 607 = .ok (.iload 5, 2) := by decide +kernel
theorem dL_law_609 : decode cL_law 609 = .ok (.if_icmp .eq 5, 3) := by decide +kernel
theorem dL_law_612 : decode cL_law 612 = .ok (.iconst 0, 1) := by decide +kernel
theorem dL_law_613 : decode cL_law 613 = .ok (.ireturn, 1) := by decide +kernel
theorem dL_law_614 : decode cL_law 614 = .ok (.iload 5, 2) := by decide +kernel
theorem dL_law_616 : decode cL_law 616 = .ok (.ifCond .ne 15, 3) := by decide +kernel
theorem dL_law_619 : decode cL_law 619 = .ok (.aload_n 3, 1) := by decide +kernel
theorem dL_law_620 : decode cL_law 620 = .ok (.iconst 0, 1) := by decide +kernel
theorem dL_law_621 : decode cL_law 621 = .ok (.laload, 1) := by decide +kernel
theorem dL_law_622 : decode cL_law 622 = .ok (.iload 6, 2) := by decide +kernel
theorem dL_law_624 : decode cL_law 624 = .ok (.i2l, 1) := by decide +kernel
theorem dL_law_625 : decode cL_law 625 = .ok (.lcmp, 1) := by decide +kernel
theorem dL_law_626 : decode cL_law 626 = .ok (.ifCond .eq 5, 3) := by decide +kernel
theorem dL_law_629 : decode cL_law 629 = .ok (.iconst 0, 1) := by decide +kernel
theorem dL_law_630 : decode cL_law 630 = .ok (.ireturn, 1) := by decide +kernel
theorem dL_law_631 : decode cL_law 631 = .ok (.goto 758, 3) := by decide +kernel
theorem dL_law_634 : decode cL_law 634 = .ok (.aload_n 1, 1) := by decide +kernel
theorem dL_law_635 : decode cL_law 635 = .ok (.aload_n 0, 1) := by decide +kernel
theorem dL_law_636 : decode cL_law 636 = .ok (.iload 4, 2) := by decide +kernel
theorem dL_law_638 : decode cL_law 638 = .ok (.iconst 1, 1) := by decide +kernel
theorem dL_law_639 : decode cL_law 639 = .ok (.iadd, 1) := by decide +kernel
theorem dL_law_640 : decode cL_law 640 = .ok (.iaload, 1) := by decide +kernel
theorem dL_law_641 : decode cL_law 641 = .ok (.aload_n 0, 1) := by decide +kernel
theorem dL_law_642 : decode cL_law 642 = .ok (.iload 4, 2) := by decide +kernel
theorem dL_law_644 : decode cL_law 644 = .ok (.iconst 2, 1) := by decide +kernel
theorem dL_law_645 : decode cL_law 645 = .ok (.iadd, 1) := by decide +kernel
theorem dL_law_646 : decode cL_law 646 = .ok (.iaload, 1) := by decide +kernel
theorem dL_law_647 : decode cL_law 647 = .ok (.aload_n 3, 1) := by decide +kernel
theorem dL_law_648 : decode cL_law 648 = .ok (.invokestatic 113, 3) := by decide +kernel
theorem dL_law_651 : decode cL_law 651 = .ok (.istore 5, 2) := by decide +kernel
theorem dL_law_653 : decode cL_law 653 = .ok (.aload_n 2, 1) := by decide +kernel
theorem dL_law_654 : decode cL_law 654 = .ok (.aload_n 0, 1) := by decide +kernel
theorem dL_law_655 : decode cL_law 655 = .ok (.iload 4, 2) := by decide +kernel
theorem dL_law_657 : decode cL_law 657 = .ok (.iconst 1, 1) := by decide +kernel
theorem dL_law_658 : decode cL_law 658 = .ok (.iadd, 1) := by decide +kernel
theorem dL_law_659 : decode cL_law 659 = .ok (.iaload, 1) := by decide +kernel
theorem dL_law_660 : decode cL_law 660 = .ok (.aload_n 0, 1) := by decide +kernel
theorem dL_law_661 : decode cL_law 661 = .ok (.iload 4, 2) := by decide +kernel
theorem dL_law_663 : decode cL_law 663 = .ok (.iconst 2, 1) := by decide +kernel
theorem dL_law_664 : decode cL_law 664 = .ok (.iadd, 1) := by decide +kernel
theorem dL_law_665 : decode cL_law 665 = .ok (.iaload, 1) := by decide +kernel
theorem dL_law_666 : decode cL_law 666 = .ok (.invokevirtual 115, 3) := by decide +kernel
theorem dL_law_669 : decode cL_law 669 = .ok (.istore 6, 2) := by decide +kernel
theorem dL_law_671 : decode cL_law 671 = .ok (.aload_n 2, 1) := by decide +kernel
theorem dL_law_672 : decode cL_law 672 = .ok (.invokevirtual 81, 3) := by decide +kernel
theorem dL_law_675 : decode cL_law 675 = .ok (.iload 5, 2) := by decide +kernel
theorem dL_law_677 : decode cL_law 677 = .ok (.if_icmp .eq 5, 3) := by decide +kernel
theorem dL_law_680 : decode cL_law 680 = .ok (.iconst 0, 1) := by decide +kernel
theorem dL_law_681 : decode cL_law 681 = .ok (.ireturn, 1) := by decide +kernel
theorem dL_law_682 : decode cL_law 682 = .ok (.iload 5, 2) := by decide +kernel
theorem dL_law_684 : decode cL_law 684 = .ok (.ifCond .ne 15, 3) := by decide +kernel
theorem dL_law_687 : decode cL_law 687 = .ok (.aload_n 3, 1) := by decide +kernel
theorem dL_law_688 : decode cL_law 688 = .ok (.iconst 0, 1) := by decide +kernel
theorem dL_law_689 : decode cL_law 689 = .ok (.laload, 1) := by decide +kernel
theorem dL_law_690 : decode cL_law 690 = .ok (.iload 6, 2) := by decide +kernel
theorem dL_law_692 : decode cL_law 692 = .ok (.i2l, 1) := by decide +kernel
theorem dL_law_693 : decode cL_law 693 = .ok (.lcmp, 1) := by decide +kernel
theorem dL_law_694 : decode cL_law 694 = .ok (.ifCond .eq 5, 3) := by decide +kernel
theorem dL_law_697 : decode cL_law 697 = .ok (.iconst 0, 1) := by decide +kernel
theorem dL_law_698 : decode cL_law 698 = .ok (.ireturn, 1) := by decide +kernel
theorem dL_law_699 : decode cL_law 699 = .ok (.goto 690, 3) := by decide +kernel
theorem dL_law_702 : decode cL_law 702 = .ok (.aload_n 1, 1) := by decide +kernel
theorem dL_law_703 : decode cL_law 703 = .ok (.aload_n 0, 1) := by decide +kernel
theorem dL_law_704 : decode cL_law 704 = .ok (.iload 4, 2) := by decide +kernel
theorem dL_law_706 : decode cL_law 706 = .ok (.iconst 1, 1) := by decide +kernel
theorem dL_law_707 : decode cL_law 707 = .ok (.iadd, 1) := by decide +kernel
theorem dL_law_708 : decode cL_law 708 = .ok (.iaload, 1) := by decide +kernel
theorem dL_law_709 : decode cL_law 709 = .ok (.aload_n 0, 1) := by decide +kernel
theorem dL_law_710 : decode cL_law 710 = .ok (.iload 4, 2) := by decide +kernel
theorem dL_law_712 : decode cL_law 712 = .ok (.iconst 2, 1) := by decide +kernel
theorem dL_law_713 : decode cL_law 713 = .ok (.iadd, 1) := by decide +kernel
theorem dL_law_714 : decode cL_law 714 = .ok (.iaload, 1) := by decide +kernel
theorem dL_law_715 : decode cL_law 715 = .ok (.aload_n 0, 1) := by decide +kernel
theorem dL_law_716 : decode cL_law 716 = .ok (.iload 4, 2) := by decide +kernel
theorem dL_law_718 : decode cL_law 718 = .ok (.iconst 3, 1) := by decide +kernel
theorem dL_law_719 : decode cL_law 719 = .ok (.iadd, 1) := by decide +kernel
theorem dL_law_720 : decode cL_law 720 = .ok (.iaload, 1) := by decide +kernel
theorem dL_law_721 : decode cL_law 721 = .ok (.aload_n 3, 1) := by decide +kernel
theorem dL_law_722 : decode cL_law 722 = .ok (.invokestatic 116, 3) := by decide +kernel
theorem dL_law_725 : decode cL_law 725 = .ok (.istore 5, 2) := by decide +kernel
theorem dL_law_727 : decode cL_law 727 = .ok (.aload_n 2, 1) := by decide +kernel
theorem dL_law_728 : decode cL_law 728 = .ok (.aload_n 0, 1) := by decide +kernel
theorem dL_law_729 : decode cL_law 729 = .ok (.iload 4, 2) := by decide +kernel
theorem dL_law_731 : decode cL_law 731 = .ok (.iconst 1, 1) := by decide +kernel
theorem dL_law_732 : decode cL_law 732 = .ok (.iadd, 1) := by decide +kernel
theorem dL_law_733 : decode cL_law 733 = .ok (.iaload, 1) := by decide +kernel
theorem dL_law_734 : decode cL_law 734 = .ok (.aload_n 0, 1) := by decide +kernel
theorem dL_law_735 : decode cL_law 735 = .ok (.iload 4, 2) := by decide +kernel
theorem dL_law_737 : decode cL_law 737 = .ok (.iconst 2, 1) := by decide +kernel
theorem dL_law_738 : decode cL_law 738 = .ok (.iadd, 1) := by decide +kernel
theorem dL_law_739 : decode cL_law 739 = .ok (.iaload, 1) := by decide +kernel
theorem dL_law_740 : decode cL_law 740 = .ok (.aload_n 0, 1) := by decide +kernel
theorem dL_law_741 : decode cL_law 741 = .ok (.iload 4, 2) := by decide +kernel
theorem dL_law_743 : decode cL_law 743 = .ok (.iconst 3, 1) := by decide +kernel
theorem dL_law_744 : decode cL_law 744 = .ok (.iadd, 1) := by decide +kernel
theorem dL_law_745 : decode cL_law 745 = .ok (.iaload, 1) := by decide +kernel
theorem dL_law_746 : decode cL_law 746 = .ok (.invokevirtual 119, 3) := by decide +kernel
theorem dL_law_749 : decode cL_law 749 = .ok (.istore 6, 2) := by decide +kernel
theorem dL_law_751 : decode cL_law 751 = .ok (.aload_n 2, 1) := by decide +kernel
theorem dL_law_752 : decode cL_law 752 = .ok (.invokevirtual 81, 3) := by decide +kernel
theorem dL_law_755 : decode cL_law 755 = .ok (.iload 5, 2) := by decide +kernel
theorem dL_law_757 : decode cL_law 757 = .ok (.if_icmp .eq 5, 3) := by decide +kernel
theorem dL_law_760 : decode cL_law 760 = .ok (.iconst 0, 1) := by decide +kernel
theorem dL_law_761 : decode cL_law 761 = .ok (.ireturn, 1) := by decide +kernel
theorem dL_law_762 : decode cL_law 762 = .ok (.iload 5, 2) := by decide +kernel
theorem dL_law_764 : decode cL_law 764 = .ok (.ifCond .ne 15, 3) := by decide +kernel
theorem dL_law_767 : decode cL_law 767 = .ok (.aload_n 3, 1) := by decide +kernel
theorem dL_law_768 : decode cL_law 768 = .ok (.iconst 0, 1) := by decide +kernel
theorem dL_law_769 : decode cL_law 769 = .ok (.laload, 1) := by decide +kernel
theorem dL_law_770 : decode cL_law 770 = .ok (.iload 6, 2) := by decide +kernel
theorem dL_law_772 : decode cL_law 772 = .ok (.i2l, 1) := by decide +kernel
theorem dL_law_773 : decode cL_law 773 = .ok (.lcmp, 1) := by decide +kernel
theorem dL_law_774 : decode cL_law 774 = .ok (.ifCond .eq 5, 3) := by decide +kernel
theorem dL_law_777 : decode cL_law 777 = .ok (.iconst 0, 1) := by decide +kernel
theorem dL_law_778 : decode cL_law 778 = .ok (.ireturn, 1) := by decide +kernel
theorem dL_law_779 : decode cL_law 779 = .ok (.goto 610, 3) := by decide +kernel
theorem dL_law_782 : decode cL_law 782 = .ok (.aload_n 1, 1) := by decide +kernel
theorem dL_law_783 : decode cL_law 783 = .ok (.aload_n 0, 1) := by decide +kernel
theorem dL_law_784 : decode cL_law 784 = .ok (.iload 4, 2) := by decide +kernel
theorem dL_law_786 : decode cL_law 786 = .ok (.iconst 1, 1) := by decide +kernel
theorem dL_law_787 : decode cL_law 787 = .ok (.iadd, 1) := by decide +kernel
theorem dL_law_788 : decode cL_law 788 = .ok (.iaload, 1) := by decide +kernel
theorem dL_law_789 : decode cL_law 789 = .ok (.aload_n 0, 1) := by decide +kernel
theorem dL_law_790 : decode cL_law 790 = .ok (.iload 4, 2) := by decide +kernel
theorem dL_law_792 : decode cL_law 792 = .ok (.iconst 2, 1) := by decide +kernel
theorem dL_law_793 : decode cL_law 793 = .ok (.iadd, 1) := by decide +kernel
theorem dL_law_794 : decode cL_law 794 = .ok (.iaload, 1) := by decide +kernel
theorem dL_law_795 : decode cL_law 795 = .ok (.aload_n 3, 1) := by decide +kernel
theorem dL_law_796 : decode cL_law 796 = .ok (.invokestatic 120, 3) := by decide +kernel
theorem dL_law_799 : decode cL_law 799 = .ok (.istore 5, 2) := by decide +kernel
theorem dL_law_801 : decode cL_law 801 = .ok (.aload_n 2, 1) := by decide +kernel
theorem dL_law_802 : decode cL_law 802 = .ok (.aload_n 0, 1) := by decide +kernel
theorem dL_law_803 : decode cL_law 803 = .ok (.iload 4, 2) := by decide +kernel
theorem dL_law_805 : decode cL_law 805 = .ok (.iconst 1, 1) := by decide +kernel
theorem dL_law_806 : decode cL_law 806 = .ok (.iadd, 1) := by decide +kernel
theorem dL_law_807 : decode cL_law 807 = .ok (.iaload, 1) := by decide +kernel
theorem dL_law_808 : decode cL_law 808 = .ok (.aload_n 0, 1) := by decide +kernel
theorem dL_law_809 : decode cL_law 809 = .ok (.iload 4, 2) := by decide +kernel
theorem dL_law_811 : decode cL_law 811 = .ok (.iconst 2, 1) := by decide +kernel
theorem dL_law_812 : decode cL_law 812 = .ok (.iadd, 1) := by decide +kernel
theorem dL_law_813 : decode cL_law 813 = .ok (.iaload, 1) := by decide +kernel
theorem dL_law_814 : decode cL_law 814 = .ok (.invokevirtual 122, 3) := by decide +kernel
theorem dL_law_817 : decode cL_law 817 = .ok (.istore 6, 2) := by decide +kernel
theorem dL_law_819 : decode cL_law 819 = .ok (.aload_n 2, 1) := by decide +kernel
theorem dL_law_820 : decode cL_law 820 = .ok (.invokevirtual 81, 3) := by decide +kernel
theorem dL_law_823 : decode cL_law 823 = .ok (.iload 5, 2) := by decide +kernel
theorem dL_law_825 : decode cL_law 825 = .ok (.if_icmp .eq 5, 3) := by decide +kernel
theorem dL_law_828 : decode cL_law 828 = .ok (.iconst 0, 1) := by decide +kernel
theorem dL_law_829 : decode cL_law 829 = .ok (.ireturn, 1) := by decide +kernel
theorem dL_law_830 : decode cL_law 830 = .ok (.iload 5, 2) := by decide +kernel
theorem dL_law_832 : decode cL_law 832 = .ok (.ifCond .ne 15, 3) := by decide +kernel
theorem dL_law_835 : decode cL_law 835 = .ok (.aload_n 3, 1) := by decide +kernel
theorem dL_law_836 : decode cL_law 836 = .ok (.iconst 0, 1) := by decide +kernel
theorem dL_law_837 : decode cL_law 837 = .ok (.laload, 1) := by decide +kernel
theorem dL_law_838 : decode cL_law 838 = .ok (.iload 6, 2) := by decide +kernel
theorem dL_law_840 : decode cL_law 840 = .ok (.i2l, 1) := by decide +kernel
theorem dL_law_841 : decode cL_law 841 = .ok (.lcmp, 1) := by decide +kernel
theorem dL_law_842 : decode cL_law 842 = .ok (.ifCond .eq 5, 3) := by decide +kernel
theorem dL_law_845 : decode cL_law 845 = .ok (.iconst 0, 1) := by decide +kernel
theorem dL_law_846 : decode cL_law 846 = .ok (.ireturn, 1) := by decide +kernel
theorem dL_law_847 : decode cL_law 847 = .ok (.goto 542, 3) := by decide +kernel
theorem dL_law_850 : decode cL_law 850 = .ok (.aload_n 1, 1) := by decide +kernel
theorem dL_law_851 : decode cL_law 851 = .ok (.aload_n 0, 1) := by decide +kernel
theorem dL_law_852 : decode cL_law 852 = .ok (.iload 4, 2) := by decide +kernel
theorem dL_law_854 : decode cL_law 854 = .ok (.iconst 1, 1) := by decide +kernel
theorem dL_law_855 : decode cL_law 855 = .ok (.iadd, 1) := by decide +kernel
theorem dL_law_856 : decode cL_law 856 = .ok (.iaload, 1) := by decide +kernel
theorem dL_law_857 : decode cL_law 857 = .ok (.aload_n 0, 1) := by decide +kernel
theorem dL_law_858 : decode cL_law 858 = .ok (.iload 4, 2) := by decide +kernel
theorem dL_law_860 : decode cL_law 860 = .ok (.iconst 2, 1) := by decide +kernel
theorem dL_law_861 : decode cL_law 861 = .ok (.iadd, 1) := by decide +kernel
theorem dL_law_862 : decode cL_law 862 = .ok (.iaload, 1) := by decide +kernel
theorem dL_law_863 : decode cL_law 863 = .ok (.aload_n 3, 1) := by decide +kernel
theorem dL_law_864 : decode cL_law 864 = .ok (.invokestatic 123, 3) := by decide +kernel
theorem dL_law_867 : decode cL_law 867 = .ok (.istore 5, 2) := by decide +kernel
theorem dL_law_869 : decode cL_law 869 = .ok (.aload_n 2, 1) := by decide +kernel
theorem dL_law_870 : decode cL_law 870 = .ok (.aload_n 0, 1) := by decide +kernel
theorem dL_law_871 : decode cL_law 871 = .ok (.iload 4, 2) := by decide +kernel
theorem dL_law_873 : decode cL_law 873 = .ok (.iconst 1, 1) := by decide +kernel
theorem dL_law_874 : decode cL_law 874 = .ok (.iadd, 1) := by decide +kernel
theorem dL_law_875 : decode cL_law 875 = .ok (.iaload, 1) := by decide +kernel
theorem dL_law_876 : decode cL_law 876 = .ok (.aload_n 0, 1) := by decide +kernel
theorem dL_law_877 : decode cL_law 877 = .ok (.iload 4, 2) := by decide +kernel
theorem dL_law_879 : decode cL_law 879 = .ok (.iconst 2, 1) := by decide +kernel
theorem dL_law_880 : decode cL_law 880 = .ok (.iadd, 1) := by decide +kernel
theorem dL_law_881 : decode cL_law 881 = .ok (.iaload, 1) := by decide +kernel
theorem dL_law_882 : decode cL_law 882 = .ok (.invokevirtual 125, 3) := by decide +kernel
theorem dL_law_885 : decode cL_law 885 = .ok (.istore 6, 2) := by decide +kernel
theorem dL_law_887 : decode cL_law 887 = .ok (.aload_n 2, 1) := by decide +kernel
theorem dL_law_888 : decode cL_law 888 = .ok (.invokevirtual 81, 3) := by decide +kernel
theorem dL_law_891 : decode cL_law 891 = .ok (.iload 5, 2) := by decide +kernel
theorem dL_law_893 : decode cL_law 893 = .ok (.if_icmp .eq 5, 3) := by decide +kernel
theorem dL_law_896 : decode cL_law 896 = .ok (.iconst 0, 1) := by decide +kernel
theorem dL_law_897 : decode cL_law 897 = .ok (.ireturn, 1) := by decide +kernel
theorem dL_law_898 : decode cL_law 898 = .ok (.iload 5, 2) := by decide +kernel
theorem dL_law_900 : decode cL_law 900 = .ok (.ifCond .ne 15, 3) := by decide +kernel
theorem dL_law_903 : decode cL_law 903 = .ok (.aload_n 3, 1) := by decide +kernel
theorem dL_law_904 : decode cL_law 904 = .ok (.iconst 0, 1) := by decide +kernel
theorem dL_law_905 : decode cL_law 905 = .ok (.laload, 1) := by decide +kernel
theorem dL_law_906 : decode cL_law 906 = .ok (.iload 6, 2) := by decide +kernel
theorem dL_law_908 : decode cL_law 908 = .ok (.i2l, 1) := by decide +kernel
theorem dL_law_909 : decode cL_law 909 = .ok (.lcmp, 1) := by decide +kernel
theorem dL_law_910 : decode cL_law 910 = .ok (.ifCond .eq 5, 3) := by decide +kernel
theorem dL_law_913 : decode cL_law 913 = .ok (.iconst 0, 1) := by decide +kernel
theorem dL_law_914 : decode cL_law 914 = .ok (.ireturn, 1) := by decide +kernel
theorem dL_law_915 : decode cL_law 915 = .ok (.goto 474, 3) := by decide +kernel
theorem dL_law_918 : decode cL_law 918 = .ok (.aload_n 1, 1) := by decide +kernel
theorem dL_law_919 : decode cL_law 919 = .ok (.aload_n 0, 1) := by decide +kernel
theorem dL_law_920 : decode cL_law 920 = .ok (.iload 4, 2) := by decide +kernel
theorem dL_law_922 : decode cL_law 922 = .ok (.iconst 1, 1) := by decide +kernel
theorem dL_law_923 : decode cL_law 923 = .ok (.iadd, 1) := by decide +kernel
theorem dL_law_924 : decode cL_law 924 = .ok (.iaload, 1) := by decide +kernel
theorem dL_law_925 : decode cL_law 925 = .ok (.aload_n 3, 1) := by decide +kernel
theorem dL_law_926 : decode cL_law 926 = .ok (.invokestatic 126, 3) := by decide +kernel
theorem dL_law_929 : decode cL_law 929 = .ok (.istore 5, 2) := by decide +kernel
theorem dL_law_931 : decode cL_law 931 = .ok (.aload_n 2, 1) := by decide +kernel
theorem dL_law_932 : decode cL_law 932 = .ok (.aload_n 0, 1) := by decide +kernel
theorem dL_law_933 : decode cL_law 933 = .ok (.iload 4, 2) := by decide +kernel
theorem dL_law_935 : decode cL_law 935 = .ok (.iconst 1, 1) := by decide +kernel
theorem dL_law_936 : decode cL_law 936 = .ok (.iadd, 1) := by decide +kernel
theorem dL_law_937 : decode cL_law 937 = .ok (.iaload, 1) := by decide +kernel
theorem dL_law_938 : decode cL_law 938 = .ok (.invokevirtual 128, 3) := by decide +kernel
theorem dL_law_941 : decode cL_law 941 = .ok (.istore 6, 2) := by decide +kernel
theorem dL_law_943 : decode cL_law 943 = .ok (.aload_n 2, 1) := by decide +kernel
theorem dL_law_944 : decode cL_law 944 = .ok (.invokevirtual 81, 3) := by decide +kernel
theorem dL_law_947 : decode cL_law 947 = .ok (.iload 5, 2) := by decide +kernel
theorem dL_law_949 : decode cL_law 949 = .ok (.if_icmp .eq 5, 3) := by decide +kernel
theorem dL_law_952 : decode cL_law 952 = .ok (.iconst 0, 1) := by decide +kernel
theorem dL_law_953 : decode cL_law 953 = .ok (.ireturn, 1) := by decide +kernel
theorem dL_law_954 : decode cL_law 954 = .ok (.iload 5, 2) := by decide +kernel
theorem dL_law_956 : decode cL_law 956 = .ok (.ifCond .ne 22, 3) := by decide +kernel
theorem dL_law_959 : decode cL_law 959 = .ok (.aload_n 3, 1) := by decide +kernel
theorem dL_law_960 : decode cL_law 960 = .ok (.iconst 0, 1) := by decide +kernel
theorem dL_law_961 : decode cL_law 961 = .ok (.laload, 1) := by decide +kernel
theorem dL_law_962 : decode cL_law 962 = .ok (.iload 6, 2) := by decide +kernel
theorem dL_law_964 : decode cL_law 964 = .ok (.ifCond .eq 7, 3) := by decide +kernel
theorem dL_law_967 : decode cL_law 967 = .ok (.lconst 1, 1) := by decide +kernel
theorem dL_law_968 : decode cL_law 968 = .ok (.goto 4, 3) := by decide +kernel
theorem dL_law_971 : decode cL_law 971 = .ok (.lconst 0, 1) := by decide +kernel
theorem dL_law_972 : decode cL_law 972 = .ok (.lcmp, 1) := by decide +kernel
theorem dL_law_973 : decode cL_law 973 = .ok (.ifCond .eq 5, 3) := by decide +kernel
theorem dL_law_976 : decode cL_law 976 = .ok (.iconst 0, 1) := by decide +kernel
theorem dL_law_977 : decode cL_law 977 = .ok (.ireturn, 1) := by decide +kernel
theorem dL_law_978 : decode cL_law 978 = .ok (.goto 411, 3) := by decide +kernel
theorem dL_law_981 : decode cL_law 981 = .ok (.aload_n 1, 1) := by decide +kernel
theorem dL_law_982 : decode cL_law 982 = .ok (.aload_n 0, 1) := by decide +kernel
theorem dL_law_983 : decode cL_law 983 = .ok (.iload 4, 2) := by decide +kernel
theorem dL_law_985 : decode cL_law 985 = .ok (.iconst 1, 1) := by decide +kernel
theorem dL_law_986 : decode cL_law 986 = .ok (.iadd, 1) := by decide +kernel
theorem dL_law_987 : decode cL_law 987 = .ok (.iaload, 1) := by decide +kernel
theorem dL_law_988 : decode cL_law 988 = .ok (.aload_n 0, 1) := by decide +kernel
theorem dL_law_989 : decode cL_law 989 = .ok (.iload 4, 2) := by decide +kernel
theorem dL_law_991 : decode cL_law 991 = .ok (.iconst 2, 1) := by decide +kernel
theorem dL_law_992 : decode cL_law 992 = .ok (.iadd, 1) := by decide +kernel
theorem dL_law_993 : decode cL_law 993 = .ok (.iaload, 1) := by decide +kernel
theorem dL_law_994 : decode cL_law 994 = .ok (.aload_n 0, 1) := by decide +kernel
theorem dL_law_995 : decode cL_law 995 = .ok (.iload 4, 2) := by decide +kernel
theorem dL_law_997 : decode cL_law 997 = .ok (.iconst 3, 1) := by decide +kernel
theorem dL_law_998 : decode cL_law 998 = .ok (.iadd, 1) := by decide +kernel
theorem dL_law_999 : decode cL_law 999 = .ok (.iaload, 1) := by decide +kernel
theorem dL_law_1000 : decode cL_law 1000 = .ok (.aload_n 3, 1) := by decide +kernel
theorem dL_law_1001 : decode cL_law 1001 = .ok (.invokestatic 129, 3) := by decide +kernel
theorem dL_law_1004 : decode cL_law 1004 = .ok (.istore 5, 2) := by decide +kernel
theorem dL_law_1006 : decode cL_law 1006 = .ok (.aload_n 2, 1) := by decide +kernel
theorem dL_law_1007 : decode cL_law 1007 = .ok (.aload_n 0, 1) := by decide +kernel
theorem dL_law_1008 : decode cL_law 1008 = .ok (.iload 4, 2) := by decide +kernel
theorem dL_law_1010 : decode cL_law 1010 = .ok (.iconst 1, 1) := by decide +kernel
theorem dL_law_1011 : decode cL_law 1011 = .ok (.iadd, 1) := by decide +kernel
theorem dL_law_1012 : decode cL_law 1012 = .ok (.iaload, 1) := by decide +kernel
theorem dL_law_1013 : decode cL_law 1013 = .ok (.aload_n 0, 1) := by decide +kernel
theorem dL_law_1014 : decode cL_law 1014 = .ok (.iload 4, 2) := by decide +kernel
theorem dL_law_1016 : decode cL_law 1016 = .ok (.iconst 2, 1) := by decide +kernel
theorem dL_law_1017 : decode cL_law 1017 = .ok (.iadd, 1) := by decide +kernel
theorem dL_law_1018 : decode cL_law 1018 = .ok (.iaload, 1) := by decide +kernel
theorem dL_law_1019 : decode cL_law 1019 = .ok (.aload_n 0, 1) := by decide +kernel
theorem dL_law_1020 : decode cL_law 1020 = .ok (.iload 4, 2) := by decide +kernel
theorem dL_law_1022 : decode cL_law 1022 = .ok (.iconst 3, 1) := by decide +kernel
theorem dL_law_1023 : decode cL_law 1023 = .ok (.iadd, 1) := by decide +kernel
theorem dL_law_1024 : decode cL_law 1024 = .ok (.iaload, 1) := by decide +kernel
theorem dL_law_1025 : decode cL_law 1025 = .ok (.invokevirtual 131, 3) := by decide +kernel
theorem dL_law_1028 : decode cL_law 1028 = .ok (.istore 6, 2) := by decide +kernel
theorem dL_law_1030 : decode cL_law 1030 = .ok (.aload_n 2, 1) := by decide +kernel
theorem dL_law_1031 : decode cL_law 1031 = .ok (.invokevirtual 81, 3) := by decide +kernel
theorem dL_law_1034 : decode cL_law 1034 = .ok (.iload 5, 2) := by decide +kernel
theorem dL_law_1036 : decode cL_law 1036 = .ok (.if_icmp .eq 5, 3) := by decide +kernel
theorem dL_law_1039 : decode cL_law 1039 = .ok (.iconst 0, 1) := by decide +kernel
theorem dL_law_1040 : decode cL_law 1040 = .ok (.ireturn, 1) := by decide +kernel
theorem dL_law_1041 : decode cL_law 1041 = .ok (.iload 5, 2) := by decide +kernel
theorem dL_law_1043 : decode cL_law 1043 = .ok (.ifCond .ne 15, 3) := by decide +kernel
theorem dL_law_1046 : decode cL_law 1046 = .ok (.aload_n 3, 1) := by decide +kernel
theorem dL_law_1047 : decode cL_law 1047 = .ok (.iconst 0, 1) := by decide +kernel
theorem dL_law_1048 : decode cL_law 1048 = .ok (.laload, 1) := by decide +kernel
theorem dL_law_1049 : decode cL_law 1049 = .ok (.iload 6, 2) := by decide +kernel
theorem dL_law_1051 : decode cL_law 1051 = .ok (.i2l, 1) := by decide +kernel
theorem dL_law_1052 : decode cL_law 1052 = .ok (.lcmp, 1) := by decide +kernel
theorem dL_law_1053 : decode cL_law 1053 = .ok (.ifCond .eq 5, 3) := by decide +kernel
theorem dL_law_1056 : decode cL_law 1056 = .ok (.iconst 0, 1) := by decide +kernel
theorem dL_law_1057 : decode cL_law 1057 = .ok (.ireturn, 1) := by decide +kernel
theorem dL_law_1058 : decode cL_law 1058 = .ok (.goto 331, 3) := by decide +kernel
theorem dL_law_1061 : decode cL_law 1061 = .ok (.aload_n 1, 1) := by decide +kernel
theorem dL_law_1062 : decode cL_law 1062 = .ok (.aload_n 0, 1) := by decide +kernel
theorem dL_law_1063 : decode cL_law 1063 = .ok (.iload 4, 2) := by decide +kernel
theorem dL_law_1065 : decode cL_law 1065 = .ok (.iconst 1, 1) := by decide +kernel
theorem dL_law_1066 : decode cL_law 1066 = .ok (.iadd, 1) := by decide +kernel
theorem dL_law_1067 : decode cL_law 1067 = .ok (.iaload, 1) := by decide +kernel
theorem dL_law_1068 : decode cL_law 1068 = .ok (.aload_n 3, 1) := by decide +kernel
theorem dL_law_1069 : decode cL_law 1069 = .ok (.invokestatic 132, 3) := by decide +kernel
theorem dL_law_1072 : decode cL_law 1072 = .ok (.istore 5, 2) := by decide +kernel
theorem dL_law_1074 : decode cL_law 1074 = .ok (.aload_n 2, 1) := by decide +kernel
theorem dL_law_1075 : decode cL_law 1075 = .ok (.aload_n 0, 1) := by decide +kernel
theorem dL_law_1076 : decode cL_law 1076 = .ok (.iload 4, 2) := by decide +kernel
theorem dL_law_1078 : decode cL_law 1078 = .ok (.iconst 1, 1) := by decide +kernel
theorem dL_law_1079 : decode cL_law 1079 = .ok (.iadd, 1) := by decide +kernel
theorem dL_law_1080 : decode cL_law 1080 = .ok (.iaload, 1) := by decide +kernel
theorem dL_law_1081 : decode cL_law 1081 = .ok (.invokevirtual 134, 3) := by decide +kernel
theorem dL_law_1084 : decode cL_law 1084 = .ok (.istore 6, 2) := by decide +kernel
theorem dL_law_1086 : decode cL_law 1086 = .ok (.aload_n 2, 1) := by decide +kernel
theorem dL_law_1087 : decode cL_law 1087 = .ok (.invokevirtual 81, 3) := by decide +kernel
theorem dL_law_1090 : decode cL_law 1090 = .ok (.iload 5, 2) := by decide +kernel
theorem dL_law_1092 : decode cL_law 1092 = .ok (.if_icmp .eq 5, 3) := by decide +kernel
theorem dL_law_1095 : decode cL_law 1095 = .ok (.iconst 0, 1) := by decide +kernel
theorem dL_law_1096 : decode cL_law 1096 = .ok (.ireturn, 1) := by decide +kernel
theorem dL_law_1097 : decode cL_law 1097 = .ok (.iload 5, 2) := by decide +kernel
theorem dL_law_1099 : decode cL_law 1099 = .ok (.ifCond .ne 15, 3) := by decide +kernel
theorem dL_law_1102 : decode cL_law 1102 = .ok (.aload_n 3, 1) := by decide +kernel
theorem dL_law_1103 : decode cL_law 1103 = .ok (.iconst 0, 1) := by decide +kernel
theorem dL_law_1104 : decode cL_law 1104 = .ok (.laload, 1) := by decide +kernel
theorem dL_law_1105 : decode cL_law 1105 = .ok (.iload 6, 2) := by decide +kernel
theorem dL_law_1107 : decode cL_law 1107 = .ok (.i2l, 1) := by decide +kernel
theorem dL_law_1108 : decode cL_law 1108 = .ok (.lcmp, 1) := by decide +kernel
theorem dL_law_1109 : decode cL_law 1109 = .ok (.ifCond .eq 5, 3) := by decide +kernel
theorem dL_law_1112 : decode cL_law 1112 = .ok (.iconst 0, 1) := by decide +kernel
theorem dL_law_1113 : decode cL_law 1113 = .ok (.ireturn, 1) := by decide +kernel
theorem dL_law_1114 : decode cL_law 1114 = .ok (.goto 275, 3) := by decide +kernel
theorem dL_law_1117 : decode cL_law 1117 = .ok (.aload_n 1, 1) := by decide +kernel
theorem dL_law_1118 : decode cL_law 1118 = .ok (.aload_n 0, 1) := by decide +kernel
theorem dL_law_1119 : decode cL_law 1119 = .ok (.iload 4, 2) := by decide +kernel
theorem dL_law_1121 : decode cL_law 1121 = .ok (.iconst 1, 1) := by decide +kernel
theorem dL_law_1122 : decode cL_law 1122 = .ok (.iadd, 1) := by decide +kernel
theorem dL_law_1123 : decode cL_law 1123 = .ok (.iaload, 1) := by decide +kernel
theorem dL_law_1124 : decode cL_law 1124 = .ok (.aload_n 0, 1) := by decide +kernel
theorem dL_law_1125 : decode cL_law 1125 = .ok (.iload 4, 2) := by decide +kernel
theorem dL_law_1127 : decode cL_law 1127 = .ok (.iconst 2, 1) := by decide +kernel
theorem dL_law_1128 : decode cL_law 1128 = .ok (.iadd, 1) := by decide +kernel
theorem dL_law_1129 : decode cL_law 1129 = .ok (.iaload, 1) := by decide +kernel
theorem dL_law_1130 : decode cL_law 1130 = .ok (.aload_n 3, 1) := by decide +kernel
theorem dL_law_1131 : decode cL_law 1131 = .ok (.invokestatic 135, 3) := by decide +kernel
theorem dL_law_1134 : decode cL_law 1134 = .ok (.istore 5, 2) := by decide +kernel
theorem dL_law_1136 : decode cL_law 1136 = .ok (.aload_n 2, 1) := by decide +kernel
theorem dL_law_1137 : decode cL_law 1137 = .ok (.aload_n 0, 1) := by decide +kernel
theorem dL_law_1138 : decode cL_law 1138 = .ok (.iload 4, 2) := by decide +kernel
theorem dL_law_1140 : decode cL_law 1140 = .ok (.iconst 1, 1) := by decide +kernel
theorem dL_law_1141 : decode cL_law 1141 = .ok (.iadd, 1) := by decide +kernel
theorem dL_law_1142 : decode cL_law 1142 = .ok (.iaload, 1) := by decide +kernel
theorem dL_law_1143 : decode cL_law 1143 = .ok (.aload_n 0, 1) := by decide +kernel
theorem dL_law_1144 : decode cL_law 1144 = .ok (.iload 4, 2) := by decide +kernel
theorem dL_law_1146 : decode cL_law 1146 = .ok (.iconst 2, 1) := by decide +kernel
theorem dL_law_1147 : decode cL_law 1147 = .ok (.iadd, 1) := by decide +kernel
theorem dL_law_1148 : decode cL_law 1148 = .ok (.iaload, 1) := by decide +kernel
theorem dL_law_1149 : decode cL_law 1149 = .ok (.invokevirtual 137, 3) := by decide +kernel
theorem dL_law_1152 : decode cL_law 1152 = .ok (.istore 6, 2) := by decide +kernel
theorem dL_law_1154 : decode cL_law 1154 = .ok (.aload_n 2, 1) := by decide +kernel
theorem dL_law_1155 : decode cL_law 1155 = .ok (.invokevirtual 81, 3) := by decide +kernel
theorem dL_law_1158 : decode cL_law 1158 = .ok (.iload 5, 2) := by decide +kernel
theorem dL_law_1160 : decode cL_law 1160 = .ok (.if_icmp .eq 5, 3) := by decide +kernel
theorem dL_law_1163 : decode cL_law 1163 = .ok (.iconst 0, 1) := by decide +kernel
theorem dL_law_1164 : decode cL_law 1164 = .ok (.ireturn, 1) := by decide +kernel
theorem dL_law_1165 : decode cL_law 1165 = .ok (.iload 5, 2) := by decide +kernel
theorem dL_law_1167 : decode cL_law 1167 = .ok (.ifCond .ne 15, 3) := by decide +kernel
theorem dL_law_1170 : decode cL_law 1170 = .ok (.aload_n 3, 1) := by decide +kernel
theorem dL_law_1171 : decode cL_law 1171 = .ok (.iconst 0, 1) := by decide +kernel
theorem dL_law_1172 : decode cL_law 1172 = .ok (.laload, 1) := by decide +kernel
theorem dL_law_1173 : decode cL_law 1173 = .ok (.iload 6, 2) := by decide +kernel
theorem dL_law_1175 : decode cL_law 1175 = .ok (.i2l, 1) := by decide +kernel
theorem dL_law_1176 : decode cL_law 1176 = .ok (.lcmp, 1) := by decide +kernel
theorem dL_law_1177 : decode cL_law 1177 = .ok (.ifCond .eq 5, 3) := by decide +kernel
theorem dL_law_1180 : decode cL_law 1180 = .ok (.iconst 0, 1) := by decide +kernel
theorem dL_law_1181 : decode cL_law 1181 = .ok (.ireturn, 1) := by decide +kernel
theorem dL_law_1182 : decode cL_law 1182 = .ok (.goto 207, 3) := by decide +kernel
theorem dL_law_1185 : decode cL_law 1185 = .ok (.aload_n 1, 1) := by decide +kernel
theorem dL_law_1186 : decode cL_law 1186 = .ok (.aload_n 0, 1) := by decide +kernel
theorem dL_law_1187 : decode cL_law 1187 = .ok (.iload 4, 2) := by decide +kernel
theorem dL_law_1189 : decode cL_law 1189 = .ok (.iconst 1, 1) := by decide +kernel
theorem dL_law_1190 : decode cL_law 1190 = .ok (.iadd, 1) := by decide +kernel
theorem dL_law_1191 : decode cL_law 1191 = .ok (.iaload, 1) := by decide +kernel
theorem dL_law_1192 : decode cL_law 1192 = .ok (.aload_n 0, 1) := by decide +kernel
theorem dL_law_1193 : decode cL_law 1193 = .ok (.iload 4, 2) := by decide +kernel
theorem dL_law_1195 : decode cL_law 1195 = .ok (.iconst 2, 1) := by decide +kernel
theorem dL_law_1196 : decode cL_law 1196 = .ok (.iadd, 1) := by decide +kernel
theorem dL_law_1197 : decode cL_law 1197 = .ok (.iaload, 1) := by decide +kernel
theorem dL_law_1198 : decode cL_law 1198 = .ok (.aload_n 0, 1) := by decide +kernel
theorem dL_law_1199 : decode cL_law 1199 = .ok (.iload 4, 2) := by decide +kernel
theorem dL_law_1201 : decode cL_law 1201 = .ok (.iconst 3, 1) := by decide +kernel
theorem dL_law_1202 : decode cL_law 1202 = .ok (.iadd, 1) := by decide +kernel
theorem dL_law_1203 : decode cL_law 1203 = .ok (.iaload, 1) := by decide +kernel
theorem dL_law_1204 : decode cL_law 1204 = .ok (.aload_n 3, 1) := by decide +kernel
theorem dL_law_1205 : decode cL_law 1205 = .ok (.invokestatic 138, 3) := by decide +kernel
theorem dL_law_1208 : decode cL_law 1208 = .ok (.istore 5, 2) := by decide +kernel
theorem dL_law_1210 : decode cL_law 1210 = .ok (.aload_n 2, 1) := by decide +kernel
theorem dL_law_1211 : decode cL_law 1211 = .ok (.aload_n 0, 1) := by decide +kernel
theorem dL_law_1212 : decode cL_law 1212 = .ok (.iload 4, 2) := by decide +kernel
theorem dL_law_1214 : decode cL_law 1214 = .ok (.iconst 1, 1) := by decide +kernel
theorem dL_law_1215 : decode cL_law 1215 = .ok (.iadd, 1) := by decide +kernel
theorem dL_law_1216 : decode cL_law 1216 = .ok (.iaload, 1) := by decide +kernel
theorem dL_law_1217 : decode cL_law 1217 = .ok (.aload_n 0, 1) := by decide +kernel
theorem dL_law_1218 : decode cL_law 1218 = .ok (.iload 4, 2) := by decide +kernel
theorem dL_law_1220 : decode cL_law 1220 = .ok (.iconst 2, 1) := by decide +kernel
theorem dL_law_1221 : decode cL_law 1221 = .ok (.iadd, 1) := by decide +kernel
theorem dL_law_1222 : decode cL_law 1222 = .ok (.iaload, 1) := by decide +kernel
theorem dL_law_1223 : decode cL_law 1223 = .ok (.aload_n 0, 1) := by decide +kernel
theorem dL_law_1224 : decode cL_law 1224 = .ok (.iload 4, 2) := by decide +kernel
theorem dL_law_1226 : decode cL_law 1226 = .ok (.iconst 3, 1) := by decide +kernel
theorem dL_law_1227 : decode cL_law 1227 = .ok (.iadd, 1) := by decide +kernel
theorem dL_law_1228 : decode cL_law 1228 = .ok (.iaload, 1) := by decide +kernel
theorem dL_law_1229 : decode cL_law 1229 = .ok (.invokevirtual 140, 3) := by decide +kernel
theorem dL_law_1232 : decode cL_law 1232 = .ok (.istore 6, 2) := by decide +kernel
theorem dL_law_1234 : decode cL_law 1234 = .ok (.aload_n 2, 1) := by decide +kernel
theorem dL_law_1235 : decode cL_law 1235 = .ok (.invokevirtual 81, 3) := by decide +kernel
theorem dL_law_1238 : decode cL_law 1238 = .ok (.iload 5, 2) := by decide +kernel
theorem dL_law_1240 : decode cL_law 1240 = .ok (.if_icmp .eq 5, 3) := by decide +kernel
theorem dL_law_1243 : decode cL_law 1243 = .ok (.iconst 0, 1) := by decide +kernel
theorem dL_law_1244 : decode cL_law 1244 = .ok (.ireturn, 1) := by decide +kernel
theorem dL_law_1245 : decode cL_law 1245 = .ok (.iload 5, 2) := by decide +kernel
theorem dL_law_1247 : decode cL_law 1247 = .ok (.ifCond .ne 15, 3) := by decide +kernel
theorem dL_law_1250 : decode cL_law 1250 = .ok (.aload_n 3, 1) := by decide +kernel
theorem dL_law_1251 : decode cL_law 1251 = .ok (.iconst 0, 1) := by decide +kernel
theorem dL_law_1252 : decode cL_law 1252 = .ok (.laload, 1) := by decide +kernel
theorem dL_law_1253 : decode cL_law 1253 = .ok (.iload 6, 2) := by decide +kernel
theorem dL_law_1255 : decode cL_law 1255 = .ok (.i2l, 1) := by decide +kernel
theorem dL_law_1256 : decode cL_law 1256 = .ok (.lcmp, 1) := by decide +kernel
theorem dL_law_1257 : decode cL_law 1257 = .ok (.ifCond .eq 5, 3) := by decide +kernel
theorem dL_law_1260 : decode cL_law 1260 = .ok (.iconst 0, 1) := by decide +kernel
theorem dL_law_1261 : decode cL_law 1261 = .ok (.ireturn, 1) := by decide +kernel
theorem dL_law_1262 : decode cL_law 1262 = .ok (.goto 127, 3) := by decide +kernel
theorem dL_law_1265 : decode cL_law 1265 = .ok (.aload_n 1, 1) := by decide +kernel
theorem dL_law_1266 : decode cL_law 1266 = .ok (.invokevirtual 141, 3) := by decide +kernel
theorem dL_law_1269 : decode cL_law 1269 = .ok (.aload_n 2, 1) := by decide +kernel
theorem dL_law_1270 : decode cL_law 1270 = .ok (.invokevirtual 144, 3) := by decide +kernel
theorem dL_law_1273 : decode cL_law 1273 = .ok (.if_icmp .eq 116, 3) := by decide +kernel
theorem dL_law_1276 : decode cL_law 1276 = .ok (.iconst 0, 1) := by decide +kernel
theorem dL_law_1277 : decode cL_law 1277 = .ok (.ireturn, 1) := by decide +kernel
theorem dL_law_1278 : decode cL_law 1278 = .ok (.aload_n 1, 1) := by decide +kernel
theorem dL_law_1279 : decode cL_law 1279 = .ok (.aload_n 0, 1) := by decide +kernel
theorem dL_law_1280 : decode cL_law 1280 = .ok (.iload 4, 2) := by decide +kernel
theorem dL_law_1282 : decode cL_law 1282 = .ok (.iconst 1, 1) := by decide +kernel
theorem dL_law_1283 : decode cL_law 1283 = .ok (.iadd, 1) := by decide +kernel
theorem dL_law_1284 : decode cL_law 1284 = .ok (.iaload, 1) := by decide +kernel
theorem dL_law_1285 : decode cL_law 1285 = .ok (.aload_n 3, 1) := by decide +kernel
theorem dL_law_1286 : decode cL_law 1286 = .ok (.invokestatic 145, 3) := by decide +kernel
theorem dL_law_1289 : decode cL_law 1289 = .ok (.istore 5, 2) := by decide +kernel
theorem dL_law_1291 : decode cL_law 1291 = .ok (.aload_n 2, 1) := by decide +kernel
theorem dL_law_1292 : decode cL_law 1292 = .ok (.aload_n 0, 1) := by decide +kernel
theorem dL_law_1293 : decode cL_law 1293 = .ok (.iload 4, 2) := by decide +kernel
theorem dL_law_1295 : decode cL_law 1295 = .ok (.iconst 1, 1) := by decide +kernel
theorem dL_law_1296 : decode cL_law 1296 = .ok (.iadd, 1) := by decide +kernel
theorem dL_law_1297 : decode cL_law 1297 = .ok (.iaload, 1) := by decide +kernel
theorem dL_law_1298 : decode cL_law 1298 = .ok (.invokevirtual 147, 3) := by decide +kernel
theorem dL_law_1301 : decode cL_law 1301 = .ok (.istore 6, 2) := by decide +kernel
theorem dL_law_1303 : decode cL_law 1303 = .ok (.aload_n 2, 1) := by decide +kernel
theorem dL_law_1304 : decode cL_law 1304 = .ok (.invokevirtual 81, 3) := by decide +kernel
theorem dL_law_1307 : decode cL_law 1307 = .ok (.iload 5, 2) := by decide +kernel
theorem dL_law_1309 : decode cL_law 1309 = .ok (.if_icmp .eq 5, 3) := by decide +kernel
theorem dL_law_1312 : decode cL_law 1312 = .ok (.iconst 0, 1) := by decide +kernel
theorem dL_law_1313 : decode cL_law 1313 = .ok (.ireturn, 1) := by decide +kernel
theorem dL_law_1314 : decode cL_law 1314 = .ok (.iload 5, 2) := by decide +kernel
theorem dL_law_1316 : decode cL_law 1316 = .ok (.ifCond .ne 15, 3) := by decide +kernel
theorem dL_law_1319 : decode cL_law 1319 = .ok (.aload_n 3, 1) := by decide +kernel
theorem dL_law_1320 : decode cL_law 1320 = .ok (.iconst 0, 1) := by decide +kernel
theorem dL_law_1321 : decode cL_law 1321 = .ok (.laload, 1) := by decide +kernel
theorem dL_law_1322 : decode cL_law 1322 = .ok (.iload 6, 2) := by decide +kernel
theorem dL_law_1324 : decode cL_law 1324 = .ok (.i2l, 1) := by decide +kernel
theorem dL_law_1325 : decode cL_law 1325 = .ok (.lcmp, 1) := by decide +kernel
theorem dL_law_1326 : decode cL_law 1326 = .ok (.ifCond .eq 5, 3) := by decide +kernel
theorem dL_law_1329 : decode cL_law 1329 = .ok (.iconst 0, 1) := by decide +kernel
theorem dL_law_1330 : decode cL_law 1330 = .ok (.ireturn, 1) := by decide +kernel
theorem dL_law_1331 : decode cL_law 1331 = .ok (.goto 58, 3) := by decide +kernel
theorem dL_law_1334 : decode cL_law 1334 = .ok (.aload_n 1, 1) := by decide +kernel
theorem dL_law_1335 : decode cL_law 1335 = .ok (.invokevirtual 148, 3) := by decide +kernel
theorem dL_law_1338 : decode cL_law 1338 = .ok (.dstore 5, 2) := by decide +kernel
theorem dL_law_1340 : decode cL_law 1340 = .ok (.aload_n 2, 1) := by decide +kernel
theorem dL_law_1341 : decode cL_law 1341 = .ok (.invokevirtual 152, 3) := by decide +kernel
theorem dL_law_1344 : decode cL_law 1344 = .ok (.dstore 7, 2) := by decide +kernel
theorem dL_law_1346 : decode cL_law 1346 = .ok (.dload 5, 2) := by decide +kernel
theorem dL_law_1348 : decode cL_law 1348 = .ok (.dload 7, 2) := by decide +kernel
theorem dL_law_1350 : decode cL_law 1350 = .ok (.dcmp .l, 1) := by decide +kernel
theorem dL_law_1351 : decode cL_law 1351 = .ok (.ifCond .eq 21, 3) := by decide +kernel
theorem dL_law_1354 : decode cL_law 1354 = .ok (.dload 5, 2) := by decide +kernel
theorem dL_law_1356 : decode cL_law 1356 = .ok (.dload 5, 2) := by decide +kernel
theorem dL_law_1358 : decode cL_law 1358 = .ok (.dcmp .l, 1) := by decide +kernel
theorem dL_law_1359 : decode cL_law 1359 = .ok (.ifCond .eq 11, 3) := by decide +kernel
theorem dL_law_1362 : decode cL_law 1362 = .ok (.dload 7, 2) := by decide +kernel
theorem dL_law_1364 : decode cL_law 1364 = .ok (.dload 7, 2) := by decide +kernel
theorem dL_law_1366 : decode cL_law 1366 = .ok (.dcmp .l, 1) := by decide +kernel
theorem dL_law_1367 : decode cL_law 1367 = .ok (.ifCond .ne 5, 3) := by decide +kernel
theorem dL_law_1370 : decode cL_law 1370 = .ok (.iconst 0, 1) := by decide +kernel
theorem dL_law_1371 : decode cL_law 1371 = .ok (.ireturn, 1) := by decide +kernel
theorem dL_law_1372 : decode cL_law 1372 = .ok (.goto 17, 3) := by decide +kernel
theorem dL_law_1375 : decode cL_law 1375 = .ok (.aload_n 1, 1) := by decide +kernel
theorem dL_law_1376 : decode cL_law 1376 = .ok (.invokevirtual 153, 3) := by decide +kernel
theorem dL_law_1379 : decode cL_law 1379 = .ok (.aload_n 2, 1) := by decide +kernel
theorem dL_law_1380 : decode cL_law 1380 = .ok (.invokevirtual 157, 3) := by decide +kernel
theorem dL_law_1383 : decode cL_law 1383 = .ok (.lcmp, 1) := by decide +kernel
theorem dL_law_1384 : decode cL_law 1384 = .ok (.ifCond .eq 5, 3) := by decide +kernel
theorem dL_law_1387 : decode cL_law 1387 = .ok (.iconst 0, 1) := by decide +kernel
theorem dL_law_1388 : decode cL_law 1388 = .ok (.ireturn, 1) := by decide +kernel
theorem dL_law_1389 : decode cL_law 1389 = .ok (.iinc 4 6, 3) := by decide +kernel
theorem dL_law_1392 : decode cL_law 1392 = .ok (.goto (-1369), 3) := by decide +kernel
theorem dL_law_1395 : decode cL_law 1395 = .ok (.iconst 1, 1) := by decide +kernel
theorem dL_law_1396 : decode cL_law 1396 = .ok (.ireturn, 1) := by decide +kernel
