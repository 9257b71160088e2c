set_option maxRecDepth 20000 in
theorem ggX2_init_X7_init : GoodIn wsX2_init wsX7_init := goodIn_r _ [18, 19, 2, 3, 4, 20, 21, 22, 23, 24, 25, 26, 27, 28, 9, 29, 30, 31, 32, 33, 34, 35, 36, 37, 38, 39, 40, 41, 42, 43, 44, 45, 46, 47, 48, 49, 50, 51, 52, 53, 54, 55, 56, 57, 58, 59, 60, 61, 62, 63, 64, 65, 66, 67, 68, 69, 70, 71, 72, 73, 74, 75, 76, 77, 78, 79, 80, 81, 82, 83, 84, 85, 105, 106, 107, 108, 109, 110, 122, 123, 124, 125] (by decide +kernel) (by decide +kernel)
set_option maxRecDepth 20000 in
theorem gX2_init_X7_init : GoodIn wsX2_init (wsX7_init) := ggX2_init_X7_init
set_option maxRecDepth 20000 in
theorem ggX2_init_X3_init : GoodIn wsX2_init wsX3_init := goodIn_r _ [87, 88, 2, 3, 21, 89, 90, 91, 92, 93, 94, 95, 96, 111, 112, 113, 114, 115, 116, 117, 118, 119, 120, 121] (by decide +kernel) (by decide +kernel)
set_option maxRecDepth 20000 in
theorem gX2_init_X3_init_n31 : GoodIn wsX2_init (wsX3_init) := ggX2_init_X3_init
theorem dX2_init_0 : decode cX2_init 0 = .ok (.aload_n 0, 1) := by decide +kernel
theorem dX2_init_1 : decode cX2_init 1 = .ok (.invokespecial 3, 3) := by decide +kernel
theorem dX2_init_4 : decode cX2_init 4 = .ok (.aload_n 0, 1) := by decide +kernel
theorem dX2_init_5 : decode cX2_init 5 = .ok (.iconst 5, 1) := by decide +kernel
theorem dX2_init_6 : decode cX2_init 6 = .ok (.newarray .long, 2) := by decide +kernel
theorem dX2_init_8 : decode cX2_init 8 = .ok (.putfield 11, 3) := by decide +kernel
theorem dX2_init_11 : decode cX2_init 11 = .ok (.aload_n 0, 1) := by decide +kernel
theorem dX2_init_12 : decode cX2_init 12 = .ok (.bipush 6, 2) := by decide +kernel
theorem dX2_init_14 : decode cX2_init 14 = .ok (.newarray .long, 2) := by decide +kernel
theorem dX2_init_16 : decode cX2_init 16 = .ok (.putfield 19, 3) := by decide +kernel
theorem dX2_init_19 : decode cX2_init 19 = .ok (.aload_n 0, 1) := by decide +kernel
theorem dX2_init_20 : decode cX2_init 20 = .ok (.new 22, 3) := by decide +kernel
theorem dX2_init_23 : decode cX2_init 23 = .ok (.dup, 1) := by decide +kernel
theorem dX2_init_24 : decode cX2_init 24 = .ok (.aload_n 1, 1) := by decide +kernel
theorem dX2_init_25 : decode cX2_init 25 = .ok (.invokespecial 24, 3) := by decide +kernel
theorem dX2_init_28 : decode cX2_init 28 = .ok (.putfield 27, 3) := by decide +kernel
theorem dX2_init_31 : decode cX2_init 31 = .ok (.aload_n 0, 1) := by decide +kernel
theorem dX2_init_32 : decode cX2_init 32 = .ok (.new 9, 3) := by decide +kernel
theorem dX2_init_35 : decode cX2_init 35 = .ok (.dup, 1) := by decide +kernel
theorem dX2_init_36 : decode cX2_init 36 = .ok (.invokespecial 31, 3) := by decide +kernel
theorem dX2_init_39 : decode cX2_init 39 = .ok (.putfield 32, 3) := by decide +kernel
theorem dX2_init_42 : decode cX2_init 42 = .ok (.aload_n 0, 1) := by decide +kernel
theorem dX2_init_43 : decode cX2_init 43 = .ok (.aload_n 2, 1) := by decide +kernel
theorem dX2_init_44 : decode cX2_init 44 = .ok (.putfield 36, 3) := by decide +kernel
theorem dX2_init_47 : decode cX2_init 47 = .ok (.return_, 1) := by decide +kernel
set_option maxRecDepth 20000 in
theorem ggX2_read_X7_scan : GoodIn wsX2_read wsX7_scan := goodIn_r _ [10, 11, 12, 13, 14, 15, 16, 17, 18, 19, 20, 21, 22, 23, 24, 25, 26, 9, 27, 28, 29, 30, 31, 32, 33, 34, 35, 36, 37, 38, 39, 40, 41, 42, 43, 44, 45, 46, 47, 48, 49, 50, 51, 52, 53, 54, 55, 56, 57, 58, 59, 60, 61, 62, 63, 64, 65, 66, 67, 68, 69, 309, 310, 311, 312, 313, 314, 315, 316] (by decide +kernel) (by decide +kernel)
set_option maxRecDepth 20000 in
theorem gX2_read_X7_scan : GoodIn wsX2_read (wsV RX2 40 RX7 yX7_scan wsX7_scan) := goodIn_app (goodIn_of _ (by decide +kernel)) ggX2_read_X7_scan
set_option maxRecDepth 20000 in
theorem ggX2_read_X3_clear : GoodIn wsX2_read wsX3_clear := goodIn_r _ [74, 75, 76, 77, 317, 318, 319, 320, 321, 322, 323, 324, 325, 326, 327] (by decide +kernel) (by decide +kernel)
set_option maxRecDepth 20000 in
theorem gX2_read_X3_clear : GoodIn wsX2_read (wsV RX2 43 RX3 yX3_clear wsX3_clear) := goodIn_app (goodIn_of _ (by decide +kernel)) ggX2_read_X3_clear
set_option maxRecDepth 20000 in
theorem ggX2_read_X8_clear : GoodIn wsX2_read wsX8_clear := goodIn_r _ [82, 83, 84, 85, 86, 87, 88, 89, 90, 328, 329, 330, 331, 332, 333, 334, 335, 336] (by decide +kernel) (by decide +kernel)
set_option maxRecDepth 20000 in
theorem gX2_read_X8_clear : GoodIn wsX2_read (wsV RX2 46 RX8 yX8_clear wsX8_clear) := goodIn_app (goodIn_of _ (by decide +kernel)) ggX2_read_X8_clear
set_option maxRecDepth 20000 in
theorem ggX2_read_X2_kind : GoodIn wsX2_read wsX2_kind := goodIn_r _ [95, 4, 1, 96, 301, 302, 303, 304, 305, 306, 307, 308, 309, 310, 311, 312, 313, 314] (by decide +kernel) (by decide +kernel)
set_option maxRecDepth 20000 in
theorem gX2_read_X2_kind : GoodIn wsX2_read (wsV RX2 54 RX2 yX2_kind wsX2_kind) := goodIn_app (goodIn_of _ (by decide +kernel)) ggX2_read_X2_kind
set_option maxRecDepth 20000 in
theorem ggX2_read_X2_ruleLine : GoodIn wsX2_read wsX2_ruleLine := goodIn_r _ [100, 2, 101, 102, 103, 94, 104, 4, 1, 105, 91, 92, 93, 95, 96, 106, 107, 108, 109, 110, 111, 112, 113, 114, 115, 116, 117, 118, 119, 120, 121, 122, 123, 5, 124, 125, 126, 127, 128, 73, 129, 75, 130, 131, 132, 133, 134, 135, 301, 302, 303, 304, 305, 306, 307, 308, 309, 310, 311, 312, 313, 314, 317, 318, 319, 320, 321, 322, 323, 324, 325, 326, 327] (by decide +kernel) (by decide +kernel)
set_option maxRecDepth 20000 in
theorem gX2_read_X2_ruleLine : GoodIn wsX2_read (wsV RX2 58 RX2 yX2_ruleLine wsX2_ruleLine) := goodIn_app (goodIn_of _ (by decide +kernel)) ggX2_read_X2_ruleLine
set_option maxRecDepth 20000 in
theorem ggX2_read_X2_antLine : GoodIn wsX2_read wsX2_antLine := goodIn_r _ [139, 115, 2, 116, 140, 101, 102, 103, 94, 104, 4, 1, 105, 91, 92, 93, 95, 96, 106, 107, 108, 109, 110, 141, 142, 143, 144, 145, 3, 146, 117, 118, 119, 120, 121, 122, 123, 5, 124, 125, 147, 148, 149, 81, 150, 86, 151, 152, 153, 154, 155, 156, 157, 158, 159, 160, 161, 162, 163, 164, 165, 166, 167, 168, 169, 170, 171, 172, 173, 174, 175, 176, 177, 178, 179, 180, 181, 182, 183, 184, 185, 186, 187, 188, 189, 190, 191, 192, 193, 194, 195, 196, 197, 198, 199, 200, 301, 302, 303, 304, 305, 306, 307, 308, 317, 318, 319, 320, 321, 322, 323, 324, 325, 326, 327, 337, 338, 339, 340, 341, 342, 343, 344, 345, 309, 310, 311, 312, 313, 314, 328, 329, 330, 331, 332, 333, 334, 335, 336] (by decide +kernel) (by decide +kernel)
set_option maxRecDepth 20000 in
theorem gX2_read_X2_antLine : GoodIn wsX2_read (wsV RX2 62 RX2 yX2_antLine wsX2_antLine) := goodIn_app (goodIn_of _ (by decide +kernel)) ggX2_read_X2_antLine
set_option maxRecDepth 20000 in
theorem ggX2_read_X2_paintLine : GoodIn wsX2_read wsX2_paintLine := goodIn_r _ [204, 3, 101, 102, 103, 94, 104, 4, 1, 105, 91, 92, 93, 95, 96, 181, 182, 183, 184, 106, 107, 108, 109, 110, 120, 121, 122, 123, 5, 124, 125, 205, 206, 207, 81, 208, 83, 85, 84, 209, 210, 211, 212, 213, 214, 215, 301, 302, 303, 304, 305, 306, 307, 308, 309, 310, 311, 312, 313, 314, 328, 329, 330, 331, 332, 333, 334, 335, 336] (by decide +kernel) (by decide +kernel)
set_option maxRecDepth 20000 in
theorem gX2_read_X2_paintLine : GoodIn wsX2_read (wsV RX2 65 RX2 yX2_paintLine wsX2_paintLine) := goodIn_app (goodIn_of _ (by decide +kernel)) ggX2_read_X2_paintLine
set_option maxRecDepth 20000 in
theorem ggX2_read_X2_washLine : GoodIn wsX2_read wsX2_washLine := goodIn_r _ [219, 2, 220, 221, 222, 94, 223, 91, 92, 93, 95, 4, 1, 96, 224, 225, 226, 73, 227, 76, 228, 229, 230, 231, 77, 120, 121, 122, 123, 5, 124, 125, 101, 102, 103, 104, 105, 181, 182, 183, 184, 106, 107, 108, 109, 110, 173, 174, 175, 176, 232, 233, 234, 235, 236, 237, 238, 239, 240, 241, 242, 243, 244, 245, 246, 247, 248, 249, 250, 251, 252, 253, 254, 255, 256, 257, 258, 259, 260, 261, 262, 263, 264, 265, 145, 3, 146, 177, 178, 179, 180, 117, 118, 119, 266, 267, 268, 269, 270, 271, 272, 273, 274, 275, 276, 277, 278, 279, 280, 281, 282, 283, 284, 285, 286, 287, 288, 289, 290, 291, 292, 301, 302, 303, 304, 305, 306, 307, 308, 309, 310, 311, 312, 313, 314, 317, 318, 319, 320, 321, 322, 323, 324, 325, 326, 327, 328, 329, 330, 331, 332, 333, 334, 335, 336] (by decide +kernel) (by decide +kernel)
set_option maxRecDepth 20000 in
theorem gX2_read_X2_washLine : GoodIn wsX2_read (wsV RX2 68 RX2 yX2_washLine wsX2_washLine) := goodIn_app (goodIn_of _ (by decide +kernel)) ggX2_read_X2_washLine
set_option maxRecDepth 20000 in
theorem ggX2_read_X2_faceLine : GoodIn wsX2_read wsX2_faceLine := goodIn_r _ [296, 145, 3, 146, 2, 220, 221, 222, 94, 223, 91, 92, 93, 95, 4, 1, 96, 224, 225, 226, 73, 227, 76, 228, 229, 230, 231, 77, 120, 121, 122, 123, 5, 124, 125, 101, 102, 103, 104, 105, 177, 178, 179, 180, 106, 107, 108, 109, 110, 117, 118, 119, 189, 190, 191, 192, 193, 194, 195, 196, 232, 233, 234, 235, 173, 174, 175, 176, 236, 237, 238, 239, 240, 241, 242, 243, 244, 245, 246, 247, 248, 249, 250, 251, 252, 253, 254, 255, 256, 257, 258, 259, 260, 261, 262, 263, 264, 265, 266, 267, 268, 269, 270, 271, 272, 273, 274, 275, 276, 277, 278, 279, 280, 281, 282, 283, 284, 285, 286, 287, 288, 289, 290, 291, 292, 301, 302, 303, 304, 305, 306, 307, 308, 328, 329, 330, 331, 332, 333, 334, 335, 336, 309, 310, 311, 312, 313, 314, 317, 318, 319, 320, 321, 322, 323, 324, 325, 326, 327] (by decide +kernel) (by decide +kernel)
set_option maxRecDepth 20000 in
theorem gX2_read_X2_faceLine : GoodIn wsX2_read (wsV RX2 71 RX2 yX2_faceLine wsX2_faceLine) := goodIn_app (goodIn_of _ (by decide +kernel)) ggX2_read_X2_faceLine
set_option maxRecDepth 20000 in
theorem ggX2_read_X2_haltLine : GoodIn wsX2_read wsX2_haltLine := goodIn_r _ [300, 2, 145, 3, 146, 220, 221, 222, 94, 223, 91, 92, 93, 95, 4, 1, 96, 224, 225, 226, 73, 227, 76, 228, 229, 230, 231, 77, 120, 121, 122, 123, 5, 124, 125, 101, 102, 103, 104, 105, 177, 178, 179, 180, 106, 107, 108, 109, 110, 117, 118, 119, 232, 233, 234, 235, 173, 174, 175, 176, 236, 237, 238, 239, 240, 241, 242, 243, 244, 245, 246, 247, 248, 249, 250, 251, 252, 253, 254, 255, 256, 257, 258, 259, 260, 261, 262, 263, 264, 265, 266, 267, 268, 269, 270, 271, 272, 273, 274, 275, 276, 277, 278, 279, 280, 281, 282, 283, 284, 285, 286, 287, 288, 289, 290, 291, 292, 301, 302, 303, 304, 305, 306, 307, 308, 328, 329, 330, 331, 332, 333, 334, 335, 336, 309, 310, 311, 312, 313, 314, 317, 318, 319, 320, 321, 322, 323, 324, 325, 326, 327] (by decide +kernel) (by decide +kernel)
set_option maxRecDepth 20000 in
theorem gX2_read_X2_haltLine : GoodIn wsX2_read (wsV RX2 74 RX2 yX2_haltLine wsX2_haltLine) := goodIn_app (goodIn_of _ (by decide +kernel)) ggX2_read_X2_haltLine
set_option maxRecDepth 20000 in
theorem ggX2_read_X2_take : GoodIn wsX2_read wsX2_take := goodIn_r _ [176, 91, 92, 93, 94, 95, 4, 1, 96, 101, 102, 103, 104, 105, 301, 302, 303, 304, 305, 306, 307, 308, 309, 310, 311, 312, 313, 314] (by decide +kernel) (by decide +kernel)
set_option maxRecDepth 20000 in
theorem gX2_read_X2_take : GoodIn wsX2_read (wsV RX2 77 RX2 yX2_take wsX2_take) := goodIn_app (goodIn_of _ (by decide +kernel)) ggX2_read_X2_take
set_option maxRecDepth 20000 in
theorem ggX2_read_X2_complain : GoodIn wsX2_read wsX2_complain := goodIn_r _ [123, 5, 4, 1, 124, 125, 301, 302, 303, 304, 305, 306, 307, 308, 309, 310, 311, 312, 313, 314] (by decide +kernel) (by decide +kernel)
set_option maxRecDepth 20000 in
theorem gX2_read_X2_complain : GoodIn wsX2_read (wsV RX2 81 RX2 yX2_complain wsX2_complain) := goodIn_app (goodIn_of _ (by decide +kernel)) ggX2_read_X2_complain
theorem dX2_read_0 : decode cX2_read 0 = .ok (.aload_n 0, 1) := by decide +kernel
theorem dX2_read_1 : decode cX2_read 1 = .ok (.getfield 27, 3) := by decide +kernel
theorem dX2_read_4 : decode cX2_read 4 = .ok (.invokevirtual 40, 3) := by decide +kernel
theorem dX2_read_7 : decode cX2_read 7 = .ok (.aload_n 0, 1) := by decide +kernel
theorem dX2_read_8 : decode cX2_read 8 = .ok (.getfield 32, 3) := by decide +kernel
theorem dX2_read_11 : decode cX2_read 11 = .ok (.invokevirtual 43, 3) := by decide +kernel
theorem dX2_read_14 : decode cX2_read 14 = .ok (.aload_n 0, 1) := by decide +kernel
theorem dX2_read_15 : decode cX2_read 15 = .ok (.getfield 36, 3) := by decide +kernel
theorem dX2_read_18 : decode cX2_read 18 = .ok (.invokevirtual 46, 3) := by decide +kernel
theorem dX2_read_21 : decode cX2_read 21 = .ok (.aload_n 0, 1) := by decide +kernel
theorem dX2_read_22 : decode cX2_read 22 = .ok (.iconst 0, 1) := by decide +kernel
theorem dX2_read_23 : decode cX2_read 23 = .ok (.putfield 47, 3) := by decide +kernel
theorem dX2_read_26 : decode cX2_read 26 = .ok (.aload_n 0, 1) := by decide +kernel
theorem dX2_read_27 : decode cX2_read 27 = .ok (.iconst 0, 1) := by decide +kernel
theorem dX2_read_28 : decode cX2_read 28 = .ok (.putfield 51, 3) := by decide +kernel
theorem dX2_read_31 : decode cX2_read 31 = .ok (.iconst 1, 1) := by decide +kernel
theorem dX2_read_32 : decode cX2_read 32 = .ok (.istore_n 1, 1) := by decide +kernel
theorem dX2_read_33 : decode cX2_read 33 = .ok (.iconst 0, 1) := by decide +kernel
theorem dX2_read_34 : decode cX2_read 34 = .ok (.istore_n 2, 1) := by decide +kernel
theorem dX2_read_35 : decode cX2_read 35 = .ok (.iload_n 2, 1) := by decide +kernel
theorem dX2_read_36 : decode cX2_read 36 = .ok (.sipush 400, 3) := by decide +kernel
theorem dX2_read_39 : decode cX2_read 39 = .ok (.if_icmp .ge 184, 3) := by decide +kernel
theorem dX2_read_42 : decode cX2_read 42 = .ok (.iload_n 1, 1) := by decide +kernel
theorem dX2_read_43 : decode cX2_read 43 = .ok (.ifCond .eq 180, 3) := by decide +kernel
theorem dX2_read_46 : decode cX2_read 46 = .ok (.aload_n 0, 1) := by decide +kernel
theorem dX2_read_47 : decode cX2_read 47 = .ok (.invokevirtual 54, 3) := by decide +kernel
theorem dX2_read_50 : decode cX2_read 50 = .ok (.ifCond .eq 173, 3) := by decide +kernel
theorem dX2_read_53 : decode cX2_read 53 = .ok (.aload_n 0, 1) := by decide +kernel
theorem dX2_read_54 : decode cX2_read 54 = .ok (.invokevirtual 54, 3) := by decide +kernel
theorem dX2_read_57 : decode cX2_read 57 = .ok (.tableswitch 139 200 218 #[91, 139, 139, 139, 139, 99, 139, 139, 139, 139, 139, 139, 139, 107, 115, 139, 123, 131, 131], 91) := by decide +kernel
theorem dX2_read_148 : decode cX2_read 148 = .ok (.aload_n 0, 1) := by decide +kernel
theorem dX2_read_149 : decode cX2_read 149 = .ok (.invokevirtual 58, 3) := by decide +kernel
theorem dX2_read_152 : decode cX2_read 152 = .ok (.istore_n 1, 1) := by decide +kernel
theorem dX2_read_153 : decode cX2_read 153 = .ok (.goto 45, 3) := by decide +kernel
theorem dX2_read_156 : decode cX2_read 156 = .ok (.aload_n 0, 1) := by decide +kernel
theorem dX2_read_157 : decode cX2_read 157 = .ok (.invokevirtual 62, 3) := by decide +kernel
theorem dX2_read_160 : decode cX2_read 160 = .ok (.istore_n 1, 1) := by decide +kernel
theorem dX2_read_161 : decode cX2_read 161 = .ok (.goto 37, 3) := by decide +kernel
theorem dX2_read_164 : decode cX2_read 164 = .ok (.aload_n 0, 1) := by decide +kernel
theorem dX2_read_165 : decode cX2_read 165 = .ok (.invokevirtual 65, 3) := by decide +kernel
theorem dX2_read_168 : decode cX2_read 168 = .ok (.istore_n 1, 1) := by decide +kernel
theorem dX2_read_169 : decode cX2_read 169 = .ok (.goto 29, 3) := by decide +kernel
theorem dX2_read_172 : decode cX2_read 172 = .ok (.aload_n 0, 1) := by decide +kernel
theorem dX2_read_173 : decode cX2_read 173 = .ok (.invokevirtual 68, 3) := by decide +kernel
theorem dX2_read_176 : decode cX2_read 176 = .ok (.istore_n 1, 1) := by decide +kernel
theorem dX2_read_177 : decode cX2_read 177 = .ok (.goto 21, 3) := by decide +kernel
theorem dX2_read_180 : decode cX2_read 180 = .ok (.aload_n 0, 1) := by decide +kernel
theorem dX2_read_181 : decode cX2_read 181 = .ok (.invokevirtual 71, 3) := by decide +kernel
theorem dX2_read_184 : decode cX2_read 184 = .ok (.istore_n 1, 1) := by decide +kernel
theorem dX2_read_185 : decode cX2_read 185 = .ok (.goto 13, 3) := by decide +kernel
theorem dX2_read_188 : decode cX2_read 188 = .ok (.aload_n 0, 1) := by decide +kernel
theorem dX2_read_189 : decode cX2_read 189 = .ok (.invokevirtual 74, 3) := by decide +kernel
theorem dX2_read_192 : decode cX2_read 192 = .ok (.istore_n 1, 1) := by decide +kernel
theorem dX2_read_193 : decode cX2_read 193 = .ok (.goto 5, 3) := by decide +kernel
theorem dX2_read_196 : decode cX2_read 196 = .ok (.iconst 0, 1) := by decide +kernel
theorem dX2_read_197 : decode cX2_read 197 = .ok (.istore_n 1, 1) := by decide +kernel
theorem dX2_read_198 : decode cX2_read 198 = .ok (.iload_n 1, 1) := by decide +kernel
theorem dX2_read_199 : decode cX2_read 199 = .ok (.ifCond .eq 16, 3) := by decide +kernel
theorem dX2_read_202 : decode cX2_read 202 = .ok (.aload_n 0, 1) := by decide +kernel
theorem dX2_read_203 : decode cX2_read 203 = .ok (.bipush 59, 2) := by decide +kernel
theorem dX2_read_205 : decode cX2_read 205 = .ok (.invokevirtual 77, 3) := by decide +kernel
theorem dX2_read_208 : decode cX2_read 208 = .ok (.ifCond .eq 7, 3) := by decide +kernel
theorem dX2_read_211 : decode cX2_read 211 = .ok (.iconst 1, 1) := by decide +kernel
theorem dX2_read_212 : decode cX2_read 212 = .ok (.goto 4, 3) := by decide +kernel
theorem dX2_read_215 : decode cX2_read 215 = .ok (.iconst 0, 1) := by decide +kernel
theorem dX2_read_216 : decode cX2_read 216 = .ok (.istore_n 1, 1) := by decide +kernel
theorem dX2_read_217 : decode cX2_read 217 = .ok (.iinc 2 1, 3) := by decide +kernel
theorem dX2_read_220 : decode cX2_read 220 = .ok (.goto (-185), 3) := by decide +kernel
theorem dX2_read_223 : decode cX2_read 223 = .ok (.iload_n 1, 1) := by decide +kernel
theorem dX2_read_224 : decode cX2_read 224 = .ok (.ifCond .ne 13, 3) := by decide +kernel
theorem dX2_read_227 : decode cX2_read 227 = .ok (.aload_n 0, 1) := by decide +kernel
theorem dX2_read_228 : decode cX2_read 228 = .ok (.iconst 0, 1) := by decide +kernel
theorem dX2_read_229 : decode cX2_read 229 = .ok (.putfield 51, 3) := by decide +kernel
theorem dX2_read_232 : decode cX2_read 232 = .ok (.aload_n 0, 1) := by decide +kernel
theorem dX2_read_233 : decode cX2_read 233 = .ok (.iconst 1, 1) := by decide +kernel
theorem dX2_read_234 : decode cX2_read 234 = .ok (.invokevirtual 81, 3) := by decide +kernel
theorem dX2_read_237 : decode cX2_read 237 = .ok (.aload_n 0, 1) := by decide +kernel
theorem dX2_read_238 : decode cX2_read 238 = .ok (.getfield 51, 3) := by decide +kernel
theorem dX2_read_241 : decode cX2_read 241 = .ok (.ireturn, 1) := by decide +kernel
theorem dX2_kind_0 : decode cX2_kind 0 = .ok (.aload_n 0, 1) := by decide +kernel
theorem dX2_kind_1 : decode cX2_kind 1 = .ok (.getfield 47, 3) := by decide +kernel
theorem dX2_kind_4 : decode cX2_kind 4 = .ok (.ifCond .lt 33, 3) := by decide +kernel
theorem dX2_kind_7 : decode cX2_kind 7 = .ok (.aload_n 0, 1) := by decide +kernel
theorem dX2_kind_8 : decode cX2_kind 8 = .ok (.getfield 47, 3) := by decide +kernel
theorem dX2_kind_11 : decode cX2_kind 11 = .ok (.aload_n 0, 1) := by decide +kernel
theorem dX2_kind_12 : decode cX2_kind 12 = .ok (.getfield 27, 3) := by decide +kernel
theorem dX2_kind_15 : decode cX2_kind 15 = .ok (.getfield 85, 3) := by decide +kernel
theorem dX2_kind_18 : decode cX2_kind 18 = .ok (.arraylength, 1) := by decide +kernel
theorem dX2_kind_19 : decode cX2_kind 19 = .ok (.if_icmp .ge 18, 3) := by decide +kernel
theorem dX2_kind_22 : decode cX2_kind 22 = .ok (.aload_n 0, 1) := by decide +kernel
theorem dX2_kind_23 : decode cX2_kind 23 = .ok (.getfield 27, 3) := by decide +kernel
theorem dX2_kind_26 : decode cX2_kind 26 = .ok (.getfield 85, 3) := by decide +kernel
theorem dX2_kind_29 : decode cX2_kind 29 = .ok (.aload_n 0, 1) := by decide +kernel
theorem dX2_kind_30 : decode cX2_kind 30 = .ok (.getfield 47, 3) := by decide +kernel
theorem dX2_kind_33 : decode cX2_kind 33 = .ok (.iaload, 1) := by decide +kernel
theorem dX2_kind_34 : decode cX2_kind 34 = .ok (.goto 4, 3) := by decide +kernel
theorem dX2_kind_37 : decode cX2_kind 37 = .ok (.iconst 1, 1) := by decide +kernel
theorem dX2_kind_38 : decode cX2_kind 38 = .ok (.ireturn, 1) := by decide +kernel
theorem dX2_value_0 : decode cX2_value 0 = .ok (.aload_n 0, 1) := by decide +kernel
theorem dX2_value_1 : decode cX2_value 1 = .ok (.getfield 47, 3) := by decide +kernel
theorem dX2_value_4 : decode cX2_value 4 = .ok (.ifCond .lt 33, 3) := by decide +kernel
theorem dX2_value_7 : decode cX2_value 7 = .ok (.aload_n 0, 1) := by decide +kernel
theorem dX2_value_8 : decode cX2_value 8 = .ok (.getfield 47, 3) := by decide +kernel
theorem dX2_value_11 : decode cX2_value 11 = .ok (.aload_n 0, 1) := by decide +kernel
theorem dX2_value_12 : decode cX2_value 12 = .ok (.getfield 27, 3) := by decide +kernel
theorem dX2_value_15 : decode cX2_value 15 = .ok (.getfield 91, 3) := by decide +kernel
theorem dX2_value_18 : decode cX2_value 18 = .ok (.arraylength, 1) := by decide +kernel
theorem dX2_value_19 : decode cX2_value 19 = .ok (.if_icmp .ge 18, 3) := by decide +kernel
theorem dX2_value_22 : decode cX2_value 22 = .ok (.aload_n 0, 1) := by decide +kernel
theorem dX2_value_23 : decode cX2_value 23 = .ok (.getfield 27, 3) := by decide +kernel
theorem dX2_value_26 : decode cX2_value 26 = .ok (.getfield 91, 3) := by decide +kernel
theorem dX2_value_29 : decode cX2_value 29 = .ok (.aload_n 0, 1) := by decide +kernel
theorem dX2_value_30 : decode cX2_value 30 = .ok (.getfield 47, 3) := by decide +kernel
theorem dX2_value_33 : decode cX2_value 33 = .ok (.laload, 1) := by decide +kernel
theorem dX2_value_34 : decode cX2_value 34 = .ok (.goto 4, 3) := by decide +kernel
theorem dX2_value_37 : decode cX2_value 37 = .ok (.lconst 0, 1) := by decide +kernel
theorem dX2_value_38 : decode cX2_value 38 = .ok (.lreturn, 1) := by decide +kernel
theorem dX2_advance_0 : decode cX2_advance 0 = .ok (.aload_n 0, 1) := by decide +kernel
theorem dX2_advance_1 : decode cX2_advance 1 = .ok (.getfield 47, 3) := by decide +kernel
theorem dX2_advance_4 : decode cX2_advance 4 = .ok (.aload_n 0, 1) := by decide +kernel
theorem dX2_advance_5 : decode cX2_advance 5 = .ok (.getfield 27, 3) := by decide +kernel
theorem dX2_advance_8 : decode cX2_advance 8 = .ok (.getfield 94, 3) := by decide +kernel
theorem dX2_advance_11 : decode cX2_advance 11 = .ok (.if_icmp .ge 13, 3) := by decide +kernel
theorem dX2_advance_14 : decode cX2_advance 14 = .ok (.aload_n 0, 1) := by decide +kernel
theorem dX2_advance_15 : decode cX2_advance 15 = .ok (.dup, 1) := by decide +kernel
theorem dX2_advance_16 : decode cX2_advance 16 = .ok (.getfield 47, 3) := by decide +kernel
theorem dX2_advance_19 : decode cX2_advance 19 = .ok (.iconst 1, 1) := by decide +kernel
theorem dX2_advance_20 : decode cX2_advance 20 = .ok (.iadd, 1) := by decide +kernel
theorem dX2_advance_21 : decode cX2_advance 21 = .ok (.putfield 47, 3) := by decide +kernel
theorem dX2_advance_24 : decode cX2_advance 24 = .ok (.return_, 1) := by decide +kernel
set_option maxRecDepth 20000 in
theorem ggX2_take_X2_kind : GoodIn wsX2_take wsX2_kind := goodIn_r _ [5, 6, 7, 8, 14, 15, 16, 17, 18, 19, 20, 21, 22, 23, 24, 25, 26, 27] (by decide +kernel) (by decide +kernel)
set_option maxRecDepth 20000 in
theorem gX2_take_X2_kind : GoodIn wsX2_take (wsV RX2 54 RX2 yX2_kind wsX2_kind) := goodIn_app (goodIn_of _ (by decide +kernel)) ggX2_take_X2_kind
set_option maxRecDepth 20000 in
theorem ggX2_take_X2_advance : GoodIn wsX2_take wsX2_advance := goodIn_r _ [12, 6, 7, 13, 14, 15, 16, 17, 18, 19, 20, 21, 22, 23, 24, 25, 26, 27] (by decide +kernel) (by decide +kernel)
set_option maxRecDepth 20000 in
theorem gX2_take_X2_advance : GoodIn wsX2_take (wsV RX2 97 RX2 yX2_advance wsX2_advance) := goodIn_app (goodIn_of _ (by decide +kernel)) ggX2_take_X2_advance
theorem dX2_take_0 : decode cX2_take 0 = .ok (.aload_n 0, 1) := by decide +kernel
theorem dX2_take_1 : decode cX2_take 1 = .ok (.invokevirtual 54, 3) := by decide +kernel
theorem dX2_take_4 : decode cX2_take 4 = .ok (.iload_n 1, 1) := by decide +kernel
theorem dX2_take_5 : decode cX2_take 5 = .ok (.if_icmp .eq 5, 3) := by decide +kernel
theorem dX2_take_8 : decode cX2_take 8 = .ok (.iconst 0, 1) := by decide +kernel
theorem dX2_take_9 : decode cX2_take 9 = .ok (.ireturn, 1) := by decide +kernel
theorem dX2_take_10 : decode cX2_take 10 = .ok (.aload_n 0, 1) := by decide +kernel
theorem dX2_take_11 : decode cX2_take 11 = .ok (.invokevirtual 97, 3) := by decide +kernel
theorem dX2_take_14 : decode cX2_take 14 = .ok (.iconst 1, 1) := by decide +kernel
theorem dX2_take_15 : decode cX2_take 15 = .ok (.ireturn, 1) := by decide +kernel
theorem dX2_complain_0 : decode cX2_complain 0 = .ok (.aload_n 0, 1) := by decide +kernel
theorem dX2_complain_1 : decode cX2_complain 1 = .ok (.getfield 51, 3) := by decide +kernel
theorem dX2_complain_4 : decode cX2_complain 4 = .ok (.ifCond .ne 50, 3) := by decide +kernel
theorem dX2_complain_7 : decode cX2_complain 7 = .ok (.aload_n 0, 1) := by decide +kernel
theorem dX2_complain_8 : decode cX2_complain 8 = .ok (.iload_n 1, 1) := by decide +kernel
theorem dX2_complain_9 : decode cX2_complain 9 = .ok (.putfield 51, 3) := by decide +kernel
theorem dX2_complain_12 : decode cX2_complain 12 = .ok (.aload_n 0, 1) := by decide +kernel
theorem dX2_complain_13 : decode cX2_complain 13 = .ok (.aload_n 0, 1) := by decide +kernel
theorem dX2_complain_14 : decode cX2_complain 14 = .ok (.getfield 47, 3) := by decide +kernel
theorem dX2_complain_17 : decode cX2_complain 17 = .ok (.ifCond .lt 33, 3) := by decide +kernel
theorem dX2_complain_20 : decode cX2_complain 20 = .ok (.aload_n 0, 1) := by decide +kernel
theorem dX2_complain_21 : decode cX2_complain 21 = .ok (.getfield 47, 3) := by decide +kernel
theorem dX2_complain_24 : decode cX2_complain 24 = .ok (.aload_n 0, 1) := by decide +kernel
theorem dX2_complain_25 : decode cX2_complain 25 = .ok (.getfield 27, 3) := by decide +kernel
theorem dX2_complain_28 : decode cX2_complain 28 = .ok (.getfield 100, 3) := by decide +kernel
theorem dX2_complain_31 : decode cX2_complain 31 = .ok (.arraylength, 1) := by decide +kernel
theorem dX2_complain_32 : decode cX2_complain 32 = .ok (.if_icmp .ge 18, 3) := by decide +kernel
theorem dX2_complain_35 : decode cX2_complain 35 = .ok (.aload_n 0, 1) := by decide +kernel
theorem dX2_complain_36 : decode cX2_complain 36 = .ok (.getfield 27, 3) := by decide +kernel
theorem dX2_complain_39 : decode cX2_complain 39 = .ok (.getfield 100, 3) := by decide +kernel
theorem dX2_complain_42 : decode cX2_complain 42 = .ok (.aload_n 0, 1) := by decide +kernel
theorem dX2_complain_43 : decode cX2_complain 43 = .ok (.getfield 47, 3) := by decide +kernel
theorem dX2_complain_46 : decode cX2_complain 46 = .ok (.iaload, 1) := by decide +kernel
theorem dX2_complain_47 : decode cX2_complain 47 = .ok (.goto 4, 3) := by decide +kernel
theorem dX2_complain_50 : decode cX2_complain 50 = .ok (.iconst 0, 1) := by decide +kernel
theorem dX2_complain_51 : decode cX2_complain 51 = .ok (.putfield 103, 3) := by decide +kernel
theorem dX2_complain_54 : decode cX2_complain 54 = .ok (.return_, 1) := by decide +kernel
set_option maxRecDepth 20000 in
theorem ggX2_ruleLine_X2_advance : GoodIn wsX2_ruleLine wsX2_advance := goodIn_r _ [6, 7, 8, 9, 48, 49, 50, 51, 52, 53, 54, 55, 56, 57, 58, 59, 60, 61] (by decide +kernel) (by decide +kernel)
set_option maxRecDepth 20000 in
theorem gX2_ruleLine_X2_advance : GoodIn wsX2_ruleLine (wsV RX2 97 RX2 yX2_advance wsX2_advance) := goodIn_app (goodIn_of _ (by decide +kernel)) ggX2_ruleLine_X2_advance
set_option maxRecDepth 20000 in
theorem ggX2_ruleLine_X2_kind : GoodIn wsX2_ruleLine wsX2_kind := goodIn_r _ [13, 7, 8, 14, 48, 49, 50, 51, 52, 53, 54, 55, 56, 57, 58, 59, 60, 61] (by decide +kernel) (by decide +kernel)
set_option maxRecDepth 20000 in
theorem gX2_ruleLine_X2_kind : GoodIn wsX2_ruleLine (wsV RX2 54 RX2 yX2_kind wsX2_kind) := goodIn_app (goodIn_of _ (by decide +kernel)) ggX2_ruleLine_X2_kind
set_option maxRecDepth 20000 in
theorem ggX2_ruleLine_X2_value : GoodIn wsX2_ruleLine wsX2_value := goodIn_r _ [18, 7, 8, 19, 48, 49, 50, 51, 52, 53, 54, 55, 56, 57, 58, 59, 60, 61] (by decide +kernel) (by decide +kernel)
set_option maxRecDepth 20000 in
theorem gX2_ruleLine_X2_value : GoodIn wsX2_ruleLine (wsV RX2 106 RX2 yX2_value wsX2_value) := goodIn_app (goodIn_of _ (by decide +kernel)) ggX2_ruleLine_X2_value
set_option maxRecDepth 20000 in
theorem ggX2_ruleLine_X2_nameRule : GoodIn wsX2_ruleLine wsX2_nameRule := goodIn_r _ [23, 24, 1, 25, 26, 27, 5, 28, 29, 30, 31, 32, 33, 7, 8, 34, 35, 36, 37, 38, 39, 40, 41, 42, 48, 49, 50, 51, 52, 53, 54, 55, 62, 63, 64, 65, 66, 67, 68, 69, 70, 71, 72, 56, 57, 58, 59, 60, 61] (by decide +kernel) (by decide +kernel)
set_option maxRecDepth 20000 in
theorem gX2_ruleLine_X2_nameRule : GoodIn wsX2_ruleLine (wsV RX2 110 RX2 yX2_nameRule wsX2_nameRule) := goodIn_app (goodIn_of _ (by decide +kernel)) ggX2_ruleLine_X2_nameRule
set_option maxRecDepth 20000 in
theorem ggX2_ruleLine_X3_addTurn : GoodIn wsX2_ruleLine wsX3_addTurn := goodIn_r _ [46, 41, 42, 47, 62, 63, 64, 65, 66, 67, 68, 69, 70, 71, 72] (by decide +kernel) (by decide +kernel)
set_option maxRecDepth 20000 in
theorem gX2_ruleLine_X3_addTurn : GoodIn wsX2_ruleLine (wsV RX2 114 RX3 yX3_addTurn wsX3_addTurn) := goodIn_app (goodIn_of _ (by decide +kernel)) ggX2_ruleLine_X3_addTurn
set_option maxRecDepth 20000 in
theorem ggX2_ruleLine_X2_complain : GoodIn wsX2_ruleLine wsX2_complain := goodIn_r _ [32, 33, 7, 8, 34, 35, 48, 49, 50, 51, 52, 53, 54, 55, 56, 57, 58, 59, 60, 61] (by decide +kernel) (by decide +kernel)
set_option maxRecDepth 20000 in
theorem gX2_ruleLine_X2_complain : GoodIn wsX2_ruleLine (wsV RX2 81 RX2 yX2_complain wsX2_complain) := goodIn_app (goodIn_of _ (by decide +kernel)) ggX2_ruleLine_X2_complain
theorem dX2_ruleLine_0 : decode cX2_ruleLine 0 = .ok (.aload_n 0, 1) := by decide +kernel
theorem dX2_ruleLine_1 : decode cX2_ruleLine 1 = .ok (.invokevirtual 97, 3) := by decide +kernel
theorem dX2_ruleLine_4 : decode cX2_ruleLine 4 = .ok (.aload_n 0, 1) := by decide +kernel
theorem dX2_ruleLine_5 : decode cX2_ruleLine 5 = .ok (.invokevirtual 54, 3) := by decide +kernel
theorem dX2_ruleLine_8 : decode cX2_ruleLine 8 = .ok (.iconst 2, 1) := by decide +kernel
theorem dX2_ruleLine_9 : decode cX2_ruleLine 9 = .ok (.if_icmp .eq 5, 3) := by decide +kernel
theorem dX2_ruleLine_12 : decode cX2_ruleLine 12 = .ok (.iconst 0, 1) := by decide +kernel
theorem dX2_ruleLine_13 : decode cX2_ruleLine 13 = .ok (.ireturn, 1) := by decide +kernel
theorem dX2_ruleLine_14 : decode cX2_ruleLine 14 = .ok (.aload_n 0, 1) := by decide +kernel
theorem dX2_ruleLine_15 : decode cX2_ruleLine 15 = .ok (.aload_n 0, 1) := by decide +kernel
theorem dX2_ruleLine_16 : decode cX2_ruleLine 16 = .ok (.invokevirtual 106, 3) := by decide +kernel
theorem dX2_ruleLine_19 : decode cX2_ruleLine 19 = .ok (.invokevirtual 110, 3) := by decide +kernel
theorem dX2_ruleLine_22 : decode cX2_ruleLine 22 = .ok (.aload_n 0, 1) := by decide +kernel
theorem dX2_ruleLine_23 : decode cX2_ruleLine 23 = .ok (.invokevirtual 97, 3) := by decide +kernel
theorem dX2_ruleLine_26 : decode cX2_ruleLine 26 = .ok (.iconst 0, 1) := by decide +kernel
theorem dX2_ruleLine_27 : decode cX2_ruleLine 27 = .ok (.istore_n 1, 1) := by decide +kernel
theorem dX2_ruleLine_28 : decode cX2_ruleLine 28 = .ok (.iload_n 1, 1) := by decide +kernel
theorem dX2_ruleLine_29 : decode cX2_ruleLine 29 = .ok (.sipush 400, 3) := by decide +kernel
theorem dX2_ruleLine_32 : decode cX2_ruleLine 32 = .ok (.if_icmp .ge 56, 3) := by decide +kernel
theorem dX2_ruleLine_35 : decode cX2_ruleLine 35 = .ok (.aload_n 0, 1) := by decide +kernel
theorem dX2_ruleLine_36 : decode cX2_ruleLine 36 = .ok (.invokevirtual 54, 3) := by decide +kernel
theorem dX2_ruleLine_39 : decode cX2_ruleLine 39 = .ok (.sipush 201, 3) := by decide +kernel
theorem dX2_ruleLine_42 : decode cX2_ruleLine 42 = .ok (.if_icmp .lt 46, 3) := by decide +kernel
theorem dX2_ruleLine_45 : decode cX2_ruleLine 45 = .ok (.aload_n 0, 1) := by decide +kernel
theorem dX2_ruleLine_46 : decode cX2_ruleLine 46 = .ok (.invokevirtual 54, 3) := by decide +kernel
theorem dX2_ruleLine_49 : decode cX2_ruleLine 49 = .ok (.sipush 204, 3) := by decide +kernel
theorem dX2_ruleLine_52 : decode cX2_ruleLine 52 = .ok (.if_icmp .gt 36, 3) := by decide +kernel
theorem dX2_ruleLine_55 : decode cX2_ruleLine 55 = .ok (.aload_n 0, 1) := by decide +kernel
theorem dX2_ruleLine_56 : decode cX2_ruleLine 56 = .ok (.getfield 32, 3) := by decide +kernel
theorem dX2_ruleLine_59 : decode cX2_ruleLine 59 = .ok (.aload_n 0, 1) := by decide +kernel
theorem dX2_ruleLine_60 : decode cX2_ruleLine 60 = .ok (.invokevirtual 54, 3) := by decide +kernel
theorem dX2_ruleLine_63 : decode cX2_ruleLine 63 = .ok (.sipush 201, 3) := by decide +kernel
theorem dX2_ruleLine_66 : decode cX2_ruleLine 66 = .ok (.isub, 1) := by decide +kernel
theorem dX2_ruleLine_67 : decode cX2_ruleLine 67 = .ok (.invokevirtual 114, 3) := by decide +kernel
theorem dX2_ruleLine_70 : decode cX2_ruleLine 70 = .ok (.ifCond .ne 8, 3) := by decide +kernel
theorem dX2_ruleLine_73 : decode cX2_ruleLine 73 = .ok (.aload_n 0, 1) := by decide +kernel
theorem dX2_ruleLine_74 : decode cX2_ruleLine 74 = .ok (.iconst 4, 1) := by decide +kernel
theorem dX2_ruleLine_75 : decode cX2_ruleLine 75 = .ok (.invokevirtual 81, 3) := by decide +kernel
theorem dX2_ruleLine_78 : decode cX2_ruleLine 78 = .ok (.aload_n 0, 1) := by decide +kernel
theorem dX2_ruleLine_79 : decode cX2_ruleLine 79 = .ok (.invokevirtual 97, 3) := by decide +kernel
theorem dX2_ruleLine_82 : decode cX2_ruleLine 82 = .ok (.iinc 1 1, 3) := by decide +kernel
theorem dX2_ruleLine_85 : decode cX2_ruleLine 85 = .ok (.goto (-57), 3) := by decide +kernel
theorem dX2_ruleLine_88 : decode cX2_ruleLine 88 = .ok (.iload_n 1, 1) := by decide +kernel
theorem dX2_ruleLine_89 : decode cX2_ruleLine 89 = .ok (.iconst 2, 1) := by decide +kernel
theorem dX2_ruleLine_90 : decode cX2_ruleLine 90 = .ok (.if_icmp .lt 7, 3) := by decide +kernel
theorem dX2_ruleLine_93 : decode cX2_ruleLine 93 = .ok (.iconst 1, 1) := by decide +kernel
theorem dX2_ruleLine_94 : decode cX2_ruleLine 94 = .ok (.goto 4, 3) := by decide +kernel
theorem dX2_ruleLine_97 : decode cX2_ruleLine 97 = .ok (.iconst 0, 1) := by decide +kernel
theorem dX2_ruleLine_98 : decode cX2_ruleLine 98 = .ok (.ireturn, 1) := by decide +kernel
set_option maxRecDepth 20000 in
theorem ggX2_nameRule_X2_indexOf : GoodIn wsX2_nameRule wsX2_indexOf := goodIn_r _ [7] (by decide +kernel) (by decide +kernel)
set_option maxRecDepth 20000 in
theorem gX2_nameRule_X2_indexOf : GoodIn wsX2_nameRule (va_wsS RX2 120 yX2_indexOf wsX2_indexOf) := goodIn_app (goodIn_of _ (by decide +kernel)) ggX2_nameRule_X2_indexOf
set_option maxRecDepth 20000 in
theorem ggX2_nameRule_X2_complain : GoodIn wsX2_nameRule wsX2_complain := goodIn_r _ [11, 12, 13, 14, 15, 16, 24, 25, 26, 27, 28, 29, 30, 31, 43, 44, 45, 46, 47, 48] (by decide +kernel) (by decide +kernel)
set_option maxRecDepth 20000 in
theorem gX2_nameRule_X2_complain : GoodIn wsX2_nameRule (wsV RX2 81 RX2 yX2_complain wsX2_complain) := goodIn_app (goodIn_of _ (by decide +kernel)) ggX2_nameRule_X2_complain
set_option maxRecDepth 20000 in
theorem ggX2_nameRule_X3_beginRule : GoodIn wsX2_nameRule wsX3_beginRule := goodIn_r _ [21, 22, 23, 32, 33, 34, 35, 36, 37, 38, 39, 40, 41, 42] (by decide +kernel) (by decide +kernel)
set_option maxRecDepth 20000 in
theorem gX2_nameRule_X3_beginRule : GoodIn wsX2_nameRule (wsV RX2 124 RX3 yX3_beginRule wsX3_beginRule) := goodIn_app (goodIn_of _ (by decide +kernel)) ggX2_nameRule_X3_beginRule
theorem dX2_nameRule_0 : decode cX2_nameRule 0 = .ok (.lload_n 1, 1) := by decide +kernel
theorem dX2_nameRule_1 : decode cX2_nameRule 1 = .ok (.aload_n 0, 1) := by decide +kernel
theorem dX2_nameRule_2 : decode cX2_nameRule 2 = .ok (.getfield 11, 3) := by decide +kernel
theorem dX2_nameRule_5 : decode cX2_nameRule 5 = .ok (.aload_n 0, 1) := by decide +kernel
theorem dX2_nameRule_6 : decode cX2_nameRule 6 = .ok (.getfield 32, 3) := by decide +kernel
theorem dX2_nameRule_9 : decode cX2_nameRule 9 = .ok (.getfield 117, 3) := by decide +kernel
theorem dX2_nameRule_12 : decode cX2_nameRule 12 = .ok (.invokestatic 120, 3) := by decide +kernel
theorem dX2_nameRule_15 : decode cX2_nameRule 15 = .ok (.ifCond .lt 8, 3) := by decide +kernel
theorem dX2_nameRule_18 : decode cX2_nameRule 18 = .ok (.aload_n 0, 1) := by decide +kernel
theorem dX2_nameRule_19 : decode cX2_nameRule 19 = .ok (.iconst 2, 1) := by decide +kernel
theorem dX2_nameRule_20 : decode cX2_nameRule 20 = .ok (.invokevirtual 81, 3) := by decide +kernel
theorem dX2_nameRule_23 : decode cX2_nameRule 23 = .ok (.aload_n 0, 1) := by decide +kernel
theorem dX2_nameRule_24 : decode cX2_nameRule 24 = .ok (.getfield 32, 3) := by decide +kernel
theorem dX2_nameRule_27 : decode cX2_nameRule 27 = .ok (.invokevirtual 124, 3) := by decide +kernel
theorem dX2_nameRule_30 : decode cX2_nameRule 30 = .ok (.ifCond .ne 11, 3) := by decide +kernel
theorem dX2_nameRule_33 : decode cX2_nameRule 33 = .ok (.aload_n 0, 1) := by decide +kernel
theorem dX2_nameRule_34 : decode cX2_nameRule 34 = .ok (.iconst 4, 1) := by decide +kernel
theorem dX2_nameRule_35 : decode cX2_nameRule 35 = .ok (.invokevirtual 81, 3) := by decide +kernel
theorem dX2_nameRule_38 : decode cX2_nameRule 38 = .ok (.goto 18, 3) := by decide +kernel
theorem dX2_nameRule_41 : decode cX2_nameRule 41 = .ok (.aload_n 0, 1) := by decide +kernel
theorem dX2_nameRule_42 : decode cX2_nameRule 42 = .ok (.getfield 11, 3) := by decide +kernel
theorem dX2_nameRule_45 : decode cX2_nameRule 45 = .ok (.aload_n 0, 1) := by decide +kernel
theorem dX2_nameRule_46 : decode cX2_nameRule 46 = .ok (.getfield 32, 3) := by decide +kernel
theorem dX2_nameRule_49 : decode cX2_nameRule 49 = .ok (.getfield 117, 3) := by decide +kernel
theorem dX2_nameRule_52 : decode cX2_nameRule 52 = .ok (.iconst 1, 1) := by decide +kernel
theorem dX2_nameRule_53 : decode cX2_nameRule 53 = .ok (.isub, 1) := by decide +kernel
theorem dX2_nameRule_54 : decode cX2_nameRule 54 = .ok (.lload_n 1, 1) := by decide +kernel
theorem dX2_nameRule_55 : decode cX2_nameRule 55 = .ok (.lastore, 1) := by decide +kernel
theorem dX2_nameRule_56 : decode cX2_nameRule 56 = .ok (.return_, 1) := by decide +kernel
theorem dX2_indexOf_0 : decode cX2_indexOf 0 = .ok (.iconst 0, 1) := by decide +kernel
theorem dX2_indexOf_1 : decode cX2_indexOf 1 = .ok (.istore 4, 2) := by decide +kernel
theorem dX2_indexOf_3 : decode cX2_indexOf 3 = .ok (.iload 4, 2) := by decide +kernel
theorem dX2_indexOf_5 : decode cX2_indexOf 5 = .ok (.iload_n 3, 1) := by decide +kernel
theorem dX2_indexOf_6 : decode cX2_indexOf 6 = .ok (.if_icmp .ge 28, 3) := by decide +kernel
theorem dX2_indexOf_9 : decode cX2_indexOf 9 = .ok (.iload 4, 2) := by decide +kernel
theorem dX2_indexOf_11 : decode cX2_indexOf 11 = .ok (.aload_n 2, 1) := by decide +kernel
theorem dX2_indexOf_12 : decode cX2_indexOf 12 = .ok (.arraylength, 1) := by decide +kernel
theorem dX2_indexOf_13 : decode cX2_indexOf 13 = .ok (.if_icmp .ge 21, 3) := by decide +kernel
theorem dX2_indexOf_16 : decode cX2_indexOf 16 = .ok (.aload_n 2, 1) := by decide +kernel
theorem dX2_indexOf_17 : decode cX2_indexOf 17 = .ok (.iload 4, 2) := by decide +kernel
theorem dX2_indexOf_19 : decode cX2_indexOf 19 = .ok (.laload, 1) := by decide +kernel
theorem dX2_indexOf_20 : decode cX2_indexOf 20 = .ok (.lload_n 0, 1) := by decide +kernel
theorem dX2_indexOf_21 : decode cX2_indexOf 21 = .ok (.lcmp, 1) := by decide +kernel
theorem dX2_indexOf_22 : decode cX2_indexOf 22 = .ok (.ifCond .ne 6, 3) := by decide +kernel
theorem dX2_indexOf_25 : decode cX2_indexOf 25 = .ok (.iload 4, 2) := by decide +kernel
theorem dX2_indexOf_27 : decode cX2_indexOf 27 = .ok (.ireturn, 1) := by decide +kernel
theorem dX2_indexOf_28 : decode cX2_indexOf 28 = .ok (.iinc 4 1, 3) := by decide +kernel
theorem dX2_indexOf_31 : decode cX2_indexOf 31 = .ok (.goto (-28), 3) := by decide +kernel
theorem dX2_indexOf_34 : decode cX2_indexOf 34 = .ok (.iconst (-1), 1) := by decide +kernel
theorem dX2_indexOf_35 : decode cX2_indexOf 35 = .ok (.ireturn, 1) := by decide +kernel
set_option maxRecDepth 20000 in
theorem ggX2_antLine_X2_advance : GoodIn wsX2_antLine wsX2_advance := goodIn_r _ [9, 10, 11, 12, 96, 97, 98, 99, 100, 101, 102, 103, 124, 125, 126, 127, 128, 129] (by decide +kernel) (by decide +kernel)
set_option maxRecDepth 20000 in
theorem gX2_antLine_X2_advance : GoodIn wsX2_antLine (wsV RX2 97 RX2 yX2_advance wsX2_advance) := goodIn_app (goodIn_of _ (by decide +kernel)) ggX2_antLine_X2_advance
set_option maxRecDepth 20000 in
theorem ggX2_antLine_X2_kind : GoodIn wsX2_antLine wsX2_kind := goodIn_r _ [16, 10, 11, 17, 96, 97, 98, 99, 100, 101, 102, 103, 124, 125, 126, 127, 128, 129] (by decide +kernel) (by decide +kernel)
set_option maxRecDepth 20000 in
theorem gX2_antLine_X2_kind : GoodIn wsX2_antLine (wsV RX2 54 RX2 yX2_kind wsX2_kind) := goodIn_app (goodIn_of _ (by decide +kernel)) ggX2_antLine_X2_kind
set_option maxRecDepth 20000 in
theorem ggX2_antLine_X2_value : GoodIn wsX2_antLine wsX2_value := goodIn_r _ [21, 10, 11, 22, 96, 97, 98, 99, 100, 101, 102, 103, 124, 125, 126, 127, 128, 129] (by decide +kernel) (by decide +kernel)
set_option maxRecDepth 20000 in
theorem gX2_antLine_X2_value : GoodIn wsX2_antLine (wsV RX2 106 RX2 yX2_value wsX2_value) := goodIn_app (goodIn_of _ (by decide +kernel)) ggX2_antLine_X2_value
set_option maxRecDepth 20000 in
theorem ggX2_antLine_X2_nameAnt : GoodIn wsX2_antLine wsX2_nameAnt := goodIn_r _ [26, 27, 28, 29, 30, 31, 8, 32, 33, 34, 35, 36, 37, 10, 11, 38, 39, 40, 41, 42, 43, 44, 45, 46, 47, 48, 49, 50, 51, 52, 53, 54, 55, 56, 57, 58, 59, 60, 61, 62, 63, 64, 65, 66, 67, 96, 97, 98, 99, 100, 101, 102, 103, 130, 131, 132, 133, 134, 135, 136, 137, 138, 124, 125, 126, 127, 128, 129, 115, 116, 117, 118, 119, 120, 121, 122, 123] (by decide +kernel) (by decide +kernel)
set_option maxRecDepth 20000 in
theorem gX2_antLine_X2_nameAnt : GoodIn wsX2_antLine (wsV RX2 127 RX2 yX2_nameAnt wsX2_nameAnt) := goodIn_app (goodIn_of _ (by decide +kernel)) ggX2_antLine_X2_nameAnt
set_option maxRecDepth 20000 in
theorem ggX2_antLine_X2_take : GoodIn wsX2_antLine wsX2_take := goodIn_r _ [71, 13, 14, 15, 8, 16, 10, 11, 17, 5, 6, 7, 9, 12, 96, 97, 98, 99, 100, 101, 102, 103, 124, 125, 126, 127, 128, 129] (by decide +kernel) (by decide +kernel)
set_option maxRecDepth 20000 in
theorem gX2_antLine_X2_take : GoodIn wsX2_antLine (wsV RX2 77 RX2 yX2_take wsX2_take) := goodIn_app (goodIn_of _ (by decide +kernel)) ggX2_antLine_X2_take
set_option maxRecDepth 20000 in
theorem ggX2_antLine_X2_knownName : GoodIn wsX2_antLine wsX2_knownName := goodIn_r _ [75, 18, 19, 20, 8, 21, 10, 11, 22, 30, 31, 32, 33, 34, 35, 36, 37, 38, 39, 5, 6, 7, 9, 12, 96, 97, 98, 99, 100, 101, 102, 103, 124, 125, 126, 127, 128, 129] (by decide +kernel) (by decide +kernel)
set_option maxRecDepth 20000 in
theorem gX2_antLine_X2_knownName : GoodIn wsX2_antLine (wsV RX2 131 RX2 yX2_knownName wsX2_knownName) := goodIn_app (goodIn_of _ (by decide +kernel)) ggX2_antLine_X2_knownName
set_option maxRecDepth 20000 in
theorem ggX2_antLine_X2_rangedNumber : GoodIn wsX2_antLine wsX2_rangedNumber := goodIn_r _ [79, 18, 19, 20, 8, 21, 10, 11, 22, 33, 34, 35, 36, 37, 38, 39, 5, 6, 7, 9, 12, 96, 97, 98, 99, 100, 101, 102, 103, 124, 125, 126, 127, 128, 129] (by decide +kernel) (by decide +kernel)
set_option maxRecDepth 20000 in
theorem gX2_antLine_X2_rangedNumber : GoodIn wsX2_antLine (wsV RX2 140 RX2 yX2_rangedNumber wsX2_rangedNumber) := goodIn_app (goodIn_of _ (by decide +kernel)) ggX2_antLine_X2_rangedNumber
set_option maxRecDepth 20000 in
theorem ggX2_antLine_X0_moveTo : GoodIn wsX2_antLine wsX0_moveTo := goodIn_r _ [83, 53, 54, 58, 59, 60, 50, 61, 62, 63, 115, 116, 117, 118, 119, 120, 121, 122, 123] (by decide +kernel) (by decide +kernel)
set_option maxRecDepth 20000 in
theorem gX2_antLine_X0_moveTo : GoodIn wsX2_antLine (wsV RX2 144 RX0 yX0_moveTo wsX0_moveTo) := goodIn_app (goodIn_of _ (by decide +kernel)) ggX2_antLine_X0_moveTo
set_option maxRecDepth 20000 in
theorem ggX2_antLine_X2_isSide : GoodIn wsX2_antLine wsX2_isSide := goodIn_r _ [87, 13, 14, 15, 8, 16, 10, 11, 17, 96, 97, 98, 99, 100, 101, 102, 103, 124, 125, 126, 127, 128, 129] (by decide +kernel) (by decide +kernel)
set_option maxRecDepth 20000 in
theorem gX2_antLine_X2_isSide : GoodIn wsX2_antLine (wsV RX2 148 RX2 yX2_isSide wsX2_isSide) := goodIn_app (goodIn_of _ (by decide +kernel)) ggX2_antLine_X2_isSide
set_option maxRecDepth 20000 in
theorem ggX2_antLine_X2_takeSide : GoodIn wsX2_antLine wsX2_takeSide := goodIn_r _ [91, 13, 14, 15, 8, 16, 10, 11, 17, 5, 6, 7, 9, 12, 96, 97, 98, 99, 100, 101, 102, 103, 124, 125, 126, 127, 128, 129] (by decide +kernel) (by decide +kernel)
set_option maxRecDepth 20000 in
theorem gX2_antLine_X2_takeSide : GoodIn wsX2_antLine (wsV RX2 151 RX2 yX2_takeSide wsX2_takeSide) := goodIn_app (goodIn_of _ (by decide +kernel)) ggX2_antLine_X2_takeSide
set_option maxRecDepth 20000 in
theorem ggX2_antLine_X0_turnTo : GoodIn wsX2_antLine wsX0_turnTo := goodIn_r _ [95, 55, 58, 59, 60, 50, 61, 62, 63, 115, 116, 117, 118, 119, 120, 121, 122, 123] (by decide +kernel) (by decide +kernel)
set_option maxRecDepth 20000 in
theorem gX2_antLine_X0_turnTo : GoodIn wsX2_antLine (wsV RX2 154 RX0 yX0_turnTo wsX0_turnTo) := goodIn_app (goodIn_of _ (by decide +kernel)) ggX2_antLine_X0_turnTo
theorem dX2_antLine_0 : decode cX2_antLine 0 = .ok (.aload_n 0, 1) := by decide +kernel
theorem dX2_antLine_1 : decode cX2_antLine 1 = .ok (.invokevirtual 97, 3) := by decide +kernel
theorem dX2_antLine_4 : decode cX2_antLine 4 = .ok (.aload_n 0, 1) := by decide +kernel
theorem dX2_antLine_5 : decode cX2_antLine 5 = .ok (.invokevirtual 54, 3) := by decide +kernel
theorem dX2_antLine_8 : decode cX2_antLine 8 = .ok (.iconst 2, 1) := by decide +kernel
theorem dX2_antLine_9 : decode cX2_antLine 9 = .ok (.if_icmp .eq 5, 3) := by decide +kernel
theorem dX2_antLine_12 : decode cX2_antLine 12 = .ok (.iconst 0, 1) := by decide +kernel
theorem dX2_antLine_13 : decode cX2_antLine 13 = .ok (.ireturn, 1) := by decide +kernel
theorem dX2_antLine_14 : decode cX2_antLine 14 = .ok (.aload_n 0, 1) := by decide +kernel
theorem dX2_antLine_15 : decode cX2_antLine 15 = .ok (.aload_n 0, 1) := by decide +kernel
theorem dX2_antLine_16 : decode cX2_antLine 16 = .ok (.invokevirtual 106, 3) := by decide +kernel
theorem dX2_antLine_19 : decode cX2_antLine 19 = .ok (.invokevirtual 127, 3) := by decide +kernel
theorem dX2_antLine_22 : decode cX2_antLine 22 = .ok (.astore_n 1, 1) := by decide +kernel
theorem dX2_antLine_23 : decode cX2_antLine 23 = .ok (.aload_n 0, 1) := by decide +kernel
theorem dX2_antLine_24 : decode cX2_antLine 24 = .ok (.invokevirtual 97, 3) := by decide +kernel
theorem dX2_antLine_27 : decode cX2_antLine 27 = .ok (.aload_n 0, 1) := by decide +kernel
theorem dX2_antLine_28 : decode cX2_antLine 28 = .ok (.sipush 206, 3) := by decide +kernel
theorem dX2_antLine_31 : decode cX2_antLine 31 = .ok (.invokevirtual 77, 3) := by decide +kernel
theorem dX2_antLine_34 : decode cX2_antLine 34 = .ok (.ifCond .eq 11, 3) := by decide +kernel
theorem dX2_antLine_37 : decode cX2_antLine 37 = .ok (.aload_n 0, 1) := by decide +kernel
theorem dX2_antLine_38 : decode cX2_antLine 38 = .ok (.invokevirtual 54, 3) := by decide +kernel
theorem dX2_antLine_41 : decode cX2_antLine 41 = .ok (.iconst 2, 1) := by decide +kernel
theorem dX2_antLine_42 : decode cX2_antLine 42 = .ok (.if_icmp .eq 5, 3) := by decide +kernel
theorem dX2_antLine_45 : decode cX2_antLine 45 = .ok (.iconst 0, 1) := by decide +kernel
theorem dX2_antLine_46 : decode cX2_antLine 46 = .ok (.ireturn, 1) := by decide +kernel
theorem dX2_antLine_47 : decode cX2_antLine 47 = .ok (.aload_n 1, 1) := by decide +kernel
theorem dX2_antLine_48 : decode cX2_antLine 48 = .ok (.aload_n 0, 1) := by decide +kernel
theorem dX2_antLine_49 : decode cX2_antLine 49 = .ok (.aload_n 0, 1) := by decide +kernel
theorem dX2_antLine_50 : decode cX2_antLine 50 = .ok (.getfield 11, 3) := by decide +kernel
theorem dX2_antLine_53 : decode cX2_antLine 53 = .ok (.aload_n 0, 1) := by decide +kernel
theorem dX2_antLine_54 : decode cX2_antLine 54 = .ok (.getfield 32, 3) := by decide +kernel
theorem dX2_antLine_57 : decode cX2_antLine 57 = .ok (.getfield 117, 3) := by decide +kernel
theorem dX2_antLine_60 : decode cX2_antLine 60 = .ok (.invokevirtual 131, 3) := by decide +kernel
theorem dX2_antLine_63 : decode cX2_antLine 63 = .ok (.putfield 135, 3) := by decide +kernel
theorem dX2_antLine_66 : decode cX2_antLine 66 = .ok (.aload_n 0, 1) := by decide +kernel
theorem dX2_antLine_67 : decode cX2_antLine 67 = .ok (.sipush 207, 3) := by decide +kernel
theorem dX2_antLine_70 : decode cX2_antLine 70 = .ok (.invokevirtual 77, 3) := by decide +kernel
theorem dX2_antLine_73 : decode cX2_antLine 73 = .ok (.ifCond .eq 11, 3) := by decide +kernel
theorem dX2_antLine_76 : decode cX2_antLine 76 = .ok (.aload_n 0, 1) := by decide +kernel
theorem dX2_antLine_77 : decode cX2_antLine 77 = .ok (.invokevirtual 54, 3) := by decide +kernel
theorem dX2_antLine_80 : decode cX2_antLine 80 = .ok (.iconst 3, 1) := by decide +kernel
theorem dX2_antLine_81 : decode cX2_antLine 81 = .ok (.if_icmp .eq 5, 3) := by decide +kernel
theorem dX2_antLine_84 : decode cX2_antLine 84 = .ok (.iconst 0, 1) := by decide +kernel
theorem dX2_antLine_85 : decode cX2_antLine 85 = .ok (.ireturn, 1) := by decide +kernel
theorem dX2_antLine_86 : decode cX2_antLine 86 = .ok (.aload_n 0, 1) := by decide +kernel
theorem dX2_antLine_87 : decode cX2_antLine 87 = .ok (.iconst 0, 1) := by decide +kernel
theorem dX2_antLine_88 : decode cX2_antLine 88 = .ok (.bipush 63, 2) := by decide +kernel
theorem dX2_antLine_90 : decode cX2_antLine 90 = .ok (.invokevirtual 140, 3) := by decide +kernel
theorem dX2_antLine_93 : decode cX2_antLine 93 = .ok (.istore_n 2, 1) := by decide +kernel
theorem dX2_antLine_94 : decode cX2_antLine 94 = .ok (.aload_n 0, 1) := by decide +kernel
theorem dX2_antLine_95 : decode cX2_antLine 95 = .ok (.invokevirtual 54, 3) := by decide +kernel
theorem dX2_antLine_98 : decode cX2_antLine 98 = .ok (.iconst 3, 1) := by decide +kernel
theorem dX2_antLine_99 : decode cX2_antLine 99 = .ok (.if_icmp .eq 5, 3) := by decide +kernel
theorem dX2_antLine_102 : decode cX2_antLine 102 = .ok (.iconst 0, 1) := by decide +kernel
theorem dX2_antLine_103 : decode cX2_antLine 103 = .ok (.ireturn, 1) := by decide +kernel
theorem dX2_antLine_104 : decode cX2_antLine 104 = .ok (.aload_n 1, 1) := by decide +kernel
theorem dX2_antLine_105 : decode cX2_antLine 105 = .ok (.iload_n 2, 1) := by decide +kernel
theorem dX2_antLine_106 : decode cX2_antLine 106 = .ok (.aload_n 0, 1) := by decide +kernel
theorem dX2_antLine_107 : decode cX2_antLine 107 = .ok (.iconst 0, 1) := by decide +kernel
theorem dX2_antLine_108 : decode cX2_antLine 108 = .ok (.bipush 63, 2) := by decide +kernel
theorem dX2_antLine_110 : decode cX2_antLine 110 = .ok (.invokevirtual 140, 3) := by decide +kernel
theorem dX2_antLine_113 : decode cX2_antLine 113 = .ok (.invokevirtual 144, 3) := by decide +kernel
theorem dX2_antLine_116 : decode cX2_antLine 116 = .ok (.aload_n 0, 1) := by decide +kernel
theorem dX2_antLine_117 : decode cX2_antLine 117 = .ok (.sipush 208, 3) := by decide +kernel
theorem dX2_antLine_120 : decode cX2_antLine 120 = .ok (.invokevirtual 77, 3) := by decide +kernel
theorem dX2_antLine_123 : decode cX2_antLine 123 = .ok (.ifCond .eq 10, 3) := by decide +kernel
theorem dX2_antLine_126 : decode cX2_antLine 126 = .ok (.aload_n 0, 1) := by decide +kernel
theorem dX2_antLine_127 : decode cX2_antLine 127 = .ok (.invokevirtual 148, 3) := by decide +kernel
theorem dX2_antLine_130 : decode cX2_antLine 130 = .ok (.ifCond .ne 5, 3) := by decide +kernel
theorem dX2_antLine_133 : decode cX2_antLine 133 = .ok (.iconst 0, 1) := by decide +kernel
theorem dX2_antLine_134 : decode cX2_antLine 134 = .ok (.ireturn, 1) := by decide +kernel
theorem dX2_antLine_135 : decode cX2_antLine 135 = .ok (.aload_n 1, 1) := by decide +kernel
theorem dX2_antLine_136 : decode cX2_antLine 136 = .ok (.aload_n 0, 1) := by decide +kernel
theorem dX2_antLine_137 : decode cX2_antLine 137 = .ok (.invokevirtual 151, 3) := by decide +kernel
theorem dX2_antLine_140 : decode cX2_antLine 140 = .ok (.invokevirtual 154, 3) := by decide +kernel
theorem dX2_antLine_143 : decode cX2_antLine 143 = .ok (.iconst 1, 1) := by decide +kernel
theorem dX2_antLine_144 : decode cX2_antLine 144 = .ok (.ireturn, 1) := by decide +kernel
set_option maxRecDepth 20000 in
theorem ggX2_nameAnt_X2_indexOf : GoodIn wsX2_nameAnt wsX2_indexOf := goodIn_r _ [7] (by decide +kernel) (by decide +kernel)
set_option maxRecDepth 20000 in
theorem gX2_nameAnt_X2_indexOf : GoodIn wsX2_nameAnt (va_wsS RX2 120 yX2_indexOf wsX2_indexOf) := goodIn_app (goodIn_of _ (by decide +kernel)) ggX2_nameAnt_X2_indexOf
set_option maxRecDepth 20000 in
theorem ggX2_nameAnt_X2_complain : GoodIn wsX2_nameAnt wsX2_complain := goodIn_r _ [11, 12, 13, 14, 15, 16, 45, 46, 47, 48, 49, 50, 51, 52, 62, 63, 64, 65, 66, 67] (by decide +kernel) (by decide +kernel)
set_option maxRecDepth 20000 in
theorem gX2_nameAnt_X2_complain : GoodIn wsX2_nameAnt (wsV RX2 81 RX2 yX2_complain wsX2_complain) := goodIn_app (goodIn_of _ (by decide +kernel)) ggX2_nameAnt_X2_complain
set_option maxRecDepth 20000 in
theorem ggX2_nameAnt_X8_beginAnt : GoodIn wsX2_nameAnt wsX8_beginAnt := goodIn_r _ [21, 22, 23, 24, 25, 26, 27, 28, 29, 30, 31, 32, 33, 34, 35, 36, 37, 38, 39, 40, 53, 54, 55, 56, 57, 58, 59, 60, 61, 68, 69, 70, 71, 72, 73, 74, 75, 76] (by decide +kernel) (by decide +kernel)
set_option maxRecDepth 20000 in
theorem gX2_nameAnt_X8_beginAnt : GoodIn wsX2_nameAnt (wsV RX2 160 RX8 yX8_beginAnt wsX8_beginAnt) := goodIn_app (goodIn_of _ (by decide +kernel)) ggX2_nameAnt_X8_beginAnt
set_option maxRecDepth 20000 in
theorem ggX2_nameAnt_X8_latestAnt : GoodIn wsX2_nameAnt wsX8_latestAnt := goodIn_r _ [44, 23, 22, 53, 54, 55, 56, 57, 58, 59, 60, 61] (by decide +kernel) (by decide +kernel)
set_option maxRecDepth 20000 in
theorem gX2_nameAnt_X8_latestAnt : GoodIn wsX2_nameAnt (wsV RX2 163 RX8 yX8_latestAnt wsX8_latestAnt) := goodIn_app (goodIn_of _ (by decide +kernel)) ggX2_nameAnt_X8_latestAnt
theorem dX2_nameAnt_0 : decode cX2_nameAnt 0 = .ok (.lload_n 1, 1) := by decide +kernel
theorem dX2_nameAnt_1 : decode cX2_nameAnt 1 = .ok (.aload_n 0, 1) := by decide +kernel
theorem dX2_nameAnt_2 : decode cX2_nameAnt 2 = .ok (.getfield 19, 3) := by decide +kernel
theorem dX2_nameAnt_5 : decode cX2_nameAnt 5 = .ok (.aload_n 0, 1) := by decide +kernel
theorem dX2_nameAnt_6 : decode cX2_nameAnt 6 = .ok (.getfield 36, 3) := by decide +kernel
theorem dX2_nameAnt_9 : decode cX2_nameAnt 9 = .ok (.getfield 157, 3) := by decide +kernel
theorem dX2_nameAnt_12 : decode cX2_nameAnt 12 = .ok (.invokestatic 120, 3) := by decide +kernel
theorem dX2_nameAnt_15 : decode cX2_nameAnt 15 = .ok (.ifCond .lt 8, 3) := by decide +kernel
theorem dX2_nameAnt_18 : decode cX2_nameAnt 18 = .ok (.aload_n 0, 1) := by decide +kernel
theorem dX2_nameAnt_19 : decode cX2_nameAnt 19 = .ok (.iconst 2, 1) := by decide +kernel
theorem dX2_nameAnt_20 : decode cX2_nameAnt 20 = .ok (.invokevirtual 81, 3) := by decide +kernel
theorem dX2_nameAnt_23 : decode cX2_nameAnt 23 = .ok (.aload_n 0, 1) := by decide +kernel
theorem dX2_nameAnt_24 : decode cX2_nameAnt 24 = .ok (.getfield 36, 3) := by decide +kernel
theorem dX2_nameAnt_27 : decode cX2_nameAnt 27 = .ok (.invokevirtual 160, 3) := by decide +kernel
theorem dX2_nameAnt_30 : decode cX2_nameAnt 30 = .ok (.ifCond .ne 11, 3) := by decide +kernel
theorem dX2_nameAnt_33 : decode cX2_nameAnt 33 = .ok (.aload_n 0, 1) := by decide +kernel
theorem dX2_nameAnt_34 : decode cX2_nameAnt 34 = .ok (.iconst 4, 1) := by decide +kernel
theorem dX2_nameAnt_35 : decode cX2_nameAnt 35 = .ok (.invokevirtual 81, 3) := by decide +kernel
theorem dX2_nameAnt_38 : decode cX2_nameAnt 38 = .ok (.goto 18, 3) := by decide +kernel
theorem dX2_nameAnt_41 : decode cX2_nameAnt 41 = .ok (.aload_n 0, 1) := by decide +kernel
theorem dX2_nameAnt_42 : decode cX2_nameAnt 42 = .ok (.getfield 19, 3) := by decide +kernel
theorem dX2_nameAnt_45 : decode cX2_nameAnt 45 = .ok (.aload_n 0, 1) := by decide +kernel
theorem dX2_nameAnt_46 : decode cX2_nameAnt 46 = .ok (.getfield 36, 3) := by decide +kernel
theorem dX2_nameAnt_49 : decode cX2_nameAnt 49 = .ok (.getfield 157, 3) := by decide +kernel
theorem dX2_nameAnt_52 : decode cX2_nameAnt 52 = .ok (.iconst 1, 1) := by decide +kernel
theorem dX2_nameAnt_53 : decode cX2_nameAnt 53 = .ok (.isub, 1) := by decide +kernel
theorem dX2_nameAnt_54 : decode cX2_nameAnt 54 = .ok (.lload_n 1, 1) := by decide +kernel
theorem dX2_nameAnt_55 : decode cX2_nameAnt 55 = .ok (.lastore, 1) := by decide +kernel
theorem dX2_nameAnt_56 : decode cX2_nameAnt 56 = .ok (.aload_n 0, 1) := by decide +kernel
theorem dX2_nameAnt_57 : decode cX2_nameAnt 57 = .ok (.getfield 36, 3) := by decide +kernel
theorem dX2_nameAnt_60 : decode cX2_nameAnt 60 = .ok (.invokevirtual 163, 3) := by decide +kernel
theorem dX2_nameAnt_63 : decode cX2_nameAnt 63 = .ok (.areturn, 1) := by decide +kernel
set_option maxRecDepth 20000 in
theorem ggX2_paintLine_X2_advance : GoodIn wsX2_paintLine wsX2_advance := goodIn_r _ [6, 7, 8, 9, 46, 47, 48, 49, 50, 51, 52, 53, 54, 55, 56, 57, 58, 59] (by decide +kernel) (by decide +kernel)
set_option maxRecDepth 20000 in
theorem gX2_paintLine_X2_advance : GoodIn wsX2_paintLine (wsV RX2 97 RX2 yX2_advance wsX2_advance) := goodIn_app (goodIn_of _ (by decide +kernel)) ggX2_paintLine_X2_advance
set_option maxRecDepth 20000 in
theorem ggX2_paintLine_X2_kind : GoodIn wsX2_paintLine wsX2_kind := goodIn_r _ [13, 7, 8, 14, 46, 47, 48, 49, 50, 51, 52, 53, 54, 55, 56, 57, 58, 59] (by decide +kernel) (by decide +kernel)
set_option maxRecDepth 20000 in
theorem gX2_paintLine_X2_kind : GoodIn wsX2_paintLine (wsV RX2 54 RX2 yX2_kind wsX2_kind) := goodIn_app (goodIn_of _ (by decide +kernel)) ggX2_paintLine_X2_kind
set_option maxRecDepth 20000 in
theorem ggX2_paintLine_X2_rangedNumber : GoodIn wsX2_paintLine wsX2_rangedNumber := goodIn_r _ [18, 19, 20, 21, 5, 22, 7, 8, 23, 24, 25, 26, 27, 28, 29, 30, 2, 3, 4, 6, 9, 46, 47, 48, 49, 50, 51, 52, 53, 54, 55, 56, 57, 58, 59] (by decide +kernel) (by decide +kernel)
set_option maxRecDepth 20000 in
theorem gX2_paintLine_X2_rangedNumber : GoodIn wsX2_paintLine (wsV RX2 140 RX2 yX2_rangedNumber wsX2_rangedNumber) := goodIn_app (goodIn_of _ (by decide +kernel)) ggX2_paintLine_X2_rangedNumber
set_option maxRecDepth 20000 in
theorem ggX2_paintLine_X8_setStone : GoodIn wsX2_paintLine wsX8_setStone := goodIn_r _ [35, 36, 37, 38, 39, 40, 41, 34, 42, 43, 44, 45, 60, 61, 62, 63, 64, 65, 66, 67, 68] (by decide +kernel) (by decide +kernel)
set_option maxRecDepth 20000 in
theorem gX2_paintLine_X8_setStone : GoodIn wsX2_paintLine (wsV RX2 167 RX8 yX8_setStone wsX8_setStone) := goodIn_app (goodIn_of _ (by decide +kernel)) ggX2_paintLine_X8_setStone
theorem dX2_paintLine_0 : decode cX2_paintLine 0 = .ok (.aload_n 0, 1) := by decide +kernel
theorem dX2_paintLine_1 : decode cX2_paintLine 1 = .ok (.invokevirtual 97, 3) := by decide +kernel
theorem dX2_paintLine_4 : decode cX2_paintLine 4 = .ok (.aload_n 0, 1) := by decide +kernel
theorem dX2_paintLine_5 : decode cX2_paintLine 5 = .ok (.invokevirtual 54, 3) := by decide +kernel
theorem dX2_paintLine_8 : decode cX2_paintLine 8 = .ok (.iconst 3, 1) := by decide +kernel
theorem dX2_paintLine_9 : decode cX2_paintLine 9 = .ok (.if_icmp .eq 5, 3) := by decide +kernel
theorem dX2_paintLine_12 : decode cX2_paintLine 12 = .ok (.iconst 0, 1) := by decide +kernel
theorem dX2_paintLine_13 : decode cX2_paintLine 13 = .ok (.ireturn, 1) := by decide +kernel
theorem dX2_paintLine_14 : decode cX2_paintLine 14 = .ok (.aload_n 0, 1) := by decide +kernel
theorem dX2_paintLine_15 : decode cX2_paintLine 15 = .ok (.iconst 0, 1) := by decide +kernel
theorem dX2_paintLine_16 : decode cX2_paintLine 16 = .ok (.bipush 63, 2) := by decide +kernel
theorem dX2_paintLine_18 : decode cX2_paintLine 18 = .ok (.invokevirtual 140, 3) := by decide +kernel
theorem dX2_paintLine_21 : decode cX2_paintLine 21 = .ok (.istore_n 1, 1) := by decide +kernel
theorem dX2_paintLine_22 : decode cX2_paintLine 22 = .ok (.aload_n 0, 1) := by decide +kernel
theorem dX2_paintLine_23 : decode cX2_paintLine 23 = .ok (.invokevirtual 54, 3) := by decide +kernel
theorem dX2_paintLine_26 : decode cX2_paintLine 26 = .ok (.iconst 3, 1) := by decide +kernel
theorem dX2_paintLine_27 : decode cX2_paintLine 27 = .ok (.if_icmp .eq 5, 3) := by decide +kernel
theorem dX2_paintLine_30 : decode cX2_paintLine 30 = .ok (.iconst 0, 1) := by decide +kernel
theorem dX2_paintLine_31 : decode cX2_paintLine 31 = .ok (.ireturn, 1) := by decide +kernel
theorem dX2_paintLine_32 : decode cX2_paintLine 32 = .ok (.aload_n 0, 1) := by decide +kernel
theorem dX2_paintLine_33 : decode cX2_paintLine 33 = .ok (.iconst 0, 1) := by decide +kernel
theorem dX2_paintLine_34 : decode cX2_paintLine 34 = .ok (.bipush 63, 2) := by decide +kernel
theorem dX2_paintLine_36 : decode cX2_paintLine 36 = .ok (.invokevirtual 140, 3) := by decide +kernel
theorem dX2_paintLine_39 : decode cX2_paintLine 39 = .ok (.istore_n 2, 1) := by decide +kernel
theorem dX2_paintLine_40 : decode cX2_paintLine 40 = .ok (.aload_n 0, 1) := by decide +kernel
theorem dX2_paintLine_41 : decode cX2_paintLine 41 = .ok (.invokevirtual 54, 3) := by decide +kernel
theorem dX2_paintLine_44 : decode cX2_paintLine 44 = .ok (.iconst 3, 1) := by decide +kernel
theorem dX2_paintLine_45 : decode cX2_paintLine 45 = .ok (.if_icmp .eq 5, 3) := by decide +kernel
theorem dX2_paintLine_48 : decode cX2_paintLine 48 = .ok (.iconst 0, 1) := by decide +kernel
theorem dX2_paintLine_49 : decode cX2_paintLine 49 = .ok (.ireturn, 1) := by decide +kernel
theorem dX2_paintLine_50 : decode cX2_paintLine 50 = .ok (.aload_n 0, 1) := by decide +kernel
theorem dX2_paintLine_51 : decode cX2_paintLine 51 = .ok (.getfield 36, 3) := by decide +kernel
theorem dX2_paintLine_54 : decode cX2_paintLine 54 = .ok (.iload_n 2, 1) := by decide +kernel
theorem dX2_paintLine_55 : decode cX2_paintLine 55 = .ok (.bipush 64, 2) := by decide +kernel
theorem dX2_paintLine_57 : decode cX2_paintLine 57 = .ok (.imul, 1) := by decide +kernel
theorem dX2_paintLine_58 : decode cX2_paintLine 58 = .ok (.iload_n 1, 1) := by decide +kernel
theorem dX2_paintLine_59 : decode cX2_paintLine 59 = .ok (.iadd, 1) := by decide +kernel
theorem dX2_paintLine_60 : decode cX2_paintLine 60 = .ok (.aload_n 0, 1) := by decide +kernel
theorem dX2_paintLine_61 : decode cX2_paintLine 61 = .ok (.iconst 0, 1) := by decide +kernel
theorem dX2_paintLine_62 : decode cX2_paintLine 62 = .ok (.iconst 5, 1) := by decide +kernel
theorem dX2_paintLine_63 : decode cX2_paintLine 63 = .ok (.invokevirtual 140, 3) := by decide +kernel
theorem dX2_paintLine_66 : decode cX2_paintLine 66 = .ok (.invokevirtual 167, 3) := by decide +kernel
theorem dX2_paintLine_69 : decode cX2_paintLine 69 = .ok (.iconst 1, 1) := by decide +kernel
theorem dX2_paintLine_70 : decode cX2_paintLine 70 = .ok (.ireturn, 1) := by decide +kernel
set_option maxRecDepth 20000 in
theorem ggX2_washLine_X2_takeOrderWord : GoodIn wsX2_washLine wsX2_takeOrderWord := goodIn_r _ [6, 1, 7, 8, 9, 5, 10, 11, 12, 13, 14, 15, 16, 17, 18, 19, 20, 21, 22, 23, 24, 25, 26, 27, 28, 29, 30, 31, 32, 33, 34, 35, 36, 121, 122, 123, 124, 125, 126, 127, 128, 129, 130, 131, 132, 133, 134, 135, 136, 137, 138, 139, 140, 141, 142, 143, 144, 145] (by decide +kernel) (by decide +kernel)
set_option maxRecDepth 20000 in
theorem gX2_washLine_X2_takeOrderWord : GoodIn wsX2_washLine (wsV RX2 170 RX2 yX2_takeOrderWord wsX2_takeOrderWord) := goodIn_app (goodIn_of _ (by decide +kernel)) ggX2_washLine_X2_takeOrderWord
set_option maxRecDepth 20000 in
theorem ggX2_washLine_X2_kind : GoodIn wsX2_washLine wsX2_kind := goodIn_r _ [10, 11, 12, 13, 121, 122, 123, 124, 125, 126, 127, 128, 129, 130, 131, 132, 133, 134] (by decide +kernel) (by decide +kernel)
set_option maxRecDepth 20000 in
theorem gX2_washLine_X2_kind : GoodIn wsX2_washLine (wsV RX2 54 RX2 yX2_kind wsX2_kind) := goodIn_app (goodIn_of _ (by decide +kernel)) ggX2_washLine_X2_kind
set_option maxRecDepth 20000 in
theorem ggX2_washLine_X2_rangedNumber : GoodIn wsX2_washLine wsX2_rangedNumber := goodIn_r _ [40, 41, 42, 43, 5, 44, 11, 12, 45, 25, 26, 27, 28, 29, 30, 31, 32, 33, 34, 35, 36, 121, 122, 123, 124, 125, 126, 127, 128, 129, 130, 131, 132, 133, 134] (by decide +kernel) (by decide +kernel)
set_option maxRecDepth 20000 in
theorem gX2_washLine_X2_rangedNumber : GoodIn wsX2_washLine (wsV RX2 140 RX2 yX2_rangedNumber wsX2_rangedNumber) := goodIn_app (goodIn_of _ (by decide +kernel)) ggX2_washLine_X2_rangedNumber
set_option maxRecDepth 20000 in
theorem ggX2_washLine_X2_take : GoodIn wsX2_washLine wsX2_take := goodIn_r _ [49, 7, 8, 9, 5, 10, 11, 12, 13, 32, 33, 34, 35, 36, 121, 122, 123, 124, 125, 126, 127, 128, 129, 130, 131, 132, 133, 134] (by decide +kernel) (by decide +kernel)
set_option maxRecDepth 20000 in
theorem gX2_washLine_X2_take : GoodIn wsX2_washLine (wsV RX2 77 RX2 yX2_take wsX2_take) := goodIn_app (goodIn_of _ (by decide +kernel)) ggX2_washLine_X2_take
set_option maxRecDepth 20000 in
theorem ggX2_washLine_X3_setOrderNumbers : GoodIn wsX2_washLine wsX3_setOrderNumbers := goodIn_r _ [53, 19, 21, 22, 135, 136, 137, 138, 139, 140, 141, 142, 143, 144, 145] (by decide +kernel) (by decide +kernel)
set_option maxRecDepth 20000 in
theorem gX2_washLine_X3_setOrderNumbers : GoodIn wsX2_washLine (wsV RX2 173 RX3 yX3_setOrderNumbers wsX3_setOrderNumbers) := goodIn_app (goodIn_of _ (by decide +kernel)) ggX2_washLine_X3_setOrderNumbers
set_option maxRecDepth 20000 in
theorem ggX2_washLine_X2_test : GoodIn wsX2_washLine wsX2_test := goodIn_r _ [57, 1, 58, 59, 60, 5, 46, 47, 48, 49, 7, 8, 9, 10, 11, 12, 13, 32, 33, 34, 35, 36, 61, 62, 63, 17, 64, 19, 24, 65, 66, 23, 67, 68, 69, 70, 71, 54, 55, 56, 72, 73, 74, 75, 76, 77, 78, 79, 80, 81, 82, 83, 84, 85, 86, 87, 88, 89, 90, 41, 42, 43, 44, 45, 91, 92, 93, 25, 26, 27, 28, 29, 30, 31, 94, 95, 96, 97, 98, 99, 100, 101, 102, 103, 104, 105, 106, 107, 108, 109, 110, 111, 112, 113, 114, 115, 116, 117, 118, 119, 120, 121, 122, 123, 124, 125, 126, 127, 128, 129, 130, 131, 132, 133, 134, 135, 136, 137, 138, 139, 140, 141, 142, 143, 144, 145, 146, 147, 148, 149, 150, 151, 152, 153, 154] (by decide +kernel) (by decide +kernel)
set_option maxRecDepth 20000 in
theorem gX2_washLine_X2_test : GoodIn wsX2_washLine (wsV RX2 176 RX2 yX2_test wsX2_test) := goodIn_app (goodIn_of _ (by decide +kernel)) ggX2_washLine_X2_test
theorem dX2_washLine_0 : decode cX2_washLine 0 = .ok (.aload_n 0, 1) := by decide +kernel
theorem dX2_washLine_1 : decode cX2_washLine 1 = .ok (.invokevirtual 170, 3) := by decide +kernel
theorem dX2_washLine_4 : decode cX2_washLine 4 = .ok (.aload_n 0, 1) := by decide +kernel
theorem dX2_washLine_5 : decode cX2_washLine 5 = .ok (.invokevirtual 54, 3) := by decide +kernel
theorem dX2_washLine_8 : decode cX2_washLine 8 = .ok (.iconst 3, 1) := by decide +kernel
theorem dX2_washLine_9 : decode cX2_washLine 9 = .ok (.if_icmp .eq 5, 3) := by decide +kernel
theorem dX2_washLine_12 : decode cX2_washLine 12 = .ok (.iconst 0, 1) := by decide +kernel
theorem dX2_washLine_13 : decode cX2_washLine 13 = .ok (.ireturn, 1) := by decide +kernel
theorem dX2_washLine_14 : decode cX2_washLine 14 = .ok (.aload_n 0, 1) := by decide +kernel
theorem dX2_washLine_15 : decode cX2_washLine 15 = .ok (.iconst 0, 1) := by decide +kernel
theorem dX2_washLine_16 : decode cX2_washLine 16 = .ok (.bipush 63, 2) := by decide +kernel
theorem dX2_washLine_18 : decode cX2_washLine 18 = .ok (.invokevirtual 140, 3) := by decide +kernel
theorem dX2_washLine_21 : decode cX2_washLine 21 = .ok (.istore_n 1, 1) := by decide +kernel
theorem dX2_washLine_22 : decode cX2_washLine 22 = .ok (.aload_n 0, 1) := by decide +kernel
theorem dX2_washLine_23 : decode cX2_washLine 23 = .ok (.sipush 215, 3) := by decide +kernel
theorem dX2_washLine_26 : decode cX2_washLine 26 = .ok (.invokevirtual 77, 3) := by decide +kernel
theorem dX2_washLine_29 : decode cX2_washLine 29 = .ok (.ifCond .eq 11, 3) := by decide +kernel
theorem dX2_washLine_32 : decode cX2_washLine 32 = .ok (.aload_n 0, 1) := by decide +kernel
theorem dX2_washLine_33 : decode cX2_washLine 33 = .ok (.invokevirtual 54, 3) := by decide +kernel
theorem dX2_washLine_36 : decode cX2_washLine 36 = .ok (.iconst 3, 1) := by decide +kernel
theorem dX2_washLine_37 : decode cX2_washLine 37 = .ok (.if_icmp .eq 5, 3) := by decide +kernel
theorem dX2_washLine_40 : decode cX2_washLine 40 = .ok (.iconst 0, 1) := by decide +kernel
theorem dX2_washLine_41 : decode cX2_washLine 41 = .ok (.ireturn, 1) := by decide +kernel
theorem dX2_washLine_42 : decode cX2_washLine 42 = .ok (.aload_n 0, 1) := by decide +kernel
theorem dX2_washLine_43 : decode cX2_washLine 43 = .ok (.getfield 32, 3) := by decide +kernel
theorem dX2_washLine_46 : decode cX2_washLine 46 = .ok (.iload_n 1, 1) := by decide +kernel
theorem dX2_washLine_47 : decode cX2_washLine 47 = .ok (.aload_n 0, 1) := by decide +kernel
theorem dX2_washLine_48 : decode cX2_washLine 48 = .ok (.iload_n 1, 1) := by decide +kernel
theorem dX2_washLine_49 : decode cX2_washLine 49 = .ok (.bipush 63, 2) := by decide +kernel
theorem dX2_washLine_51 : decode cX2_washLine 51 = .ok (.invokevirtual 140, 3) := by decide +kernel
theorem dX2_washLine_54 : decode cX2_washLine 54 = .ok (.invokevirtual 173, 3) := by decide +kernel
theorem dX2_washLine_57 : decode cX2_washLine 57 = .ok (.aload_n 0, 1) := by decide +kernel
theorem dX2_washLine_58 : decode cX2_washLine 58 = .ok (.sipush 219, 3) := by decide +kernel
theorem dX2_washLine_61 : decode cX2_washLine 61 = .ok (.invokevirtual 77, 3) := by decide +kernel
theorem dX2_washLine_64 : decode cX2_washLine 64 = .ok (.ifCond .eq 15, 3) := by decide +kernel
theorem dX2_washLine_67 : decode cX2_washLine 67 = .ok (.aload_n 0, 1) := by decide +kernel
theorem dX2_washLine_68 : decode cX2_washLine 68 = .ok (.iconst 0, 1) := by decide +kernel
theorem dX2_washLine_69 : decode cX2_washLine 69 = .ok (.invokevirtual 176, 3) := by decide +kernel
theorem dX2_washLine_72 : decode cX2_washLine 72 = .ok (.ifCond .eq 7, 3) := by decide +kernel
theorem dX2_washLine_75 : decode cX2_washLine 75 = .ok (.iconst 1, 1) := by decide +kernel
theorem dX2_washLine_76 : decode cX2_washLine 76 = .ok (.goto 4, 3) := by decide +kernel
theorem dX2_washLine_79 : decode cX2_washLine 79 = .ok (.iconst 0, 1) := by decide +kernel
theorem dX2_washLine_80 : decode cX2_washLine 80 = .ok (.ireturn, 1) := by decide +kernel
set_option maxRecDepth 20000 in
theorem ggX2_faceLine_X2_takeOrderWord : GoodIn wsX2_faceLine wsX2_takeOrderWord := goodIn_r _ [9, 4, 10, 11, 12, 8, 13, 14, 15, 16, 17, 18, 19, 20, 21, 22, 23, 24, 25, 26, 27, 28, 29, 30, 31, 32, 33, 34, 35, 36, 37, 38, 39, 125, 126, 127, 128, 129, 130, 131, 132, 142, 143, 144, 145, 146, 147, 148, 149, 150, 151, 152, 153, 154, 155, 156, 157, 158] (by decide +kernel) (by decide +kernel)
set_option maxRecDepth 20000 in
theorem gX2_faceLine_X2_takeOrderWord : GoodIn wsX2_faceLine (wsV RX2 170 RX2 yX2_takeOrderWord wsX2_takeOrderWord) := goodIn_app (goodIn_of _ (by decide +kernel)) ggX2_faceLine_X2_takeOrderWord
set_option maxRecDepth 20000 in
theorem ggX2_faceLine_X2_kind : GoodIn wsX2_faceLine wsX2_kind := goodIn_r _ [13, 14, 15, 16, 125, 126, 127, 128, 129, 130, 131, 132, 142, 143, 144, 145, 146, 147] (by decide +kernel) (by decide +kernel)
set_option maxRecDepth 20000 in
theorem gX2_faceLine_X2_kind : GoodIn wsX2_faceLine (wsV RX2 54 RX2 yX2_kind wsX2_kind) := goodIn_app (goodIn_of _ (by decide +kernel)) ggX2_faceLine_X2_kind
set_option maxRecDepth 20000 in
theorem ggX2_faceLine_X2_knownName : GoodIn wsX2_faceLine wsX2_knownName := goodIn_r _ [43, 44, 45, 46, 8, 47, 14, 15, 48, 49, 50, 51, 28, 29, 30, 31, 32, 33, 34, 35, 36, 37, 38, 39, 125, 126, 127, 128, 129, 130, 131, 132, 142, 143, 144, 145, 146, 147] (by decide +kernel) (by decide +kernel)
set_option maxRecDepth 20000 in
theorem gX2_faceLine_X2_knownName : GoodIn wsX2_faceLine (wsV RX2 131 RX2 yX2_knownName wsX2_knownName) := goodIn_app (goodIn_of _ (by decide +kernel)) ggX2_faceLine_X2_knownName
set_option maxRecDepth 20000 in
theorem ggX2_faceLine_X2_isSide : GoodIn wsX2_faceLine wsX2_isSide := goodIn_r _ [55, 10, 11, 12, 8, 13, 14, 15, 16, 125, 126, 127, 128, 129, 130, 131, 132, 142, 143, 144, 145, 146, 147] (by decide +kernel) (by decide +kernel)
set_option maxRecDepth 20000 in
theorem gX2_faceLine_X2_isSide : GoodIn wsX2_faceLine (wsV RX2 148 RX2 yX2_isSide wsX2_isSide) := goodIn_app (goodIn_of _ (by decide +kernel)) ggX2_faceLine_X2_isSide
set_option maxRecDepth 20000 in
theorem ggX2_faceLine_X2_takeSide : GoodIn wsX2_faceLine wsX2_takeSide := goodIn_r _ [59, 10, 11, 12, 8, 13, 14, 15, 16, 35, 36, 37, 38, 39, 125, 126, 127, 128, 129, 130, 131, 132, 142, 143, 144, 145, 146, 147] (by decide +kernel) (by decide +kernel)
set_option maxRecDepth 20000 in
theorem gX2_faceLine_X2_takeSide : GoodIn wsX2_faceLine (wsV RX2 151 RX2 yX2_takeSide wsX2_takeSide) := goodIn_app (goodIn_of _ (by decide +kernel)) ggX2_faceLine_X2_takeSide
set_option maxRecDepth 20000 in
theorem ggX2_faceLine_X3_setOrderNumbers : GoodIn wsX2_faceLine wsX3_setOrderNumbers := goodIn_r _ [63, 22, 24, 25, 148, 149, 150, 151, 152, 153, 154, 155, 156, 157, 158] (by decide +kernel) (by decide +kernel)
set_option maxRecDepth 20000 in
theorem gX2_faceLine_X3_setOrderNumbers : GoodIn wsX2_faceLine (wsV RX2 173 RX3 yX3_setOrderNumbers wsX3_setOrderNumbers) := goodIn_app (goodIn_of _ (by decide +kernel)) ggX2_faceLine_X3_setOrderNumbers
set_option maxRecDepth 20000 in
theorem ggX2_faceLine_X2_take : GoodIn wsX2_faceLine wsX2_take := goodIn_r _ [67, 10, 11, 12, 8, 13, 14, 15, 16, 35, 36, 37, 38, 39, 125, 126, 127, 128, 129, 130, 131, 132, 142, 143, 144, 145, 146, 147] (by decide +kernel) (by decide +kernel)
set_option maxRecDepth 20000 in
theorem gX2_faceLine_X2_take : GoodIn wsX2_faceLine (wsV RX2 77 RX2 yX2_take wsX2_take) := goodIn_app (goodIn_of _ (by decide +kernel)) ggX2_faceLine_X2_take
set_option maxRecDepth 20000 in
theorem ggX2_faceLine_X2_test : GoodIn wsX2_faceLine wsX2_test := goodIn_r _ [71, 4, 72, 73, 74, 8, 64, 65, 66, 67, 10, 11, 12, 13, 14, 15, 16, 35, 36, 37, 38, 39, 75, 76, 77, 20, 78, 22, 27, 79, 80, 26, 81, 82, 83, 84, 85, 68, 69, 70, 86, 87, 88, 89, 90, 91, 92, 93, 94, 95, 96, 97, 1, 2, 3, 40, 41, 42, 43, 44, 45, 46, 47, 48, 49, 50, 51, 28, 29, 30, 31, 32, 33, 34, 98, 99, 100, 101, 102, 103, 104, 105, 106, 107, 108, 109, 110, 111, 112, 113, 114, 115, 116, 117, 118, 119, 120, 121, 122, 123, 124, 125, 126, 127, 128, 129, 130, 131, 132, 142, 143, 144, 145, 146, 147, 148, 149, 150, 151, 152, 153, 154, 155, 156, 157, 158, 133, 134, 135, 136, 137, 138, 139, 140, 141] (by decide +kernel) (by decide +kernel)
set_option maxRecDepth 20000 in
theorem gX2_faceLine_X2_test : GoodIn wsX2_faceLine (wsV RX2 176 RX2 yX2_test wsX2_test) := goodIn_app (goodIn_of _ (by decide +kernel)) ggX2_faceLine_X2_test
theorem dX2_faceLine_0 : decode cX2_faceLine 0 = .ok (.aload_n 0, 1) := by decide +kernel
theorem dX2_faceLine_1 : decode cX2_faceLine 1 = .ok (.invokevirtual 170, 3) := by decide +kernel
theorem dX2_faceLine_4 : decode cX2_faceLine 4 = .ok (.aload_n 0, 1) := by decide +kernel
theorem dX2_faceLine_5 : decode cX2_faceLine 5 = .ok (.invokevirtual 54, 3) := by decide +kernel
theorem dX2_faceLine_8 : decode cX2_faceLine 8 = .ok (.iconst 2, 1) := by decide +kernel
theorem dX2_faceLine_9 : decode cX2_faceLine 9 = .ok (.if_icmp .eq 5, 3) := by decide +kernel
theorem dX2_faceLine_12 : decode cX2_faceLine 12 = .ok (.iconst 0, 1) := by decide +kernel
theorem dX2_faceLine_13 : decode cX2_faceLine 13 = .ok (.ireturn, 1) := by decide +kernel
theorem dX2_faceLine_14 : decode cX2_faceLine 14 = .ok (.aload_n 0, 1) := by decide +kernel
theorem dX2_faceLine_15 : decode cX2_faceLine 15 = .ok (.aload_n 0, 1) := by decide +kernel
theorem dX2_faceLine_16 : decode cX2_faceLine 16 = .ok (.getfield 19, 3) := by decide +kernel
theorem dX2_faceLine_19 : decode cX2_faceLine 19 = .ok (.aload_n 0, 1) := by decide +kernel
theorem dX2_faceLine_20 : decode cX2_faceLine 20 = .ok (.getfield 36, 3) := by decide +kernel
theorem dX2_faceLine_23 : decode cX2_faceLine 23 = .ok (.getfield 157, 3) := by decide +kernel
theorem dX2_faceLine_26 : decode cX2_faceLine 26 = .ok (.invokevirtual 131, 3) := by decide +kernel
theorem dX2_faceLine_29 : decode cX2_faceLine 29 = .ok (.istore_n 1, 1) := by decide +kernel
theorem dX2_faceLine_30 : decode cX2_faceLine 30 = .ok (.aload_n 0, 1) := by decide +kernel
theorem dX2_faceLine_31 : decode cX2_faceLine 31 = .ok (.invokevirtual 148, 3) := by decide +kernel
theorem dX2_faceLine_34 : decode cX2_faceLine 34 = .ok (.ifCond .ne 5, 3) := by decide +kernel
theorem dX2_faceLine_37 : decode cX2_faceLine 37 = .ok (.iconst 0, 1) := by decide +kernel
theorem dX2_faceLine_38 : decode cX2_faceLine 38 = .ok (.ireturn, 1) := by decide +kernel
theorem dX2_faceLine_39 : decode cX2_faceLine 39 = .ok (.aload_n 0, 1) := by decide +kernel
theorem dX2_faceLine_40 : decode cX2_faceLine 40 = .ok (.getfield 32, 3) := by decide +kernel
theorem dX2_faceLine_43 : decode cX2_faceLine 43 = .ok (.iload_n 1, 1) := by decide +kernel
theorem dX2_faceLine_44 : decode cX2_faceLine 44 = .ok (.aload_n 0, 1) := by decide +kernel
theorem dX2_faceLine_45 : decode cX2_faceLine 45 = .ok (.invokevirtual 151, 3) := by decide +kernel
theorem dX2_faceLine_48 : decode cX2_faceLine 48 = .ok (.invokevirtual 173, 3) := by decide +kernel
theorem dX2_faceLine_51 : decode cX2_faceLine 51 = .ok (.aload_n 0, 1) := by decide +kernel
theorem dX2_faceLine_52 : decode cX2_faceLine 52 = .ok (.sipush 219, 3) := by decide +kernel
theorem dX2_faceLine_55 : decode cX2_faceLine 55 = .ok (.invokevirtual 77, 3) := by decide +kernel
theorem dX2_faceLine_58 : decode cX2_faceLine 58 = .ok (.ifCond .eq 15, 3) := by decide +kernel
theorem dX2_faceLine_61 : decode cX2_faceLine 61 = .ok (.aload_n 0, 1) := by decide +kernel
theorem dX2_faceLine_62 : decode cX2_faceLine 62 = .ok (.iconst 0, 1) := by decide +kernel
theorem dX2_faceLine_63 : decode cX2_faceLine 63 = .ok (.invokevirtual 176, 3) := by decide +kernel
theorem dX2_faceLine_66 : decode cX2_faceLine 66 = .ok (.ifCond .eq 7, 3) := by decide +kernel
theorem dX2_faceLine_69 : decode cX2_faceLine 69 = .ok (.iconst 1, 1) := by decide +kernel
theorem dX2_faceLine_70 : decode cX2_faceLine 70 = .ok (.goto 4, 3) := by decide +kernel
theorem dX2_faceLine_73 : decode cX2_faceLine 73 = .ok (.iconst 0, 1) := by decide +kernel
theorem dX2_faceLine_74 : decode cX2_faceLine 74 = .ok (.ireturn, 1) := by decide +kernel
set_option maxRecDepth 20000 in
theorem ggX2_haltLine_X2_takeOrderWord : GoodIn wsX2_haltLine wsX2_takeOrderWord := goodIn_r _ [9, 1, 10, 11, 12, 8, 13, 14, 15, 16, 17, 18, 19, 20, 21, 22, 23, 24, 25, 26, 27, 28, 29, 30, 31, 32, 33, 34, 35, 36, 37, 38, 39, 117, 118, 119, 120, 121, 122, 123, 124, 134, 135, 136, 137, 138, 139, 140, 141, 142, 143, 144, 145, 146, 147, 148, 149, 150] (by decide +kernel) (by decide +kernel)
set_option maxRecDepth 20000 in
theorem gX2_haltLine_X2_takeOrderWord : GoodIn wsX2_haltLine (wsV RX2 170 RX2 yX2_takeOrderWord wsX2_takeOrderWord) := goodIn_app (goodIn_of _ (by decide +kernel)) ggX2_haltLine_X2_takeOrderWord
set_option maxRecDepth 20000 in
theorem ggX2_haltLine_X2_kind : GoodIn wsX2_haltLine wsX2_kind := goodIn_r _ [13, 14, 15, 16, 117, 118, 119, 120, 121, 122, 123, 124, 134, 135, 136, 137, 138, 139] (by decide +kernel) (by decide +kernel)
set_option maxRecDepth 20000 in
theorem gX2_haltLine_X2_kind : GoodIn wsX2_haltLine (wsV RX2 54 RX2 yX2_kind wsX2_kind) := goodIn_app (goodIn_of _ (by decide +kernel)) ggX2_haltLine_X2_kind
set_option maxRecDepth 20000 in
theorem ggX2_haltLine_X2_knownName : GoodIn wsX2_haltLine wsX2_knownName := goodIn_r _ [43, 44, 45, 46, 8, 47, 14, 15, 48, 49, 50, 51, 28, 29, 30, 31, 32, 33, 34, 35, 36, 37, 38, 39, 117, 118, 119, 120, 121, 122, 123, 124, 134, 135, 136, 137, 138, 139] (by decide +kernel) (by decide +kernel)
set_option maxRecDepth 20000 in
theorem gX2_haltLine_X2_knownName : GoodIn wsX2_haltLine (wsV RX2 131 RX2 yX2_knownName wsX2_knownName) := goodIn_app (goodIn_of _ (by decide +kernel)) ggX2_haltLine_X2_knownName
set_option maxRecDepth 20000 in
theorem ggX2_haltLine_X3_setOrderNumbers : GoodIn wsX2_haltLine wsX3_setOrderNumbers := goodIn_r _ [55, 22, 24, 25, 140, 141, 142, 143, 144, 145, 146, 147, 148, 149, 150] (by decide +kernel) (by decide +kernel)
set_option maxRecDepth 20000 in
theorem gX2_haltLine_X3_setOrderNumbers : GoodIn wsX2_haltLine (wsV RX2 173 RX3 yX3_setOrderNumbers wsX3_setOrderNumbers) := goodIn_app (goodIn_of _ (by decide +kernel)) ggX2_haltLine_X3_setOrderNumbers
set_option maxRecDepth 20000 in
theorem ggX2_haltLine_X2_take : GoodIn wsX2_haltLine wsX2_take := goodIn_r _ [59, 10, 11, 12, 8, 13, 14, 15, 16, 35, 36, 37, 38, 39, 117, 118, 119, 120, 121, 122, 123, 124, 134, 135, 136, 137, 138, 139] (by decide +kernel) (by decide +kernel)
set_option maxRecDepth 20000 in
theorem gX2_haltLine_X2_take : GoodIn wsX2_haltLine (wsV RX2 77 RX2 yX2_take wsX2_take) := goodIn_app (goodIn_of _ (by decide +kernel)) ggX2_haltLine_X2_take
set_option maxRecDepth 20000 in
theorem ggX2_haltLine_X2_test : GoodIn wsX2_haltLine wsX2_test := goodIn_r _ [63, 1, 64, 65, 66, 8, 56, 57, 58, 59, 10, 11, 12, 13, 14, 15, 16, 35, 36, 37, 38, 39, 67, 68, 69, 20, 70, 22, 27, 71, 72, 26, 73, 74, 75, 76, 77, 60, 61, 62, 78, 79, 80, 81, 82, 83, 84, 85, 86, 87, 88, 89, 2, 3, 4, 40, 41, 42, 43, 44, 45, 46, 47, 48, 49, 50, 51, 28, 29, 30, 31, 32, 33, 34, 90, 91, 92, 93, 94, 95, 96, 97, 98, 99, 100, 101, 102, 103, 104, 105, 106, 107, 108, 109, 110, 111, 112, 113, 114, 115, 116, 117, 118, 119, 120, 121, 122, 123, 124, 134, 135, 136, 137, 138, 139, 140, 141, 142, 143, 144, 145, 146, 147, 148, 149, 150, 125, 126, 127, 128, 129, 130, 131, 132, 133] (by decide +kernel) (by decide +kernel)
set_option maxRecDepth 20000 in
theorem gX2_haltLine_X2_test : GoodIn wsX2_haltLine (wsV RX2 176 RX2 yX2_test wsX2_test) := goodIn_app (goodIn_of _ (by decide +kernel)) ggX2_haltLine_X2_test
theorem dX2_haltLine_0 : decode cX2_haltLine 0 = .ok (.aload_n 0, 1) := by decide +kernel
theorem dX2_haltLine_1 : decode cX2_haltLine 1 = .ok (.invokevirtual 170, 3) := by decide +kernel
theorem dX2_haltLine_4 : decode cX2_haltLine 4 = .ok (.aload_n 0, 1) := by decide +kernel
theorem dX2_haltLine_5 : decode cX2_haltLine 5 = .ok (.invokevirtual 54, 3) := by decide +kernel
theorem dX2_haltLine_8 : decode cX2_haltLine 8 = .ok (.iconst 2, 1) := by decide +kernel
theorem dX2_haltLine_9 : decode cX2_haltLine 9 = .ok (.if_icmp .eq 5, 3) := by decide +kernel
theorem dX2_haltLine_12 : decode cX2_haltLine 12 = .ok (.iconst 0, 1) := by decide +kernel
theorem dX2_haltLine_13 : decode cX2_haltLine 13 = .ok (.ireturn, 1) := by decide +kernel
theorem dX2_haltLine_14 : decode cX2_haltLine 14 = .ok (.aload_n 0, 1) := by decide +kernel
theorem dX2_haltLine_15 : decode cX2_haltLine 15 = .ok (.getfield 32, 3) := by decide +kernel
theorem dX2_haltLine_18 : decode cX2_haltLine 18 = .ok (.aload_n 0, 1) := by decide +kernel
theorem dX2_haltLine_19 : decode cX2_haltLine 19 = .ok (.aload_n 0, 1) := by decide +kernel
theorem dX2_haltLine_20 : decode cX2_haltLine 20 = .ok (.getfield 19, 3) := by decide +kernel
theorem dX2_haltLine_23 : decode cX2_haltLine 23 = .ok (.aload_n 0, 1) := by decide +kernel
theorem dX2_haltLine_24 : decode cX2_haltLine 24 = .ok (.getfield 36, 3) := by decide +kernel
theorem dX2_haltLine_27 : decode cX2_haltLine 27 = .ok (.getfield 157, 3) := by decide +kernel
theorem dX2_haltLine_30 : decode cX2_haltLine 30 = .ok (.invokevirtual 131, 3) := by decide +kernel
theorem dX2_haltLine_33 : decode cX2_haltLine 33 = .ok (.iconst 0, 1) := by decide +kernel
theorem dX2_haltLine_34 : decode cX2_haltLine 34 = .ok (.invokevirtual 173, 3) := by decide +kernel
theorem dX2_haltLine_37 : decode cX2_haltLine 37 = .ok (.aload_n 0, 1) := by decide +kernel
theorem dX2_haltLine_38 : decode cX2_haltLine 38 = .ok (.sipush 219, 3) := by decide +kernel
theorem dX2_haltLine_41 : decode cX2_haltLine 41 = .ok (.invokevirtual 77, 3) := by decide +kernel
theorem dX2_haltLine_44 : decode cX2_haltLine 44 = .ok (.ifCond .eq 15, 3) := by decide +kernel
theorem dX2_haltLine_47 : decode cX2_haltLine 47 = .ok (.aload_n 0, 1) := by decide +kernel
theorem dX2_haltLine_48 : decode cX2_haltLine 48 = .ok (.iconst 0, 1) := by decide +kernel
theorem dX2_haltLine_49 : decode cX2_haltLine 49 = .ok (.invokevirtual 176, 3) := by decide +kernel
theorem dX2_haltLine_52 : decode cX2_haltLine 52 = .ok (.ifCond .eq 7, 3) := by decide +kernel
theorem dX2_haltLine_55 : decode cX2_haltLine 55 = .ok (.iconst 1, 1) := by decide +kernel
theorem dX2_haltLine_56 : decode cX2_haltLine 56 = .ok (.goto 4, 3) := by decide +kernel
theorem dX2_haltLine_59 : decode cX2_haltLine 59 = .ok (.iconst 0, 1) := by decide +kernel
theorem dX2_haltLine_60 : decode cX2_haltLine 60 = .ok (.ireturn, 1) := by decide +kernel
set_option maxRecDepth 20000 in
theorem ggX2_takeOrderWord_X2_kind : GoodIn wsX2_takeOrderWord wsX2_kind := goodIn_r _ [6, 7, 8, 9, 33, 34, 35, 36, 37, 38, 39, 40, 41, 42, 43, 44, 45, 46] (by decide +kernel) (by decide +kernel)
set_option maxRecDepth 20000 in
theorem gX2_takeOrderWord_X2_kind : GoodIn wsX2_takeOrderWord (wsV RX2 54 RX2 yX2_kind wsX2_kind) := goodIn_app (goodIn_of _ (by decide +kernel)) ggX2_takeOrderWord_X2_kind
set_option maxRecDepth 20000 in
theorem ggX2_takeOrderWord_X3_beginOrder : GoodIn wsX2_takeOrderWord wsX3_beginOrder := goodIn_r _ [14, 15, 16, 17, 18, 19, 20, 47, 48, 49, 50, 51, 52, 53, 54, 55, 56, 57] (by decide +kernel) (by decide +kernel)
set_option maxRecDepth 20000 in
theorem gX2_takeOrderWord_X3_beginOrder : GoodIn wsX2_takeOrderWord (wsV RX2 179 RX3 yX3_beginOrder wsX3_beginOrder) := goodIn_app (goodIn_of _ (by decide +kernel)) ggX2_takeOrderWord_X3_beginOrder
set_option maxRecDepth 20000 in
theorem ggX2_takeOrderWord_X2_complain : GoodIn wsX2_takeOrderWord wsX2_complain := goodIn_r _ [24, 25, 7, 8, 26, 27, 33, 34, 35, 36, 37, 38, 39, 40, 41, 42, 43, 44, 45, 46] (by decide +kernel) (by decide +kernel)
set_option maxRecDepth 20000 in
theorem gX2_takeOrderWord_X2_complain : GoodIn wsX2_takeOrderWord (wsV RX2 81 RX2 yX2_complain wsX2_complain) := goodIn_app (goodIn_of _ (by decide +kernel)) ggX2_takeOrderWord_X2_complain
set_option maxRecDepth 20000 in
theorem ggX2_takeOrderWord_X2_advance : GoodIn wsX2_takeOrderWord wsX2_advance := goodIn_r _ [31, 7, 8, 32, 33, 34, 35, 36, 37, 38, 39, 40, 41, 42, 43, 44, 45, 46] (by decide +kernel) (by decide +kernel)
set_option maxRecDepth 20000 in
theorem gX2_takeOrderWord_X2_advance : GoodIn wsX2_takeOrderWord (wsV RX2 97 RX2 yX2_advance wsX2_advance) := goodIn_app (goodIn_of _ (by decide +kernel)) ggX2_takeOrderWord_X2_advance
theorem dX2_takeOrderWord_0 : decode cX2_takeOrderWord 0 = .ok (.aload_n 0, 1) := by decide +kernel
theorem dX2_takeOrderWord_1 : decode cX2_takeOrderWord 1 = .ok (.getfield 32, 3) := by decide +kernel
theorem dX2_takeOrderWord_4 : decode cX2_takeOrderWord 4 = .ok (.aload_n 0, 1) := by decide +kernel
theorem dX2_takeOrderWord_5 : decode cX2_takeOrderWord 5 = .ok (.invokevirtual 54, 3) := by decide +kernel
theorem dX2_takeOrderWord_8 : decode cX2_takeOrderWord 8 = .ok (.invokevirtual 179, 3) := by decide +kernel
theorem dX2_takeOrderWord_11 : decode cX2_takeOrderWord 11 = .ok (.ifCond .ne 8, 3) := by decide +kernel
theorem dX2_takeOrderWord_14 : decode cX2_takeOrderWord 14 = .ok (.aload_n 0, 1) := by decide +kernel
theorem dX2_takeOrderWord_15 : decode cX2_takeOrderWord 15 = .ok (.iconst 4, 1) := by decide +kernel
theorem dX2_takeOrderWord_16 : decode cX2_takeOrderWord 16 = .ok (.invokevirtual 81, 3) := by decide +kernel
theorem dX2_takeOrderWord_19 : decode cX2_takeOrderWord 19 = .ok (.aload_n 0, 1) := by decide +kernel
theorem dX2_takeOrderWord_20 : decode cX2_takeOrderWord 20 = .ok (.invokevirtual 97, 3) := by decide +kernel
theorem dX2_takeOrderWord_23 : decode cX2_takeOrderWord 23 = .ok (.return_, 1) := by decide +kernel
set_option maxRecDepth 20000 in
theorem ggX2_knownName_X2_value : GoodIn wsX2_knownName wsX2_value := goodIn_r _ [5, 6, 7, 8, 24, 25, 26, 27, 28, 29, 30, 31, 32, 33, 34, 35, 36, 37] (by decide +kernel) (by decide +kernel)
set_option maxRecDepth 20000 in
theorem gX2_knownName_X2_value : GoodIn wsX2_knownName (wsV RX2 106 RX2 yX2_value wsX2_value) := goodIn_app (goodIn_of _ (by decide +kernel)) ggX2_knownName_X2_value
set_option maxRecDepth 20000 in
theorem ggX2_knownName_X2_indexOf : GoodIn wsX2_knownName wsX2_indexOf := goodIn_r _ [11] (by decide +kernel) (by decide +kernel)
set_option maxRecDepth 20000 in
theorem gX2_knownName_X2_indexOf : GoodIn wsX2_knownName (va_wsS RX2 120 yX2_indexOf wsX2_indexOf) := goodIn_app (goodIn_of _ (by decide +kernel)) ggX2_knownName_X2_indexOf
set_option maxRecDepth 20000 in
theorem ggX2_knownName_X2_complain : GoodIn wsX2_knownName wsX2_complain := goodIn_r _ [15, 16, 6, 7, 17, 18, 24, 25, 26, 27, 28, 29, 30, 31, 32, 33, 34, 35, 36, 37] (by decide +kernel) (by decide +kernel)
set_option maxRecDepth 20000 in
theorem gX2_knownName_X2_complain : GoodIn wsX2_knownName (wsV RX2 81 RX2 yX2_complain wsX2_complain) := goodIn_app (goodIn_of _ (by decide +kernel)) ggX2_knownName_X2_complain
set_option maxRecDepth 20000 in
theorem ggX2_knownName_X2_advance : GoodIn wsX2_knownName wsX2_advance := goodIn_r _ [22, 6, 7, 23, 24, 25, 26, 27, 28, 29, 30, 31, 32, 33, 34, 35, 36, 37] (by decide +kernel) (by decide +kernel)
set_option maxRecDepth 20000 in
theorem gX2_knownName_X2_advance : GoodIn wsX2_knownName (wsV RX2 97 RX2 yX2_advance wsX2_advance) := goodIn_app (goodIn_of _ (by decide +kernel)) ggX2_knownName_X2_advance
theorem dX2_knownName_0 : decode cX2_knownName 0 = .ok (.aload_n 0, 1) := by decide +kernel
theorem dX2_knownName_1 : decode cX2_knownName 1 = .ok (.invokevirtual 106, 3) := by decide +kernel
theorem dX2_knownName_4 : decode cX2_knownName 4 = .ok (.aload_n 1, 1) := by decide +kernel
theorem dX2_knownName_5 : decode cX2_knownName 5 = .ok (.iload_n 2, 1) := by decide +kernel
theorem dX2_knownName_6 : decode cX2_knownName 6 = .ok (.invokestatic 120, 3) := by decide +kernel
theorem dX2_knownName_9 : decode cX2_knownName 9 = .ok (.istore_n 3, 1) := by decide +kernel
theorem dX2_knownName_10 : decode cX2_knownName 10 = .ok (.iload_n 3, 1) := by decide +kernel
theorem dX2_knownName_11 : decode cX2_knownName 11 = .ok (.ifCond .ge 8, 3) := by decide +kernel
theorem dX2_knownName_14 : decode cX2_knownName 14 = .ok (.aload_n 0, 1) := by decide +kernel
theorem dX2_knownName_15 : decode cX2_knownName 15 = .ok (.iconst 3, 1) := by decide +kernel
theorem dX2_knownName_16 : decode cX2_knownName 16 = .ok (.invokevirtual 81, 3) := by decide +kernel
theorem dX2_knownName_19 : decode cX2_knownName 19 = .ok (.aload_n 0, 1) := by decide +kernel
theorem dX2_knownName_20 : decode cX2_knownName 20 = .ok (.invokevirtual 97, 3) := by decide +kernel
theorem dX2_knownName_23 : decode cX2_knownName 23 = .ok (.iload_n 3, 1) := by decide +kernel
theorem dX2_knownName_24 : decode cX2_knownName 24 = .ok (.ifCond .ge 7, 3) := by decide +kernel
theorem dX2_knownName_27 : decode cX2_knownName 27 = .ok (.iconst 0, 1) := by decide +kernel
theorem dX2_knownName_28 : decode cX2_knownName 28 = .ok (.goto 4, 3) := by decide +kernel
theorem dX2_knownName_31 : decode cX2_knownName 31 = .ok (.iload_n 3, 1) := by decide +kernel
theorem dX2_knownName_32 : decode cX2_knownName 32 = .ok (.ireturn, 1) := by decide +kernel
set_option maxRecDepth 20000 in
theorem ggX2_rangedNumber_X2_value : GoodIn wsX2_rangedNumber wsX2_value := goodIn_r _ [5, 6, 7, 8, 21, 22, 23, 24, 25, 26, 27, 28, 29, 30, 31, 32, 33, 34] (by decide +kernel) (by decide +kernel)
set_option maxRecDepth 20000 in
theorem gX2_rangedNumber_X2_value : GoodIn wsX2_rangedNumber (wsV RX2 106 RX2 yX2_value wsX2_value) := goodIn_app (goodIn_of _ (by decide +kernel)) ggX2_rangedNumber_X2_value
set_option maxRecDepth 20000 in
theorem ggX2_rangedNumber_X2_complain : GoodIn wsX2_rangedNumber wsX2_complain := goodIn_r _ [12, 13, 6, 7, 14, 15, 21, 22, 23, 24, 25, 26, 27, 28, 29, 30, 31, 32, 33, 34] (by decide +kernel) (by decide +kernel)
set_option maxRecDepth 20000 in
theorem gX2_rangedNumber_X2_complain : GoodIn wsX2_rangedNumber (wsV RX2 81 RX2 yX2_complain wsX2_complain) := goodIn_app (goodIn_of _ (by decide +kernel)) ggX2_rangedNumber_X2_complain
set_option maxRecDepth 20000 in
theorem ggX2_rangedNumber_X2_advance : GoodIn wsX2_rangedNumber wsX2_advance := goodIn_r _ [19, 6, 7, 20, 21, 22, 23, 24, 25, 26, 27, 28, 29, 30, 31, 32, 33, 34] (by decide +kernel) (by decide +kernel)
set_option maxRecDepth 20000 in
theorem gX2_rangedNumber_X2_advance : GoodIn wsX2_rangedNumber (wsV RX2 97 RX2 yX2_advance wsX2_advance) := goodIn_app (goodIn_of _ (by decide +kernel)) ggX2_rangedNumber_X2_advance
theorem dX2_rangedNumber_0 : decode cX2_rangedNumber 0 = .ok (.aload_n 0, 1) := by decide +kernel
theorem dX2_rangedNumber_1 : decode cX2_rangedNumber 1 = .ok (.invokevirtual 106, 3) := by decide +kernel
theorem dX2_rangedNumber_4 : decode cX2_rangedNumber 4 = .ok (.l2i, 1) := by decide +kernel
theorem dX2_rangedNumber_5 : decode cX2_rangedNumber 5 = .ok (.istore_n 3, 1) := by decide +kernel
theorem dX2_rangedNumber_6 : decode cX2_rangedNumber 6 = .ok (.iload_n 3, 1) := by decide +kernel
theorem dX2_rangedNumber_7 : decode cX2_rangedNumber 7 = .ok (.iload_n 1, 1) := by decide +kernel
theorem dX2_rangedNumber_8 : decode cX2_rangedNumber 8 = .ok (.if_icmp .lt 8, 3) := by decide +kernel
theorem dX2_rangedNumber_11 : decode cX2_rangedNumber 11 = .ok (.iload_n 3, 1) := by decide +kernel
theorem dX2_rangedNumber_12 : decode cX2_rangedNumber 12 = .ok (.iload_n 2, 1) := by decide +kernel
theorem dX2_rangedNumber_13 : decode cX2_rangedNumber 13 = .ok (.if_icmp .le 10, 3) := by decide +kernel
theorem dX2_rangedNumber_16 : decode cX2_rangedNumber 16 = .ok (.aload_n 0, 1) := by decide +kernel
theorem dX2_rangedNumber_17 : decode cX2_rangedNumber 17 = .ok (.iconst 5, 1) := by decide +kernel
theorem dX2_rangedNumber_18 : decode cX2_rangedNumber 18 = .ok (.invokevirtual 81, 3) := by decide +kernel
theorem dX2_rangedNumber_21 : decode cX2_rangedNumber 21 = .ok (.iload_n 1, 1) := by decide +kernel
theorem dX2_rangedNumber_22 : decode cX2_rangedNumber 22 = .ok (.istore_n 3, 1) := by decide +kernel
theorem dX2_rangedNumber_23 : decode cX2_rangedNumber 23 = .ok (.aload_n 0, 1) := by decide +kernel
theorem dX2_rangedNumber_24 : decode cX2_rangedNumber 24 = .ok (.invokevirtual 97, 3) := by decide +kernel
theorem dX2_rangedNumber_27 : decode cX2_rangedNumber 27 = .ok (.iload_n 3, 1) := by decide +kernel
theorem dX2_rangedNumber_28 : decode cX2_rangedNumber 28 = .ok (.ireturn, 1) := by decide +kernel
set_option maxRecDepth 20000 in
theorem ggX2_isSide_X2_kind : GoodIn wsX2_isSide wsX2_kind := goodIn_r _ [5, 6, 7, 8, 9, 10, 11, 12, 13, 14, 15, 16, 17, 18, 19, 20, 21, 22] (by decide +kernel) (by decide +kernel)
set_option maxRecDepth 20000 in
theorem gX2_isSide_X2_kind : GoodIn wsX2_isSide (wsV RX2 54 RX2 yX2_kind wsX2_kind) := goodIn_app (goodIn_of _ (by decide +kernel)) ggX2_isSide_X2_kind
theorem dX2_isSide_0 : decode cX2_isSide 0 = .ok (.aload_n 0, 1) := by decide +kernel
theorem dX2_isSide_1 : decode cX2_isSide 1 = .ok (.invokevirtual 54, 3) := by decide +kernel
theorem dX2_isSide_4 : decode cX2_isSide 4 = .ok (.sipush 209, 3) := by decide +kernel
theorem dX2_isSide_7 : decode cX2_isSide 7 = .ok (.if_icmp .lt 17, 3) := by decide +kernel
theorem dX2_isSide_10 : decode cX2_isSide 10 = .ok (.aload_n 0, 1) := by decide +kernel
theorem dX2_isSide_11 : decode cX2_isSide 11 = .ok (.invokevirtual 54, 3) := by decide +kernel
theorem dX2_isSide_14 : decode cX2_isSide 14 = .ok (.sipush 212, 3) := by decide +kernel
theorem dX2_isSide_17 : decode cX2_isSide 17 = .ok (.if_icmp .gt 7, 3) := by decide +kernel
theorem dX2_isSide_20 : decode cX2_isSide 20 = .ok (.iconst 1, 1) := by decide +kernel
theorem dX2_isSide_21 : decode cX2_isSide 21 = .ok (.goto 4, 3) := by decide +kernel
theorem dX2_isSide_24 : decode cX2_isSide 24 = .ok (.iconst 0, 1) := by decide +kernel
theorem dX2_isSide_25 : decode cX2_isSide 25 = .ok (.ireturn, 1) := by decide +kernel
set_option maxRecDepth 20000 in
theorem ggX2_takeSide_X2_kind : GoodIn wsX2_takeSide wsX2_kind := goodIn_r _ [5, 6, 7, 8, 14, 15, 16, 17, 18, 19, 20, 21, 22, 23, 24, 25, 26, 27] (by decide +kernel) (by decide +kernel)
set_option maxRecDepth 20000 in
theorem gX2_takeSide_X2_kind : GoodIn wsX2_takeSide (wsV RX2 54 RX2 yX2_kind wsX2_kind) := goodIn_app (goodIn_of _ (by decide +kernel)) ggX2_takeSide_X2_kind
set_option maxRecDepth 20000 in
theorem ggX2_takeSide_X2_advance : GoodIn wsX2_takeSide wsX2_advance := goodIn_r _ [12, 6, 7, 13, 14, 15, 16, 17, 18, 19, 20, 21, 22, 23, 24, 25, 26, 27] (by decide +kernel) (by decide +kernel)
set_option maxRecDepth 20000 in
theorem gX2_takeSide_X2_advance : GoodIn wsX2_takeSide (wsV RX2 97 RX2 yX2_advance wsX2_advance) := goodIn_app (goodIn_of _ (by decide +kernel)) ggX2_takeSide_X2_advance
theorem dX2_takeSide_0 : decode cX2_takeSide 0 = .ok (.aload_n 0, 1) := by decide +kernel
theorem dX2_takeSide_1 : decode cX2_takeSide 1 = .ok (.invokevirtual 54, 3) := by decide +kernel
theorem dX2_takeSide_4 : decode cX2_takeSide 4 = .ok (.sipush 209, 3) := by decide +kernel
theorem dX2_takeSide_7 : decode cX2_takeSide 7 = .ok (.isub, 1) := by decide +kernel
theorem dX2_takeSide_8 : decode cX2_takeSide 8 = .ok (.istore_n 1, 1) := by decide +kernel
theorem dX2_takeSide_9 : decode cX2_takeSide 9 = .ok (.aload_n 0, 1) := by decide +kernel
theorem dX2_takeSide_10 : decode cX2_takeSide 10 = .ok (.invokevirtual 97, 3) := by decide +kernel
theorem dX2_takeSide_13 : decode cX2_takeSide 13 = .ok (.iload_n 1, 1) := by decide +kernel
theorem dX2_takeSide_14 : decode cX2_takeSide 14 = .ok (.ireturn, 1) := by decide +kernel
set_option maxRecDepth 20000 in
theorem ggX2_test_X2_both : GoodIn wsX2_test wsX2_both := goodIn_r _ [32, 1, 33, 34, 35, 5, 6, 7, 8, 9, 10, 11, 12, 13, 14, 15, 16, 17, 18, 19, 20, 21, 22, 23, 24, 25, 26, 27, 28, 29, 30, 31, 36, 37, 38, 39, 40, 41, 42, 43, 44, 45, 46, 47, 48, 49, 50, 51, 52, 53, 54, 55, 56, 57, 58, 59, 60, 61, 62, 63, 64, 65, 66, 67, 68, 69, 70, 71, 72, 73, 74, 75, 76, 77, 78, 79, 80, 81, 82, 83, 84, 85, 86, 87, 88, 89, 90, 91, 92, 93, 94, 95, 96, 97, 98, 99, 100, 0, 2, 3, 4, 101, 102, 103, 104, 105, 106, 107, 108, 109, 110, 111, 112, 113, 114, 115, 116, 117, 118, 119, 120, 121, 122, 123, 124, 125, 126, 127, 128, 129, 130, 131, 132, 133, 134] (by decide +kernel) (by decide +kernel)
set_option maxRecDepth 20000 in
theorem gX2_test_X2_both : GoodIn wsX2_test (wsV RX2 182 RX2 yX2_both wsX2_both) := goodIn_app (goodIn_of _ (by decide +kernel)) ggX2_test_X2_both
set_option maxRecDepth 20000 in
theorem ggX2_test_X2_take : GoodIn wsX2_test wsX2_take := goodIn_r _ [9, 10, 11, 12, 5, 13, 14, 15, 16, 17, 18, 19, 20, 21, 101, 102, 103, 104, 105, 106, 107, 108, 109, 110, 111, 112, 113, 114] (by decide +kernel) (by decide +kernel)
set_option maxRecDepth 20000 in
theorem gX2_test_X2_take : GoodIn wsX2_test (wsV RX2 77 RX2 yX2_take wsX2_take) := goodIn_app (goodIn_of _ (by decide +kernel)) ggX2_test_X2_take
set_option maxRecDepth 20000 in
theorem ggX2_test_X3_addOperation : GoodIn wsX2_test wsX3_addOperation := goodIn_r _ [26, 27, 28, 29, 30, 31, 115, 116, 117, 118, 119, 120, 121, 122, 123, 124, 125] (by decide +kernel) (by decide +kernel)
set_option maxRecDepth 20000 in
theorem gX2_test_X3_addOperation : GoodIn wsX2_test (wsV RX2 185 RX3 yX3_addOperation wsX3_addOperation) := goodIn_app (goodIn_of _ (by decide +kernel)) ggX2_test_X3_addOperation
theorem dX2_test_0 : decode cX2_test 0 = .ok (.aload_n 0, 1) := by decide +kernel
theorem dX2_test_1 : decode cX2_test 1 = .ok (.iload_n 1, 1) := by decide +kernel
theorem dX2_test_2 : decode cX2_test 2 = .ok (.invokevirtual 182, 3) := by decide +kernel
theorem dX2_test_5 : decode cX2_test 5 = .ok (.istore_n 2, 1) := by decide +kernel
theorem dX2_test_6 : decode cX2_test 6 = .ok (.iconst 0, 1) := by decide +kernel
theorem dX2_test_7 : decode cX2_test 7 = .ok (.istore_n 3, 1) := by decide +kernel
theorem dX2_test_8 : decode cX2_test 8 = .ok (.iload_n 3, 1) := by decide +kernel
theorem dX2_test_9 : decode cX2_test 9 = .ok (.sipush 400, 3) := by decide +kernel
theorem dX2_test_12 : decode cX2_test 12 = .ok (.if_icmp .ge 40, 3) := by decide +kernel
theorem dX2_test_15 : decode cX2_test 15 = .ok (.iload_n 2, 1) := by decide +kernel
theorem dX2_test_16 : decode cX2_test 16 = .ok (.ifCond .eq 36, 3) := by decide +kernel
theorem dX2_test_19 : decode cX2_test 19 = .ok (.aload_n 0, 1) := by decide +kernel
theorem dX2_test_20 : decode cX2_test 20 = .ok (.sipush 230, 3) := by decide +kernel
theorem dX2_test_23 : decode cX2_test 23 = .ok (.invokevirtual 77, 3) := by decide +kernel
theorem dX2_test_26 : decode cX2_test 26 = .ok (.ifCond .eq 26, 3) := by decide +kernel
theorem dX2_test_29 : decode cX2_test 29 = .ok (.aload_n 0, 1) := by decide +kernel
theorem dX2_test_30 : decode cX2_test 30 = .ok (.iload_n 1, 1) := by decide +kernel
theorem dX2_test_31 : decode cX2_test 31 = .ok (.invokevirtual 182, 3) := by decide +kernel
theorem dX2_test_34 : decode cX2_test 34 = .ok (.istore_n 2, 1) := by decide +kernel
theorem dX2_test_35 : decode cX2_test 35 = .ok (.aload_n 0, 1) := by decide +kernel
theorem dX2_test_36 : decode cX2_test 36 = .ok (.getfield 32, 3) := by decide +kernel
theorem dX2_test_39 : decode cX2_test 39 = .ok (.sipush 230, 3) := by decide +kernel
theorem dX2_test_42 : decode cX2_test 42 = .ok (.iconst 0, 1) := by decide +kernel
theorem dX2_test_43 : decode cX2_test 43 = .ok (.invokevirtual 185, 3) := by decide +kernel
theorem dX2_test_46 : decode cX2_test 46 = .ok (.iinc 3 1, 3) := by decide +kernel
theorem dX2_test_49 : decode cX2_test 49 = .ok (.goto (-41), 3) := by decide +kernel
theorem dX2_test_52 : decode cX2_test 52 = .ok (.iload_n 2, 1) := by decide +kernel
theorem dX2_test_53 : decode cX2_test 53 = .ok (.ireturn, 1) := by decide +kernel
set_option maxRecDepth 20000 in
theorem ggX2_both_X2_single : GoodIn wsX2_both wsX2_single := goodIn_r _ [37, 1, 10, 11, 12, 5, 13, 14, 15, 16, 38, 39, 40, 41, 42, 43, 44, 45, 46, 47, 48, 49, 50, 17, 18, 19, 20, 21, 51, 52, 53, 54, 55, 56, 57, 58, 59, 60, 61, 62, 63, 64, 65, 66, 67, 68, 69, 22, 23, 24, 25, 26, 27, 28, 29, 30, 31, 70, 71, 72, 73, 74, 75, 76, 77, 6, 7, 8, 9, 78, 79, 80, 81, 82, 83, 84, 85, 86, 87, 88, 89, 90, 91, 92, 93, 94, 95, 96, 0, 2, 3, 4, 32, 33, 34, 35, 36, 97, 98, 99, 100, 101, 102, 103, 104, 105, 106, 107, 108, 109, 110, 111, 112, 113, 114, 115, 116, 117, 118, 119, 120, 121, 122, 123, 124, 125, 126, 127, 128, 129, 130, 131, 132, 133, 134] (by decide +kernel) (by decide +kernel)
set_option maxRecDepth 20000 in
theorem gX2_both_X2_single : GoodIn wsX2_both (wsV RX2 188 RX2 yX2_single wsX2_single) := goodIn_app (goodIn_of _ (by decide +kernel)) ggX2_both_X2_single
set_option maxRecDepth 20000 in
theorem ggX2_both_X2_take : GoodIn wsX2_both wsX2_take := goodIn_r _ [9, 10, 11, 12, 5, 13, 14, 15, 16, 17, 18, 19, 20, 21, 101, 102, 103, 104, 105, 106, 107, 108, 109, 110, 111, 112, 113, 114] (by decide +kernel) (by decide +kernel)
set_option maxRecDepth 20000 in
theorem gX2_both_X2_take : GoodIn wsX2_both (wsV RX2 77 RX2 yX2_take wsX2_take) := goodIn_app (goodIn_of _ (by decide +kernel)) ggX2_both_X2_take
set_option maxRecDepth 20000 in
theorem ggX2_both_X3_addOperation : GoodIn wsX2_both wsX3_addOperation := goodIn_r _ [26, 27, 28, 29, 30, 31, 115, 116, 117, 118, 119, 120, 121, 122, 123, 124, 125] (by decide +kernel) (by decide +kernel)
set_option maxRecDepth 20000 in
theorem gX2_both_X3_addOperation : GoodIn wsX2_both (wsV RX2 185 RX3 yX3_addOperation wsX3_addOperation) := goodIn_app (goodIn_of _ (by decide +kernel)) ggX2_both_X3_addOperation
theorem dX2_both_0 : decode cX2_both 0 = .ok (.aload_n 0, 1) := by decide +kernel
theorem dX2_both_1 : decode cX2_both 1 = .ok (.iload_n 1, 1) := by decide +kernel
theorem dX2_both_2 : decode cX2_both 2 = .ok (.invokevirtual 188, 3) := by decide +kernel
theorem dX2_both_5 : decode cX2_both 5 = .ok (.istore_n 2, 1) := by decide +kernel
theorem dX2_both_6 : decode cX2_both 6 = .ok (.iconst 0, 1) := by decide +kernel
theorem dX2_both_7 : decode cX2_both 7 = .ok (.istore_n 3, 1) := by decide +kernel
theorem dX2_both_8 : decode cX2_both 8 = .ok (.iload_n 3, 1) := by decide +kernel
theorem dX2_both_9 : decode cX2_both 9 = .ok (.sipush 400, 3) := by decide +kernel
theorem dX2_both_12 : decode cX2_both 12 = .ok (.if_icmp .ge 40, 3) := by decide +kernel
theorem dX2_both_15 : decode cX2_both 15 = .ok (.iload_n 2, 1) := by decide +kernel
theorem dX2_both_16 : decode cX2_both 16 = .ok (.ifCond .eq 36, 3) := by decide +kernel
theorem dX2_both_19 : decode cX2_both 19 = .ok (.aload_n 0, 1) := by decide +kernel
theorem dX2_both_20 : decode cX2_both 20 = .ok (.sipush 229, 3) := by decide +kernel
theorem dX2_both_23 : decode cX2_both 23 = .ok (.invokevirtual 77, 3) := by decide +kernel
theorem dX2_both_26 : decode cX2_both 26 = .ok (.ifCond .eq 26, 3) := by decide +kernel
theorem dX2_both_29 : decode cX2_both 29 = .ok (.aload_n 0, 1) := by decide +kernel
theorem dX2_both_30 : decode cX2_both 30 = .ok (.iload_n 1, 1) := by decide +kernel
theorem dX2_both_31 : decode cX2_both 31 = .ok (.invokevirtual 188, 3) := by decide +kernel
theorem dX2_both_34 : decode cX2_both 34 = .ok (.istore_n 2, 1) := by decide +kernel
theorem dX2_both_35 : decode cX2_both 35 = .ok (.aload_n 0, 1) := by decide +kernel
theorem dX2_both_36 : decode cX2_both 36 = .ok (.getfield 32, 3) := by decide +kernel
theorem dX2_both_39 : decode cX2_both 39 = .ok (.sipush 229, 3) := by decide +kernel
theorem dX2_both_42 : decode cX2_both 42 = .ok (.iconst 0, 1) := by decide +kernel
theorem dX2_both_43 : decode cX2_both 43 = .ok (.invokevirtual 185, 3) := by decide +kernel
theorem dX2_both_46 : decode cX2_both 46 = .ok (.iinc 3 1, 3) := by decide +kernel
theorem dX2_both_49 : decode cX2_both 49 = .ok (.goto (-41), 3) := by decide +kernel
theorem dX2_both_52 : decode cX2_both 52 = .ok (.iload_n 2, 1) := by decide +kernel
theorem dX2_both_53 : decode cX2_both 53 = .ok (.ireturn, 1) := by decide +kernel
set_option maxRecDepth 20000 in
theorem ggX2_single_X2_kind : GoodIn wsX2_single wsX2_kind := goodIn_r _ [6, 7, 8, 9, 101, 102, 103, 104, 105, 106, 107, 108, 109, 110, 111, 112, 113, 114] (by decide +kernel) (by decide +kernel)
set_option maxRecDepth 20000 in
theorem gX2_single_X2_kind : GoodIn wsX2_single (wsV RX2 54 RX2 yX2_kind wsX2_kind) := goodIn_app (goodIn_of _ (by decide +kernel)) ggX2_single_X2_kind
set_option maxRecDepth 20000 in
theorem ggX2_single_X2_negatedSingle : GoodIn wsX2_single wsX2_negatedSingle := goodIn_r _ [96, 1, 23, 24, 25, 5, 26, 7, 8, 27, 89, 90, 91, 47, 48, 49, 50, 51, 52, 53, 54, 55, 56, 88, 65, 66, 67, 68, 2, 3, 4, 6, 9, 92, 93, 94, 95, 0, 10, 11, 12, 13, 14, 15, 16, 17, 18, 19, 20, 21, 22, 28, 29, 30, 31, 32, 33, 34, 35, 36, 37, 38, 39, 40, 41, 42, 43, 44, 45, 46, 57, 58, 59, 60, 61, 62, 63, 64, 69, 70, 71, 72, 73, 74, 75, 76, 77, 78, 79, 80, 81, 82, 83, 84, 85, 86, 87, 97, 98, 99, 100, 101, 102, 103, 104, 105, 106, 107, 108, 109, 110, 111, 112, 113, 114, 115, 116, 117, 118, 119, 120, 121, 122, 123, 124, 125, 126, 127, 128, 129, 130, 131, 132, 133, 134] (by decide +kernel) (by decide +kernel)
set_option maxRecDepth 20000 in
theorem gX2_single_X2_negatedSingle : GoodIn wsX2_single (wsV RX2 191 RX2 yX2_negatedSingle wsX2_negatedSingle) := goodIn_app (goodIn_of _ (by decide +kernel)) ggX2_single_X2_negatedSingle
set_option maxRecDepth 20000 in
theorem ggX2_single_X2_bracket : GoodIn wsX2_single wsX2_bracket := goodIn_r _ [92, 23, 24, 25, 5, 26, 7, 8, 27, 93, 94, 95, 65, 66, 67, 68, 2, 3, 4, 6, 9, 88, 1, 89, 90, 91, 47, 48, 49, 50, 51, 52, 53, 54, 55, 56, 96, 0, 10, 11, 12, 13, 14, 15, 16, 17, 18, 19, 20, 21, 22, 28, 29, 30, 31, 32, 33, 34, 35, 36, 37, 38, 39, 40, 41, 42, 43, 44, 45, 46, 57, 58, 59, 60, 61, 62, 63, 64, 69, 70, 71, 72, 73, 74, 75, 76, 77, 78, 79, 80, 81, 82, 83, 84, 85, 86, 87, 97, 98, 99, 100, 101, 102, 103, 104, 105, 106, 107, 108, 109, 110, 111, 112, 113, 114, 115, 116, 117, 118, 119, 120, 121, 122, 123, 124, 125, 126, 127, 128, 129, 130, 131, 132, 133, 134] (by decide +kernel) (by decide +kernel)
set_option maxRecDepth 20000 in
theorem gX2_single_X2_bracket : GoodIn wsX2_single (wsV RX2 194 RX2 yX2_bracket wsX2_bracket) := goodIn_app (goodIn_of _ (by decide +kernel)) ggX2_single_X2_bracket
set_option maxRecDepth 20000 in
theorem ggX2_single_X2_antOperation : GoodIn wsX2_single wsX2_antOperation := goodIn_r _ [19, 1, 20, 21, 22, 2, 3, 4, 5, 6, 7, 8, 9, 23, 24, 25, 26, 27, 28, 29, 30, 31, 32, 33, 34, 35, 36, 37, 38, 39, 40, 41, 42, 43, 44, 45, 46, 47, 48, 49, 50, 51, 52, 53, 54, 55, 56, 101, 102, 103, 104, 105, 106, 107, 108, 126, 127, 128, 129, 130, 131, 132, 133, 134, 109, 110, 111, 112, 113, 114, 115, 116, 117, 118, 119, 120, 121, 122, 123, 124, 125] (by decide +kernel) (by decide +kernel)
set_option maxRecDepth 20000 in
theorem gX2_single_X2_antOperation : GoodIn wsX2_single (wsV RX2 197 RX2 yX2_antOperation wsX2_antOperation) := goodIn_app (goodIn_of _ (by decide +kernel)) ggX2_single_X2_antOperation
set_option maxRecDepth 20000 in
theorem ggX2_single_X2_sum : GoodIn wsX2_single wsX2_sum := goodIn_r _ [60, 1, 61, 62, 63, 5, 2, 3, 4, 6, 7, 8, 9, 23, 24, 25, 26, 27, 47, 48, 49, 50, 51, 52, 53, 54, 55, 56, 64, 65, 66, 67, 68, 57, 58, 59, 69, 32, 33, 34, 35, 36, 16, 17, 18, 19, 20, 21, 22, 28, 29, 30, 31, 37, 38, 39, 40, 41, 42, 43, 44, 45, 46, 70, 71, 72, 73, 74, 75, 76, 77, 78, 79, 80, 81, 82, 83, 84, 101, 102, 103, 104, 105, 106, 107, 108, 109, 110, 111, 112, 113, 114, 115, 116, 117, 118, 119, 120, 121, 122, 123, 124, 125, 126, 127, 128, 129, 130, 131, 132, 133, 134] (by decide +kernel) (by decide +kernel)
set_option maxRecDepth 20000 in
theorem gX2_single_X2_sum : GoodIn wsX2_single (wsV RX2 200 RX2 yX2_sum wsX2_sum) := goodIn_app (goodIn_of _ (by decide +kernel)) ggX2_single_X2_sum
set_option maxRecDepth 20000 in
theorem ggX2_single_X2_isComparison : GoodIn wsX2_single wsX2_isComparison := goodIn_r _ [87] (by decide +kernel) (by decide +kernel)
set_option maxRecDepth 20000 in
theorem gX2_single_X2_isComparison : GoodIn wsX2_single (va_wsS RX2 203 yX2_isComparison wsX2_isComparison) := goodIn_app (goodIn_of _ (by decide +kernel)) ggX2_single_X2_isComparison
set_option maxRecDepth 20000 in
theorem ggX2_single_X2_advance : GoodIn wsX2_single wsX2_advance := goodIn_r _ [26, 7, 8, 27, 101, 102, 103, 104, 105, 106, 107, 108, 109, 110, 111, 112, 113, 114] (by decide +kernel) (by decide +kernel)
set_option maxRecDepth 20000 in
theorem gX2_single_X2_advance : GoodIn wsX2_single (wsV RX2 97 RX2 yX2_advance wsX2_advance) := goodIn_app (goodIn_of _ (by decide +kernel)) ggX2_single_X2_advance
set_option maxRecDepth 20000 in
theorem ggX2_single_X3_addOperation : GoodIn wsX2_single wsX3_addOperation := goodIn_r _ [51, 52, 53, 54, 55, 56, 115, 116, 117, 118, 119, 120, 121, 122, 123, 124, 125] (by decide +kernel) (by decide +kernel)
set_option maxRecDepth 20000 in
theorem gX2_single_X3_addOperation : GoodIn wsX2_single (wsV RX2 185 RX3 yX3_addOperation wsX3_addOperation) := goodIn_app (goodIn_of _ (by decide +kernel)) ggX2_single_X3_addOperation
theorem dX2_single_0 : decode cX2_single 0 = .ok (.aload_n 0, 1) := by decide +kernel
theorem dX2_single_1 : decode cX2_single 1 = .ok (.invokevirtual 54, 3) := by decide +kernel
theorem dX2_single_4 : decode cX2_single 4 = .ok (.lookupswitch 61 #[(91, 50), (226, 56), (227, 56), (228, 44)], 44) := by decide +kernel
theorem dX2_single_48 : decode cX2_single 48 = .ok (.aload_n 0, 1) := by decide +kernel
theorem dX2_single_49 : decode cX2_single 49 = .ok (.iload_n 1, 1) := by decide +kernel
theorem dX2_single_50 : decode cX2_single 50 = .ok (.invokevirtual 191, 3) := by decide +kernel
theorem dX2_single_53 : decode cX2_single 53 = .ok (.ireturn, 1) := by decide +kernel
theorem dX2_single_54 : decode cX2_single 54 = .ok (.aload_n 0, 1) := by decide +kernel
theorem dX2_single_55 : decode cX2_single 55 = .ok (.iload_n 1, 1) := by decide +kernel
theorem dX2_single_56 : decode cX2_single 56 = .ok (.invokevirtual 194, 3) := by decide +kernel
theorem dX2_single_59 : decode cX2_single 59 = .ok (.ireturn, 1) := by decide +kernel
theorem dX2_single_60 : decode cX2_single 60 = .ok (.aload_n 0, 1) := by decide +kernel
theorem dX2_single_61 : decode cX2_single 61 = .ok (.invokevirtual 197, 3) := by decide +kernel
theorem dX2_single_64 : decode cX2_single 64 = .ok (.ireturn, 1) := by decide +kernel
theorem dX2_single_65 : decode cX2_single 65 = .ok (.aload_n 0, 1) := by decide +kernel
theorem dX2_single_66 : decode cX2_single 66 = .ok (.iload_n 1, 1) := by decide +kernel
theorem dX2_single_67 : decode cX2_single 67 = .ok (.invokevirtual 200, 3) := by decide +kernel
theorem dX2_single_70 : decode cX2_single 70 = .ok (.ifCond .eq 13, 3) := by decide +kernel
theorem dX2_single_73 : decode cX2_single 73 = .ok (.aload_n 0, 1) := by decide +kernel
theorem dX2_single_74 : decode cX2_single 74 = .ok (.invokevirtual 54, 3) := by decide +kernel
theorem dX2_single_77 : decode cX2_single 77 = .ok (.invokestatic 203, 3) := by decide +kernel
theorem dX2_single_80 : decode cX2_single 80 = .ok (.ifCond .ne 5, 3) := by decide +kernel
theorem dX2_single_83 : decode cX2_single 83 = .ok (.iconst 0, 1) := by decide +kernel
theorem dX2_single_84 : decode cX2_single 84 = .ok (.ireturn, 1) := by decide +kernel
theorem dX2_single_85 : decode cX2_single 85 = .ok (.aload_n 0, 1) := by decide +kernel
theorem dX2_single_86 : decode cX2_single 86 = .ok (.invokevirtual 54, 3) := by decide +kernel
theorem dX2_single_89 : decode cX2_single 89 = .ok (.istore_n 2, 1) := by decide +kernel
theorem dX2_single_90 : decode cX2_single 90 = .ok (.aload_n 0, 1) := by decide +kernel
theorem dX2_single_91 : decode cX2_single 91 = .ok (.invokevirtual 97, 3) := by decide +kernel
theorem dX2_single_94 : decode cX2_single 94 = .ok (.aload_n 0, 1) := by decide +kernel
theorem dX2_single_95 : decode cX2_single 95 = .ok (.iload_n 1, 1) := by decide +kernel
theorem dX2_single_96 : decode cX2_single 96 = .ok (.invokevirtual 200, 3) := by decide +kernel
theorem dX2_single_99 : decode cX2_single 99 = .ok (.istore_n 3, 1) := by decide +kernel
theorem dX2_single_100 : decode cX2_single 100 = .ok (.aload_n 0, 1) := by decide +kernel
theorem dX2_single_101 : decode cX2_single 101 = .ok (.getfield 32, 3) := by decide +kernel
theorem dX2_single_104 : decode cX2_single 104 = .ok (.iload_n 2, 1) := by decide +kernel
theorem dX2_single_105 : decode cX2_single 105 = .ok (.iconst 0, 1) := by decide +kernel
theorem dX2_single_106 : decode cX2_single 106 = .ok (.invokevirtual 185, 3) := by decide +kernel
theorem dX2_single_109 : decode cX2_single 109 = .ok (.iload_n 3, 1) := by decide +kernel
theorem dX2_single_110 : decode cX2_single 110 = .ok (.ireturn, 1) := by decide +kernel
theorem dX2_isComparison_0 : decode cX2_isComparison 0 = .ok (.iload_n 0, 1) := by decide +kernel
theorem dX2_isComparison_1 : decode cX2_isComparison 1 = .ok (.bipush 60, 2) := by decide +kernel
theorem dX2_isComparison_3 : decode cX2_isComparison 3 = .ok (.if_icmp .eq 29, 3) := by decide +kernel
theorem dX2_isComparison_6 : decode cX2_isComparison 6 = .ok (.iload_n 0, 1) := by decide +kernel
theorem dX2_isComparison_7 : decode cX2_isComparison 7 = .ok (.bipush 62, 2) := by decide +kernel
theorem dX2_isComparison_9 : decode cX2_isComparison 9 = .ok (.if_icmp .eq 23, 3) := by decide +kernel
theorem dX2_isComparison_12 : decode cX2_isComparison 12 = .ok (.iload_n 0, 1) := by decide +kernel
theorem dX2_isComparison_13 : decode cX2_isComparison 13 = .ok (.bipush 61, 2) := by decide +kernel
theorem dX2_isComparison_15 : decode cX2_isComparison 15 = .ok (.if_icmp .eq 17, 3) := by decide +kernel
theorem dX2_isComparison_18 : decode cX2_isComparison 18 = .ok (.iload_n 0, 1) := by decide +kernel
theorem dX2_isComparison_19 : decode cX2_isComparison 19 = .ok (.sipush 128, 3) := by decide +kernel
theorem dX2_isComparison_22 : decode cX2_isComparison 22 = .ok (.if_icmp .eq 10, 3) := by decide +kernel
theorem dX2_isComparison_25 : decode cX2_isComparison 25 = .ok (.iload_n 0, 1) := by decide +kernel
theorem dX2_isComparison_26 : decode cX2_isComparison 26 = .ok (.sipush 129, 3) := by decide +kernel
theorem dX2_isComparison_29 : decode cX2_isComparison 29 = .ok (.if_icmp .ne 7, 3) := by decide +kernel
theorem dX2_isComparison_32 : decode cX2_isComparison 32 = .ok (.iconst 1, 1) := by decide +kernel
theorem dX2_isComparison_33 : decode cX2_isComparison 33 = .ok (.goto 4, 3) := by decide +kernel
theorem dX2_isComparison_36 : decode cX2_isComparison 36 = .ok (.iconst 0, 1) := by decide +kernel
theorem dX2_isComparison_37 : decode cX2_isComparison 37 = .ok (.ireturn, 1) := by decide +kernel
set_option maxRecDepth 20000 in
theorem ggX2_negatedSingle_X2_advance : GoodIn wsX2_negatedSingle wsX2_advance := goodIn_r _ [6, 7, 8, 9, 101, 102, 103, 104, 105, 106, 107, 108, 109, 110, 111, 112, 113, 114] (by decide +kernel) (by decide +kernel)
set_option maxRecDepth 20000 in
theorem gX2_negatedSingle_X2_advance : GoodIn wsX2_negatedSingle (wsV RX2 97 RX2 yX2_advance wsX2_advance) := goodIn_app (goodIn_of _ (by decide +kernel)) ggX2_negatedSingle_X2_advance
set_option maxRecDepth 20000 in
theorem ggX2_negatedSingle_X2_single : GoodIn wsX2_negatedSingle wsX2_single := goodIn_r _ [37, 1, 28, 29, 30, 5, 31, 7, 8, 32, 38, 39, 40, 41, 42, 43, 44, 45, 46, 47, 48, 49, 50, 2, 3, 4, 6, 9, 51, 52, 53, 54, 55, 56, 57, 58, 59, 60, 61, 62, 63, 64, 65, 66, 67, 68, 69, 13, 14, 15, 16, 17, 18, 19, 20, 21, 22, 70, 71, 72, 73, 74, 75, 76, 77, 24, 25, 26, 27, 78, 79, 80, 81, 82, 83, 84, 85, 86, 87, 88, 89, 90, 91, 92, 93, 94, 95, 96, 23, 10, 11, 12, 33, 34, 35, 36, 0, 97, 98, 99, 100, 101, 102, 103, 104, 105, 106, 107, 108, 109, 110, 111, 112, 113, 114, 115, 116, 117, 118, 119, 120, 121, 122, 123, 124, 125, 126, 127, 128, 129, 130, 131, 132, 133, 134] (by decide +kernel) (by decide +kernel)
set_option maxRecDepth 20000 in
theorem gX2_negatedSingle_X2_single : GoodIn wsX2_negatedSingle (wsV RX2 188 RX2 yX2_single wsX2_single) := goodIn_app (goodIn_of _ (by decide +kernel)) ggX2_negatedSingle_X2_single
set_option maxRecDepth 20000 in
theorem ggX2_negatedSingle_X3_addOperation : GoodIn wsX2_negatedSingle wsX3_addOperation := goodIn_r _ [17, 18, 19, 20, 21, 22, 115, 116, 117, 118, 119, 120, 121, 122, 123, 124, 125] (by decide +kernel) (by decide +kernel)
set_option maxRecDepth 20000 in
theorem gX2_negatedSingle_X3_addOperation : GoodIn wsX2_negatedSingle (wsV RX2 185 RX3 yX3_addOperation wsX3_addOperation) := goodIn_app (goodIn_of _ (by decide +kernel)) ggX2_negatedSingle_X3_addOperation
theorem dX2_negatedSingle_0 : decode cX2_negatedSingle 0 = .ok (.iload_n 1, 1) := by decide +kernel
theorem dX2_negatedSingle_1 : decode cX2_negatedSingle 1 = .ok (.bipush 8, 2) := by decide +kernel
theorem dX2_negatedSingle_3 : decode cX2_negatedSingle 3 = .ok (.if_icmp .lt 5, 3) := by decide +kernel
theorem dX2_negatedSingle_6 : decode cX2_negatedSingle 6 = .ok (.iconst 0, 1) := by decide +kernel
theorem dX2_negatedSingle_7 : decode cX2_negatedSingle 7 = .ok (.ireturn, 1) := by decide +kernel
theorem dX2_negatedSingle_8 : decode cX2_negatedSingle 8 = .ok (.aload_n 0, 1) := by decide +kernel
theorem dX2_negatedSingle_9 : decode cX2_negatedSingle 9 = .ok (.invokevirtual 97, 3) := by decide +kernel
theorem dX2_negatedSingle_12 : decode cX2_negatedSingle 12 = .ok (.aload_n 0, 1) := by decide +kernel
theorem dX2_negatedSingle_13 : decode cX2_negatedSingle 13 = .ok (.iload_n 1, 1) := by decide +kernel
theorem dX2_negatedSingle_14 : decode cX2_negatedSingle 14 = .ok (.iconst 1, 1) := by decide +kernel
theorem dX2_negatedSingle_15 : decode cX2_negatedSingle 15 = .ok (.iadd, 1) := by decide +kernel
theorem dX2_negatedSingle_16 : decode cX2_negatedSingle 16 = .ok (.invokevirtual 188, 3) := by decide +kernel
theorem dX2_negatedSingle_19 : decode cX2_negatedSingle 19 = .ok (.istore_n 2, 1) := by decide +kernel
theorem dX2_negatedSingle_20 : decode cX2_negatedSingle 20 = .ok (.aload_n 0, 1) := by decide +kernel
theorem dX2_negatedSingle_21 : decode cX2_negatedSingle 21 = .ok (.getfield 32, 3) := by decide +kernel
theorem dX2_negatedSingle_24 : decode cX2_negatedSingle 24 = .ok (.sipush 228, 3) := by decide +kernel
theorem dX2_negatedSingle_27 : decode cX2_negatedSingle 27 = .ok (.iconst 0, 1) := by decide +kernel
theorem dX2_negatedSingle_28 : decode cX2_negatedSingle 28 = .ok (.invokevirtual 185, 3) := by decide +kernel
theorem dX2_negatedSingle_31 : decode cX2_negatedSingle 31 = .ok (.iload_n 2, 1) := by decide +kernel
theorem dX2_negatedSingle_32 : decode cX2_negatedSingle 32 = .ok (.ireturn, 1) := by decide +kernel
set_option maxRecDepth 20000 in
theorem ggX2_bracket_X2_advance : GoodIn wsX2_bracket wsX2_advance := goodIn_r _ [5, 6, 7, 8, 101, 102, 103, 104, 105, 106, 107, 108, 109, 110, 111, 112, 113, 114] (by decide +kernel) (by decide +kernel)
set_option maxRecDepth 20000 in
theorem gX2_bracket_X2_advance : GoodIn wsX2_bracket (wsV RX2 97 RX2 yX2_advance wsX2_advance) := goodIn_app (goodIn_of _ (by decide +kernel)) ggX2_bracket_X2_advance
set_option maxRecDepth 20000 in
theorem ggX2_bracket_X2_test : GoodIn wsX2_bracket wsX2_test := goodIn_r _ [97, 22, 98, 99, 100, 4, 12, 13, 14, 15, 16, 17, 18, 19, 6, 7, 20, 1, 2, 3, 5, 8, 26, 27, 28, 29, 30, 31, 32, 33, 34, 35, 21, 23, 24, 25, 0, 9, 10, 11, 36, 37, 38, 39, 40, 41, 42, 43, 44, 45, 46, 47, 48, 49, 50, 51, 52, 53, 54, 55, 56, 57, 58, 59, 60, 61, 62, 63, 64, 65, 66, 67, 68, 69, 70, 71, 72, 73, 74, 75, 76, 77, 78, 79, 80, 81, 82, 83, 84, 85, 86, 87, 88, 89, 90, 91, 92, 93, 94, 95, 96, 101, 102, 103, 104, 105, 106, 107, 108, 109, 110, 111, 112, 113, 114, 115, 116, 117, 118, 119, 120, 121, 122, 123, 124, 125, 126, 127, 128, 129, 130, 131, 132, 133, 134] (by decide +kernel) (by decide +kernel)
set_option maxRecDepth 20000 in
theorem gX2_bracket_X2_test : GoodIn wsX2_bracket (wsV RX2 176 RX2 yX2_test wsX2_test) := goodIn_app (goodIn_of _ (by decide +kernel)) ggX2_bracket_X2_test
set_option maxRecDepth 20000 in
theorem ggX2_bracket_X2_take : GoodIn wsX2_bracket wsX2_take := goodIn_r _ [15, 16, 17, 18, 4, 19, 6, 7, 20, 1, 2, 3, 5, 8, 101, 102, 103, 104, 105, 106, 107, 108, 109, 110, 111, 112, 113, 114] (by decide +kernel) (by decide +kernel)
set_option maxRecDepth 20000 in
theorem gX2_bracket_X2_take : GoodIn wsX2_bracket (wsV RX2 77 RX2 yX2_take wsX2_take) := goodIn_app (goodIn_of _ (by decide +kernel)) ggX2_bracket_X2_take
theorem dX2_bracket_0 : decode cX2_bracket 0 = .ok (.iload_n 1, 1) := by decide +kernel
theorem dX2_bracket_1 : decode cX2_bracket 1 = .ok (.bipush 8, 2) := by decide +kernel
theorem dX2_bracket_3 : decode cX2_bracket 3 = .ok (.if_icmp .lt 5, 3) := by decide +kernel
theorem dX2_bracket_6 : decode cX2_bracket 6 = .ok (.iconst 0, 1) := by decide +kernel
theorem dX2_bracket_7 : decode cX2_bracket 7 = .ok (.ireturn, 1) := by decide +kernel
theorem dX2_bracket_8 : decode cX2_bracket 8 = .ok (.aload_n 0, 1) := by decide +kernel
theorem dX2_bracket_9 : decode cX2_bracket 9 = .ok (.invokevirtual 97, 3) := by decide +kernel
theorem dX2_bracket_12 : decode cX2_bracket 12 = .ok (.aload_n 0, 1) := by decide +kernel
theorem dX2_bracket_13 : decode cX2_bracket 13 = .ok (.iload_n 1, 1) := by decide +kernel
theorem dX2_bracket_14 : decode cX2_bracket 14 = .ok (.iconst 1, 1) := by decide +kernel
theorem dX2_bracket_15 : decode cX2_bracket 15 = .ok (.iadd, 1) := by decide +kernel
theorem dX2_bracket_16 : decode cX2_bracket 16 = .ok (.invokevirtual 176, 3) := by decide +kernel
theorem dX2_bracket_19 : decode cX2_bracket 19 = .ok (.ifCond .eq 16, 3) := by decide +kernel
theorem dX2_bracket_22 : decode cX2_bracket 22 = .ok (.aload_n 0, 1) := by decide +kernel
theorem dX2_bracket_23 : decode cX2_bracket 23 = .ok (.bipush 93, 2) := by decide +kernel
theorem dX2_bracket_25 : decode cX2_bracket 25 = .ok (.invokevirtual 77, 3) := by decide +kernel
theorem dX2_bracket_28 : decode cX2_bracket 28 = .ok (.ifCond .eq 7, 3) := by decide +kernel
theorem dX2_bracket_31 : decode cX2_bracket 31 = .ok (.iconst 1, 1) := by decide +kernel
theorem dX2_bracket_32 : decode cX2_bracket 32 = .ok (.goto 4, 3) := by decide +kernel
theorem dX2_bracket_35 : decode cX2_bracket 35 = .ok (.iconst 0, 1) := by decide +kernel
theorem dX2_bracket_36 : decode cX2_bracket 36 = .ok (.ireturn, 1) := by decide +kernel
set_option maxRecDepth 20000 in
theorem ggX2_antOperation_X2_kind : GoodIn wsX2_antOperation wsX2_kind := goodIn_r _ [9, 10, 11, 12, 47, 48, 49, 50, 51, 52, 53, 54, 64, 65, 66, 67, 68, 69] (by decide +kernel) (by decide +kernel)
set_option maxRecDepth 20000 in
theorem gX2_antOperation_X2_kind : GoodIn wsX2_antOperation (wsV RX2 54 RX2 yX2_kind wsX2_kind) := goodIn_app (goodIn_of _ (by decide +kernel)) ggX2_antOperation_X2_kind
set_option maxRecDepth 20000 in
theorem ggX2_antOperation_X2_advance : GoodIn wsX2_antOperation wsX2_advance := goodIn_r _ [16, 10, 11, 17, 47, 48, 49, 50, 51, 52, 53, 54, 64, 65, 66, 67, 68, 69] (by decide +kernel) (by decide +kernel)
set_option maxRecDepth 20000 in
theorem gX2_antOperation_X2_advance : GoodIn wsX2_antOperation (wsV RX2 97 RX2 yX2_advance wsX2_advance) := goodIn_app (goodIn_of _ (by decide +kernel)) ggX2_antOperation_X2_advance
set_option maxRecDepth 20000 in
theorem ggX2_antOperation_X2_knownName : GoodIn wsX2_antOperation wsX2_knownName := goodIn_r _ [21, 22, 23, 24, 8, 25, 10, 11, 26, 27, 28, 29, 30, 31, 32, 33, 34, 35, 36, 13, 14, 15, 16, 17, 47, 48, 49, 50, 51, 52, 53, 54, 64, 65, 66, 67, 68, 69] (by decide +kernel) (by decide +kernel)
set_option maxRecDepth 20000 in
theorem gX2_antOperation_X2_knownName : GoodIn wsX2_antOperation (wsV RX2 131 RX2 yX2_knownName wsX2_knownName) := goodIn_app (goodIn_of _ (by decide +kernel)) ggX2_antOperation_X2_knownName
set_option maxRecDepth 20000 in
theorem ggX2_antOperation_X3_addOperation : GoodIn wsX2_antOperation wsX3_addOperation := goodIn_r _ [41, 42, 43, 44, 45, 46, 70, 71, 72, 73, 74, 75, 76, 77, 78, 79, 80] (by decide +kernel) (by decide +kernel)
set_option maxRecDepth 20000 in
theorem gX2_antOperation_X3_addOperation : GoodIn wsX2_antOperation (wsV RX2 185 RX3 yX3_addOperation wsX3_addOperation) := goodIn_app (goodIn_of _ (by decide +kernel)) ggX2_antOperation_X3_addOperation
theorem dX2_antOperation_0 : decode cX2_antOperation 0 = .ok (.aload_n 0, 1) := by decide +kernel
theorem dX2_antOperation_1 : decode cX2_antOperation 1 = .ok (.invokevirtual 54, 3) := by decide +kernel
theorem dX2_antOperation_4 : decode cX2_antOperation 4 = .ok (.istore_n 1, 1) := by decide +kernel
theorem dX2_antOperation_5 : decode cX2_antOperation 5 = .ok (.aload_n 0, 1) := by decide +kernel
theorem dX2_antOperation_6 : decode cX2_antOperation 6 = .ok (.invokevirtual 97, 3) := by decide +kernel
theorem dX2_antOperation_9 : decode cX2_antOperation 9 = .ok (.aload_n 0, 1) := by decide +kernel
theorem dX2_antOperation_10 : decode cX2_antOperation 10 = .ok (.invokevirtual 54, 3) := by decide +kernel
theorem dX2_antOperation_13 : decode cX2_antOperation 13 = .ok (.iconst 2, 1) := by decide +kernel
theorem dX2_antOperation_14 : decode cX2_antOperation 14 = .ok (.if_icmp .eq 5, 3) := by decide +kernel
theorem dX2_antOperation_17 : decode cX2_antOperation 17 = .ok (.iconst 0, 1) := by decide +kernel
theorem dX2_antOperation_18 : decode cX2_antOperation 18 = .ok (.ireturn, 1) := by decide +kernel
theorem dX2_antOperation_19 : decode cX2_antOperation 19 = .ok (.aload_n 0, 1) := by decide +kernel
theorem dX2_antOperation_20 : decode cX2_antOperation 20 = .ok (.getfield 32, 3) := by decide +kernel
theorem dX2_antOperation_23 : decode cX2_antOperation 23 = .ok (.iload_n 1, 1) := by decide +kernel
theorem dX2_antOperation_24 : decode cX2_antOperation 24 = .ok (.aload_n 0, 1) := by decide +kernel
theorem dX2_antOperation_25 : decode cX2_antOperation 25 = .ok (.aload_n 0, 1) := by decide +kernel
theorem dX2_antOperation_26 : decode cX2_antOperation 26 = .ok (.getfield 19, 3) := by decide +kernel
theorem dX2_antOperation_29 : decode cX2_antOperation 29 = .ok (.aload_n 0, 1) := by decide +kernel
theorem dX2_antOperation_30 : decode cX2_antOperation 30 = .ok (.getfield 36, 3) := by decide +kernel
theorem dX2_antOperation_33 : decode cX2_antOperation 33 = .ok (.getfield 157, 3) := by decide +kernel
theorem dX2_antOperation_36 : decode cX2_antOperation 36 = .ok (.invokevirtual 131, 3) := by decide +kernel
theorem dX2_antOperation_39 : decode cX2_antOperation 39 = .ok (.invokevirtual 185, 3) := by decide +kernel
theorem dX2_antOperation_42 : decode cX2_antOperation 42 = .ok (.iconst 1, 1) := by decide +kernel
theorem dX2_antOperation_43 : decode cX2_antOperation 43 = .ok (.ireturn, 1) := by decide +kernel
set_option maxRecDepth 20000 in
theorem ggX2_sum_X2_product : GoodIn wsX2_sum wsX2_product := goodIn_r _ [77, 1, 74, 75, 76, 5, 6, 7, 8, 9, 10, 11, 12, 13, 14, 15, 16, 17, 18, 19, 20, 21, 22, 23, 24, 25, 26, 27, 28, 29, 30, 31, 32, 33, 34, 35, 36, 37, 38, 39, 40, 41, 42, 43, 44, 45, 46, 47, 48, 49, 50, 51, 52, 53, 54, 55, 56, 57, 58, 59, 60, 61, 62, 63, 64, 65, 66, 67, 68, 69, 70, 71, 72, 73, 0, 2, 3, 4, 78, 79, 80, 81, 82, 83, 84, 85, 86, 87, 88, 89, 90, 91, 92, 93, 94, 95, 96, 97, 98, 99, 100, 101, 102, 103, 104, 105, 106, 107, 108, 109, 110, 111] (by decide +kernel) (by decide +kernel)
set_option maxRecDepth 20000 in
theorem gX2_sum_X2_product : GoodIn wsX2_sum (wsV RX2 206 RX2 yX2_product wsX2_product) := goodIn_app (goodIn_of _ (by decide +kernel)) ggX2_sum_X2_product
set_option maxRecDepth 20000 in
theorem ggX2_sum_X2_kind : GoodIn wsX2_sum wsX2_kind := goodIn_r _ [9, 10, 11, 12, 78, 79, 80, 81, 82, 83, 84, 85, 86, 87, 88, 89, 90, 91] (by decide +kernel) (by decide +kernel)
set_option maxRecDepth 20000 in
theorem gX2_sum_X2_kind : GoodIn wsX2_sum (wsV RX2 54 RX2 yX2_kind wsX2_kind) := goodIn_app (goodIn_of _ (by decide +kernel)) ggX2_sum_X2_kind
set_option maxRecDepth 20000 in
theorem ggX2_sum_X2_advance : GoodIn wsX2_sum wsX2_advance := goodIn_r _ [16, 10, 11, 17, 78, 79, 80, 81, 82, 83, 84, 85, 86, 87, 88, 89, 90, 91] (by decide +kernel) (by decide +kernel)
set_option maxRecDepth 20000 in
theorem gX2_sum_X2_advance : GoodIn wsX2_sum (wsV RX2 97 RX2 yX2_advance wsX2_advance) := goodIn_app (goodIn_of _ (by decide +kernel)) ggX2_sum_X2_advance
set_option maxRecDepth 20000 in
theorem ggX2_sum_X3_addOperation : GoodIn wsX2_sum wsX3_addOperation := goodIn_r _ [22, 23, 24, 25, 26, 27, 92, 93, 94, 95, 96, 97, 98, 99, 100, 101, 102] (by decide +kernel) (by decide +kernel)
set_option maxRecDepth 20000 in
theorem gX2_sum_X3_addOperation : GoodIn wsX2_sum (wsV RX2 185 RX3 yX3_addOperation wsX3_addOperation) := goodIn_app (goodIn_of _ (by decide +kernel)) ggX2_sum_X3_addOperation
theorem dX2_sum_0 : decode cX2_sum 0 = .ok (.aload_n 0, 1) := by decide +kernel
theorem dX2_sum_1 : decode cX2_sum 1 = .ok (.iload_n 1, 1) := by decide +kernel
theorem dX2_sum_2 : decode cX2_sum 2 = .ok (.invokevirtual 206, 3) := by decide +kernel
theorem dX2_sum_5 : decode cX2_sum 5 = .ok (.istore_n 2, 1) := by decide +kernel
theorem dX2_sum_6 : decode cX2_sum 6 = .ok (.iconst 0, 1) := by decide +kernel
theorem dX2_sum_7 : decode cX2_sum 7 = .ok (.istore_n 3, 1) := by decide +kernel
theorem dX2_sum_8 : decode cX2_sum 8 = .ok (.iload_n 3, 1) := by decide +kernel
theorem dX2_sum_9 : decode cX2_sum 9 = .ok (.sipush 400, 3) := by decide +kernel
theorem dX2_sum_12 : decode cX2_sum 12 = .ok (.if_icmp .ge 57, 3) := by decide +kernel
theorem dX2_sum_15 : decode cX2_sum 15 = .ok (.iload_n 2, 1) := by decide +kernel
theorem dX2_sum_16 : decode cX2_sum 16 = .ok (.ifCond .eq 53, 3) := by decide +kernel
theorem dX2_sum_19 : decode cX2_sum 19 = .ok (.aload_n 0, 1) := by decide +kernel
theorem dX2_sum_20 : decode cX2_sum 20 = .ok (.invokevirtual 54, 3) := by decide +kernel
theorem dX2_sum_23 : decode cX2_sum 23 = .ok (.bipush 43, 2) := by decide +kernel
theorem dX2_sum_25 : decode cX2_sum 25 = .ok (.if_icmp .eq 12, 3) := by decide +kernel
theorem dX2_sum_28 : decode cX2_sum 28 = .ok (.aload_n 0, 1) := by decide +kernel
theorem dX2_sum_29 : decode cX2_sum 29 = .ok (.invokevirtual 54, 3) := by decide +kernel
theorem dX2_sum_32 : decode cX2_sum 32 = .ok (.bipush 45, 2) := by decide +kernel
theorem dX2_sum_34 : decode cX2_sum 34 = .ok (.if_icmp .ne 35, 3) := by decide +kernel
theorem dX2_sum_37 : decode cX2_sum 37 = .ok (.aload_n 0, 1) := by decide +kernel
theorem dX2_sum_38 : decode cX2_sum 38 = .ok (.invokevirtual 54, 3) := by decide +kernel
theorem dX2_sum_41 : decode cX2_sum 41 = .ok (.istore 4, 2) := by decide +kernel
theorem dX2_sum_43 : decode cX2_sum 43 = .ok (.aload_n 0, 1) := by decide +kernel
theorem dX2_sum_44 : decode cX2_sum 44 = .ok (.invokevirtual 97, 3) := by decide +kernel
theorem dX2_sum_47 : decode cX2_sum 47 = .ok (.aload_n 0, 1) := by decide +kernel
theorem dX2_sum_48 : decode cX2_sum 48 = .ok (.iload_n 1, 1) := by decide +kernel
theorem dX2_sum_49 : decode cX2_sum 49 = .ok (.invokevirtual 206, 3) := by decide +kernel
theorem dX2_sum_52 : decode cX2_sum 52 = .ok (.istore_n 2, 1) := by decide +kernel
theorem dX2_sum_53 : decode cX2_sum 53 = .ok (.aload_n 0, 1) := by decide +kernel
theorem dX2_sum_54 : decode cX2_sum 54 = .ok (.getfield 32, 3) := by decide +kernel
theorem dX2_sum_57 : decode cX2_sum 57 = .ok (.iload 4, 2) := by decide +kernel
theorem dX2_sum_59 : decode cX2_sum 59 = .ok (.iconst 0, 1) := by decide +kernel
theorem dX2_sum_60 : decode cX2_sum 60 = .ok (.invokevirtual 185, 3) := by decide +kernel
theorem dX2_sum_63 : decode cX2_sum 63 = .ok (.iinc 3 1, 3) := by decide +kernel
theorem dX2_sum_66 : decode cX2_sum 66 = .ok (.goto (-58), 3) := by decide +kernel
theorem dX2_sum_69 : decode cX2_sum 69 = .ok (.iload_n 2, 1) := by decide +kernel
theorem dX2_sum_70 : decode cX2_sum 70 = .ok (.ireturn, 1) := by decide +kernel
set_option maxRecDepth 20000 in
theorem ggX2_product_X2_factor : GoodIn wsX2_product wsX2_factor := goodIn_r _ [36, 1, 6, 7, 8, 5, 9, 10, 11, 12, 37, 38, 39, 40, 41, 18, 19, 20, 21, 22, 23, 24, 25, 26, 27, 13, 14, 15, 16, 17, 42, 43, 44, 45, 46, 47, 48, 49, 50, 51, 52, 53, 54, 55, 56, 57, 58, 59, 60, 61, 62, 63, 64, 65, 66, 67, 68, 69, 70, 71, 28, 29, 30, 31, 32, 33, 34, 35, 72, 73, 2, 3, 4, 0, 74, 75, 76, 77, 78, 79, 80, 81, 82, 83, 84, 85, 86, 87, 88, 89, 90, 91, 92, 93, 94, 95, 96, 97, 98, 99, 100, 101, 102, 103, 104, 105, 106, 107, 108, 109, 110, 111] (by decide +kernel) (by decide +kernel)
set_option maxRecDepth 20000 in
theorem gX2_product_X2_factor : GoodIn wsX2_product (wsV RX2 209 RX2 yX2_factor wsX2_factor) := goodIn_app (goodIn_of _ (by decide +kernel)) ggX2_product_X2_factor
set_option maxRecDepth 20000 in
theorem ggX2_product_X2_kind : GoodIn wsX2_product wsX2_kind := goodIn_r _ [9, 10, 11, 12, 78, 79, 80, 81, 82, 83, 84, 85, 86, 87, 88, 89, 90, 91] (by decide +kernel) (by decide +kernel)
set_option maxRecDepth 20000 in
theorem gX2_product_X2_kind : GoodIn wsX2_product (wsV RX2 54 RX2 yX2_kind wsX2_kind) := goodIn_app (goodIn_of _ (by decide +kernel)) ggX2_product_X2_kind
set_option maxRecDepth 20000 in
theorem ggX2_product_X2_advance : GoodIn wsX2_product wsX2_advance := goodIn_r _ [16, 10, 11, 17, 78, 79, 80, 81, 82, 83, 84, 85, 86, 87, 88, 89, 90, 91] (by decide +kernel) (by decide +kernel)
set_option maxRecDepth 20000 in
theorem gX2_product_X2_advance : GoodIn wsX2_product (wsV RX2 97 RX2 yX2_advance wsX2_advance) := goodIn_app (goodIn_of _ (by decide +kernel)) ggX2_product_X2_advance
set_option maxRecDepth 20000 in
theorem ggX2_product_X3_addOperation : GoodIn wsX2_product wsX3_addOperation := goodIn_r _ [22, 23, 24, 25, 26, 27, 92, 93, 94, 95, 96, 97, 98, 99, 100, 101, 102] (by decide +kernel) (by decide +kernel)
set_option maxRecDepth 20000 in
theorem gX2_product_X3_addOperation : GoodIn wsX2_product (wsV RX2 185 RX3 yX3_addOperation wsX3_addOperation) := goodIn_app (goodIn_of _ (by decide +kernel)) ggX2_product_X3_addOperation
theorem dX2_product_0 : decode cX2_product 0 = .ok (.aload_n 0, 1) := by decide +kernel
theorem dX2_product_1 : decode cX2_product 1 = .ok (.iload_n 1, 1) := by decide +kernel
theorem dX2_product_2 : decode cX2_product 2 = .ok (.invokevirtual 209, 3) := by decide +kernel
theorem dX2_product_5 : decode cX2_product 5 = .ok (.istore_n 2, 1) := by decide +kernel
theorem dX2_product_6 : decode cX2_product 6 = .ok (.iconst 0, 1) := by decide +kernel
theorem dX2_product_7 : decode cX2_product 7 = .ok (.istore_n 3, 1) := by decide +kernel
theorem dX2_product_8 : decode cX2_product 8 = .ok (.iload_n 3, 1) := by decide +kernel
theorem dX2_product_9 : decode cX2_product 9 = .ok (.sipush 400, 3) := by decide +kernel
theorem dX2_product_12 : decode cX2_product 12 = .ok (.if_icmp .ge 57, 3) := by decide +kernel
theorem dX2_product_15 : decode cX2_product 15 = .ok (.iload_n 2, 1) := by decide +kernel
theorem dX2_product_16 : decode cX2_product 16 = .ok (.ifCond .eq 53, 3) := by decide +kernel
theorem dX2_product_19 : decode cX2_product 19 = .ok (.aload_n 0, 1) := by decide +kernel
theorem dX2_product_20 : decode cX2_product 20 = .ok (.invokevirtual 54, 3) := by decide +kernel
theorem dX2_product_23 : decode cX2_product 23 = .ok (.bipush 42, 2) := by decide +kernel
theorem dX2_product_25 : decode cX2_product 25 = .ok (.if_icmp .eq 12, 3) := by decide +kernel
theorem dX2_product_28 : decode cX2_product 28 = .ok (.aload_n 0, 1) := by decide +kernel
theorem dX2_product_29 : decode cX2_product 29 = .ok (.invokevirtual 54, 3) := by decide +kernel
theorem dX2_product_32 : decode cX2_product 32 = .ok (.bipush 47, 2) := by decide +kernel
theorem dX2_product_34 : decode cX2_product 34 = .ok (.if_icmp .ne 35, 3) := by decide +kernel
theorem dX2_product_37 : decode cX2_product 37 = .ok (.aload_n 0, 1) := by decide +kernel
theorem dX2_product_38 : decode cX2_product 38 = .ok (.invokevirtual 54, 3) := by decide +kernel
theorem dX2_product_41 : decode cX2_product 41 = .ok (.istore 4, 2) := by decide +kernel
theorem dX2_product_43 : decode cX2_product 43 = .ok (.aload_n 0, 1) := by decide +kernel
theorem dX2_product_44 : decode cX2_product 44 = .ok (.invokevirtual 97, 3) := by decide +kernel
theorem dX2_product_47 : decode cX2_product 47 = .ok (.aload_n 0, 1) := by decide +kernel
theorem dX2_product_48 : decode cX2_product 48 = .ok (.iload_n 1, 1) := by decide +kernel
theorem dX2_product_49 : decode cX2_product 49 = .ok (.invokevirtual 209, 3) := by decide +kernel
theorem dX2_product_52 : decode cX2_product 52 = .ok (.istore_n 2, 1) := by decide +kernel
theorem dX2_product_53 : decode cX2_product 53 = .ok (.aload_n 0, 1) := by decide +kernel
theorem dX2_product_54 : decode cX2_product 54 = .ok (.getfield 32, 3) := by decide +kernel
theorem dX2_product_57 : decode cX2_product 57 = .ok (.iload 4, 2) := by decide +kernel
theorem dX2_product_59 : decode cX2_product 59 = .ok (.iconst 0, 1) := by decide +kernel
theorem dX2_product_60 : decode cX2_product 60 = .ok (.invokevirtual 185, 3) := by decide +kernel
theorem dX2_product_63 : decode cX2_product 63 = .ok (.iinc 3 1, 3) := by decide +kernel
theorem dX2_product_66 : decode cX2_product 66 = .ok (.goto (-58), 3) := by decide +kernel
theorem dX2_product_69 : decode cX2_product 69 = .ok (.iload_n 2, 1) := by decide +kernel
theorem dX2_product_70 : decode cX2_product 70 = .ok (.ireturn, 1) := by decide +kernel
set_option maxRecDepth 20000 in
theorem ggX2_factor_X2_kind : GoodIn wsX2_factor wsX2_kind := goodIn_r _ [6, 7, 8, 9, 78, 79, 80, 81, 82, 83, 84, 85, 86, 87, 88, 89, 90, 91] (by decide +kernel) (by decide +kernel)
set_option maxRecDepth 20000 in
theorem gX2_factor_X2_kind : GoodIn wsX2_factor (wsV RX2 54 RX2 yX2_kind wsX2_kind) := goodIn_app (goodIn_of _ (by decide +kernel)) ggX2_factor_X2_kind
set_option maxRecDepth 20000 in
theorem ggX2_factor_X2_value : GoodIn wsX2_factor wsX2_value := goodIn_r _ [13, 7, 8, 14, 78, 79, 80, 81, 82, 83, 84, 85, 86, 87, 88, 89, 90, 91] (by decide +kernel) (by decide +kernel)
set_option maxRecDepth 20000 in
theorem gX2_factor_X2_value : GoodIn wsX2_factor (wsV RX2 106 RX2 yX2_value wsX2_value) := goodIn_app (goodIn_of _ (by decide +kernel)) ggX2_factor_X2_value
set_option maxRecDepth 20000 in
theorem ggX2_factor_X3_addOperation : GoodIn wsX2_factor wsX3_addOperation := goodIn_r _ [19, 20, 21, 22, 23, 24, 92, 93, 94, 95, 96, 97, 98, 99, 100, 101, 102] (by decide +kernel) (by decide +kernel)
set_option maxRecDepth 20000 in
theorem gX2_factor_X3_addOperation : GoodIn wsX2_factor (wsV RX2 185 RX3 yX3_addOperation wsX3_addOperation) := goodIn_app (goodIn_of _ (by decide +kernel)) ggX2_factor_X3_addOperation
set_option maxRecDepth 20000 in
theorem ggX2_factor_X2_advance : GoodIn wsX2_factor wsX2_advance := goodIn_r _ [28, 7, 8, 29, 78, 79, 80, 81, 82, 83, 84, 85, 86, 87, 88, 89, 90, 91] (by decide +kernel) (by decide +kernel)
set_option maxRecDepth 20000 in
theorem gX2_factor_X2_advance : GoodIn wsX2_factor (wsV RX2 97 RX2 yX2_advance wsX2_advance) := goodIn_app (goodIn_of _ (by decide +kernel)) ggX2_factor_X2_advance
set_option maxRecDepth 20000 in
theorem ggX2_factor_X2_antOperation : GoodIn wsX2_factor wsX2_antOperation := goodIn_r _ [33, 1, 34, 35, 36, 2, 3, 4, 5, 6, 7, 8, 9, 25, 26, 27, 28, 29, 37, 38, 39, 40, 10, 11, 12, 13, 14, 41, 42, 43, 44, 45, 46, 47, 48, 49, 50, 15, 16, 17, 18, 19, 20, 21, 22, 23, 24, 78, 79, 80, 81, 82, 83, 84, 85, 103, 104, 105, 106, 107, 108, 109, 110, 111, 86, 87, 88, 89, 90, 91, 92, 93, 94, 95, 96, 97, 98, 99, 100, 101, 102] (by decide +kernel) (by decide +kernel)
set_option maxRecDepth 20000 in
theorem gX2_factor_X2_antOperation : GoodIn wsX2_factor (wsV RX2 197 RX2 yX2_antOperation wsX2_antOperation) := goodIn_app (goodIn_of _ (by decide +kernel)) ggX2_factor_X2_antOperation
set_option maxRecDepth 20000 in
theorem ggX2_factor_X2_group : GoodIn wsX2_factor wsX2_group := goodIn_r _ [68, 1, 61, 62, 63, 5, 64, 2, 3, 4, 6, 7, 8, 9, 25, 26, 27, 28, 29, 65, 66, 67, 15, 16, 17, 18, 19, 20, 21, 22, 23, 24, 60, 0, 10, 11, 12, 13, 14, 30, 31, 32, 33, 34, 35, 36, 37, 38, 39, 40, 41, 42, 43, 44, 45, 46, 47, 48, 49, 50, 51, 52, 53, 54, 55, 56, 57, 58, 59, 69, 70, 71, 72, 73, 74, 75, 76, 77, 78, 79, 80, 81, 82, 83, 84, 85, 86, 87, 88, 89, 90, 91, 92, 93, 94, 95, 96, 97, 98, 99, 100, 101, 102, 103, 104, 105, 106, 107, 108, 109, 110, 111] (by decide +kernel) (by decide +kernel)
set_option maxRecDepth 20000 in
theorem gX2_factor_X2_group : GoodIn wsX2_factor (wsV RX2 212 RX2 yX2_group wsX2_group) := goodIn_app (goodIn_of _ (by decide +kernel)) ggX2_factor_X2_group
set_option maxRecDepth 20000 in
theorem ggX2_factor_X2_negatedFactor : GoodIn wsX2_factor wsX2_negatedFactor := goodIn_r _ [69, 1, 25, 26, 27, 5, 28, 7, 8, 29, 70, 71, 72, 15, 16, 17, 18, 19, 20, 21, 22, 23, 24, 60, 2, 3, 4, 6, 9, 61, 62, 63, 64, 65, 66, 67, 0, 10, 11, 12, 13, 14, 30, 31, 32, 33, 34, 35, 36, 37, 38, 39, 40, 41, 42, 43, 44, 45, 46, 47, 48, 49, 50, 51, 52, 53, 54, 55, 56, 57, 58, 59, 68, 73, 74, 75, 76, 77, 78, 79, 80, 81, 82, 83, 84, 85, 86, 87, 88, 89, 90, 91, 92, 93, 94, 95, 96, 97, 98, 99, 100, 101, 102, 103, 104, 105, 106, 107, 108, 109, 110, 111] (by decide +kernel) (by decide +kernel)
set_option maxRecDepth 20000 in
theorem gX2_factor_X2_negatedFactor : GoodIn wsX2_factor (wsV RX2 216 RX2 yX2_negatedFactor wsX2_negatedFactor) := goodIn_app (goodIn_of _ (by decide +kernel)) ggX2_factor_X2_negatedFactor
set_option maxRecDepth 20000 in
theorem ggX2_factor_X2_choice : GoodIn wsX2_factor wsX2_choice := goodIn_r _ [60, 1, 2, 3, 4, 5, 6, 7, 8, 9, 25, 26, 27, 28, 29, 61, 62, 63, 64, 65, 66, 67, 15, 16, 17, 18, 19, 20, 21, 22, 23, 24, 0, 10, 11, 12, 13, 14, 30, 31, 32, 33, 34, 35, 36, 37, 38, 39, 40, 41, 42, 43, 44, 45, 46, 47, 48, 49, 50, 51, 52, 53, 54, 55, 56, 57, 58, 59, 68, 69, 70, 71, 72, 73, 74, 75, 76, 77, 78, 79, 80, 81, 82, 83, 84, 85, 86, 87, 88, 89, 90, 91, 92, 93, 94, 95, 96, 97, 98, 99, 100, 101, 102, 103, 104, 105, 106, 107, 108, 109, 110, 111] (by decide +kernel) (by decide +kernel)
set_option maxRecDepth 20000 in
theorem gX2_factor_X2_choice : GoodIn wsX2_factor (wsV RX2 219 RX2 yX2_choice wsX2_choice) := goodIn_app (goodIn_of _ (by decide +kernel)) ggX2_factor_X2_choice
theorem dX2_factor_0 : decode cX2_factor 0 = .ok (.aload_n 0, 1) := by decide +kernel
theorem dX2_factor_1 : decode cX2_factor 1 = .ok (.invokevirtual 54, 3) := by decide +kernel
theorem dX2_factor_4 : decode cX2_factor 4 = .ok (.lookupswitch 160 #[(3, 100), (40, 146), (45, 140), (220, 100), (221, 100), (222, 122), (223, 122), (224, 122), (225, 127), (231, 154), (232, 154)], 100) := by decide +kernel
theorem dX2_factor_104 : decode cX2_factor 104 = .ok (.aload_n 0, 1) := by decide +kernel
theorem dX2_factor_105 : decode cX2_factor 105 = .ok (.getfield 32, 3) := by decide +kernel
theorem dX2_factor_108 : decode cX2_factor 108 = .ok (.aload_n 0, 1) := by decide +kernel
theorem dX2_factor_109 : decode cX2_factor 109 = .ok (.invokevirtual 54, 3) := by decide +kernel
theorem dX2_factor_112 : decode cX2_factor 112 = .ok (.aload_n 0, 1) := by decide +kernel
theorem dX2_factor_113 : decode cX2_factor 113 = .ok (.invokevirtual 106, 3) := by decide +kernel
theorem dX2_factor_116 : decode cX2_factor 116 = .ok (.l2i, 1) := by decide +kernel
theorem dX2_factor_117 : decode cX2_factor 117 = .ok (.invokevirtual 185, 3) := by decide +kernel
theorem dX2_factor_120 : decode cX2_factor 120 = .ok (.aload_n 0, 1) := by decide +kernel
theorem dX2_factor_121 : decode cX2_factor 121 = .ok (.invokevirtual 97, 3) := by decide +kernel
theorem dX2_factor_124 : decode cX2_factor 124 = .ok (.iconst 1, 1) := by decide +kernel
theorem dX2_factor_125 : decode cX2_factor 125 = .ok (.ireturn, 1) := by decide +kernel
theorem dX2_factor_126 : decode cX2_factor 126 = .ok (.aload_n 0, 1) := by decide +kernel
theorem dX2_factor_127 : decode cX2_factor 127 = .ok (.invokevirtual 197, 3) := by decide +kernel
theorem dX2_factor_130 : decode cX2_factor 130 = .ok (.ireturn, 1) := by decide +kernel
theorem dX2_factor_131 : decode cX2_factor 131 = .ok (.aload_n 0, 1) := by decide +kernel
theorem dX2_factor_132 : decode cX2_factor 132 = .ok (.invokevirtual 97, 3) := by decide +kernel
theorem dX2_factor_135 : decode cX2_factor 135 = .ok (.aload_n 0, 1) := by decide +kernel
theorem dX2_factor_136 : decode cX2_factor 136 = .ok (.iload_n 1, 1) := by decide +kernel
theorem dX2_factor_137 : decode cX2_factor 137 = .ok (.sipush 225, 3) := by decide +kernel
theorem dX2_factor_140 : decode cX2_factor 140 = .ok (.invokevirtual 212, 3) := by decide +kernel
theorem dX2_factor_143 : decode cX2_factor 143 = .ok (.ireturn, 1) := by decide +kernel
theorem dX2_factor_144 : decode cX2_factor 144 = .ok (.aload_n 0, 1) := by decide +kernel
theorem dX2_factor_145 : decode cX2_factor 145 = .ok (.iload_n 1, 1) := by decide +kernel
theorem dX2_factor_146 : decode cX2_factor 146 = .ok (.invokevirtual 216, 3) := by decide +kernel
theorem dX2_factor_149 : decode cX2_factor 149 = .ok (.ireturn, 1) := by decide +kernel
theorem dX2_factor_150 : decode cX2_factor 150 = .ok (.aload_n 0, 1) := by decide +kernel
theorem dX2_factor_151 : decode cX2_factor 151 = .ok (.iload_n 1, 1) := by decide +kernel
theorem dX2_factor_152 : decode cX2_factor 152 = .ok (.bipush 40, 2) := by decide +kernel
theorem dX2_factor_154 : decode cX2_factor 154 = .ok (.invokevirtual 212, 3) := by decide +kernel
theorem dX2_factor_157 : decode cX2_factor 157 = .ok (.ireturn, 1) := by decide +kernel
theorem dX2_factor_158 : decode cX2_factor 158 = .ok (.aload_n 0, 1) := by decide +kernel
theorem dX2_factor_159 : decode cX2_factor 159 = .ok (.iload_n 1, 1) := by decide +kernel
theorem dX2_factor_160 : decode cX2_factor 160 = .ok (.invokevirtual 219, 3) := by decide +kernel
theorem dX2_factor_163 : decode cX2_factor 163 = .ok (.ireturn, 1) := by decide +kernel
theorem dX2_factor_164 : decode cX2_factor 164 = .ok (.iconst 0, 1) := by decide +kernel
theorem dX2_factor_165 : decode cX2_factor 165 = .ok (.ireturn, 1) := by decide +kernel
set_option maxRecDepth 20000 in
theorem ggX2_negatedFactor_X2_advance : GoodIn wsX2_negatedFactor wsX2_advance := goodIn_r _ [6, 7, 8, 9, 78, 79, 80, 81, 82, 83, 84, 85, 86, 87, 88, 89, 90, 91] (by decide +kernel) (by decide +kernel)
set_option maxRecDepth 20000 in
theorem gX2_negatedFactor_X2_advance : GoodIn wsX2_negatedFactor (wsV RX2 97 RX2 yX2_advance wsX2_advance) := goodIn_app (goodIn_of _ (by decide +kernel)) ggX2_negatedFactor_X2_advance
set_option maxRecDepth 20000 in
theorem ggX2_negatedFactor_X2_factor : GoodIn wsX2_negatedFactor wsX2_factor := goodIn_r _ [36, 1, 24, 25, 26, 5, 27, 7, 8, 28, 37, 38, 39, 40, 41, 13, 14, 15, 16, 17, 18, 19, 20, 21, 22, 2, 3, 4, 6, 9, 42, 43, 44, 45, 46, 47, 48, 49, 50, 51, 52, 53, 54, 55, 56, 57, 58, 59, 60, 61, 62, 63, 64, 65, 66, 67, 68, 69, 70, 71, 23, 29, 30, 31, 32, 33, 34, 35, 72, 0, 10, 11, 12, 73, 74, 75, 76, 77, 78, 79, 80, 81, 82, 83, 84, 85, 86, 87, 88, 89, 90, 91, 92, 93, 94, 95, 96, 97, 98, 99, 100, 101, 102, 103, 104, 105, 106, 107, 108, 109, 110, 111] (by decide +kernel) (by decide +kernel)
set_option maxRecDepth 20000 in
theorem gX2_negatedFactor_X2_factor : GoodIn wsX2_negatedFactor (wsV RX2 209 RX2 yX2_factor wsX2_factor) := goodIn_app (goodIn_of _ (by decide +kernel)) ggX2_negatedFactor_X2_factor
set_option maxRecDepth 20000 in
theorem ggX2_negatedFactor_X3_addOperation : GoodIn wsX2_negatedFactor wsX3_addOperation := goodIn_r _ [17, 18, 19, 20, 21, 22, 92, 93, 94, 95, 96, 97, 98, 99, 100, 101, 102] (by decide +kernel) (by decide +kernel)
set_option maxRecDepth 20000 in
theorem gX2_negatedFactor_X3_addOperation : GoodIn wsX2_negatedFactor (wsV RX2 185 RX3 yX3_addOperation wsX3_addOperation) := goodIn_app (goodIn_of _ (by decide +kernel)) ggX2_negatedFactor_X3_addOperation
theorem dX2_negatedFactor_0 : decode cX2_negatedFactor 0 = .ok (.iload_n 1, 1) := by decide +kernel
theorem dX2_negatedFactor_1 : decode cX2_negatedFactor 1 = .ok (.bipush 8, 2) := by decide +kernel
theorem dX2_negatedFactor_3 : decode cX2_negatedFactor 3 = .ok (.if_icmp .lt 5, 3) := by decide +kernel
theorem dX2_negatedFactor_6 : decode cX2_negatedFactor 6 = .ok (.iconst 0, 1) := by decide +kernel
theorem dX2_negatedFactor_7 : decode cX2_negatedFactor 7 = .ok (.ireturn, 1) := by decide +kernel
theorem dX2_negatedFactor_8 : decode cX2_negatedFactor 8 = .ok (.aload_n 0, 1) := by decide +kernel
theorem dX2_negatedFactor_9 : decode cX2_negatedFactor 9 = .ok (.invokevirtual 97, 3) := by decide +kernel
theorem dX2_negatedFactor_12 : decode cX2_negatedFactor 12 = .ok (.aload_n 0, 1) := by decide +kernel
theorem dX2_negatedFactor_13 : decode cX2_negatedFactor 13 = .ok (.iload_n 1, 1) := by decide +kernel
theorem dX2_negatedFactor_14 : decode cX2_negatedFactor 14 = .ok (.iconst 1, 1) := by decide +kernel
theorem dX2_negatedFactor_15 : decode cX2_negatedFactor 15 = .ok (.iadd, 1) := by decide +kernel
theorem dX2_negatedFactor_16 : decode cX2_negatedFactor 16 = .ok (.invokevirtual 209, 3) := by decide +kernel
theorem dX2_negatedFactor_19 : decode cX2_negatedFactor 19 = .ok (.istore_n 2, 1) := by decide +kernel
theorem dX2_negatedFactor_20 : decode cX2_negatedFactor 20 = .ok (.aload_n 0, 1) := by decide +kernel
theorem dX2_negatedFactor_21 : decode cX2_negatedFactor 21 = .ok (.getfield 32, 3) := by decide +kernel
theorem dX2_negatedFactor_24 : decode cX2_negatedFactor 24 = .ok (.iconst 4, 1) := by decide +kernel
theorem dX2_negatedFactor_25 : decode cX2_negatedFactor 25 = .ok (.iconst 0, 1) := by decide +kernel
theorem dX2_negatedFactor_26 : decode cX2_negatedFactor 26 = .ok (.invokevirtual 185, 3) := by decide +kernel
theorem dX2_negatedFactor_29 : decode cX2_negatedFactor 29 = .ok (.iload_n 2, 1) := by decide +kernel
theorem dX2_negatedFactor_30 : decode cX2_negatedFactor 30 = .ok (.ireturn, 1) := by decide +kernel
set_option maxRecDepth 20000 in
theorem ggX2_group_X2_take : GoodIn wsX2_group wsX2_take := goodIn_r _ [6, 7, 8, 9, 5, 10, 11, 12, 13, 14, 15, 16, 17, 18, 78, 79, 80, 81, 82, 83, 84, 85, 86, 87, 88, 89, 90, 91] (by decide +kernel) (by decide +kernel)
set_option maxRecDepth 20000 in
theorem gX2_group_X2_take : GoodIn wsX2_group (wsV RX2 77 RX2 yX2_take wsX2_take) := goodIn_app (goodIn_of _ (by decide +kernel)) ggX2_group_X2_take
set_option maxRecDepth 20000 in
theorem ggX2_group_X2_sum : GoodIn wsX2_group wsX2_sum := goodIn_r _ [74, 1, 75, 76, 77, 5, 7, 8, 9, 10, 11, 12, 13, 14, 15, 16, 17, 18, 22, 23, 24, 25, 26, 27, 28, 29, 30, 31, 32, 2, 3, 4, 6, 19, 20, 21, 33, 34, 35, 36, 37, 38, 39, 40, 41, 42, 43, 44, 45, 46, 47, 48, 49, 50, 51, 52, 53, 54, 55, 56, 57, 58, 59, 60, 61, 62, 63, 64, 65, 66, 67, 68, 0, 69, 70, 71, 72, 73, 78, 79, 80, 81, 82, 83, 84, 85, 86, 87, 88, 89, 90, 91, 92, 93, 94, 95, 96, 97, 98, 99, 100, 101, 102, 103, 104, 105, 106, 107, 108, 109, 110, 111] (by decide +kernel) (by decide +kernel)
set_option maxRecDepth 20000 in
theorem gX2_group_X2_sum : GoodIn wsX2_group (wsV RX2 200 RX2 yX2_sum wsX2_sum) := goodIn_app (goodIn_of _ (by decide +kernel)) ggX2_group_X2_sum
set_option maxRecDepth 20000 in
theorem ggX2_group_X3_addOperation : GoodIn wsX2_group wsX3_addOperation := goodIn_r _ [26, 27, 28, 29, 30, 31, 92, 93, 94, 95, 96, 97, 98, 99, 100, 101, 102] (by decide +kernel) (by decide +kernel)
set_option maxRecDepth 20000 in
theorem gX2_group_X3_addOperation : GoodIn wsX2_group (wsV RX2 185 RX3 yX3_addOperation wsX3_addOperation) := goodIn_app (goodIn_of _ (by decide +kernel)) ggX2_group_X3_addOperation
theorem dX2_group_0 : decode cX2_group 0 = .ok (.iload_n 1, 1) := by decide +kernel
theorem dX2_group_1 : decode cX2_group 1 = .ok (.bipush 8, 2) := by decide +kernel
theorem dX2_group_3 : decode cX2_group 3 = .ok (.if_icmp .ge 31, 3) := by decide +kernel
theorem dX2_group_6 : decode cX2_group 6 = .ok (.aload_n 0, 1) := by decide +kernel
theorem dX2_group_7 : decode cX2_group 7 = .ok (.bipush 40, 2) := by decide +kernel
theorem dX2_group_9 : decode cX2_group 9 = .ok (.invokevirtual 77, 3) := by decide +kernel
theorem dX2_group_12 : decode cX2_group 12 = .ok (.ifCond .eq 22, 3) := by decide +kernel
theorem dX2_group_15 : decode cX2_group 15 = .ok (.aload_n 0, 1) := by decide +kernel
theorem dX2_group_16 : decode cX2_group 16 = .ok (.iload_n 1, 1) := by decide +kernel
theorem dX2_group_17 : decode cX2_group 17 = .ok (.iconst 1, 1) := by decide +kernel
theorem dX2_group_18 : decode cX2_group 18 = .ok (.iadd, 1) := by decide +kernel
theorem dX2_group_19 : decode cX2_group 19 = .ok (.invokevirtual 200, 3) := by decide +kernel
theorem dX2_group_22 : decode cX2_group 22 = .ok (.ifCond .eq 12, 3) := by decide +kernel
theorem dX2_group_25 : decode cX2_group 25 = .ok (.aload_n 0, 1) := by decide +kernel
theorem dX2_group_26 : decode cX2_group 26 = .ok (.bipush 41, 2) := by decide +kernel
theorem dX2_group_28 : decode cX2_group 28 = .ok (.invokevirtual 77, 3) := by decide +kernel
theorem dX2_group_31 : decode cX2_group 31 = .ok (.ifCond .ne 5, 3) := by decide +kernel
theorem dX2_group_34 : decode cX2_group 34 = .ok (.iconst 0, 1) := by decide +kernel
theorem dX2_group_35 : decode cX2_group 35 = .ok (.ireturn, 1) := by decide +kernel
theorem dX2_group_36 : decode cX2_group 36 = .ok (.iload_n 2, 1) := by decide +kernel
theorem dX2_group_37 : decode cX2_group 37 = .ok (.sipush 225, 3) := by decide +kernel
theorem dX2_group_40 : decode cX2_group 40 = .ok (.if_icmp .ne 12, 3) := by decide +kernel
theorem dX2_group_43 : decode cX2_group 43 = .ok (.aload_n 0, 1) := by decide +kernel
theorem dX2_group_44 : decode cX2_group 44 = .ok (.getfield 32, 3) := by decide +kernel
theorem dX2_group_47 : decode cX2_group 47 = .ok (.iload_n 2, 1) := by decide +kernel
theorem dX2_group_48 : decode cX2_group 48 = .ok (.iconst 0, 1) := by decide +kernel
theorem dX2_group_49 : decode cX2_group 49 = .ok (.invokevirtual 185, 3) := by decide +kernel
theorem dX2_group_52 : decode cX2_group 52 = .ok (.iconst 1, 1) := by decide +kernel
theorem dX2_group_53 : decode cX2_group 53 = .ok (.ireturn, 1) := by decide +kernel
set_option maxRecDepth 20000 in
theorem ggX2_choice_X2_kind : GoodIn wsX2_choice wsX2_kind := goodIn_r _ [6, 7, 8, 9, 78, 79, 80, 81, 82, 83, 84, 85, 86, 87, 88, 89, 90, 91] (by decide +kernel) (by decide +kernel)
set_option maxRecDepth 20000 in
theorem gX2_choice_X2_kind : GoodIn wsX2_choice (wsV RX2 54 RX2 yX2_kind wsX2_kind) := goodIn_app (goodIn_of _ (by decide +kernel)) ggX2_choice_X2_kind
set_option maxRecDepth 20000 in
theorem ggX2_choice_X2_advance : GoodIn wsX2_choice wsX2_advance := goodIn_r _ [13, 7, 8, 14, 78, 79, 80, 81, 82, 83, 84, 85, 86, 87, 88, 89, 90, 91] (by decide +kernel) (by decide +kernel)
set_option maxRecDepth 20000 in
theorem gX2_choice_X2_advance : GoodIn wsX2_choice (wsV RX2 97 RX2 yX2_advance wsX2_advance) := goodIn_app (goodIn_of _ (by decide +kernel)) ggX2_choice_X2_advance
set_option maxRecDepth 20000 in
theorem ggX2_choice_X2_take : GoodIn wsX2_choice wsX2_take := goodIn_r _ [18, 2, 3, 4, 5, 6, 7, 8, 9, 10, 11, 12, 13, 14, 78, 79, 80, 81, 82, 83, 84, 85, 86, 87, 88, 89, 90, 91] (by decide +kernel) (by decide +kernel)
set_option maxRecDepth 20000 in
theorem gX2_choice_X2_take : GoodIn wsX2_choice (wsV RX2 77 RX2 yX2_take wsX2_take) := goodIn_app (goodIn_of _ (by decide +kernel)) ggX2_choice_X2_take
set_option maxRecDepth 20000 in
theorem ggX2_choice_X2_sum : GoodIn wsX2_choice wsX2_sum := goodIn_r _ [74, 1, 75, 76, 77, 5, 2, 3, 4, 6, 7, 8, 9, 10, 11, 12, 13, 14, 22, 23, 24, 25, 26, 27, 28, 29, 30, 31, 0, 15, 16, 17, 18, 19, 20, 21, 32, 33, 34, 35, 36, 37, 38, 39, 40, 41, 42, 43, 44, 45, 46, 47, 48, 49, 50, 51, 52, 53, 54, 55, 56, 57, 58, 59, 60, 61, 62, 63, 64, 65, 66, 67, 68, 69, 70, 71, 72, 73, 78, 79, 80, 81, 82, 83, 84, 85, 86, 87, 88, 89, 90, 91, 92, 93, 94, 95, 96, 97, 98, 99, 100, 101, 102, 103, 104, 105, 106, 107, 108, 109, 110, 111] (by decide +kernel) (by decide +kernel)
set_option maxRecDepth 20000 in
theorem gX2_choice_X2_sum : GoodIn wsX2_choice (wsV RX2 200 RX2 yX2_sum wsX2_sum) := goodIn_app (goodIn_of _ (by decide +kernel)) ggX2_choice_X2_sum
set_option maxRecDepth 20000 in
theorem ggX2_choice_X3_addOperation : GoodIn wsX2_choice wsX3_addOperation := goodIn_r _ [26, 27, 28, 29, 30, 31, 92, 93, 94, 95, 96, 97, 98, 99, 100, 101, 102] (by decide +kernel) (by decide +kernel)
set_option maxRecDepth 20000 in
theorem gX2_choice_X3_addOperation : GoodIn wsX2_choice (wsV RX2 185 RX3 yX3_addOperation wsX3_addOperation) := goodIn_app (goodIn_of _ (by decide +kernel)) ggX2_choice_X3_addOperation
theorem dX2_choice_0 : decode cX2_choice 0 = .ok (.aload_n 0, 1) := by decide +kernel
theorem dX2_choice_1 : decode cX2_choice 1 = .ok (.invokevirtual 54, 3) := by decide +kernel
theorem dX2_choice_4 : decode cX2_choice 4 = .ok (.istore_n 2, 1) := by decide +kernel
theorem dX2_choice_5 : decode cX2_choice 5 = .ok (.aload_n 0, 1) := by decide +kernel
theorem dX2_choice_6 : decode cX2_choice 6 = .ok (.invokevirtual 97, 3) := by decide +kernel
theorem dX2_choice_9 : decode cX2_choice 9 = .ok (.iload_n 1, 1) := by decide +kernel
theorem dX2_choice_10 : decode cX2_choice 10 = .ok (.bipush 8, 2) := by decide +kernel
theorem dX2_choice_12 : decode cX2_choice 12 = .ok (.if_icmp .ge 50, 3) := by decide +kernel
theorem dX2_choice_15 : decode cX2_choice 15 = .ok (.aload_n 0, 1) := by decide +kernel
theorem dX2_choice_16 : decode cX2_choice 16 = .ok (.bipush 40, 2) := by decide +kernel
theorem dX2_choice_18 : decode cX2_choice 18 = .ok (.invokevirtual 77, 3) := by decide +kernel
theorem dX2_choice_21 : decode cX2_choice 21 = .ok (.ifCond .eq 41, 3) := by decide +kernel
theorem dX2_choice_24 : decode cX2_choice 24 = .ok (.aload_n 0, 1) := by decide +kernel
theorem dX2_choice_25 : decode cX2_choice 25 = .ok (.iload_n 1, 1) := by decide +kernel
theorem dX2_choice_26 : decode cX2_choice 26 = .ok (.iconst 1, 1) := by decide +kernel
theorem dX2_choice_27 : decode cX2_choice 27 = .ok (.iadd, 1) := by decide +kernel
theorem dX2_choice_28 : decode cX2_choice 28 = .ok (.invokevirtual 200, 3) := by decide +kernel
theorem dX2_choice_31 : decode cX2_choice 31 = .ok (.ifCond .eq 31, 3) := by decide +kernel
theorem dX2_choice_34 : decode cX2_choice 34 = .ok (.aload_n 0, 1) := by decide +kernel
theorem dX2_choice_35 : decode cX2_choice 35 = .ok (.bipush 44, 2) := by decide +kernel
theorem dX2_choice_37 : decode cX2_choice 37 = .ok (.invokevirtual 77, 3) := by decide +kernel
theorem dX2_choice_40 : decode cX2_choice 40 = .ok (.ifCond .eq 22, 3) := by decide +kernel
theorem dX2_choice_43 : decode cX2_choice 43 = .ok (.aload_n 0, 1) := by decide +kernel
theorem dX2_choice_44 : decode cX2_choice 44 = .ok (.iload_n 1, 1) := by decide +kernel
theorem dX2_choice_45 : decode cX2_choice 45 = .ok (.iconst 1, 1) := by decide +kernel
theorem dX2_choice_46 : decode cX2_choice 46 = .ok (.iadd, 1) := by decide +kernel
theorem dX2_choice_47 : decode cX2_choice 47 = .ok (.invokevirtual 200, 3) := by decide +kernel
theorem dX2_choice_50 : decode cX2_choice 50 = .ok (.ifCond .eq 12, 3) := by decide +kernel
theorem dX2_choice_53 : decode cX2_choice 53 = .ok (.aload_n 0, 1) := by decide +kernel
theorem dX2_choice_54 : decode cX2_choice 54 = .ok (.bipush 41, 2) := by decide +kernel
theorem dX2_choice_56 : decode cX2_choice 56 = .ok (.invokevirtual 77, 3) := by decide +kernel
theorem dX2_choice_59 : decode cX2_choice 59 = .ok (.ifCond .ne 5, 3) := by decide +kernel
theorem dX2_choice_62 : decode cX2_choice 62 = .ok (.iconst 0, 1) := by decide +kernel
theorem dX2_choice_63 : decode cX2_choice 63 = .ok (.ireturn, 1) := by decide +kernel
theorem dX2_choice_64 : decode cX2_choice 64 = .ok (.aload_n 0, 1) := by decide +kernel
theorem dX2_choice_65 : decode cX2_choice 65 = .ok (.getfield 32, 3) := by decide +kernel
theorem dX2_choice_68 : decode cX2_choice 68 = .ok (.iload_n 2, 1) := by decide +kernel
theorem dX2_choice_69 : decode cX2_choice 69 = .ok (.iconst 0, 1) := by decide +kernel
theorem dX2_choice_70 : decode cX2_choice 70 = .ok (.invokevirtual 185, 3) := by decide +kernel
theorem dX2_choice_73 : decode cX2_choice 73 = .ok (.iconst 1, 1) := by decide +kernel
theorem dX2_choice_74 : decode cX2_choice 74 = .ok (.ireturn, 1) := by decide +kernel
