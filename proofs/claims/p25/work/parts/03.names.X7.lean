set_option maxRecDepth 20000 in
theorem ggX7_init_X7_packWords : GoodIn wsX7_init wsX7_packWords := goodIn_r _ [15, 5, 16, 17, 18, 19, 20, 21, 22, 23, 24, 25, 26, 27, 28, 29, 30, 31, 32, 33, 34, 35, 36, 37, 38, 39, 40, 41, 42, 43, 44, 45, 46, 47, 48, 49, 50, 51, 52, 53, 54, 55, 56, 57, 58, 59, 60, 61, 62, 63, 64, 65, 66, 14, 67, 68, 69, 70, 71, 72, 73, 74, 75, 76, 77, 78, 79, 80, 81] (by decide +kernel) (by decide +kernel)
set_option maxRecDepth 20000 in
theorem gX7_init_X7_packWords : GoodIn wsX7_init (wsV RX7 29 RX7 yX7_packWords wsX7_packWords) := goodIn_app (goodIn_of _ (by decide +kernel)) ggX7_init_X7_packWords
theorem dX7_init_0 : decode cX7_init 0 = .ok (.aload_n 0, 1) := by decide +kernel
theorem dX7_init_1 : decode cX7_init 1 = .ok (.invokespecial 1, 3) := by decide +kernel
theorem dX7_init_4 : decode cX7_init 4 = .ok (.aload_n 0, 1) := by decide +kernel
theorem dX7_init_5 : decode cX7_init 5 = .ok (.bipush 33, 2) := by decide +kernel
theorem dX7_init_7 : decode cX7_init 7 = .ok (.newarray .long, 2) := by decide +kernel
theorem dX7_init_9 : decode cX7_init 9 = .ok (.putfield 9, 3) := by decide +kernel
theorem dX7_init_12 : decode cX7_init 12 = .ok (.aload_n 0, 1) := by decide +kernel
theorem dX7_init_13 : decode cX7_init 13 = .ok (.sipush 401, 3) := by decide +kernel
theorem dX7_init_16 : decode cX7_init 16 = .ok (.newarray .int, 2) := by decide +kernel
theorem dX7_init_18 : decode cX7_init 18 = .ok (.putfield 15, 3) := by decide +kernel
theorem dX7_init_21 : decode cX7_init 21 = .ok (.aload_n 0, 1) := by decide +kernel
theorem dX7_init_22 : decode cX7_init 22 = .ok (.sipush 401, 3) := by decide +kernel
theorem dX7_init_25 : decode cX7_init 25 = .ok (.newarray .int, 2) := by decide +kernel
theorem dX7_init_27 : decode cX7_init 27 = .ok (.putfield 19, 3) := by decide +kernel
theorem dX7_init_30 : decode cX7_init 30 = .ok (.aload_n 0, 1) := by decide +kernel
theorem dX7_init_31 : decode cX7_init 31 = .ok (.sipush 401, 3) := by decide +kernel
theorem dX7_init_34 : decode cX7_init 34 = .ok (.newarray .long, 2) := by decide +kernel
theorem dX7_init_36 : decode cX7_init 36 = .ok (.putfield 22, 3) := by decide +kernel
theorem dX7_init_39 : decode cX7_init 39 = .ok (.aload_n 0, 1) := by decide +kernel
theorem dX7_init_40 : decode cX7_init 40 = .ok (.aload_n 1, 1) := by decide +kernel
theorem dX7_init_41 : decode cX7_init 41 = .ok (.putfield 25, 3) := by decide +kernel
theorem dX7_init_44 : decode cX7_init 44 = .ok (.aload_n 0, 1) := by decide +kernel
theorem dX7_init_45 : decode cX7_init 45 = .ok (.invokevirtual 29, 3) := by decide +kernel
theorem dX7_init_48 : decode cX7_init 48 = .ok (.return_, 1) := by decide +kernel
set_option maxRecDepth 20000 in
theorem ggX7_packWords_J0_length_8abf5 : GoodIn wsX7_packWords wsJ0_length_8abf5 := goodIn_r _ [6, 7, 8, 9, 10, 5, 11, 12, 13, 65, 66, 67, 68] (by decide +kernel) (by decide +kernel)
set_option maxRecDepth 20000 in
theorem gX7_packWords_J0_length_8abf5 : GoodIn wsX7_packWords (wsV RX7 34 RJ0 yJ0_length_8abf5 wsJ0_length_8abf5) := goodIn_app (goodIn_of _ (by decide +kernel)) ggX7_packWords_J0_length_8abf5
set_option maxRecDepth 20000 in
theorem ggX7_packWords_J0_charAt_5068e : GoodIn wsX7_packWords wsJ0_charAt_5068e := goodIn_r _ [17, 7, 18, 19, 20, 5, 21, 12, 13, 22, 23, 24, 25, 26, 27, 28, 29, 30, 31, 32, 33, 34, 35, 36, 37, 38, 39, 40, 41, 42, 43, 44, 45, 46, 47, 48, 49, 50, 65, 66, 67, 68] (by decide +kernel) (by decide +kernel)
set_option maxRecDepth 20000 in
theorem gX7_packWords_J0_charAt_5068e : GoodIn wsX7_packWords (wsV RX7 40 RJ0 yJ0_charAt_5068e wsJ0_charAt_5068e) := goodIn_app (goodIn_of _ (by decide +kernel)) ggX7_packWords_J0_charAt_5068e
set_option maxRecDepth 20000 in
theorem ggX7_packWords_X7_addSign : GoodIn wsX7_packWords wsX7_addSign := goodIn_r _ [54, 55, 56, 57, 53, 58] (by decide +kernel) (by decide +kernel)
set_option maxRecDepth 20000 in
theorem gX7_packWords_X7_addSign : GoodIn wsX7_packWords (va_wsS RX7 44 yX7_addSign wsX7_addSign) := goodIn_app (goodIn_of _ (by decide +kernel)) ggX7_packWords_X7_addSign
theorem dX7_packWords_0 : decode cX7_packWords 0 = .ok (.iconst 0, 1) := by decide +kernel
theorem dX7_packWords_1 : decode cX7_packWords 1 = .ok (.istore_n 1, 1) := by decide +kernel
theorem dX7_packWords_2 : decode cX7_packWords 2 = .ok (.lconst 0, 1) := by decide +kernel
theorem dX7_packWords_3 : decode cX7_packWords 3 = .ok (.lstore_n 2, 1) := by decide +kernel
theorem dX7_packWords_4 : decode cX7_packWords 4 = .ok (.iconst 0, 1) := by decide +kernel
theorem dX7_packWords_5 : decode cX7_packWords 5 = .ok (.istore 4, 2) := by decide +kernel
theorem dX7_packWords_7 : decode cX7_packWords 7 = .ok (.iload 4, 2) := by decide +kernel
theorem dX7_packWords_9 : decode cX7_packWords 9 = .ok (.ldc 32, 2) := by decide +kernel
theorem dX7_packWords_11 : decode cX7_packWords 11 = .ok (.invokevirtual 34, 3) := by decide +kernel
theorem dX7_packWords_14 : decode cX7_packWords 14 = .ok (.if_icmp .ge 53, 3) := by decide +kernel
theorem dX7_packWords_17 : decode cX7_packWords 17 = .ok (.ldc 32, 2) := by decide +kernel
theorem dX7_packWords_19 : decode cX7_packWords 19 = .ok (.iload 4, 2) := by decide +kernel
theorem dX7_packWords_21 : decode cX7_packWords 21 = .ok (.invokevirtual 40, 3) := by decide +kernel
theorem dX7_packWords_24 : decode cX7_packWords 24 = .ok (.istore 5, 2) := by decide +kernel
theorem dX7_packWords_26 : decode cX7_packWords 26 = .ok (.iload 5, 2) := by decide +kernel
theorem dX7_packWords_28 : decode cX7_packWords 28 = .ok (.bipush 32, 2) := by decide +kernel
theorem dX7_packWords_30 : decode cX7_packWords 30 = .ok (.if_icmp .eq 13, 3) := by decide +kernel
theorem dX7_packWords_33 : decode cX7_packWords 33 = .ok (.lload_n 2, 1) := by decide +kernel
theorem dX7_packWords_34 : decode cX7_packWords 34 = .ok (.iload 5, 2) := by decide +kernel
theorem dX7_packWords_36 : decode cX7_packWords 36 = .ok (.invokestatic 44, 3) := by decide +kernel
theorem dX7_packWords_39 : decode cX7_packWords 39 = .ok (.lstore_n 2, 1) := by decide +kernel
theorem dX7_packWords_40 : decode cX7_packWords 40 = .ok (.goto 21, 3) := by decide +kernel
theorem dX7_packWords_43 : decode cX7_packWords 43 = .ok (.iload_n 1, 1) := by decide +kernel
theorem dX7_packWords_44 : decode cX7_packWords 44 = .ok (.bipush 33, 2) := by decide +kernel
theorem dX7_packWords_46 : decode cX7_packWords 46 = .ok (.if_icmp .ge 15, 3) := by decide +kernel
theorem dX7_packWords_49 : decode cX7_packWords 49 = .ok (.aload_n 0, 1) := by decide +kernel
theorem dX7_packWords_50 : decode cX7_packWords 50 = .ok (.getfield 9, 3) := by decide +kernel
theorem dX7_packWords_53 : decode cX7_packWords 53 = .ok (.iload_n 1, 1) := by decide +kernel
theorem dX7_packWords_54 : decode cX7_packWords 54 = .ok (.lload_n 2, 1) := by decide +kernel
theorem dX7_packWords_55 : decode cX7_packWords 55 = .ok (.lastore, 1) := by decide +kernel
theorem dX7_packWords_56 : decode cX7_packWords 56 = .ok (.iinc 1 1, 3) := by decide +kernel
theorem dX7_packWords_59 : decode cX7_packWords 59 = .ok (.lconst 0, 1) := by decide +kernel
theorem dX7_packWords_60 : decode cX7_packWords 60 = .ok (.lstore_n 2, 1) := by decide +kernel
theorem dX7_packWords_61 : decode cX7_packWords 61 = .ok (.iinc 4 1, 3) := by decide +kernel
theorem dX7_packWords_64 : decode cX7_packWords 64 = .ok (.goto (-57), 3) := by decide +kernel
theorem dX7_packWords_67 : decode cX7_packWords 67 = .ok (.return_, 1) := by decide +kernel
set_option maxRecDepth 20000 in
theorem ggX7_addSign_X7_isDigit : GoodIn wsX7_addSign wsX7_isDigit := goodIn_r _ [5] (by decide +kernel) (by decide +kernel)
set_option maxRecDepth 20000 in
theorem gX7_addSign_X7_isDigit : GoodIn wsX7_addSign (va_wsS RX7 50 yX7_isDigit wsX7_isDigit) := goodIn_app (goodIn_of _ (by decide +kernel)) ggX7_addSign_X7_isDigit
theorem dX7_addSign_0 : decode cX7_addSign 0 = .ok (.lload_n 0, 1) := by decide +kernel
theorem dX7_addSign_1 : decode cX7_addSign 1 = .ok (.ldc2_w 48, 3) := by decide +kernel
theorem dX7_addSign_4 : decode cX7_addSign 4 = .ok (.lmul, 1) := by decide +kernel
theorem dX7_addSign_5 : decode cX7_addSign 5 = .ok (.iload_n 2, 1) := by decide +kernel
theorem dX7_addSign_6 : decode cX7_addSign 6 = .ok (.invokestatic 50, 3) := by decide +kernel
theorem dX7_addSign_9 : decode cX7_addSign 9 = .ok (.ifCond .eq 13, 3) := by decide +kernel
theorem dX7_addSign_12 : decode cX7_addSign 12 = .ok (.iload_n 2, 1) := by decide +kernel
theorem dX7_addSign_13 : decode cX7_addSign 13 = .ok (.bipush 48, 2) := by decide +kernel
theorem dX7_addSign_15 : decode cX7_addSign 15 = .ok (.isub, 1) := by decide +kernel
theorem dX7_addSign_16 : decode cX7_addSign 16 = .ok (.bipush 27, 2) := by decide +kernel
theorem dX7_addSign_18 : decode cX7_addSign 18 = .ok (.iadd, 1) := by decide +kernel
theorem dX7_addSign_19 : decode cX7_addSign 19 = .ok (.goto 9, 3) := by decide +kernel
theorem dX7_addSign_22 : decode cX7_addSign 22 = .ok (.iload_n 2, 1) := by decide +kernel
theorem dX7_addSign_23 : decode cX7_addSign 23 = .ok (.bipush 97, 2) := by decide +kernel
theorem dX7_addSign_25 : decode cX7_addSign 25 = .ok (.isub, 1) := by decide +kernel
theorem dX7_addSign_26 : decode cX7_addSign 26 = .ok (.iconst 1, 1) := by decide +kernel
theorem dX7_addSign_27 : decode cX7_addSign 27 = .ok (.iadd, 1) := by decide +kernel
theorem dX7_addSign_28 : decode cX7_addSign 28 = .ok (.i2l, 1) := by decide +kernel
theorem dX7_addSign_29 : decode cX7_addSign 29 = .ok (.ladd, 1) := by decide +kernel
theorem dX7_addSign_30 : decode cX7_addSign 30 = .ok (.lreturn, 1) := by decide +kernel
set_option maxRecDepth 20000 in
theorem ggX7_scan_X6_skipBlanks : GoodIn wsX7_scan wsX6_skipBlanks := goodIn_r _ [7, 8, 9, 10, 11, 6, 12, 13, 67, 68] (by decide +kernel) (by decide +kernel)
set_option maxRecDepth 20000 in
theorem gX7_scan_X6_skipBlanks : GoodIn wsX7_scan (wsV RX7 58 RX6 yX6_skipBlanks wsX6_skipBlanks) := goodIn_app (goodIn_of _ (by decide +kernel)) ggX7_scan_X6_skipBlanks
set_option maxRecDepth 20000 in
theorem ggX7_scan_X7_readToken : GoodIn wsX7_scan wsX7_readToken := goodIn_r _ [18, 2, 19, 10, 11, 6, 12, 8, 13, 20, 21, 17, 22, 23, 24, 25, 26, 27, 28, 29, 30, 31, 32, 33, 34, 35, 36, 37, 38, 39, 40, 41, 42, 43, 1, 44, 45, 46, 47, 48, 49, 50, 51, 52, 53, 54, 55, 56, 61, 62, 63, 64, 65, 66, 67, 68] (by decide +kernel) (by decide +kernel)
set_option maxRecDepth 20000 in
theorem gX7_scan_X7_readToken : GoodIn wsX7_scan (wsV RX7 64 RX7 yX7_readToken wsX7_readToken) := goodIn_app (goodIn_of _ (by decide +kernel)) ggX7_scan_X7_readToken
set_option maxRecDepth 20000 in
theorem ggX7_scan_X7_close : GoodIn wsX7_scan wsX7_close := goodIn_r _ [60, 1, 44, 2, 27, 45, 46, 61, 62, 63, 64, 65, 66, 67, 68] (by decide +kernel) (by decide +kernel)
set_option maxRecDepth 20000 in
theorem gX7_scan_X7_close : GoodIn wsX7_scan (wsV RX7 67 RX7 yX7_close wsX7_close) := goodIn_app (goodIn_of _ (by decide +kernel)) ggX7_scan_X7_close
theorem dX7_scan_0 : decode cX7_scan 0 = .ok (.aload_n 0, 1) := by decide +kernel
theorem dX7_scan_1 : decode cX7_scan 1 = .ok (.iconst 0, 1) := by decide +kernel
theorem dX7_scan_2 : decode cX7_scan 2 = .ok (.putfield 54, 3) := by decide +kernel
theorem dX7_scan_5 : decode cX7_scan 5 = .ok (.aload_n 0, 1) := by decide +kernel
theorem dX7_scan_6 : decode cX7_scan 6 = .ok (.getfield 25, 3) := by decide +kernel
theorem dX7_scan_9 : decode cX7_scan 9 = .ok (.iconst 0, 1) := by decide +kernel
theorem dX7_scan_10 : decode cX7_scan 10 = .ok (.invokevirtual 58, 3) := by decide +kernel
theorem dX7_scan_13 : decode cX7_scan 13 = .ok (.istore_n 1, 1) := by decide +kernel
theorem dX7_scan_14 : decode cX7_scan 14 = .ok (.iconst 0, 1) := by decide +kernel
theorem dX7_scan_15 : decode cX7_scan 15 = .ok (.istore_n 2, 1) := by decide +kernel
theorem dX7_scan_16 : decode cX7_scan 16 = .ok (.iload_n 2, 1) := by decide +kernel
theorem dX7_scan_17 : decode cX7_scan 17 = .ok (.sipush 400, 3) := by decide +kernel
theorem dX7_scan_20 : decode cX7_scan 20 = .ok (.if_icmp .ge 32, 3) := by decide +kernel
theorem dX7_scan_23 : decode cX7_scan 23 = .ok (.aload_n 0, 1) := by decide +kernel
theorem dX7_scan_24 : decode cX7_scan 24 = .ok (.iload_n 1, 1) := by decide +kernel
theorem dX7_scan_25 : decode cX7_scan 25 = .ok (.invokevirtual 64, 3) := by decide +kernel
theorem dX7_scan_28 : decode cX7_scan 28 = .ok (.istore_n 3, 1) := by decide +kernel
theorem dX7_scan_29 : decode cX7_scan 29 = .ok (.iload_n 3, 1) := by decide +kernel
theorem dX7_scan_30 : decode cX7_scan 30 = .ok (.iload_n 1, 1) := by decide +kernel
theorem dX7_scan_31 : decode cX7_scan 31 = .ok (.if_icmp .ne 6, 3) := by decide +kernel
theorem dX7_scan_34 : decode cX7_scan 34 = .ok (.goto 18, 3) := by decide +kernel
theorem dX7_scan_37 : decode cX7_scan 37 = .ok (.aload_n 0, 1) := by decide +kernel
theorem dX7_scan_38 : decode cX7_scan 38 = .ok (.getfield 25, 3) := by decide +kernel
theorem dX7_scan_41 : decode cX7_scan 41 = .ok (.iload_n 3, 1) := by decide +kernel
theorem dX7_scan_42 : decode cX7_scan 42 = .ok (.invokevirtual 58, 3) := by decide +kernel
theorem dX7_scan_45 : decode cX7_scan 45 = .ok (.istore_n 1, 1) := by decide +kernel
theorem dX7_scan_46 : decode cX7_scan 46 = .ok (.iinc 2 1, 3) := by decide +kernel
theorem dX7_scan_49 : decode cX7_scan 49 = .ok (.goto (-33), 3) := by decide +kernel
theorem dX7_scan_52 : decode cX7_scan 52 = .ok (.aload_n 0, 1) := by decide +kernel
theorem dX7_scan_53 : decode cX7_scan 53 = .ok (.iload_n 1, 1) := by decide +kernel
theorem dX7_scan_54 : decode cX7_scan 54 = .ok (.invokevirtual 67, 3) := by decide +kernel
theorem dX7_scan_57 : decode cX7_scan 57 = .ok (.return_, 1) := by decide +kernel
theorem dX7_close_0 : decode cX7_close 0 = .ok (.aload_n 0, 1) := by decide +kernel
theorem dX7_close_1 : decode cX7_close 1 = .ok (.getfield 54, 3) := by decide +kernel
theorem dX7_close_4 : decode cX7_close 4 = .ok (.aload_n 0, 1) := by decide +kernel
theorem dX7_close_5 : decode cX7_close 5 = .ok (.getfield 15, 3) := by decide +kernel
theorem dX7_close_8 : decode cX7_close 8 = .ok (.arraylength, 1) := by decide +kernel
theorem dX7_close_9 : decode cX7_close 9 = .ok (.if_icmp .ge 48, 3) := by decide +kernel
theorem dX7_close_12 : decode cX7_close 12 = .ok (.aload_n 0, 1) := by decide +kernel
theorem dX7_close_13 : decode cX7_close 13 = .ok (.getfield 15, 3) := by decide +kernel
theorem dX7_close_16 : decode cX7_close 16 = .ok (.aload_n 0, 1) := by decide +kernel
theorem dX7_close_17 : decode cX7_close 17 = .ok (.getfield 54, 3) := by decide +kernel
theorem dX7_close_20 : decode cX7_close 20 = .ok (.iload_n 1, 1) := by decide +kernel
theorem dX7_close_21 : decode cX7_close 21 = .ok (.aload_n 0, 1) := by decide +kernel
theorem dX7_close_22 : decode cX7_close 22 = .ok (.getfield 25, 3) := by decide +kernel
theorem dX7_close_25 : decode cX7_close 25 = .ok (.getfield 71, 3) := by decide +kernel
theorem dX7_close_28 : decode cX7_close 28 = .ok (.if_icmp .ge 7, 3) := by decide +kernel
theorem dX7_close_31 : decode cX7_close 31 = .ok (.iconst 1, 1) := by decide +kernel
theorem dX7_close_32 : decode cX7_close 32 = .ok (.goto 4, 3) := by decide +kernel
theorem dX7_close_35 : decode cX7_close 35 = .ok (.iconst 0, 1) := by decide +kernel
theorem dX7_close_36 : decode cX7_close 36 = .ok (.iastore, 1) := by decide +kernel
theorem dX7_close_37 : decode cX7_close 37 = .ok (.aload_n 0, 1) := by decide +kernel
theorem dX7_close_38 : decode cX7_close 38 = .ok (.getfield 19, 3) := by decide +kernel
theorem dX7_close_41 : decode cX7_close 41 = .ok (.aload_n 0, 1) := by decide +kernel
theorem dX7_close_42 : decode cX7_close 42 = .ok (.getfield 54, 3) := by decide +kernel
theorem dX7_close_45 : decode cX7_close 45 = .ok (.iload_n 1, 1) := by decide +kernel
theorem dX7_close_46 : decode cX7_close 46 = .ok (.iastore, 1) := by decide +kernel
theorem dX7_close_47 : decode cX7_close 47 = .ok (.aload_n 0, 1) := by decide +kernel
theorem dX7_close_48 : decode cX7_close 48 = .ok (.getfield 22, 3) := by decide +kernel
theorem dX7_close_51 : decode cX7_close 51 = .ok (.aload_n 0, 1) := by decide +kernel
theorem dX7_close_52 : decode cX7_close 52 = .ok (.getfield 54, 3) := by decide +kernel
theorem dX7_close_55 : decode cX7_close 55 = .ok (.lconst 0, 1) := by decide +kernel
theorem dX7_close_56 : decode cX7_close 56 = .ok (.lastore, 1) := by decide +kernel
theorem dX7_close_57 : decode cX7_close 57 = .ok (.return_, 1) := by decide +kernel
set_option maxRecDepth 20000 in
theorem ggX7_readToken_X6_byteAt : GoodIn wsX7_readToken wsX6_byteAt := goodIn_r _ [6, 7, 8, 54, 55] (by decide +kernel) (by decide +kernel)
set_option maxRecDepth 20000 in
theorem gX7_readToken_X6_byteAt : GoodIn wsX7_readToken (wsV RX7 73 RX6 yX6_byteAt wsX6_byteAt) := goodIn_app (goodIn_of _ (by decide +kernel)) ggX7_readToken_X6_byteAt
set_option maxRecDepth 20000 in
theorem ggX7_readToken_X7_isLetter : GoodIn wsX7_readToken wsX7_isLetter := goodIn_r _ [12] (by decide +kernel) (by decide +kernel)
set_option maxRecDepth 20000 in
theorem gX7_readToken_X7_isLetter : GoodIn wsX7_readToken (va_wsS RX7 76 yX7_isLetter wsX7_isLetter) := goodIn_app (goodIn_of _ (by decide +kernel)) ggX7_readToken_X7_isLetter
set_option maxRecDepth 20000 in
theorem ggX7_readToken_X7_readWord : GoodIn wsX7_readToken wsX7_readWord := goodIn_r _ [16, 1, 17, 2, 3, 4, 5, 6, 7, 8, 9, 10, 11, 12, 18, 19, 20, 21, 22, 23, 24, 25, 26, 27, 28, 29, 30, 31, 32, 33, 34, 35, 36, 37, 48, 49, 50, 51, 52, 53, 54, 55] (by decide +kernel) (by decide +kernel)
set_option maxRecDepth 20000 in
theorem gX7_readToken_X7_readWord : GoodIn wsX7_readToken (wsV RX7 79 RX7 yX7_readWord wsX7_readWord) := goodIn_app (goodIn_of _ (by decide +kernel)) ggX7_readToken_X7_readWord
set_option maxRecDepth 20000 in
theorem ggX7_readToken_X7_isDigit : GoodIn wsX7_readToken wsX7_isDigit := goodIn_r _ [20] (by decide +kernel) (by decide +kernel)
set_option maxRecDepth 20000 in
theorem gX7_readToken_X7_isDigit : GoodIn wsX7_readToken (va_wsS RX7 50 yX7_isDigit wsX7_isDigit) := goodIn_app (goodIn_of _ (by decide +kernel)) ggX7_readToken_X7_isDigit
set_option maxRecDepth 20000 in
theorem ggX7_readToken_X7_readNumber : GoodIn wsX7_readToken wsX7_readNumber := goodIn_r _ [41, 1, 17, 42, 43, 2, 3, 4, 5, 6, 7, 8, 18, 19, 11, 20, 30, 31, 32, 33, 34, 35, 36, 37, 48, 49, 50, 51, 52, 53, 54, 55] (by decide +kernel) (by decide +kernel)
set_option maxRecDepth 20000 in
theorem gX7_readToken_X7_readNumber : GoodIn wsX7_readToken (wsV RX7 82 RX7 yX7_readNumber wsX7_readNumber) := goodIn_app (goodIn_of _ (by decide +kernel)) ggX7_readToken_X7_readNumber
set_option maxRecDepth 20000 in
theorem ggX7_readToken_X7_readSymbol : GoodIn wsX7_readToken wsX7_readSymbol := goodIn_r _ [47, 1, 2, 3, 4, 5, 6, 7, 8, 30, 31, 32, 11, 33, 34, 35, 36, 37, 48, 49, 50, 51, 52, 53, 54, 55] (by decide +kernel) (by decide +kernel)
set_option maxRecDepth 20000 in
theorem gX7_readToken_X7_readSymbol : GoodIn wsX7_readToken (wsV RX7 85 RX7 yX7_readSymbol wsX7_readSymbol) := goodIn_app (goodIn_of _ (by decide +kernel)) ggX7_readToken_X7_readSymbol
theorem dX7_readToken_0 : decode cX7_readToken 0 = .ok (.aload_n 0, 1) := by decide +kernel
theorem dX7_readToken_1 : decode cX7_readToken 1 = .ok (.getfield 25, 3) := by decide +kernel
theorem dX7_readToken_4 : decode cX7_readToken 4 = .ok (.iload_n 1, 1) := by decide +kernel
theorem dX7_readToken_5 : decode cX7_readToken 5 = .ok (.invokevirtual 73, 3) := by decide +kernel
theorem dX7_readToken_8 : decode cX7_readToken 8 = .ok (.istore_n 2, 1) := by decide +kernel
theorem dX7_readToken_9 : decode cX7_readToken 9 = .ok (.iload_n 2, 1) := by decide +kernel
theorem dX7_readToken_10 : decode cX7_readToken 10 = .ok (.invokestatic 76, 3) := by decide +kernel
theorem dX7_readToken_13 : decode cX7_readToken 13 = .ok (.ifCond .eq 9, 3) := by decide +kernel
theorem dX7_readToken_16 : decode cX7_readToken 16 = .ok (.aload_n 0, 1) := by decide +kernel
theorem dX7_readToken_17 : decode cX7_readToken 17 = .ok (.iload_n 1, 1) := by decide +kernel
theorem dX7_readToken_18 : decode cX7_readToken 18 = .ok (.invokevirtual 79, 3) := by decide +kernel
theorem dX7_readToken_21 : decode cX7_readToken 21 = .ok (.ireturn, 1) := by decide +kernel
theorem dX7_readToken_22 : decode cX7_readToken 22 = .ok (.iload_n 2, 1) := by decide +kernel
theorem dX7_readToken_23 : decode cX7_readToken 23 = .ok (.invokestatic 50, 3) := by decide +kernel
theorem dX7_readToken_26 : decode cX7_readToken 26 = .ok (.ifCond .eq 9, 3) := by decide +kernel
theorem dX7_readToken_29 : decode cX7_readToken 29 = .ok (.aload_n 0, 1) := by decide +kernel
theorem dX7_readToken_30 : decode cX7_readToken 30 = .ok (.iload_n 1, 1) := by decide +kernel
theorem dX7_readToken_31 : decode cX7_readToken 31 = .ok (.invokevirtual 82, 3) := by decide +kernel
theorem dX7_readToken_34 : decode cX7_readToken 34 = .ok (.ireturn, 1) := by decide +kernel
theorem dX7_readToken_35 : decode cX7_readToken 35 = .ok (.aload_n 0, 1) := by decide +kernel
theorem dX7_readToken_36 : decode cX7_readToken 36 = .ok (.iload_n 1, 1) := by decide +kernel
theorem dX7_readToken_37 : decode cX7_readToken 37 = .ok (.iload_n 2, 1) := by decide +kernel
theorem dX7_readToken_38 : decode cX7_readToken 38 = .ok (.invokevirtual 85, 3) := by decide +kernel
theorem dX7_readToken_41 : decode cX7_readToken 41 = .ok (.ireturn, 1) := by decide +kernel
set_option maxRecDepth 20000 in
theorem ggX7_readWord_X6_byteAt : GoodIn wsX7_readWord wsX6_byteAt := goodIn_r _ [7, 8, 9, 40, 41] (by decide +kernel) (by decide +kernel)
set_option maxRecDepth 20000 in
theorem gX7_readWord_X6_byteAt : GoodIn wsX7_readWord (wsV RX7 73 RX6 yX6_byteAt wsX6_byteAt) := goodIn_app (goodIn_of _ (by decide +kernel)) ggX7_readWord_X6_byteAt
set_option maxRecDepth 20000 in
theorem ggX7_readWord_X7_isLetter : GoodIn wsX7_readWord wsX7_isLetter := goodIn_r _ [13] (by decide +kernel) (by decide +kernel)
set_option maxRecDepth 20000 in
theorem gX7_readWord_X7_isLetter : GoodIn wsX7_readWord (va_wsS RX7 76 yX7_isLetter wsX7_isLetter) := goodIn_app (goodIn_of _ (by decide +kernel)) ggX7_readWord_X7_isLetter
set_option maxRecDepth 20000 in
theorem ggX7_readWord_X7_isDigit : GoodIn wsX7_readWord wsX7_isDigit := goodIn_r _ [16] (by decide +kernel) (by decide +kernel)
set_option maxRecDepth 20000 in
theorem gX7_readWord_X7_isDigit : GoodIn wsX7_readWord (va_wsS RX7 50 yX7_isDigit wsX7_isDigit) := goodIn_app (goodIn_of _ (by decide +kernel)) ggX7_readWord_X7_isDigit
set_option maxRecDepth 20000 in
theorem ggX7_readWord_X7_addSign : GoodIn wsX7_readWord wsX7_addSign := goodIn_r _ [19, 20, 14, 15, 12, 16] (by decide +kernel) (by decide +kernel)
set_option maxRecDepth 20000 in
theorem gX7_readWord_X7_addSign : GoodIn wsX7_readWord (va_wsS RX7 44 yX7_addSign wsX7_addSign) := goodIn_app (goodIn_of _ (by decide +kernel)) ggX7_readWord_X7_addSign
set_option maxRecDepth 20000 in
theorem ggX7_readWord_X7_kindOfWord : GoodIn wsX7_readWord wsX7_kindOfWord := goodIn_r _ [24, 25, 34, 35, 36, 37, 38, 39] (by decide +kernel) (by decide +kernel)
set_option maxRecDepth 20000 in
theorem gX7_readWord_X7_kindOfWord : GoodIn wsX7_readWord (wsV RX7 89 RX7 yX7_kindOfWord wsX7_kindOfWord) := goodIn_app (goodIn_of _ (by decide +kernel)) ggX7_readWord_X7_kindOfWord
set_option maxRecDepth 20000 in
theorem ggX7_readWord_X7_add : GoodIn wsX7_readWord wsX7_add := goodIn_r _ [29, 30, 31, 32, 33, 34, 35, 36, 37, 38, 39] (by decide +kernel) (by decide +kernel)
set_option maxRecDepth 20000 in
theorem gX7_readWord_X7_add : GoodIn wsX7_readWord (wsV RX7 93 RX7 yX7_add wsX7_add) := goodIn_app (goodIn_of _ (by decide +kernel)) ggX7_readWord_X7_add
theorem dX7_readWord_0 : decode cX7_readWord 0 = .ok (.lconst 0, 1) := by decide +kernel
theorem dX7_readWord_1 : decode cX7_readWord 1 = .ok (.lstore_n 2, 1) := by decide +kernel
theorem dX7_readWord_2 : decode cX7_readWord 2 = .ok (.iload_n 1, 1) := by decide +kernel
theorem dX7_readWord_3 : decode cX7_readWord 3 = .ok (.istore 4, 2) := by decide +kernel
theorem dX7_readWord_5 : decode cX7_readWord 5 = .ok (.iload 4, 2) := by decide +kernel
theorem dX7_readWord_7 : decode cX7_readWord 7 = .ok (.aload_n 0, 1) := by decide +kernel
theorem dX7_readWord_8 : decode cX7_readWord 8 = .ok (.getfield 25, 3) := by decide +kernel
theorem dX7_readWord_11 : decode cX7_readWord 11 = .ok (.getfield 71, 3) := by decide +kernel
theorem dX7_readWord_14 : decode cX7_readWord 14 = .ok (.if_icmp .ge 53, 3) := by decide +kernel
theorem dX7_readWord_17 : decode cX7_readWord 17 = .ok (.aload_n 0, 1) := by decide +kernel
theorem dX7_readWord_18 : decode cX7_readWord 18 = .ok (.getfield 25, 3) := by decide +kernel
theorem dX7_readWord_21 : decode cX7_readWord 21 = .ok (.iload 4, 2) := by decide +kernel
theorem dX7_readWord_23 : decode cX7_readWord 23 = .ok (.invokevirtual 73, 3) := by decide +kernel
theorem dX7_readWord_26 : decode cX7_readWord 26 = .ok (.invokestatic 76, 3) := by decide +kernel
theorem dX7_readWord_29 : decode cX7_readWord 29 = .ok (.ifCond .ne 18, 3) := by decide +kernel
theorem dX7_readWord_32 : decode cX7_readWord 32 = .ok (.aload_n 0, 1) := by decide +kernel
theorem dX7_readWord_33 : decode cX7_readWord 33 = .ok (.getfield 25, 3) := by decide +kernel
theorem dX7_readWord_36 : decode cX7_readWord 36 = .ok (.iload 4, 2) := by decide +kernel
theorem dX7_readWord_38 : decode cX7_readWord 38 = .ok (.invokevirtual 73, 3) := by decide +kernel
theorem dX7_readWord_41 : decode cX7_readWord 41 = .ok (.invokestatic 50, 3) := by decide +kernel
theorem dX7_readWord_44 : decode cX7_readWord 44 = .ok (.ifCond .eq 23, 3) := by decide +kernel
theorem dX7_readWord_47 : decode cX7_readWord 47 = .ok (.lload_n 2, 1) := by decide +kernel
theorem dX7_readWord_48 : decode cX7_readWord 48 = .ok (.aload_n 0, 1) := by decide +kernel
theorem dX7_readWord_49 : decode cX7_readWord 49 = .ok (.getfield 25, 3) := by decide +kernel
theorem dX7_readWord_52 : decode cX7_readWord 52 = .ok (.iload 4, 2) := by decide +kernel
theorem dX7_readWord_54 : decode cX7_readWord 54 = .ok (.invokevirtual 73, 3) := by decide +kernel
theorem dX7_readWord_57 : decode cX7_readWord 57 = .ok (.invokestatic 44, 3) := by decide +kernel
theorem dX7_readWord_60 : decode cX7_readWord 60 = .ok (.lstore_n 2, 1) := by decide +kernel
theorem dX7_readWord_61 : decode cX7_readWord 61 = .ok (.iinc 4 1, 3) := by decide +kernel
theorem dX7_readWord_64 : decode cX7_readWord 64 = .ok (.goto (-59), 3) := by decide +kernel
theorem dX7_readWord_67 : decode cX7_readWord 67 = .ok (.iload 4, 2) := by decide +kernel
theorem dX7_readWord_69 : decode cX7_readWord 69 = .ok (.iload_n 1, 1) := by decide +kernel
theorem dX7_readWord_70 : decode cX7_readWord 70 = .ok (.isub, 1) := by decide +kernel
theorem dX7_readWord_71 : decode cX7_readWord 71 = .ok (.bipush 10, 2) := by decide +kernel
theorem dX7_readWord_73 : decode cX7_readWord 73 = .ok (.if_icmp .le 5, 3) := by decide +kernel
theorem dX7_readWord_76 : decode cX7_readWord 76 = .ok (.iload_n 1, 1) := by decide +kernel
theorem dX7_readWord_77 : decode cX7_readWord 77 = .ok (.ireturn, 1) := by decide +kernel
theorem dX7_readWord_78 : decode cX7_readWord 78 = .ok (.aload_n 0, 1) := by decide +kernel
theorem dX7_readWord_79 : decode cX7_readWord 79 = .ok (.aload_n 0, 1) := by decide +kernel
theorem dX7_readWord_80 : decode cX7_readWord 80 = .ok (.lload_n 2, 1) := by decide +kernel
theorem dX7_readWord_81 : decode cX7_readWord 81 = .ok (.invokevirtual 89, 3) := by decide +kernel
theorem dX7_readWord_84 : decode cX7_readWord 84 = .ok (.iload_n 1, 1) := by decide +kernel
theorem dX7_readWord_85 : decode cX7_readWord 85 = .ok (.lload_n 2, 1) := by decide +kernel
theorem dX7_readWord_86 : decode cX7_readWord 86 = .ok (.invokevirtual 93, 3) := by decide +kernel
theorem dX7_readWord_89 : decode cX7_readWord 89 = .ok (.iload 4, 2) := by decide +kernel
theorem dX7_readWord_91 : decode cX7_readWord 91 = .ok (.ireturn, 1) := by decide +kernel
theorem dX7_kindOfWord_0 : decode cX7_kindOfWord 0 = .ok (.iconst 0, 1) := by decide +kernel
theorem dX7_kindOfWord_1 : decode cX7_kindOfWord 1 = .ok (.istore_n 3, 1) := by decide +kernel
theorem dX7_kindOfWord_2 : decode cX7_kindOfWord 2 = .ok (.iload_n 3, 1) := by decide +kernel
theorem dX7_kindOfWord_3 : decode cX7_kindOfWord 3 = .ok (.bipush 33, 2) := by decide +kernel
theorem dX7_kindOfWord_5 : decode cX7_kindOfWord 5 = .ok (.if_icmp .ge 26, 3) := by decide +kernel
theorem dX7_kindOfWord_8 : decode cX7_kindOfWord 8 = .ok (.aload_n 0, 1) := by decide +kernel
theorem dX7_kindOfWord_9 : decode cX7_kindOfWord 9 = .ok (.getfield 9, 3) := by decide +kernel
theorem dX7_kindOfWord_12 : decode cX7_kindOfWord 12 = .ok (.iload_n 3, 1) := by decide +kernel
theorem dX7_kindOfWord_13 : decode cX7_kindOfWord 13 = .ok (.laload, 1) := by decide +kernel
theorem dX7_kindOfWord_14 : decode cX7_kindOfWord 14 = .ok (.lload_n 1, 1) := by decide +kernel
theorem dX7_kindOfWord_15 : decode cX7_kindOfWord 15 = .ok (.lcmp, 1) := by decide +kernel
theorem dX7_kindOfWord_16 : decode cX7_kindOfWord 16 = .ok (.ifCond .ne 9, 3) := by decide +kernel
theorem dX7_kindOfWord_19 : decode cX7_kindOfWord 19 = .ok (.sipush 200, 3) := by decide +kernel
theorem dX7_kindOfWord_22 : decode cX7_kindOfWord 22 = .ok (.iload_n 3, 1) := by decide +kernel
theorem dX7_kindOfWord_23 : decode cX7_kindOfWord 23 = .ok (.iadd, 1) := by decide +kernel
theorem dX7_kindOfWord_24 : decode cX7_kindOfWord 24 = .ok (.ireturn, 1) := by decide +kernel
theorem dX7_kindOfWord_25 : decode cX7_kindOfWord 25 = .ok (.iinc 3 1, 3) := by decide +kernel
theorem dX7_kindOfWord_28 : decode cX7_kindOfWord 28 = .ok (.goto (-26), 3) := by decide +kernel
theorem dX7_kindOfWord_31 : decode cX7_kindOfWord 31 = .ok (.iconst 2, 1) := by decide +kernel
theorem dX7_kindOfWord_32 : decode cX7_kindOfWord 32 = .ok (.ireturn, 1) := by decide +kernel
set_option maxRecDepth 20000 in
theorem ggX7_readNumber_X6_byteAt : GoodIn wsX7_readNumber wsX6_byteAt := goodIn_r _ [9, 10, 11, 30, 31] (by decide +kernel) (by decide +kernel)
set_option maxRecDepth 20000 in
theorem gX7_readNumber_X6_byteAt : GoodIn wsX7_readNumber (wsV RX7 73 RX6 yX6_byteAt wsX6_byteAt) := goodIn_app (goodIn_of _ (by decide +kernel)) ggX7_readNumber_X6_byteAt
set_option maxRecDepth 20000 in
theorem ggX7_readNumber_X7_isDigit : GoodIn wsX7_readNumber wsX7_isDigit := goodIn_r _ [15] (by decide +kernel) (by decide +kernel)
set_option maxRecDepth 20000 in
theorem gX7_readNumber_X7_isDigit : GoodIn wsX7_readNumber (va_wsS RX7 50 yX7_isDigit wsX7_isDigit) := goodIn_app (goodIn_of _ (by decide +kernel)) ggX7_readNumber_X7_isDigit
set_option maxRecDepth 20000 in
theorem ggX7_readNumber_X7_add : GoodIn wsX7_readNumber wsX7_add := goodIn_r _ [19, 20, 21, 22, 23, 24, 25, 26, 27, 28, 29] (by decide +kernel) (by decide +kernel)
set_option maxRecDepth 20000 in
theorem gX7_readNumber_X7_add : GoodIn wsX7_readNumber (wsV RX7 93 RX7 yX7_add wsX7_add) := goodIn_app (goodIn_of _ (by decide +kernel)) ggX7_readNumber_X7_add
theorem dX7_readNumber_0 : decode cX7_readNumber 0 = .ok (.lconst 0, 1) := by decide +kernel
theorem dX7_readNumber_1 : decode cX7_readNumber 1 = .ok (.lstore_n 2, 1) := by decide +kernel
theorem dX7_readNumber_2 : decode cX7_readNumber 2 = .ok (.iload_n 1, 1) := by decide +kernel
theorem dX7_readNumber_3 : decode cX7_readNumber 3 = .ok (.istore 4, 2) := by decide +kernel
theorem dX7_readNumber_5 : decode cX7_readNumber 5 = .ok (.iload 4, 2) := by decide +kernel
theorem dX7_readNumber_7 : decode cX7_readNumber 7 = .ok (.aload_n 0, 1) := by decide +kernel
theorem dX7_readNumber_8 : decode cX7_readNumber 8 = .ok (.getfield 25, 3) := by decide +kernel
theorem dX7_readNumber_11 : decode cX7_readNumber 11 = .ok (.getfield 71, 3) := by decide +kernel
theorem dX7_readNumber_14 : decode cX7_readNumber 14 = .ok (.if_icmp .ge 45, 3) := by decide +kernel
theorem dX7_readNumber_17 : decode cX7_readNumber 17 = .ok (.aload_n 0, 1) := by decide +kernel
theorem dX7_readNumber_18 : decode cX7_readNumber 18 = .ok (.getfield 25, 3) := by decide +kernel
theorem dX7_readNumber_21 : decode cX7_readNumber 21 = .ok (.iload 4, 2) := by decide +kernel
theorem dX7_readNumber_23 : decode cX7_readNumber 23 = .ok (.invokevirtual 73, 3) := by decide +kernel
theorem dX7_readNumber_26 : decode cX7_readNumber 26 = .ok (.invokestatic 50, 3) := by decide +kernel
theorem dX7_readNumber_29 : decode cX7_readNumber 29 = .ok (.ifCond .eq 30, 3) := by decide +kernel
theorem dX7_readNumber_32 : decode cX7_readNumber 32 = .ok (.lload_n 2, 1) := by decide +kernel
theorem dX7_readNumber_33 : decode cX7_readNumber 33 = .ok (.ldc2_w 97, 3) := by decide +kernel
theorem dX7_readNumber_36 : decode cX7_readNumber 36 = .ok (.lmul, 1) := by decide +kernel
theorem dX7_readNumber_37 : decode cX7_readNumber 37 = .ok (.aload_n 0, 1) := by decide +kernel
theorem dX7_readNumber_38 : decode cX7_readNumber 38 = .ok (.getfield 25, 3) := by decide +kernel
theorem dX7_readNumber_41 : decode cX7_readNumber 41 = .ok (.iload 4, 2) := by decide +kernel
theorem dX7_readNumber_43 : decode cX7_readNumber 43 = .ok (.invokevirtual 73, 3) := by decide +kernel
theorem dX7_readNumber_46 : decode cX7_readNumber 46 = .ok (.i2l, 1) := by decide +kernel
theorem dX7_readNumber_47 : decode cX7_readNumber 47 = .ok (.ladd, 1) := by decide +kernel
theorem dX7_readNumber_48 : decode cX7_readNumber 48 = .ok (.ldc2_w 99, 3) := by decide +kernel
theorem dX7_readNumber_51 : decode cX7_readNumber 51 = .ok (.lsub, 1) := by decide +kernel
theorem dX7_readNumber_52 : decode cX7_readNumber 52 = .ok (.lstore_n 2, 1) := by decide +kernel
theorem dX7_readNumber_53 : decode cX7_readNumber 53 = .ok (.iinc 4 1, 3) := by decide +kernel
theorem dX7_readNumber_56 : decode cX7_readNumber 56 = .ok (.goto (-51), 3) := by decide +kernel
theorem dX7_readNumber_59 : decode cX7_readNumber 59 = .ok (.iload 4, 2) := by decide +kernel
theorem dX7_readNumber_61 : decode cX7_readNumber 61 = .ok (.iload_n 1, 1) := by decide +kernel
theorem dX7_readNumber_62 : decode cX7_readNumber 62 = .ok (.isub, 1) := by decide +kernel
theorem dX7_readNumber_63 : decode cX7_readNumber 63 = .ok (.bipush 6, 2) := by decide +kernel
theorem dX7_readNumber_65 : decode cX7_readNumber 65 = .ok (.if_icmp .le 5, 3) := by decide +kernel
theorem dX7_readNumber_68 : decode cX7_readNumber 68 = .ok (.iload_n 1, 1) := by decide +kernel
theorem dX7_readNumber_69 : decode cX7_readNumber 69 = .ok (.ireturn, 1) := by decide +kernel
theorem dX7_readNumber_70 : decode cX7_readNumber 70 = .ok (.aload_n 0, 1) := by decide +kernel
theorem dX7_readNumber_71 : decode cX7_readNumber 71 = .ok (.iconst 3, 1) := by decide +kernel
theorem dX7_readNumber_72 : decode cX7_readNumber 72 = .ok (.iload_n 1, 1) := by decide +kernel
theorem dX7_readNumber_73 : decode cX7_readNumber 73 = .ok (.lload_n 2, 1) := by decide +kernel
theorem dX7_readNumber_74 : decode cX7_readNumber 74 = .ok (.invokevirtual 93, 3) := by decide +kernel
theorem dX7_readNumber_77 : decode cX7_readNumber 77 = .ok (.iload 4, 2) := by decide +kernel
theorem dX7_readNumber_79 : decode cX7_readNumber 79 = .ok (.ireturn, 1) := by decide +kernel
set_option maxRecDepth 20000 in
theorem ggX7_readSymbol_X6_byteAt : GoodIn wsX7_readSymbol wsX6_byteAt := goodIn_r _ [6, 7, 8, 24, 25] (by decide +kernel) (by decide +kernel)
set_option maxRecDepth 20000 in
theorem gX7_readSymbol_X6_byteAt : GoodIn wsX7_readSymbol (wsV RX7 73 RX6 yX6_byteAt wsX6_byteAt) := goodIn_app (goodIn_of _ (by decide +kernel)) ggX7_readSymbol_X6_byteAt
set_option maxRecDepth 20000 in
theorem ggX7_readSymbol_X7_add : GoodIn wsX7_readSymbol wsX7_add := goodIn_r _ [13, 14, 15, 16, 17, 18, 19, 20, 21, 22, 23] (by decide +kernel) (by decide +kernel)
set_option maxRecDepth 20000 in
theorem gX7_readSymbol_X7_add : GoodIn wsX7_readSymbol (wsV RX7 93 RX7 yX7_add wsX7_add) := goodIn_app (goodIn_of _ (by decide +kernel)) ggX7_readSymbol_X7_add
theorem dX7_readSymbol_0 : decode cX7_readSymbol 0 = .ok (.iload_n 2, 1) := by decide +kernel
theorem dX7_readSymbol_1 : decode cX7_readSymbol 1 = .ok (.tableswitch 293 40 93 #[282, 282, 282, 282, 282, 282, 293, 282, 293, 293, 293, 293, 293, 293, 293, 293, 293, 293, 293, 282, 231, 282, 231, 293, 293, 293, 293, 293, 293, 293, 293, 293, 293, 293, 293, 293, 293, 293, 293, 293, 293, 293, 293, 293, 293, 293, 293, 293, 293, 293, 293, 282, 293, 282], 231) := by decide +kernel
theorem dX7_readSymbol_232 : decode cX7_readSymbol 232 = .ok (.aload_n 0, 1) := by decide +kernel
theorem dX7_readSymbol_233 : decode cX7_readSymbol 233 = .ok (.getfield 25, 3) := by decide +kernel
theorem dX7_readSymbol_236 : decode cX7_readSymbol 236 = .ok (.iload_n 1, 1) := by decide +kernel
theorem dX7_readSymbol_237 : decode cX7_readSymbol 237 = .ok (.iconst 1, 1) := by decide +kernel
theorem dX7_readSymbol_238 : decode cX7_readSymbol 238 = .ok (.iadd, 1) := by decide +kernel
theorem dX7_readSymbol_239 : decode cX7_readSymbol 239 = .ok (.invokevirtual 73, 3) := by decide +kernel
theorem dX7_readSymbol_242 : decode cX7_readSymbol 242 = .ok (.bipush 61, 2) := by decide +kernel
theorem dX7_readSymbol_244 : decode cX7_readSymbol 244 = .ok (.if_icmp .ne 28, 3) := by decide +kernel
theorem dX7_readSymbol_247 : decode cX7_readSymbol 247 = .ok (.aload_n 0, 1) := by decide +kernel
theorem dX7_readSymbol_248 : decode cX7_readSymbol 248 = .ok (.iload_n 2, 1) := by decide +kernel
theorem dX7_readSymbol_249 : decode cX7_readSymbol 249 = .ok (.bipush 60, 2) := by decide +kernel
theorem dX7_readSymbol_251 : decode cX7_readSymbol 251 = .ok (.if_icmp .ne 9, 3) := by decide +kernel
theorem dX7_readSymbol_254 : decode cX7_readSymbol 254 = .ok (.sipush 128, 3) := by decide +kernel
theorem dX7_readSymbol_257 : decode cX7_readSymbol 257 = .ok (.goto 6, 3) := by decide +kernel
theorem dX7_readSymbol_260 : decode cX7_readSymbol 260 = .ok (.sipush 129, 3) := by decide +kernel
theorem dX7_readSymbol_263 : decode cX7_readSymbol 263 = .ok (.iload_n 1, 1) := by decide +kernel
theorem dX7_readSymbol_264 : decode cX7_readSymbol 264 = .ok (.lconst 0, 1) := by decide +kernel
theorem dX7_readSymbol_265 : decode cX7_readSymbol 265 = .ok (.invokevirtual 93, 3) := by decide +kernel
theorem dX7_readSymbol_268 : decode cX7_readSymbol 268 = .ok (.iload_n 1, 1) := by decide +kernel
theorem dX7_readSymbol_269 : decode cX7_readSymbol 269 = .ok (.iconst 2, 1) := by decide +kernel
theorem dX7_readSymbol_270 : decode cX7_readSymbol 270 = .ok (.iadd, 1) := by decide +kernel
theorem dX7_readSymbol_271 : decode cX7_readSymbol 271 = .ok (.ireturn, 1) := by decide +kernel
theorem dX7_readSymbol_272 : decode cX7_readSymbol 272 = .ok (.aload_n 0, 1) := by decide +kernel
theorem dX7_readSymbol_273 : decode cX7_readSymbol 273 = .ok (.iload_n 2, 1) := by decide +kernel
theorem dX7_readSymbol_274 : decode cX7_readSymbol 274 = .ok (.iload_n 1, 1) := by decide +kernel
theorem dX7_readSymbol_275 : decode cX7_readSymbol 275 = .ok (.lconst 0, 1) := by decide +kernel
theorem dX7_readSymbol_276 : decode cX7_readSymbol 276 = .ok (.invokevirtual 93, 3) := by decide +kernel
theorem dX7_readSymbol_279 : decode cX7_readSymbol 279 = .ok (.iload_n 1, 1) := by decide +kernel
theorem dX7_readSymbol_280 : decode cX7_readSymbol 280 = .ok (.iconst 1, 1) := by decide +kernel
theorem dX7_readSymbol_281 : decode cX7_readSymbol 281 = .ok (.iadd, 1) := by decide +kernel
theorem dX7_readSymbol_282 : decode cX7_readSymbol 282 = .ok (.ireturn, 1) := by decide +kernel
theorem dX7_readSymbol_283 : decode cX7_readSymbol 283 = .ok (.aload_n 0, 1) := by decide +kernel
theorem dX7_readSymbol_284 : decode cX7_readSymbol 284 = .ok (.iload_n 2, 1) := by decide +kernel
theorem dX7_readSymbol_285 : decode cX7_readSymbol 285 = .ok (.iload_n 1, 1) := by decide +kernel
theorem dX7_readSymbol_286 : decode cX7_readSymbol 286 = .ok (.lconst 0, 1) := by decide +kernel
theorem dX7_readSymbol_287 : decode cX7_readSymbol 287 = .ok (.invokevirtual 93, 3) := by decide +kernel
theorem dX7_readSymbol_290 : decode cX7_readSymbol 290 = .ok (.iload_n 1, 1) := by decide +kernel
theorem dX7_readSymbol_291 : decode cX7_readSymbol 291 = .ok (.iconst 1, 1) := by decide +kernel
theorem dX7_readSymbol_292 : decode cX7_readSymbol 292 = .ok (.iadd, 1) := by decide +kernel
theorem dX7_readSymbol_293 : decode cX7_readSymbol 293 = .ok (.ireturn, 1) := by decide +kernel
theorem dX7_readSymbol_294 : decode cX7_readSymbol 294 = .ok (.iload_n 1, 1) := by decide +kernel
theorem dX7_readSymbol_295 : decode cX7_readSymbol 295 = .ok (.ireturn, 1) := by decide +kernel
theorem dX7_add_0 : decode cX7_add 0 = .ok (.aload_n 0, 1) := by decide +kernel
theorem dX7_add_1 : decode cX7_add 1 = .ok (.getfield 54, 3) := by decide +kernel
theorem dX7_add_4 : decode cX7_add 4 = .ok (.sipush 400, 3) := by decide +kernel
theorem dX7_add_7 : decode cX7_add 7 = .ok (.if_icmp .ge 43, 3) := by decide +kernel
theorem dX7_add_10 : decode cX7_add 10 = .ok (.aload_n 0, 1) := by decide +kernel
theorem dX7_add_11 : decode cX7_add 11 = .ok (.getfield 15, 3) := by decide +kernel
theorem dX7_add_14 : decode cX7_add 14 = .ok (.aload_n 0, 1) := by decide +kernel
theorem dX7_add_15 : decode cX7_add 15 = .ok (.getfield 54, 3) := by decide +kernel
theorem dX7_add_18 : decode cX7_add 18 = .ok (.iload_n 1, 1) := by decide +kernel
theorem dX7_add_19 : decode cX7_add 19 = .ok (.iastore, 1) := by decide +kernel
theorem dX7_add_20 : decode cX7_add 20 = .ok (.aload_n 0, 1) := by decide +kernel
theorem dX7_add_21 : decode cX7_add 21 = .ok (.getfield 19, 3) := by decide +kernel
theorem dX7_add_24 : decode cX7_add 24 = .ok (.aload_n 0, 1) := by decide +kernel
theorem dX7_add_25 : decode cX7_add 25 = .ok (.getfield 54, 3) := by decide +kernel
theorem dX7_add_28 : decode cX7_add 28 = .ok (.iload_n 2, 1) := by decide +kernel
theorem dX7_add_29 : decode cX7_add 29 = .ok (.iastore, 1) := by decide +kernel
theorem dX7_add_30 : decode cX7_add 30 = .ok (.aload_n 0, 1) := by decide +kernel
theorem dX7_add_31 : decode cX7_add 31 = .ok (.getfield 22, 3) := by decide +kernel
theorem dX7_add_34 : decode cX7_add 34 = .ok (.aload_n 0, 1) := by decide +kernel
theorem dX7_add_35 : decode cX7_add 35 = .ok (.getfield 54, 3) := by decide +kernel
theorem dX7_add_38 : decode cX7_add 38 = .ok (.lload_n 3, 1) := by decide +kernel
theorem dX7_add_39 : decode cX7_add 39 = .ok (.lastore, 1) := by decide +kernel
theorem dX7_add_40 : decode cX7_add 40 = .ok (.aload_n 0, 1) := by decide +kernel
theorem dX7_add_41 : decode cX7_add 41 = .ok (.dup, 1) := by decide +kernel
theorem dX7_add_42 : decode cX7_add 42 = .ok (.getfield 54, 3) := by decide +kernel
theorem dX7_add_45 : decode cX7_add 45 = .ok (.iconst 1, 1) := by decide +kernel
theorem dX7_add_46 : decode cX7_add 46 = .ok (.iadd, 1) := by decide +kernel
theorem dX7_add_47 : decode cX7_add 47 = .ok (.putfield 54, 3) := by decide +kernel
theorem dX7_add_50 : decode cX7_add 50 = .ok (.return_, 1) := by decide +kernel
theorem dX7_isLetter_0 : decode cX7_isLetter 0 = .ok (.iload_n 0, 1) := by decide +kernel
theorem dX7_isLetter_1 : decode cX7_isLetter 1 = .ok (.bipush 97, 2) := by decide +kernel
theorem dX7_isLetter_3 : decode cX7_isLetter 3 = .ok (.if_icmp .lt 13, 3) := by decide +kernel
theorem dX7_isLetter_6 : decode cX7_isLetter 6 = .ok (.iload_n 0, 1) := by decide +kernel
theorem dX7_isLetter_7 : decode cX7_isLetter 7 = .ok (.bipush 122, 2) := by decide +kernel
theorem dX7_isLetter_9 : decode cX7_isLetter 9 = .ok (.if_icmp .gt 7, 3) := by decide +kernel
theorem dX7_isLetter_12 : decode cX7_isLetter 12 = .ok (.iconst 1, 1) := by decide +kernel
theorem dX7_isLetter_13 : decode cX7_isLetter 13 = .ok (.goto 4, 3) := by decide +kernel
theorem dX7_isLetter_16 : decode cX7_isLetter 16 = .ok (.iconst 0, 1) := by decide +kernel
theorem dX7_isLetter_17 : decode cX7_isLetter 17 = .ok (.ireturn, 1) := by decide +kernel
theorem dX7_isDigit_0 : decode cX7_isDigit 0 = .ok (.iload_n 0, 1) := by decide +kernel
theorem dX7_isDigit_1 : decode cX7_isDigit 1 = .ok (.bipush 48, 2) := by decide +kernel
theorem dX7_isDigit_3 : decode cX7_isDigit 3 = .ok (.if_icmp .lt 13, 3) := by decide +kernel
theorem dX7_isDigit_6 : decode cX7_isDigit 6 = .ok (.iload_n 0, 1) := by decide +kernel
theorem dX7_isDigit_7 : decode cX7_isDigit 7 = .ok (.bipush 57, 2) := by decide +kernel
theorem dX7_isDigit_9 : decode cX7_isDigit 9 = .ok (.if_icmp .gt 7, 3) := by decide +kernel
theorem dX7_isDigit_12 : decode cX7_isDigit 12 = .ok (.iconst 1, 1) := by decide +kernel
theorem dX7_isDigit_13 : decode cX7_isDigit 13 = .ok (.goto 4, 3) := by decide +kernel
theorem dX7_isDigit_16 : decode cX7_isDigit 16 = .ok (.iconst 0, 1) := by decide +kernel
theorem dX7_isDigit_17 : decode cX7_isDigit 17 = .ok (.ireturn, 1) := by decide +kernel
