set_option maxRecDepth 20000 in
theorem gX8_markCollisions_X8_spells : GoodIn wsX8_markCollisions (wsV RX8 132 RX8 yX8_spells wsX8_spells) := goodIn_app (goodIn_of _ (by decide +kernel)) ggX8_markCollisions_X8_spells
set_option maxRecDepth 20000 in
theorem ggX8_markCollisions_X8_wordAt : GoodIn wsX8_markCollisions wsX8_wordAt := goodIn_r _ [27] (by decide +kernel) (by decide +kernel)
set_option maxRecDepth 20000 in
theorem gX8_markCollisions_X8_wordAt : GoodIn wsX8_markCollisions (va_wsS RX8 100 yX8_wordAt wsX8_wordAt) := goodIn_app (goodIn_of _ (by decide +kernel)) ggX8_markCollisions_X8_wordAt
set_option maxRecDepth 20000 in
theorem ggX8_markCollisions_X8_withSpelling : GoodIn wsX8_markCollisions wsX8_withSpelling := goodIn_r _ [79, 1, 80, 81, 82, 5, 83, 15, 17, 90, 91, 92, 93, 94, 95, 96, 97, 98, 99, 100, 101, 102, 103, 104, 105, 106, 107, 108, 109, 110, 111, 112, 113, 114, 115, 116, 117] (by decide +kernel) (by decide +kernel)
set_option maxRecDepth 20000 in
theorem gX8_markCollisions_X8_withSpelling : GoodIn wsX8_markCollisions (wsV RX8 135 RX8 yX8_withSpelling wsX8_withSpelling) := goodIn_app (goodIn_of _ (by decide +kernel)) ggX8_markCollisions_X8_withSpelling
set_option maxRecDepth 20000 in
theorem ggX8_markCollisions_X8_acted : GoodIn wsX8_markCollisions wsX8_acted := goodIn_r _ [87, 88, 89, 7, 90, 91, 92, 93, 94, 95, 96, 97, 98, 99, 100, 101, 102, 103, 104, 105, 106, 107, 108, 109, 110, 111, 112, 113, 114, 115, 116, 117] (by decide +kernel) (by decide +kernel)
set_option maxRecDepth 20000 in
theorem gX8_markCollisions_X8_acted : GoodIn wsX8_markCollisions (wsV RX8 202 RX8 yX8_acted wsX8_acted) := goodIn_app (goodIn_of _ (by decide +kernel)) ggX8_markCollisions_X8_acted
theorem dX8_markCollisions_0 : decode cX8_markCollisions 0 = .ok (.aload_n 0, 1) := by decide +kernel
theorem dX8_markCollisions_1 : decode cX8_markCollisions 1 = .ok (.invokevirtual 196, 3) := by decide +kernel
theorem dX8_markCollisions_4 : decode cX8_markCollisions 4 = .ok (.iconst 0, 1) := by decide +kernel
theorem dX8_markCollisions_5 : decode cX8_markCollisions 5 = .ok (.istore_n 1, 1) := by decide +kernel
theorem dX8_markCollisions_6 : decode cX8_markCollisions 6 = .ok (.iconst 0, 1) := by decide +kernel
theorem dX8_markCollisions_7 : decode cX8_markCollisions 7 = .ok (.istore_n 2, 1) := by decide +kernel
theorem dX8_markCollisions_8 : decode cX8_markCollisions 8 = .ok (.iload_n 2, 1) := by decide +kernel
theorem dX8_markCollisions_9 : decode cX8_markCollisions 9 = .ok (.aload_n 0, 1) := by decide +kernel
theorem dX8_markCollisions_10 : decode cX8_markCollisions 10 = .ok (.getfield 7, 3) := by decide +kernel
theorem dX8_markCollisions_13 : decode cX8_markCollisions 13 = .ok (.iconst 1, 1) := by decide +kernel
theorem dX8_markCollisions_14 : decode cX8_markCollisions 14 = .ok (.iaload, 1) := by decide +kernel
theorem dX8_markCollisions_15 : decode cX8_markCollisions 15 = .ok (.if_icmp .ge 47, 3) := by decide +kernel
theorem dX8_markCollisions_18 : decode cX8_markCollisions 18 = .ok (.aload_n 0, 1) := by decide +kernel
theorem dX8_markCollisions_19 : decode cX8_markCollisions 19 = .ok (.invokevirtual 132, 3) := by decide +kernel
theorem dX8_markCollisions_22 : decode cX8_markCollisions 22 = .ok (.aload_n 0, 1) := by decide +kernel
theorem dX8_markCollisions_23 : decode cX8_markCollisions 23 = .ok (.getfield 7, 3) := by decide +kernel
theorem dX8_markCollisions_26 : decode cX8_markCollisions 26 = .ok (.iload_n 2, 1) := by decide +kernel
theorem dX8_markCollisions_27 : decode cX8_markCollisions 27 = .ok (.invokestatic 100, 3) := by decide +kernel
theorem dX8_markCollisions_30 : decode cX8_markCollisions 30 = .ok (.iaload, 1) := by decide +kernel
theorem dX8_markCollisions_31 : decode cX8_markCollisions 31 = .ok (.ifCond .ne 25, 3) := by decide +kernel
theorem dX8_markCollisions_34 : decode cX8_markCollisions 34 = .ok (.aload_n 0, 1) := by decide +kernel
theorem dX8_markCollisions_35 : decode cX8_markCollisions 35 = .ok (.iload_n 2, 1) := by decide +kernel
theorem dX8_markCollisions_36 : decode cX8_markCollisions 36 = .ok (.iconst 1, 1) := by decide +kernel
theorem dX8_markCollisions_37 : decode cX8_markCollisions 37 = .ok (.invokevirtual 135, 3) := by decide +kernel
theorem dX8_markCollisions_40 : decode cX8_markCollisions 40 = .ok (.ifCond .le 16, 3) := by decide +kernel
theorem dX8_markCollisions_43 : decode cX8_markCollisions 43 = .ok (.aload_n 0, 1) := by decide +kernel
theorem dX8_markCollisions_44 : decode cX8_markCollisions 44 = .ok (.getfield 7, 3) := by decide +kernel
theorem dX8_markCollisions_47 : decode cX8_markCollisions 47 = .ok (.iload_n 2, 1) := by decide +kernel
theorem dX8_markCollisions_48 : decode cX8_markCollisions 48 = .ok (.invokestatic 100, 3) := by decide +kernel
theorem dX8_markCollisions_51 : decode cX8_markCollisions 51 = .ok (.iconst 2, 1) := by decide +kernel
theorem dX8_markCollisions_52 : decode cX8_markCollisions 52 = .ok (.iastore, 1) := by decide +kernel
theorem dX8_markCollisions_53 : decode cX8_markCollisions 53 = .ok (.iinc 1 1, 3) := by decide +kernel
theorem dX8_markCollisions_56 : decode cX8_markCollisions 56 = .ok (.iinc 2 1, 3) := by decide +kernel
theorem dX8_markCollisions_59 : decode cX8_markCollisions 59 = .ok (.goto (-51), 3) := by decide +kernel
theorem dX8_markCollisions_62 : decode cX8_markCollisions 62 = .ok (.iload_n 1, 1) := by decide +kernel
theorem dX8_markCollisions_63 : decode cX8_markCollisions 63 = .ok (.ifCond .ne 8, 3) := by decide +kernel
theorem dX8_markCollisions_66 : decode cX8_markCollisions 66 = .ok (.bipush (-5), 2) := by decide +kernel
theorem dX8_markCollisions_68 : decode cX8_markCollisions 68 = .ok (.goto 8, 3) := by decide +kernel
theorem dX8_markCollisions_71 : decode cX8_markCollisions 71 = .ok (.aload_n 0, 1) := by decide +kernel
theorem dX8_markCollisions_72 : decode cX8_markCollisions 72 = .ok (.iload_n 1, 1) := by decide +kernel
theorem dX8_markCollisions_73 : decode cX8_markCollisions 73 = .ok (.invokevirtual 202, 3) := by decide +kernel
theorem dX8_markCollisions_76 : decode cX8_markCollisions 76 = .ok (.ireturn, 1) := by decide +kernel
set_option maxRecDepth 20000 in
theorem ggX8_faultOfWords_X8_passes : GoodIn wsX8_faultOfWords wsX8_passes := goodIn_r _ [7, 1, 8, 9, 10, 6, 11, 2, 12, 13, 14, 15, 20, 21, 22, 23, 24, 25, 26, 27, 28, 29, 30, 31, 32, 33, 34, 35, 36, 37, 38, 39, 40, 41, 42, 43, 44, 45, 46, 47] (by decide +kernel) (by decide +kernel)
set_option maxRecDepth 20000 in
theorem gX8_faultOfWords_X8_passes : GoodIn wsX8_faultOfWords (wsV RX8 151 RX8 yX8_passes wsX8_passes) := goodIn_app (goodIn_of _ (by decide +kernel)) ggX8_faultOfWords_X8_passes
set_option maxRecDepth 20000 in
theorem ggX8_faultOfWords_X8_takes : GoodIn wsX8_faultOfWords wsX8_takes := goodIn_r _ [19, 1, 8, 9, 10, 6, 11, 2, 12, 13, 14, 15, 20, 21, 22, 23, 24, 25, 26, 27, 28, 29, 30, 31, 32, 33, 34, 35, 36, 37, 38, 39, 40, 41, 42, 43, 44, 45, 46, 47] (by decide +kernel) (by decide +kernel)
set_option maxRecDepth 20000 in
theorem gX8_faultOfWords_X8_takes : GoodIn wsX8_faultOfWords (wsV RX8 148 RX8 yX8_takes wsX8_takes) := goodIn_app (goodIn_of _ (by decide +kernel)) ggX8_faultOfWords_X8_takes
theorem dX8_faultOfWords_0 : decode cX8_faultOfWords 0 = .ok (.aload_n 0, 1) := by decide +kernel
theorem dX8_faultOfWords_1 : decode cX8_faultOfWords 1 = .ok (.iconst 0, 1) := by decide +kernel
theorem dX8_faultOfWords_2 : decode cX8_faultOfWords 2 = .ok (.putfield 142, 3) := by decide +kernel
theorem dX8_faultOfWords_5 : decode cX8_faultOfWords 5 = .ok (.iconst 1, 1) := by decide +kernel
theorem dX8_faultOfWords_6 : decode cX8_faultOfWords 6 = .ok (.istore_n 2, 1) := by decide +kernel
theorem dX8_faultOfWords_7 : decode cX8_faultOfWords 7 = .ok (.iload_n 2, 1) := by decide +kernel
theorem dX8_faultOfWords_8 : decode cX8_faultOfWords 8 = .ok (.ifCond .eq 55, 3) := by decide +kernel
theorem dX8_faultOfWords_11 : decode cX8_faultOfWords 11 = .ok (.aload_n 0, 1) := by decide +kernel
theorem dX8_faultOfWords_12 : decode cX8_faultOfWords 12 = .ok (.iload_n 1, 1) := by decide +kernel
theorem dX8_faultOfWords_13 : decode cX8_faultOfWords 13 = .ok (.ifCond .eq 8, 3) := by decide +kernel
theorem dX8_faultOfWords_16 : decode cX8_faultOfWords 16 = .ok (.bipush 24, 2) := by decide +kernel
theorem dX8_faultOfWords_18 : decode cX8_faultOfWords 18 = .ok (.goto 5, 3) := by decide +kernel
theorem dX8_faultOfWords_21 : decode cX8_faultOfWords 21 = .ok (.bipush 12, 2) := by decide +kernel
theorem dX8_faultOfWords_23 : decode cX8_faultOfWords 23 = .ok (.invokevirtual 151, 3) := by decide +kernel
theorem dX8_faultOfWords_26 : decode cX8_faultOfWords 26 = .ok (.ifCond .ne 8, 3) := by decide +kernel
theorem dX8_faultOfWords_29 : decode cX8_faultOfWords 29 = .ok (.aload_n 0, 1) := by decide +kernel
theorem dX8_faultOfWords_30 : decode cX8_faultOfWords 30 = .ok (.getfield 142, 3) := by decide +kernel
theorem dX8_faultOfWords_33 : decode cX8_faultOfWords 33 = .ok (.ireturn, 1) := by decide +kernel
theorem dX8_faultOfWords_34 : decode cX8_faultOfWords 34 = .ok (.iload_n 1, 1) := by decide +kernel
theorem dX8_faultOfWords_35 : decode cX8_faultOfWords 35 = .ok (.ifCond .eq 16, 3) := by decide +kernel
theorem dX8_faultOfWords_38 : decode cX8_faultOfWords 38 = .ok (.aload_n 0, 1) := by decide +kernel
theorem dX8_faultOfWords_39 : decode cX8_faultOfWords 39 = .ok (.bipush 39, 2) := by decide +kernel
theorem dX8_faultOfWords_41 : decode cX8_faultOfWords 41 = .ok (.invokevirtual 148, 3) := by decide +kernel
theorem dX8_faultOfWords_44 : decode cX8_faultOfWords 44 = .ok (.ifCond .eq 7, 3) := by decide +kernel
theorem dX8_faultOfWords_47 : decode cX8_faultOfWords 47 = .ok (.iconst 1, 1) := by decide +kernel
theorem dX8_faultOfWords_48 : decode cX8_faultOfWords 48 = .ok (.goto 4, 3) := by decide +kernel
theorem dX8_faultOfWords_51 : decode cX8_faultOfWords 51 = .ok (.iconst 0, 1) := by decide +kernel
theorem dX8_faultOfWords_52 : decode cX8_faultOfWords 52 = .ok (.istore_n 3, 1) := by decide +kernel
theorem dX8_faultOfWords_53 : decode cX8_faultOfWords 53 = .ok (.aload_n 0, 1) := by decide +kernel
theorem dX8_faultOfWords_54 : decode cX8_faultOfWords 54 = .ok (.bipush 32, 2) := by decide +kernel
theorem dX8_faultOfWords_56 : decode cX8_faultOfWords 56 = .ok (.invokevirtual 148, 3) := by decide +kernel
theorem dX8_faultOfWords_59 : decode cX8_faultOfWords 59 = .ok (.istore_n 2, 1) := by decide +kernel
theorem dX8_faultOfWords_60 : decode cX8_faultOfWords 60 = .ok (.goto (-53), 3) := by decide +kernel
theorem dX8_faultOfWords_63 : decode cX8_faultOfWords 63 = .ok (.aload_n 0, 1) := by decide +kernel
theorem dX8_faultOfWords_64 : decode cX8_faultOfWords 64 = .ok (.getfield 142, 3) := by decide +kernel
theorem dX8_faultOfWords_67 : decode cX8_faultOfWords 67 = .ok (.aload_n 0, 1) := by decide +kernel
theorem dX8_faultOfWords_68 : decode cX8_faultOfWords 68 = .ok (.getfield 139, 3) := by decide +kernel
theorem dX8_faultOfWords_71 : decode cX8_faultOfWords 71 = .ok (.if_icmp .ne 8, 3) := by decide +kernel
theorem dX8_faultOfWords_74 : decode cX8_faultOfWords 74 = .ok (.bipush (-5), 2) := by decide +kernel
theorem dX8_faultOfWords_76 : decode cX8_faultOfWords 76 = .ok (.goto 7, 3) := by decide +kernel
theorem dX8_faultOfWords_79 : decode cX8_faultOfWords 79 = .ok (.aload_n 0, 1) := by decide +kernel
theorem dX8_faultOfWords_80 : decode cX8_faultOfWords 80 = .ok (.getfield 142, 3) := by decide +kernel
theorem dX8_faultOfWords_83 : decode cX8_faultOfWords 83 = .ok (.ireturn, 1) := by decide +kernel
set_option maxRecDepth 20000 in
theorem ggX8_inBook_X8_wordAt : GoodIn wsX8_inBook wsX8_wordAt := goodIn_r _ [5] (by decide +kernel) (by decide +kernel)
set_option maxRecDepth 20000 in
theorem gX8_inBook_X8_wordAt : GoodIn wsX8_inBook (va_wsS RX8 100 yX8_wordAt wsX8_wordAt) := goodIn_app (goodIn_of _ (by decide +kernel)) ggX8_inBook_X8_wordAt
set_option maxRecDepth 20000 in
theorem ggX8_inBook_X8_isAt : GoodIn wsX8_inBook wsX8_isAt := goodIn_r _ [9, 1, 10, 11, 12, 13, 14, 15, 16, 17, 18, 19, 20, 21, 22, 23, 24, 25, 26, 27, 28, 29, 30, 31, 32, 33, 34, 35, 36, 37, 38] (by decide +kernel) (by decide +kernel)
set_option maxRecDepth 20000 in
theorem gX8_inBook_X8_isAt : GoodIn wsX8_inBook (wsV RX8 183 RX8 yX8_isAt wsX8_isAt) := goodIn_app (goodIn_of _ (by decide +kernel)) ggX8_inBook_X8_isAt
theorem dX8_inBook_0 : decode cX8_inBook 0 = .ok (.iconst 0, 1) := by decide +kernel
theorem dX8_inBook_1 : decode cX8_inBook 1 = .ok (.istore_n 3, 1) := by decide +kernel
theorem dX8_inBook_2 : decode cX8_inBook 2 = .ok (.iload_n 3, 1) := by decide +kernel
theorem dX8_inBook_3 : decode cX8_inBook 3 = .ok (.aload_n 0, 1) := by decide +kernel
theorem dX8_inBook_4 : decode cX8_inBook 4 = .ok (.getfield 7, 3) := by decide +kernel
theorem dX8_inBook_7 : decode cX8_inBook 7 = .ok (.iconst 1, 1) := by decide +kernel
theorem dX8_inBook_8 : decode cX8_inBook 8 = .ok (.iaload, 1) := by decide +kernel
theorem dX8_inBook_9 : decode cX8_inBook 9 = .ok (.if_icmp .ge 26, 3) := by decide +kernel
theorem dX8_inBook_12 : decode cX8_inBook 12 = .ok (.aload_n 0, 1) := by decide +kernel
theorem dX8_inBook_13 : decode cX8_inBook 13 = .ok (.iload_n 3, 1) := by decide +kernel
theorem dX8_inBook_14 : decode cX8_inBook 14 = .ok (.invokestatic 100, 3) := by decide +kernel
theorem dX8_inBook_17 : decode cX8_inBook 17 = .ok (.iconst 1, 1) := by decide +kernel
theorem dX8_inBook_18 : decode cX8_inBook 18 = .ok (.iadd, 1) := by decide +kernel
theorem dX8_inBook_19 : decode cX8_inBook 19 = .ok (.iload_n 1, 1) := by decide +kernel
theorem dX8_inBook_20 : decode cX8_inBook 20 = .ok (.iload_n 2, 1) := by decide +kernel
theorem dX8_inBook_21 : decode cX8_inBook 21 = .ok (.invokevirtual 183, 3) := by decide +kernel
theorem dX8_inBook_24 : decode cX8_inBook 24 = .ok (.ifCond .eq 5, 3) := by decide +kernel
theorem dX8_inBook_27 : decode cX8_inBook 27 = .ok (.iload_n 3, 1) := by decide +kernel
theorem dX8_inBook_28 : decode cX8_inBook 28 = .ok (.ireturn, 1) := by decide +kernel
theorem dX8_inBook_29 : decode cX8_inBook 29 = .ok (.iinc 3 1, 3) := by decide +kernel
theorem dX8_inBook_32 : decode cX8_inBook 32 = .ok (.goto (-30), 3) := by decide +kernel
theorem dX8_inBook_35 : decode cX8_inBook 35 = .ok (.bipush (-5), 2) := by decide +kernel
theorem dX8_inBook_37 : decode cX8_inBook 37 = .ok (.ireturn, 1) := by decide +kernel
theorem dX8_tells_0 : decode cX8_tells 0 = .ok (.aload_n 0, 1) := by decide +kernel
theorem dX8_tells_1 : decode cX8_tells 1 = .ok (.getfield 55, 3) := by decide +kernel
theorem dX8_tells_4 : decode cX8_tells 4 = .ok (.aload_n 0, 1) := by decide +kernel
theorem dX8_tells_5 : decode cX8_tells 5 = .ok (.getfield 219, 3) := by decide +kernel
theorem dX8_tells_8 : decode cX8_tells 8 = .ok (.iload_n 1, 1) := by decide +kernel
theorem dX8_tells_9 : decode cX8_tells 9 = .ok (.iastore, 1) := by decide +kernel
theorem dX8_tells_10 : decode cX8_tells 10 = .ok (.aload_n 0, 1) := by decide +kernel
theorem dX8_tells_11 : decode cX8_tells 11 = .ok (.dup, 1) := by decide +kernel
theorem dX8_tells_12 : decode cX8_tells 12 = .ok (.getfield 219, 3) := by decide +kernel
theorem dX8_tells_15 : decode cX8_tells 15 = .ok (.iconst 1, 1) := by decide +kernel
theorem dX8_tells_16 : decode cX8_tells 16 = .ok (.iadd, 1) := by decide +kernel
theorem dX8_tells_17 : decode cX8_tells 17 = .ok (.putfield 219, 3) := by decide +kernel
theorem dX8_tells_20 : decode cX8_tells 20 = .ok (.return_, 1) := by decide +kernel
set_option maxRecDepth 20000 in
theorem ggX8_converts_X8_inBook : GoodIn wsX8_converts wsX8_inBook := goodIn_r _ [11, 4, 12, 13, 10, 14, 15, 16, 17, 18, 3, 73, 74, 75, 76, 77, 78, 79, 80, 81, 82, 83, 84, 85, 86, 87, 88, 89, 90, 91, 92, 93, 94, 95, 96, 97, 98, 99, 100] (by decide +kernel) (by decide +kernel)
set_option maxRecDepth 20000 in
theorem gX8_converts_X8_inBook : GoodIn wsX8_converts (wsV RX8 222 RX8 yX8_inBook wsX8_inBook) := goodIn_app (goodIn_of _ (by decide +kernel)) ggX8_converts_X8_inBook
set_option maxRecDepth 20000 in
theorem ggX8_converts_X8_wordAt : GoodIn wsX8_converts wsX8_wordAt := goodIn_r _ [14] (by decide +kernel) (by decide +kernel)
set_option maxRecDepth 20000 in
theorem gX8_converts_X8_wordAt : GoodIn wsX8_converts (va_wsS RX8 100 yX8_wordAt wsX8_wordAt) := goodIn_app (goodIn_of _ (by decide +kernel)) ggX8_converts_X8_wordAt
set_option maxRecDepth 20000 in
theorem ggX8_converts_X8_writesAs : GoodIn wsX8_converts wsX8_writesAs := goodIn_r _ [22, 5, 23, 24, 25, 26, 4, 27, 28, 29, 10, 30, 1, 2, 31, 32, 33, 34, 6, 35, 36, 37, 38, 39, 40, 41, 42, 43, 44, 45, 46, 47, 48, 49, 50, 51, 52, 53, 54, 55, 56, 57, 58, 59, 60, 61, 62, 63, 64, 65, 66, 73, 74, 75, 76, 77, 78, 79, 80, 81, 82, 83, 84, 85, 86, 87, 88, 89, 90, 91, 92, 93, 94, 95, 96, 97, 98, 99, 100] (by decide +kernel) (by decide +kernel)
set_option maxRecDepth 20000 in
theorem gX8_converts_X8_writesAs : GoodIn wsX8_converts (wsV RX8 126 RX8 yX8_writesAs wsX8_writesAs) := goodIn_app (goodIn_of _ (by decide +kernel)) ggX8_converts_X8_writesAs
set_option maxRecDepth 20000 in
theorem ggX8_converts_X8_tells : GoodIn wsX8_converts wsX8_tells := goodIn_r _ [70, 71, 72, 73, 74, 75, 76, 77, 78, 79, 80, 81, 82, 83, 84, 85, 86, 87, 88, 89, 90, 91, 92, 93, 94, 95, 96, 97, 98, 99, 100] (by decide +kernel) (by decide +kernel)
set_option maxRecDepth 20000 in
theorem gX8_converts_X8_tells : GoodIn wsX8_converts (wsV RX8 226 RX8 yX8_tells wsX8_tells) := goodIn_app (goodIn_of _ (by decide +kernel)) ggX8_converts_X8_tells
theorem dX8_converts_0 : decode cX8_converts 0 = .ok (.aload_n 0, 1) := by decide +kernel
theorem dX8_converts_1 : decode cX8_converts 1 = .ok (.iload_n 1, 1) := by decide +kernel
theorem dX8_converts_2 : decode cX8_converts 2 = .ok (.iload_n 2, 1) := by decide +kernel
theorem dX8_converts_3 : decode cX8_converts 3 = .ok (.invokevirtual 222, 3) := by decide +kernel
theorem dX8_converts_6 : decode cX8_converts 6 = .ok (.istore_n 3, 1) := by decide +kernel
theorem dX8_converts_7 : decode cX8_converts 7 = .ok (.aload_n 0, 1) := by decide +kernel
theorem dX8_converts_8 : decode cX8_converts 8 = .ok (.iload_n 2, 1) := by decide +kernel
theorem dX8_converts_9 : decode cX8_converts 9 = .ok (.putfield 74, 3) := by decide +kernel
theorem dX8_converts_12 : decode cX8_converts 12 = .ok (.iconst 0, 1) := by decide +kernel
theorem dX8_converts_13 : decode cX8_converts 13 = .ok (.istore 4, 2) := by decide +kernel
theorem dX8_converts_15 : decode cX8_converts 15 = .ok (.iload 4, 2) := by decide +kernel
theorem dX8_converts_17 : decode cX8_converts 17 = .ok (.iload_n 2, 1) := by decide +kernel
theorem dX8_converts_18 : decode cX8_converts 18 = .ok (.if_icmp .ge 25, 3) := by decide +kernel
theorem dX8_converts_21 : decode cX8_converts 21 = .ok (.aload_n 0, 1) := by decide +kernel
theorem dX8_converts_22 : decode cX8_converts 22 = .ok (.getfield 22, 3) := by decide +kernel
theorem dX8_converts_25 : decode cX8_converts 25 = .ok (.iload 4, 2) := by decide +kernel
theorem dX8_converts_27 : decode cX8_converts 27 = .ok (.aload_n 0, 1) := by decide +kernel
theorem dX8_converts_28 : decode cX8_converts 28 = .ok (.getfield 43, 3) := by decide +kernel
theorem dX8_converts_31 : decode cX8_converts 31 = .ok (.iload_n 1, 1) := by decide +kernel
theorem dX8_converts_32 : decode cX8_converts 32 = .ok (.iload 4, 2) := by decide +kernel
theorem dX8_converts_34 : decode cX8_converts 34 = .ok (.iadd, 1) := by decide +kernel
theorem dX8_converts_35 : decode cX8_converts 35 = .ok (.iaload, 1) := by decide +kernel
theorem dX8_converts_36 : decode cX8_converts 36 = .ok (.iastore, 1) := by decide +kernel
theorem dX8_converts_37 : decode cX8_converts 37 = .ok (.iinc 4 1, 3) := by decide +kernel
theorem dX8_converts_40 : decode cX8_converts 40 = .ok (.goto (-25), 3) := by decide +kernel
theorem dX8_converts_43 : decode cX8_converts 43 = .ok (.aload_n 0, 1) := by decide +kernel
theorem dX8_converts_44 : decode cX8_converts 44 = .ok (.iload_n 3, 1) := by decide +kernel
theorem dX8_converts_45 : decode cX8_converts 45 = .ok (.bipush (-5), 2) := by decide +kernel
theorem dX8_converts_47 : decode cX8_converts 47 = .ok (.if_icmp .ne 7, 3) := by decide +kernel
theorem dX8_converts_50 : decode cX8_converts 50 = .ok (.iconst 0, 1) := by decide +kernel
theorem dX8_converts_51 : decode cX8_converts 51 = .ok (.goto 12, 3) := by decide +kernel
theorem dX8_converts_54 : decode cX8_converts 54 = .ok (.aload_n 0, 1) := by decide +kernel
theorem dX8_converts_55 : decode cX8_converts 55 = .ok (.getfield 7, 3) := by decide +kernel
theorem dX8_converts_58 : decode cX8_converts 58 = .ok (.iload_n 3, 1) := by decide +kernel
theorem dX8_converts_59 : decode cX8_converts 59 = .ok (.invokestatic 100, 3) := by decide +kernel
theorem dX8_converts_62 : decode cX8_converts 62 = .ok (.iaload, 1) := by decide +kernel
theorem dX8_converts_63 : decode cX8_converts 63 = .ok (.invokevirtual 126, 3) := by decide +kernel
theorem dX8_converts_66 : decode cX8_converts 66 = .ok (.iconst 0, 1) := by decide +kernel
theorem dX8_converts_67 : decode cX8_converts 67 = .ok (.istore 4, 2) := by decide +kernel
theorem dX8_converts_69 : decode cX8_converts 69 = .ok (.iload 4, 2) := by decide +kernel
theorem dX8_converts_71 : decode cX8_converts 71 = .ok (.aload_n 0, 1) := by decide +kernel
theorem dX8_converts_72 : decode cX8_converts 72 = .ok (.getfield 113, 3) := by decide +kernel
theorem dX8_converts_75 : decode cX8_converts 75 = .ok (.if_icmp .ge 20, 3) := by decide +kernel
theorem dX8_converts_78 : decode cX8_converts 78 = .ok (.aload_n 0, 1) := by decide +kernel
theorem dX8_converts_79 : decode cX8_converts 79 = .ok (.aload_n 0, 1) := by decide +kernel
theorem dX8_converts_80 : decode cX8_converts 80 = .ok (.getfield 34, 3) := by decide +kernel
theorem dX8_converts_83 : decode cX8_converts 83 = .ok (.iload 4, 2) := by decide +kernel
theorem dX8_converts_85 : decode cX8_converts 85 = .ok (.iaload, 1) := by decide +kernel
theorem dX8_converts_86 : decode cX8_converts 86 = .ok (.invokevirtual 226, 3) := by decide +kernel
theorem dX8_converts_89 : decode cX8_converts 89 = .ok (.iinc 4 1, 3) := by decide +kernel
theorem dX8_converts_92 : decode cX8_converts 92 = .ok (.goto (-23), 3) := by decide +kernel
theorem dX8_converts_95 : decode cX8_converts 95 = .ok (.return_, 1) := by decide +kernel
theorem dX8_spelledSo_0 : decode cX8_spelledSo 0 = .ok (.iconst 0, 1) := by decide +kernel
theorem dX8_spelledSo_1 : decode cX8_spelledSo 1 = .ok (.istore_n 3, 1) := by decide +kernel
theorem dX8_spelledSo_2 : decode cX8_spelledSo 2 = .ok (.iload_n 3, 1) := by decide +kernel
theorem dX8_spelledSo_3 : decode cX8_spelledSo 3 = .ok (.aload_n 0, 1) := by decide +kernel
theorem dX8_spelledSo_4 : decode cX8_spelledSo 4 = .ok (.getfield 7, 3) := by decide +kernel
theorem dX8_spelledSo_7 : decode cX8_spelledSo 7 = .ok (.iconst 1, 1) := by decide +kernel
theorem dX8_spelledSo_8 : decode cX8_spelledSo 8 = .ok (.iaload, 1) := by decide +kernel
theorem dX8_spelledSo_9 : decode cX8_spelledSo 9 = .ok (.if_icmp .ge 84, 3) := by decide +kernel
theorem dX8_spelledSo_12 : decode cX8_spelledSo 12 = .ok (.aload_n 0, 1) := by decide +kernel
theorem dX8_spelledSo_13 : decode cX8_spelledSo 13 = .ok (.getfield 40, 3) := by decide +kernel
theorem dX8_spelledSo_16 : decode cX8_spelledSo 16 = .ok (.iload_n 3, 1) := by decide +kernel
theorem dX8_spelledSo_17 : decode cX8_spelledSo 17 = .ok (.iaload, 1) := by decide +kernel
theorem dX8_spelledSo_18 : decode cX8_spelledSo 18 = .ok (.iload_n 2, 1) := by decide +kernel
theorem dX8_spelledSo_19 : decode cX8_spelledSo 19 = .ok (.if_icmp .ne 7, 3) := by decide +kernel
theorem dX8_spelledSo_22 : decode cX8_spelledSo 22 = .ok (.iconst 1, 1) := by decide +kernel
theorem dX8_spelledSo_23 : decode cX8_spelledSo 23 = .ok (.goto 4, 3) := by decide +kernel
theorem dX8_spelledSo_26 : decode cX8_spelledSo 26 = .ok (.iconst 0, 1) := by decide +kernel
theorem dX8_spelledSo_27 : decode cX8_spelledSo 27 = .ok (.istore 4, 2) := by decide +kernel
theorem dX8_spelledSo_29 : decode cX8_spelledSo 29 = .ok (.iconst 0, 1) := by decide +kernel
theorem dX8_spelledSo_30 : decode cX8_spelledSo 30 = .ok (.istore 5, 2) := by decide +kernel
theorem dX8_spelledSo_32 : decode cX8_spelledSo 32 = .ok (.iload 5, 2) := by decide +kernel
theorem dX8_spelledSo_34 : decode cX8_spelledSo 34 = .ok (.iload_n 2, 1) := by decide +kernel
theorem dX8_spelledSo_35 : decode cX8_spelledSo 35 = .ok (.if_icmp .ge 45, 3) := by decide +kernel
theorem dX8_spelledSo_38 : decode cX8_spelledSo 38 = .ok (.iload 4, 2) := by decide +kernel
theorem dX8_spelledSo_40 : decode cX8_spelledSo 40 = .ok (.ifCond .eq 40, 3) := by decide +kernel
theorem dX8_spelledSo_43 : decode cX8_spelledSo 43 = .ok (.aload_n 0, 1) := by decide +kernel
theorem dX8_spelledSo_44 : decode cX8_spelledSo 44 = .ok (.getfield 37, 3) := by decide +kernel
theorem dX8_spelledSo_47 : decode cX8_spelledSo 47 = .ok (.bipush 26, 2) := by decide +kernel
theorem dX8_spelledSo_49 : decode cX8_spelledSo 49 = .ok (.iload_n 3, 1) := by decide +kernel
theorem dX8_spelledSo_50 : decode cX8_spelledSo 50 = .ok (.imul, 1) := by decide +kernel
theorem dX8_spelledSo_51 : decode cX8_spelledSo 51 = .ok (.iload 5, 2) := by decide +kernel
theorem dX8_spelledSo_53 : decode cX8_spelledSo 53 = .ok (.iadd, 1) := by decide +kernel
theorem dX8_spelledSo_54 : decode cX8_spelledSo 54 = .ok (.iaload, 1) := by decide +kernel
theorem dX8_spelledSo_55 : decode cX8_spelledSo 55 = .ok (.aload_n 0, 1) := by decide +kernel
theorem dX8_spelledSo_56 : decode cX8_spelledSo 56 = .ok (.getfield 43, 3) := by decide +kernel
theorem dX8_spelledSo_59 : decode cX8_spelledSo 59 = .ok (.iload_n 1, 1) := by decide +kernel
theorem dX8_spelledSo_60 : decode cX8_spelledSo 60 = .ok (.iload 5, 2) := by decide +kernel
theorem dX8_spelledSo_62 : decode cX8_spelledSo 62 = .ok (.iadd, 1) := by decide +kernel
theorem dX8_spelledSo_63 : decode cX8_spelledSo 63 = .ok (.iaload, 1) := by decide +kernel
theorem dX8_spelledSo_64 : decode cX8_spelledSo 64 = .ok (.if_icmp .ne 7, 3) := by decide +kernel
theorem dX8_spelledSo_67 : decode cX8_spelledSo 67 = .ok (.iconst 1, 1) := by decide +kernel
theorem dX8_spelledSo_68 : decode cX8_spelledSo 68 = .ok (.goto 4, 3) := by decide +kernel
theorem dX8_spelledSo_71 : decode cX8_spelledSo 71 = .ok (.iconst 0, 1) := by decide +kernel
theorem dX8_spelledSo_72 : decode cX8_spelledSo 72 = .ok (.istore 4, 2) := by decide +kernel
theorem dX8_spelledSo_74 : decode cX8_spelledSo 74 = .ok (.iinc 5 1, 3) := by decide +kernel
theorem dX8_spelledSo_77 : decode cX8_spelledSo 77 = .ok (.goto (-45), 3) := by decide +kernel
theorem dX8_spelledSo_80 : decode cX8_spelledSo 80 = .ok (.iload 4, 2) := by decide +kernel
theorem dX8_spelledSo_82 : decode cX8_spelledSo 82 = .ok (.ifCond .eq 5, 3) := by decide +kernel
theorem dX8_spelledSo_85 : decode cX8_spelledSo 85 = .ok (.iload_n 3, 1) := by decide +kernel
theorem dX8_spelledSo_86 : decode cX8_spelledSo 86 = .ok (.ireturn, 1) := by decide +kernel
theorem dX8_spelledSo_87 : decode cX8_spelledSo 87 = .ok (.iinc 3 1, 3) := by decide +kernel
theorem dX8_spelledSo_90 : decode cX8_spelledSo 90 = .ok (.goto (-88), 3) := by decide +kernel
theorem dX8_spelledSo_93 : decode cX8_spelledSo 93 = .ok (.bipush (-5), 2) := by decide +kernel
theorem dX8_spelledSo_95 : decode cX8_spelledSo 95 = .ok (.ireturn, 1) := by decide +kernel
set_option maxRecDepth 20000 in
theorem ggX8_convertsBack_X8_spelledSo : GoodIn wsX8_convertsBack wsX8_spelledSo := goodIn_r _ [7, 1, 8, 9, 2, 19, 20, 21, 22, 23, 24, 25, 26, 27, 28, 29, 30, 31, 32, 33, 34, 35, 36, 37, 38, 39, 40, 41, 42, 43, 44, 45, 46] (by decide +kernel) (by decide +kernel)
set_option maxRecDepth 20000 in
theorem gX8_convertsBack_X8_spelledSo : GoodIn wsX8_convertsBack (wsV RX8 229 RX8 yX8_spelledSo wsX8_spelledSo) := goodIn_app (goodIn_of _ (by decide +kernel)) ggX8_convertsBack_X8_spelledSo
set_option maxRecDepth 20000 in
theorem ggX8_convertsBack_X8_wordAt : GoodIn wsX8_convertsBack wsX8_wordAt := goodIn_r _ [12] (by decide +kernel) (by decide +kernel)
set_option maxRecDepth 20000 in
theorem gX8_convertsBack_X8_wordAt : GoodIn wsX8_convertsBack (va_wsS RX8 100 yX8_wordAt wsX8_wordAt) := goodIn_app (goodIn_of _ (by decide +kernel)) ggX8_convertsBack_X8_wordAt
set_option maxRecDepth 20000 in
theorem ggX8_convertsBack_X8_tells : GoodIn wsX8_convertsBack wsX8_tells := goodIn_r _ [16, 17, 18, 19, 20, 21, 22, 23, 24, 25, 26, 27, 28, 29, 30, 31, 32, 33, 34, 35, 36, 37, 38, 39, 40, 41, 42, 43, 44, 45, 46] (by decide +kernel) (by decide +kernel)
set_option maxRecDepth 20000 in
theorem gX8_convertsBack_X8_tells : GoodIn wsX8_convertsBack (wsV RX8 226 RX8 yX8_tells wsX8_tells) := goodIn_app (goodIn_of _ (by decide +kernel)) ggX8_convertsBack_X8_tells
theorem dX8_convertsBack_0 : decode cX8_convertsBack 0 = .ok (.aload_n 0, 1) := by decide +kernel
theorem dX8_convertsBack_1 : decode cX8_convertsBack 1 = .ok (.iload_n 1, 1) := by decide +kernel
theorem dX8_convertsBack_2 : decode cX8_convertsBack 2 = .ok (.iload_n 2, 1) := by decide +kernel
theorem dX8_convertsBack_3 : decode cX8_convertsBack 3 = .ok (.invokevirtual 229, 3) := by decide +kernel
theorem dX8_convertsBack_6 : decode cX8_convertsBack 6 = .ok (.istore_n 3, 1) := by decide +kernel
theorem dX8_convertsBack_7 : decode cX8_convertsBack 7 = .ok (.iload_n 3, 1) := by decide +kernel
theorem dX8_convertsBack_8 : decode cX8_convertsBack 8 = .ok (.bipush (-5), 2) := by decide +kernel
theorem dX8_convertsBack_10 : decode cX8_convertsBack 10 = .ok (.if_icmp .ne 7, 3) := by decide +kernel
theorem dX8_convertsBack_13 : decode cX8_convertsBack 13 = .ok (.iload_n 2, 1) := by decide +kernel
theorem dX8_convertsBack_14 : decode cX8_convertsBack 14 = .ok (.goto 14, 3) := by decide +kernel
theorem dX8_convertsBack_17 : decode cX8_convertsBack 17 = .ok (.aload_n 0, 1) := by decide +kernel
theorem dX8_convertsBack_18 : decode cX8_convertsBack 18 = .ok (.getfield 7, 3) := by decide +kernel
theorem dX8_convertsBack_21 : decode cX8_convertsBack 21 = .ok (.iload_n 3, 1) := by decide +kernel
theorem dX8_convertsBack_22 : decode cX8_convertsBack 22 = .ok (.invokestatic 100, 3) := by decide +kernel
theorem dX8_convertsBack_25 : decode cX8_convertsBack 25 = .ok (.iconst 1, 1) := by decide +kernel
theorem dX8_convertsBack_26 : decode cX8_convertsBack 26 = .ok (.iadd, 1) := by decide +kernel
theorem dX8_convertsBack_27 : decode cX8_convertsBack 27 = .ok (.iaload, 1) := by decide +kernel
theorem dX8_convertsBack_28 : decode cX8_convertsBack 28 = .ok (.istore 4, 2) := by decide +kernel
theorem dX8_convertsBack_30 : decode cX8_convertsBack 30 = .ok (.iconst 0, 1) := by decide +kernel
theorem dX8_convertsBack_31 : decode cX8_convertsBack 31 = .ok (.istore 5, 2) := by decide +kernel
theorem dX8_convertsBack_33 : decode cX8_convertsBack 33 = .ok (.iload 5, 2) := by decide +kernel
theorem dX8_convertsBack_35 : decode cX8_convertsBack 35 = .ok (.iload 4, 2) := by decide +kernel
theorem dX8_convertsBack_37 : decode cX8_convertsBack 37 = .ok (.if_icmp .ge 56, 3) := by decide +kernel
theorem dX8_convertsBack_40 : decode cX8_convertsBack 40 = .ok (.iload_n 3, 1) := by decide +kernel
theorem dX8_convertsBack_41 : decode cX8_convertsBack 41 = .ok (.bipush (-5), 2) := by decide +kernel
theorem dX8_convertsBack_43 : decode cX8_convertsBack 43 = .ok (.if_icmp .ne 15, 3) := by decide +kernel
theorem dX8_convertsBack_46 : decode cX8_convertsBack 46 = .ok (.aload_n 0, 1) := by decide +kernel
theorem dX8_convertsBack_47 : decode cX8_convertsBack 47 = .ok (.getfield 43, 3) := by decide +kernel
theorem dX8_convertsBack_50 : decode cX8_convertsBack 50 = .ok (.iload_n 1, 1) := by decide +kernel
theorem dX8_convertsBack_51 : decode cX8_convertsBack 51 = .ok (.iload 5, 2) := by decide +kernel
theorem dX8_convertsBack_53 : decode cX8_convertsBack 53 = .ok (.iadd, 1) := by decide +kernel
theorem dX8_convertsBack_54 : decode cX8_convertsBack 54 = .ok (.iaload, 1) := by decide +kernel
theorem dX8_convertsBack_55 : decode cX8_convertsBack 55 = .ok (.goto 17, 3) := by decide +kernel
theorem dX8_convertsBack_58 : decode cX8_convertsBack 58 = .ok (.aload_n 0, 1) := by decide +kernel
theorem dX8_convertsBack_59 : decode cX8_convertsBack 59 = .ok (.getfield 7, 3) := by decide +kernel
theorem dX8_convertsBack_62 : decode cX8_convertsBack 62 = .ok (.iload_n 3, 1) := by decide +kernel
theorem dX8_convertsBack_63 : decode cX8_convertsBack 63 = .ok (.invokestatic 100, 3) := by decide +kernel
theorem dX8_convertsBack_66 : decode cX8_convertsBack 66 = .ok (.iconst 2, 1) := by decide +kernel
theorem dX8_convertsBack_67 : decode cX8_convertsBack 67 = .ok (.iadd, 1) := by decide +kernel
theorem dX8_convertsBack_68 : decode cX8_convertsBack 68 = .ok (.iload 5, 2) := by decide +kernel
theorem dX8_convertsBack_70 : decode cX8_convertsBack 70 = .ok (.iadd, 1) := by decide +kernel
theorem dX8_convertsBack_71 : decode cX8_convertsBack 71 = .ok (.iaload, 1) := by decide +kernel
theorem dX8_convertsBack_72 : decode cX8_convertsBack 72 = .ok (.istore 6, 2) := by decide +kernel
theorem dX8_convertsBack_74 : decode cX8_convertsBack 74 = .ok (.iload 6, 2) := by decide +kernel
theorem dX8_convertsBack_76 : decode cX8_convertsBack 76 = .ok (.bipush 39, 2) := by decide +kernel
theorem dX8_convertsBack_78 : decode cX8_convertsBack 78 = .ok (.if_icmp .eq 9, 3) := by decide +kernel
theorem dX8_convertsBack_81 : decode cX8_convertsBack 81 = .ok (.aload_n 0, 1) := by decide +kernel
theorem dX8_convertsBack_82 : decode cX8_convertsBack 82 = .ok (.iload 6, 2) := by decide +kernel
theorem dX8_convertsBack_84 : decode cX8_convertsBack 84 = .ok (.invokevirtual 226, 3) := by decide +kernel
theorem dX8_convertsBack_87 : decode cX8_convertsBack 87 = .ok (.iinc 5 1, 3) := by decide +kernel
theorem dX8_convertsBack_90 : decode cX8_convertsBack 90 = .ok (.goto (-57), 3) := by decide +kernel
theorem dX8_convertsBack_93 : decode cX8_convertsBack 93 = .ok (.return_, 1) := by decide +kernel
set_option maxRecDepth 20000 in
theorem ggX8_convert_X8_faultOfWords : GoodIn wsX8_convert wsX8_faultOfWords := goodIn_r _ [8, 9, 2, 10, 11, 12, 7, 13, 14, 15, 16, 17, 3, 18, 19, 20, 21, 22, 23, 24, 113, 114, 115, 116, 117, 118, 119, 120, 121, 122, 123, 124, 125, 126, 127, 128, 129, 130, 131, 132, 133, 134, 135, 136, 137, 138, 139, 140] (by decide +kernel) (by decide +kernel)
set_option maxRecDepth 20000 in
theorem gX8_convert_X8_faultOfWords : GoodIn wsX8_convert (wsV RX8 232 RX8 yX8_faultOfWords wsX8_faultOfWords) := goodIn_app (goodIn_of _ (by decide +kernel)) ggX8_convert_X8_faultOfWords
set_option maxRecDepth 20000 in
theorem ggX8_convert_X8_spells : GoodIn wsX8_convert wsX8_spells := goodIn_r _ [28, 29, 30, 31, 32, 33, 34, 35, 36, 7, 37, 38, 39, 40, 41, 42, 43, 44, 45, 46, 47, 48, 49, 50, 51, 52, 53, 54, 55, 56, 57, 58, 59, 60, 61, 62, 63, 64, 65, 66, 67, 68, 69, 70, 71, 72, 73, 74, 75, 76, 77, 78, 79, 80, 81, 82, 83, 84, 85, 86, 87, 18, 19, 20, 113, 114, 115, 116, 117, 118, 119, 120, 121, 122, 123, 124, 125, 126, 127, 128, 129, 130, 131, 132, 133, 134, 135, 136, 137, 138, 139, 140] (by decide +kernel) (by decide +kernel)
set_option maxRecDepth 20000 in
theorem gX8_convert_X8_spells : GoodIn wsX8_convert (wsV RX8 132 RX8 yX8_spells wsX8_spells) := goodIn_app (goodIn_of _ (by decide +kernel)) ggX8_convert_X8_spells
set_option maxRecDepth 20000 in
theorem ggX8_convert_X8_tells : GoodIn wsX8_convert wsX8_tells := goodIn_r _ [91, 92, 1, 113, 114, 115, 116, 117, 118, 119, 120, 121, 122, 123, 124, 125, 126, 127, 128, 129, 130, 131, 132, 133, 134, 135, 136, 137, 138, 139, 140] (by decide +kernel) (by decide +kernel)
set_option maxRecDepth 20000 in
theorem gX8_convert_X8_tells : GoodIn wsX8_convert (wsV RX8 226 RX8 yX8_tells wsX8_tells) := goodIn_app (goodIn_of _ (by decide +kernel)) ggX8_convert_X8_tells
set_option maxRecDepth 20000 in
theorem ggX8_convert_X8_convertsBack : GoodIn wsX8_convert wsX8_convertsBack := goodIn_r _ [96, 29, 3, 97, 98, 99, 7, 100, 30, 32, 40, 41, 42, 88, 89, 90, 91, 92, 1, 113, 114, 115, 116, 117, 118, 119, 120, 121, 122, 123, 124, 125, 126, 127, 128, 129, 130, 131, 132, 133, 134, 135, 136, 137, 138, 139, 140] (by decide +kernel) (by decide +kernel)
set_option maxRecDepth 20000 in
theorem gX8_convert_X8_convertsBack : GoodIn wsX8_convert (wsV RX8 236 RX8 yX8_convertsBack wsX8_convertsBack) := goodIn_app (goodIn_of _ (by decide +kernel)) ggX8_convert_X8_convertsBack
set_option maxRecDepth 20000 in
theorem ggX8_convert_X8_converts : GoodIn wsX8_convert wsX8_converts := goodIn_r _ [104, 38, 39, 3, 29, 31, 33, 105, 106, 107, 7, 108, 40, 41, 42, 109, 110, 111, 112, 43, 44, 45, 46, 47, 48, 49, 50, 51, 52, 53, 54, 55, 56, 57, 58, 59, 60, 61, 62, 63, 64, 65, 66, 67, 68, 69, 70, 71, 72, 73, 74, 75, 76, 77, 78, 79, 80, 81, 82, 83, 84, 85, 86, 87, 18, 19, 20, 88, 89, 90, 91, 92, 1, 113, 114, 115, 116, 117, 118, 119, 120, 121, 122, 123, 124, 125, 126, 127, 128, 129, 130, 131, 132, 133, 134, 135, 136, 137, 138, 139, 140] (by decide +kernel) (by decide +kernel)
set_option maxRecDepth 20000 in
theorem gX8_convert_X8_converts : GoodIn wsX8_convert (wsV RX8 240 RX8 yX8_converts wsX8_converts) := goodIn_app (goodIn_of _ (by decide +kernel)) ggX8_convert_X8_converts
theorem dX8_convert_0 : decode cX8_convert 0 = .ok (.aload_n 0, 1) := by decide +kernel
theorem dX8_convert_1 : decode cX8_convert 1 = .ok (.iload_n 1, 1) := by decide +kernel
theorem dX8_convert_2 : decode cX8_convert 2 = .ok (.invokevirtual 232, 3) := by decide +kernel
theorem dX8_convert_5 : decode cX8_convert 5 = .ok (.istore_n 2, 1) := by decide +kernel
theorem dX8_convert_6 : decode cX8_convert 6 = .ok (.iload_n 2, 1) := by decide +kernel
theorem dX8_convert_7 : decode cX8_convert 7 = .ok (.bipush (-5), 2) := by decide +kernel
theorem dX8_convert_9 : decode cX8_convert 9 = .ok (.if_icmp .eq 8, 3) := by decide +kernel
theorem dX8_convert_12 : decode cX8_convert 12 = .ok (.bipush (-100), 2) := by decide +kernel
theorem dX8_convert_14 : decode cX8_convert 14 = .ok (.iload_n 2, 1) := by decide +kernel
theorem dX8_convert_15 : decode cX8_convert 15 = .ok (.isub, 1) := by decide +kernel
theorem dX8_convert_16 : decode cX8_convert 16 = .ok (.ireturn, 1) := by decide +kernel
theorem dX8_convert_17 : decode cX8_convert 17 = .ok (.aload_n 0, 1) := by decide +kernel
theorem dX8_convert_18 : decode cX8_convert 18 = .ok (.invokevirtual 132, 3) := by decide +kernel
theorem dX8_convert_21 : decode cX8_convert 21 = .ok (.aload_n 0, 1) := by decide +kernel
theorem dX8_convert_22 : decode cX8_convert 22 = .ok (.iconst 0, 1) := by decide +kernel
theorem dX8_convert_23 : decode cX8_convert 23 = .ok (.putfield 219, 3) := by decide +kernel
theorem dX8_convert_26 : decode cX8_convert 26 = .ok (.iconst 0, 1) := by decide +kernel
theorem dX8_convert_27 : decode cX8_convert 27 = .ok (.istore_n 3, 1) := by decide +kernel
theorem dX8_convert_28 : decode cX8_convert 28 = .ok (.iload_n 3, 1) := by decide +kernel
theorem dX8_convert_29 : decode cX8_convert 29 = .ok (.aload_n 0, 1) := by decide +kernel
theorem dX8_convert_30 : decode cX8_convert 30 = .ok (.getfield 139, 3) := by decide +kernel
theorem dX8_convert_33 : decode cX8_convert 33 = .ok (.if_icmp .ge 76, 3) := by decide +kernel
theorem dX8_convert_36 : decode cX8_convert 36 = .ok (.iload_n 3, 1) := by decide +kernel
theorem dX8_convert_37 : decode cX8_convert 37 = .ok (.istore 4, 2) := by decide +kernel
theorem dX8_convert_39 : decode cX8_convert 39 = .ok (.iload 4, 2) := by decide +kernel
theorem dX8_convert_41 : decode cX8_convert 41 = .ok (.aload_n 0, 1) := by decide +kernel
theorem dX8_convert_42 : decode cX8_convert 42 = .ok (.getfield 139, 3) := by decide +kernel
theorem dX8_convert_45 : decode cX8_convert 45 = .ok (.if_icmp .ge 21, 3) := by decide +kernel
theorem dX8_convert_48 : decode cX8_convert 48 = .ok (.aload_n 0, 1) := by decide +kernel
theorem dX8_convert_49 : decode cX8_convert 49 = .ok (.getfield 43, 3) := by decide +kernel
theorem dX8_convert_52 : decode cX8_convert 52 = .ok (.iload 4, 2) := by decide +kernel
theorem dX8_convert_54 : decode cX8_convert 54 = .ok (.iaload, 1) := by decide +kernel
theorem dX8_convert_55 : decode cX8_convert 55 = .ok (.bipush 32, 2) := by decide +kernel
theorem dX8_convert_57 : decode cX8_convert 57 = .ok (.if_icmp .eq 9, 3) := by decide +kernel
theorem dX8_convert_60 : decode cX8_convert 60 = .ok (.iinc 4 1, 3) := by decide +kernel
theorem dX8_convert_63 : decode cX8_convert 63 = .ok (.goto (-24), 3) := by decide +kernel
theorem dX8_convert_66 : decode cX8_convert 66 = .ok (.iload_n 3, 1) := by decide +kernel
theorem dX8_convert_67 : decode cX8_convert 67 = .ok (.ifCond .le 9, 3) := by decide +kernel
theorem dX8_convert_70 : decode cX8_convert 70 = .ok (.aload_n 0, 1) := by decide +kernel
theorem dX8_convert_71 : decode cX8_convert 71 = .ok (.bipush 32, 2) := by decide +kernel
theorem dX8_convert_73 : decode cX8_convert 73 = .ok (.invokevirtual 226, 3) := by decide +kernel
theorem dX8_convert_76 : decode cX8_convert 76 = .ok (.iload_n 1, 1) := by decide +kernel
theorem dX8_convert_77 : decode cX8_convert 77 = .ok (.ifCond .eq 15, 3) := by decide +kernel
theorem dX8_convert_80 : decode cX8_convert 80 = .ok (.aload_n 0, 1) := by decide +kernel
theorem dX8_convert_81 : decode cX8_convert 81 = .ok (.iload_n 3, 1) := by decide +kernel
theorem dX8_convert_82 : decode cX8_convert 82 = .ok (.iload 4, 2) := by decide +kernel
theorem dX8_convert_84 : decode cX8_convert 84 = .ok (.iload_n 3, 1) := by decide +kernel
theorem dX8_convert_85 : decode cX8_convert 85 = .ok (.isub, 1) := by decide +kernel
theorem dX8_convert_86 : decode cX8_convert 86 = .ok (.invokevirtual 236, 3) := by decide +kernel
theorem dX8_convert_89 : decode cX8_convert 89 = .ok (.goto 12, 3) := by decide +kernel
theorem dX8_convert_92 : decode cX8_convert 92 = .ok (.aload_n 0, 1) := by decide +kernel
theorem dX8_convert_93 : decode cX8_convert 93 = .ok (.iload_n 3, 1) := by decide +kernel
theorem dX8_convert_94 : decode cX8_convert 94 = .ok (.iload 4, 2) := by decide +kernel
theorem dX8_convert_96 : decode cX8_convert 96 = .ok (.iload_n 3, 1) := by decide +kernel
theorem dX8_convert_97 : decode cX8_convert 97 = .ok (.isub, 1) := by decide +kernel
theorem dX8_convert_98 : decode cX8_convert 98 = .ok (.invokevirtual 240, 3) := by decide +kernel
theorem dX8_convert_101 : decode cX8_convert 101 = .ok (.iload 4, 2) := by decide +kernel
theorem dX8_convert_103 : decode cX8_convert 103 = .ok (.iconst 1, 1) := by decide +kernel
theorem dX8_convert_104 : decode cX8_convert 104 = .ok (.iadd, 1) := by decide +kernel
theorem dX8_convert_105 : decode cX8_convert 105 = .ok (.istore_n 3, 1) := by decide +kernel
theorem dX8_convert_106 : decode cX8_convert 106 = .ok (.goto (-78), 3) := by decide +kernel
theorem dX8_convert_109 : decode cX8_convert 109 = .ok (.aload_n 0, 1) := by decide +kernel
theorem dX8_convert_110 : decode cX8_convert 110 = .ok (.getfield 219, 3) := by decide +kernel
theorem dX8_convert_113 : decode cX8_convert 113 = .ok (.ireturn, 1) := by decide +kernel
theorem dX8_takeResult_0 : decode cX8_takeResult 0 = .ok (.aload_n 0, 1) := by decide +kernel
theorem dX8_takeResult_1 : decode cX8_takeResult 1 = .ok (.getfield 219, 3) := by decide +kernel
theorem dX8_takeResult_4 : decode cX8_takeResult 4 = .ok (.bipush 60, 2) := by decide +kernel
theorem dX8_takeResult_6 : decode cX8_takeResult 6 = .ok (.if_icmp .le 6, 3) := by decide +kernel
theorem dX8_takeResult_9 : decode cX8_takeResult 9 = .ok (.bipush (-3), 2) := by decide +kernel
theorem dX8_takeResult_11 : decode cX8_takeResult 11 = .ok (.ireturn, 1) := by decide +kernel
theorem dX8_takeResult_12 : decode cX8_takeResult 12 = .ok (.aload_n 0, 1) := by decide +kernel
theorem dX8_takeResult_13 : decode cX8_takeResult 13 = .ok (.aload_n 0, 1) := by decide +kernel
theorem dX8_takeResult_14 : decode cX8_takeResult 14 = .ok (.getfield 219, 3) := by decide +kernel
theorem dX8_takeResult_17 : decode cX8_takeResult 17 = .ok (.putfield 139, 3) := by decide +kernel
theorem dX8_takeResult_20 : decode cX8_takeResult 20 = .ok (.iconst 0, 1) := by decide +kernel
theorem dX8_takeResult_21 : decode cX8_takeResult 21 = .ok (.istore_n 1, 1) := by decide +kernel
theorem dX8_takeResult_22 : decode cX8_takeResult 22 = .ok (.iload_n 1, 1) := by decide +kernel
theorem dX8_takeResult_23 : decode cX8_takeResult 23 = .ok (.aload_n 0, 1) := by decide +kernel
theorem dX8_takeResult_24 : decode cX8_takeResult 24 = .ok (.getfield 139, 3) := by decide +kernel
theorem dX8_takeResult_27 : decode cX8_takeResult 27 = .ok (.if_icmp .ge 21, 3) := by decide +kernel
theorem dX8_takeResult_30 : decode cX8_takeResult 30 = .ok (.aload_n 0, 1) := by decide +kernel
theorem dX8_takeResult_31 : decode cX8_takeResult 31 = .ok (.getfield 43, 3) := by decide +kernel
theorem dX8_takeResult_34 : decode cX8_takeResult 34 = .ok (.iload_n 1, 1) := by decide +kernel
theorem dX8_takeResult_35 : decode cX8_takeResult 35 = .ok (.aload_n 0, 1) := by decide +kernel
theorem dX8_takeResult_36 : decode cX8_takeResult 36 = .ok (.getfield 55, 3) := by decide +kernel
theorem dX8_takeResult_39 : decode cX8_takeResult 39 = .ok (.iload_n 1, 1) := by decide +kernel
theorem dX8_takeResult_40 : decode cX8_takeResult 40 = .ok (.iaload, 1) := by decide +kernel
theorem dX8_takeResult_41 : decode cX8_takeResult 41 = .ok (.iastore, 1) := by decide +kernel
theorem dX8_takeResult_42 : decode cX8_takeResult 42 = .ok (.iinc 1 1, 3) := by decide +kernel
theorem dX8_takeResult_45 : decode cX8_takeResult 45 = .ok (.goto (-23), 3) := by decide +kernel
theorem dX8_takeResult_48 : decode cX8_takeResult 48 = .ok (.aload_n 0, 1) := by decide +kernel
theorem dX8_takeResult_49 : decode cX8_takeResult 49 = .ok (.getfield 139, 3) := by decide +kernel
theorem dX8_takeResult_52 : decode cX8_takeResult 52 = .ok (.ireturn, 1) := by decide +kernel
theorem dX8_undo_0 : decode cX8_undo 0 = .ok (.aload_n 0, 1) := by decide +kernel
theorem dX8_undo_1 : decode cX8_undo 1 = .ok (.getfield 62, 3) := by decide +kernel
theorem dX8_undo_4 : decode cX8_undo 4 = .ok (.ifCond .ne 6, 3) := by decide +kernel
theorem dX8_undo_7 : decode cX8_undo 7 = .ok (.bipush (-5), 2) := by decide +kernel
theorem dX8_undo_9 : decode cX8_undo 9 = .ok (.ireturn, 1) := by decide +kernel
theorem dX8_undo_10 : decode cX8_undo 10 = .ok (.aload_n 0, 1) := by decide +kernel
theorem dX8_undo_11 : decode cX8_undo 11 = .ok (.dup, 1) := by decide +kernel
theorem dX8_undo_12 : decode cX8_undo 12 = .ok (.getfield 62, 3) := by decide +kernel
theorem dX8_undo_15 : decode cX8_undo 15 = .ok (.iconst 1, 1) := by decide +kernel
theorem dX8_undo_16 : decode cX8_undo 16 = .ok (.isub, 1) := by decide +kernel
theorem dX8_undo_17 : decode cX8_undo 17 = .ok (.putfield 62, 3) := by decide +kernel
theorem dX8_undo_20 : decode cX8_undo 20 = .ok (.iconst 0, 1) := by decide +kernel
theorem dX8_undo_21 : decode cX8_undo 21 = .ok (.istore_n 1, 1) := by decide +kernel
theorem dX8_undo_22 : decode cX8_undo 22 = .ok (.iload_n 1, 1) := by decide +kernel
theorem dX8_undo_23 : decode cX8_undo 23 = .ok (.sipush 570, 3) := by decide +kernel
theorem dX8_undo_26 : decode cX8_undo 26 = .ok (.if_icmp .ge 30, 3) := by decide +kernel
theorem dX8_undo_29 : decode cX8_undo 29 = .ok (.aload_n 0, 1) := by decide +kernel
theorem dX8_undo_30 : decode cX8_undo 30 = .ok (.getfield 7, 3) := by decide +kernel
theorem dX8_undo_33 : decode cX8_undo 33 = .ok (.iload_n 1, 1) := by decide +kernel
theorem dX8_undo_34 : decode cX8_undo 34 = .ok (.aload_n 0, 1) := by decide +kernel
theorem dX8_undo_35 : decode cX8_undo 35 = .ok (.getfield 16, 3) := by decide +kernel
theorem dX8_undo_38 : decode cX8_undo 38 = .ok (.sipush 570, 3) := by decide +kernel
theorem dX8_undo_41 : decode cX8_undo 41 = .ok (.aload_n 0, 1) := by decide +kernel
theorem dX8_undo_42 : decode cX8_undo 42 = .ok (.getfield 62, 3) := by decide +kernel
theorem dX8_undo_45 : decode cX8_undo 45 = .ok (.imul, 1) := by decide +kernel
theorem dX8_undo_46 : decode cX8_undo 46 = .ok (.iload_n 1, 1) := by decide +kernel
theorem dX8_undo_47 : decode cX8_undo 47 = .ok (.iadd, 1) := by decide +kernel
theorem dX8_undo_48 : decode cX8_undo 48 = .ok (.iaload, 1) := by decide +kernel
theorem dX8_undo_49 : decode cX8_undo 49 = .ok (.iastore, 1) := by decide +kernel
theorem dX8_undo_50 : decode cX8_undo 50 = .ok (.iinc 1 1, 3) := by decide +kernel
theorem dX8_undo_53 : decode cX8_undo 53 = .ok (.goto (-31), 3) := by decide +kernel
theorem dX8_undo_56 : decode cX8_undo 56 = .ok (.aload_n 0, 1) := by decide +kernel
theorem dX8_undo_57 : decode cX8_undo 57 = .ok (.getfield 62, 3) := by decide +kernel
theorem dX8_undo_60 : decode cX8_undo 60 = .ok (.ireturn, 1) := by decide +kernel
set_option maxRecDepth 20000 in
theorem ggX8_keep_X8_copy : GoodIn wsX8_keep wsX8_copy := goodIn_r _ [7] (by decide +kernel) (by decide +kernel)
set_option maxRecDepth 20000 in
theorem gX8_keep_X8_copy : GoodIn wsX8_keep (va_wsS RX8 58 yX8_copy wsX8_copy) := goodIn_app (goodIn_of _ (by decide +kernel)) ggX8_keep_X8_copy
theorem dX8_keep_0 : decode cX8_keep 0 = .ok (.aload_n 0, 1) := by decide +kernel
theorem dX8_keep_1 : decode cX8_keep 1 = .ok (.getfield 7, 3) := by decide +kernel
theorem dX8_keep_4 : decode cX8_keep 4 = .ok (.aload_n 0, 1) := by decide +kernel
theorem dX8_keep_5 : decode cX8_keep 5 = .ok (.getfield 19, 3) := by decide +kernel
theorem dX8_keep_8 : decode cX8_keep 8 = .ok (.invokestatic 58, 3) := by decide +kernel
theorem dX8_keep_11 : decode cX8_keep 11 = .ok (.aload_n 0, 1) := by decide +kernel
theorem dX8_keep_12 : decode cX8_keep 12 = .ok (.iconst 1, 1) := by decide +kernel
theorem dX8_keep_13 : decode cX8_keep 13 = .ok (.putfield 243, 3) := by decide +kernel
theorem dX8_keep_16 : decode cX8_keep 16 = .ok (.aload_n 0, 1) := by decide +kernel
theorem dX8_keep_17 : decode cX8_keep 17 = .ok (.getfield 7, 3) := by decide +kernel
theorem dX8_keep_20 : decode cX8_keep 20 = .ok (.iconst 1, 1) := by decide +kernel
theorem dX8_keep_21 : decode cX8_keep 21 = .ok (.iaload, 1) := by decide +kernel
theorem dX8_keep_22 : decode cX8_keep 22 = .ok (.ireturn, 1) := by decide +kernel
set_option maxRecDepth 20000 in
theorem ggX8_restore_X8_remember : GoodIn wsX8_restore wsX8_remember := goodIn_r _ [8, 3, 9, 10, 11, 7, 12, 19, 20, 21, 22, 23, 24, 25, 26, 27, 28, 29, 30, 31, 32, 33, 34, 35, 36, 37, 38, 39, 40, 41, 42, 43, 44, 45, 46] (by decide +kernel) (by decide +kernel)
set_option maxRecDepth 20000 in
theorem gX8_restore_X8_remember : GoodIn wsX8_restore (wsV RX8 196 RX8 yX8_remember wsX8_remember) := goodIn_app (goodIn_of _ (by decide +kernel)) ggX8_restore_X8_remember
set_option maxRecDepth 20000 in
theorem ggX8_restore_X8_copy : GoodIn wsX8_restore wsX8_copy := goodIn_r _ [12] (by decide +kernel) (by decide +kernel)
set_option maxRecDepth 20000 in
theorem gX8_restore_X8_copy : GoodIn wsX8_restore (va_wsS RX8 58 yX8_copy wsX8_copy) := goodIn_app (goodIn_of _ (by decide +kernel)) ggX8_restore_X8_copy
set_option maxRecDepth 20000 in
theorem ggX8_restore_X8_acted : GoodIn wsX8_restore wsX8_acted := goodIn_r _ [16, 17, 18, 9, 19, 20, 21, 22, 23, 24, 25, 26, 27, 28, 29, 30, 31, 32, 33, 34, 35, 36, 37, 38, 39, 40, 41, 42, 43, 44, 45, 46] (by decide +kernel) (by decide +kernel)
set_option maxRecDepth 20000 in
theorem gX8_restore_X8_acted : GoodIn wsX8_restore (wsV RX8 202 RX8 yX8_acted wsX8_acted) := goodIn_app (goodIn_of _ (by decide +kernel)) ggX8_restore_X8_acted
theorem dX8_restore_0 : decode cX8_restore 0 = .ok (.aload_n 0, 1) := by decide +kernel
theorem dX8_restore_1 : decode cX8_restore 1 = .ok (.getfield 243, 3) := by decide +kernel
theorem dX8_restore_4 : decode cX8_restore 4 = .ok (.ifCond .ne 6, 3) := by decide +kernel
theorem dX8_restore_7 : decode cX8_restore 7 = .ok (.bipush (-5), 2) := by decide +kernel
theorem dX8_restore_9 : decode cX8_restore 9 = .ok (.ireturn, 1) := by decide +kernel
theorem dX8_restore_10 : decode cX8_restore 10 = .ok (.aload_n 0, 1) := by decide +kernel
theorem dX8_restore_11 : decode cX8_restore 11 = .ok (.invokevirtual 196, 3) := by decide +kernel
theorem dX8_restore_14 : decode cX8_restore 14 = .ok (.aload_n 0, 1) := by decide +kernel
theorem dX8_restore_15 : decode cX8_restore 15 = .ok (.getfield 19, 3) := by decide +kernel
theorem dX8_restore_18 : decode cX8_restore 18 = .ok (.aload_n 0, 1) := by decide +kernel
theorem dX8_restore_19 : decode cX8_restore 19 = .ok (.getfield 7, 3) := by decide +kernel
theorem dX8_restore_22 : decode cX8_restore 22 = .ok (.invokestatic 58, 3) := by decide +kernel
theorem dX8_restore_25 : decode cX8_restore 25 = .ok (.aload_n 0, 1) := by decide +kernel
theorem dX8_restore_26 : decode cX8_restore 26 = .ok (.aload_n 0, 1) := by decide +kernel
theorem dX8_restore_27 : decode cX8_restore 27 = .ok (.getfield 7, 3) := by decide +kernel
theorem dX8_restore_30 : decode cX8_restore 30 = .ok (.iconst 1, 1) := by decide +kernel
theorem dX8_restore_31 : decode cX8_restore 31 = .ok (.iaload, 1) := by decide +kernel
theorem dX8_restore_32 : decode cX8_restore 32 = .ok (.invokevirtual 202, 3) := by decide +kernel
theorem dX8_restore_35 : decode cX8_restore 35 = .ok (.ireturn, 1) := by decide +kernel
set_option maxRecDepth 20000 in
theorem ggX8_rule_X8_isRule : GoodIn wsX8_rule wsX8_isRule := goodIn_r _ [7, 1, 8, 9, 6, 10, 58, 59, 60, 61, 62, 63, 64, 65, 66, 67, 68, 69, 70, 71, 72, 73, 74, 75, 76, 77, 78, 79, 80, 81, 82, 83, 84, 85] (by decide +kernel) (by decide +kernel)
set_option maxRecDepth 20000 in
theorem gX8_rule_X8_isRule : GoodIn wsX8_rule (wsV RX8 205 RX8 yX8_isRule wsX8_isRule) := goodIn_app (goodIn_of _ (by decide +kernel)) ggX8_rule_X8_isRule
set_option maxRecDepth 20000 in
theorem ggX8_rule_X8_ruleAt : GoodIn wsX8_rule wsX8_ruleAt := goodIn_r _ [13] (by decide +kernel) (by decide +kernel)
set_option maxRecDepth 20000 in
theorem gX8_rule_X8_ruleAt : GoodIn wsX8_rule (va_wsS RX8 70 yX8_ruleAt wsX8_ruleAt) := goodIn_app (goodIn_of _ (by decide +kernel)) ggX8_rule_X8_ruleAt
set_option maxRecDepth 20000 in
theorem ggX8_rule_X8_uses : GoodIn wsX8_rule wsX8_uses := goodIn_r _ [17, 1, 18, 19, 20, 6, 21, 2, 22, 23, 24, 25, 26, 27, 28, 29, 30, 31, 32, 33, 34, 35, 36, 37, 38, 39, 40, 41, 42, 43, 44, 45, 46, 11, 12, 13, 47, 48, 49, 50, 51, 52, 53, 54, 55, 56, 57, 58, 59, 60, 61, 62, 63, 64, 65, 66, 67, 68, 69, 70, 71, 72, 73, 74, 75, 76, 77, 78, 79, 80, 81, 82, 83, 84, 85] (by decide +kernel) (by decide +kernel)
set_option maxRecDepth 20000 in
theorem gX8_rule_X8_uses : GoodIn wsX8_rule (wsV RX8 246 RX8 yX8_uses wsX8_uses) := goodIn_app (goodIn_of _ (by decide +kernel)) ggX8_rule_X8_uses
theorem dX8_rule_0 : decode cX8_rule 0 = .ok (.aload_n 0, 1) := by decide +kernel
theorem dX8_rule_1 : decode cX8_rule 1 = .ok (.iload_n 1, 1) := by decide +kernel
theorem dX8_rule_2 : decode cX8_rule 2 = .ok (.invokevirtual 205, 3) := by decide +kernel
theorem dX8_rule_5 : decode cX8_rule 5 = .ok (.ifCond .ne 5, 3) := by decide +kernel
theorem dX8_rule_8 : decode cX8_rule 8 = .ok (.iconst (-1), 1) := by decide +kernel
theorem dX8_rule_9 : decode cX8_rule 9 = .ok (.ireturn, 1) := by decide +kernel
theorem dX8_rule_10 : decode cX8_rule 10 = .ok (.iload_n 1, 1) := by decide +kernel
theorem dX8_rule_11 : decode cX8_rule 11 = .ok (.invokestatic 70, 3) := by decide +kernel
theorem dX8_rule_14 : decode cX8_rule 14 = .ok (.istore_n 3, 1) := by decide +kernel
theorem dX8_rule_15 : decode cX8_rule 15 = .ok (.iload_n 2, 1) := by decide +kernel
theorem dX8_rule_16 : decode cX8_rule 16 = .ok (.tableswitch 85 0 3 #[32, 39, 64, 74], 32) := by decide +kernel
theorem dX8_rule_48 : decode cX8_rule 48 = .ok (.aload_n 0, 1) := by decide +kernel
theorem dX8_rule_49 : decode cX8_rule 49 = .ok (.getfield 7, 3) := by decide +kernel
theorem dX8_rule_52 : decode cX8_rule 52 = .ok (.iload_n 3, 1) := by decide +kernel
theorem dX8_rule_53 : decode cX8_rule 53 = .ok (.iaload, 1) := by decide +kernel
theorem dX8_rule_54 : decode cX8_rule 54 = .ok (.ireturn, 1) := by decide +kernel
theorem dX8_rule_55 : decode cX8_rule 55 = .ok (.aload_n 0, 1) := by decide +kernel
theorem dX8_rule_56 : decode cX8_rule 56 = .ok (.getfield 7, 3) := by decide +kernel
theorem dX8_rule_59 : decode cX8_rule 59 = .ok (.iload_n 3, 1) := by decide +kernel
theorem dX8_rule_60 : decode cX8_rule 60 = .ok (.iconst 5, 1) := by decide +kernel
theorem dX8_rule_61 : decode cX8_rule 61 = .ok (.iadd, 1) := by decide +kernel
theorem dX8_rule_62 : decode cX8_rule 62 = .ok (.iaload, 1) := by decide +kernel
theorem dX8_rule_63 : decode cX8_rule 63 = .ok (.iconst (-1), 1) := by decide +kernel
theorem dX8_rule_64 : decode cX8_rule 64 = .ok (.if_icmp .ne 7, 3) := by decide +kernel
theorem dX8_rule_67 : decode cX8_rule 67 = .ok (.iconst 0, 1) := by decide +kernel
theorem dX8_rule_68 : decode cX8_rule 68 = .ok (.goto 11, 3) := by decide +kernel
theorem dX8_rule_71 : decode cX8_rule 71 = .ok (.aload_n 0, 1) := by decide +kernel
theorem dX8_rule_72 : decode cX8_rule 72 = .ok (.getfield 7, 3) := by decide +kernel
theorem dX8_rule_75 : decode cX8_rule 75 = .ok (.iload_n 3, 1) := by decide +kernel
theorem dX8_rule_76 : decode cX8_rule 76 = .ok (.iconst 5, 1) := by decide +kernel
theorem dX8_rule_77 : decode cX8_rule 77 = .ok (.iadd, 1) := by decide +kernel
theorem dX8_rule_78 : decode cX8_rule 78 = .ok (.iaload, 1) := by decide +kernel
theorem dX8_rule_79 : decode cX8_rule 79 = .ok (.ireturn, 1) := by decide +kernel
theorem dX8_rule_80 : decode cX8_rule 80 = .ok (.aload_n 0, 1) := by decide +kernel
theorem dX8_rule_81 : decode cX8_rule 81 = .ok (.getfield 7, 3) := by decide +kernel
theorem dX8_rule_84 : decode cX8_rule 84 = .ok (.iload_n 3, 1) := by decide +kernel
theorem dX8_rule_85 : decode cX8_rule 85 = .ok (.bipush 6, 2) := by decide +kernel
theorem dX8_rule_87 : decode cX8_rule 87 = .ok (.iadd, 1) := by decide +kernel
theorem dX8_rule_88 : decode cX8_rule 88 = .ok (.iaload, 1) := by decide +kernel
theorem dX8_rule_89 : decode cX8_rule 89 = .ok (.ireturn, 1) := by decide +kernel
theorem dX8_rule_90 : decode cX8_rule 90 = .ok (.aload_n 0, 1) := by decide +kernel
theorem dX8_rule_91 : decode cX8_rule 91 = .ok (.invokevirtual 246, 3) := by decide +kernel
theorem dX8_rule_94 : decode cX8_rule 94 = .ok (.aload_n 0, 1) := by decide +kernel
theorem dX8_rule_95 : decode cX8_rule 95 = .ok (.getfield 31, 3) := by decide +kernel
theorem dX8_rule_98 : decode cX8_rule 98 = .ok (.iload_n 1, 1) := by decide +kernel
theorem dX8_rule_99 : decode cX8_rule 99 = .ok (.iaload, 1) := by decide +kernel
theorem dX8_rule_100 : decode cX8_rule 100 = .ok (.ireturn, 1) := by decide +kernel
theorem dX8_rule_101 : decode cX8_rule 101 = .ok (.bipush (-2), 2) := by decide +kernel
theorem dX8_rule_103 : decode cX8_rule 103 = .ok (.ireturn, 1) := by decide +kernel
set_option maxRecDepth 20000 in
theorem ggX8_letterOf_X8_isRule : GoodIn wsX8_letterOf wsX8_isRule := goodIn_r _ [6, 1, 7, 8, 5, 9, 13, 14, 15, 16, 17, 18, 19, 20, 21, 22, 23, 24, 25, 26, 27, 28, 29, 30, 31, 32, 33, 34, 35, 36, 37, 38, 39, 40] (by decide +kernel) (by decide +kernel)
set_option maxRecDepth 20000 in
theorem gX8_letterOf_X8_isRule : GoodIn wsX8_letterOf (wsV RX8 205 RX8 yX8_isRule wsX8_isRule) := goodIn_app (goodIn_of _ (by decide +kernel)) ggX8_letterOf_X8_isRule
set_option maxRecDepth 20000 in
theorem ggX8_letterOf_X8_ruleAt : GoodIn wsX8_letterOf wsX8_ruleAt := goodIn_r _ [12] (by decide +kernel) (by decide +kernel)
set_option maxRecDepth 20000 in
theorem gX8_letterOf_X8_ruleAt : GoodIn wsX8_letterOf (va_wsS RX8 70 yX8_ruleAt wsX8_ruleAt) := goodIn_app (goodIn_of _ (by decide +kernel)) ggX8_letterOf_X8_ruleAt
theorem dX8_letterOf_0 : decode cX8_letterOf 0 = .ok (.aload_n 0, 1) := by decide +kernel
theorem dX8_letterOf_1 : decode cX8_letterOf 1 = .ok (.iload_n 1, 1) := by decide +kernel
theorem dX8_letterOf_2 : decode cX8_letterOf 2 = .ok (.invokevirtual 205, 3) := by decide +kernel
theorem dX8_letterOf_5 : decode cX8_letterOf 5 = .ok (.ifCond .ne 5, 3) := by decide +kernel
theorem dX8_letterOf_8 : decode cX8_letterOf 8 = .ok (.iconst (-1), 1) := by decide +kernel
theorem dX8_letterOf_9 : decode cX8_letterOf 9 = .ok (.ireturn, 1) := by decide +kernel
theorem dX8_letterOf_10 : decode cX8_letterOf 10 = .ok (.iload_n 2, 1) := by decide +kernel
theorem dX8_letterOf_11 : decode cX8_letterOf 11 = .ok (.ifCond .ge 6, 3) := by decide +kernel
theorem dX8_letterOf_14 : decode cX8_letterOf 14 = .ok (.bipush (-2), 2) := by decide +kernel
theorem dX8_letterOf_16 : decode cX8_letterOf 16 = .ok (.ireturn, 1) := by decide +kernel
theorem dX8_letterOf_17 : decode cX8_letterOf 17 = .ok (.iload_n 2, 1) := by decide +kernel
theorem dX8_letterOf_18 : decode cX8_letterOf 18 = .ok (.aload_n 0, 1) := by decide +kernel
theorem dX8_letterOf_19 : decode cX8_letterOf 19 = .ok (.getfield 7, 3) := by decide +kernel
theorem dX8_letterOf_22 : decode cX8_letterOf 22 = .ok (.iload_n 1, 1) := by decide +kernel
theorem dX8_letterOf_23 : decode cX8_letterOf 23 = .ok (.invokestatic 70, 3) := by decide +kernel
theorem dX8_letterOf_26 : decode cX8_letterOf 26 = .ok (.iaload, 1) := by decide +kernel
theorem dX8_letterOf_27 : decode cX8_letterOf 27 = .ok (.if_icmp .ge 19, 3) := by decide +kernel
theorem dX8_letterOf_30 : decode cX8_letterOf 30 = .ok (.aload_n 0, 1) := by decide +kernel
theorem dX8_letterOf_31 : decode cX8_letterOf 31 = .ok (.getfield 7, 3) := by decide +kernel
theorem dX8_letterOf_34 : decode cX8_letterOf 34 = .ok (.iload_n 1, 1) := by decide +kernel
theorem dX8_letterOf_35 : decode cX8_letterOf 35 = .ok (.invokestatic 70, 3) := by decide +kernel
theorem dX8_letterOf_38 : decode cX8_letterOf 38 = .ok (.iconst 1, 1) := by decide +kernel
theorem dX8_letterOf_39 : decode cX8_letterOf 39 = .ok (.iadd, 1) := by decide +kernel
theorem dX8_letterOf_40 : decode cX8_letterOf 40 = .ok (.iload_n 2, 1) := by decide +kernel
theorem dX8_letterOf_41 : decode cX8_letterOf 41 = .ok (.iadd, 1) := by decide +kernel
theorem dX8_letterOf_42 : decode cX8_letterOf 42 = .ok (.iaload, 1) := by decide +kernel
theorem dX8_letterOf_43 : decode cX8_letterOf 43 = .ok (.goto 5, 3) := by decide +kernel
theorem dX8_letterOf_46 : decode cX8_letterOf 46 = .ok (.bipush (-5), 2) := by decide +kernel
theorem dX8_letterOf_48 : decode cX8_letterOf 48 = .ok (.ireturn, 1) := by decide +kernel
set_option maxRecDepth 20000 in
theorem ggX8_sign_X8_in : GoodIn wsX8_sign wsX8_in := goodIn_r _ [7] (by decide +kernel) (by decide +kernel)
set_option maxRecDepth 20000 in
theorem gX8_sign_X8_in : GoodIn wsX8_sign (va_wsS RX8 66 yX8_in wsX8_in) := goodIn_app (goodIn_of _ (by decide +kernel)) ggX8_sign_X8_in
theorem dX8_sign_0 : decode cX8_sign 0 = .ok (.iload_n 1, 1) := by decide +kernel
theorem dX8_sign_1 : decode cX8_sign 1 = .ok (.i2l, 1) := by decide +kernel
theorem dX8_sign_2 : decode cX8_sign 2 = .ok (.ldc2_w 122, 3) := by decide +kernel
theorem dX8_sign_5 : decode cX8_sign 5 = .ok (.ldc2_w 124, 3) := by decide +kernel
theorem dX8_sign_8 : decode cX8_sign 8 = .ok (.invokestatic 66, 3) := by decide +kernel
theorem dX8_sign_11 : decode cX8_sign 11 = .ok (.ifCond .ne 5, 3) := by decide +kernel
theorem dX8_sign_14 : decode cX8_sign 14 = .ok (.iconst (-1), 1) := by decide +kernel
theorem dX8_sign_15 : decode cX8_sign 15 = .ok (.ireturn, 1) := by decide +kernel
theorem dX8_sign_16 : decode cX8_sign 16 = .ok (.iload_n 2, 1) := by decide +kernel
theorem dX8_sign_17 : decode cX8_sign 17 = .ok (.i2l, 1) := by decide +kernel
theorem dX8_sign_18 : decode cX8_sign 18 = .ok (.lconst 0, 1) := by decide +kernel
theorem dX8_sign_19 : decode cX8_sign 19 = .ok (.lconst 1, 1) := by decide +kernel
theorem dX8_sign_20 : decode cX8_sign 20 = .ok (.invokestatic 66, 3) := by decide +kernel
theorem dX8_sign_23 : decode cX8_sign 23 = .ok (.ifCond .ne 6, 3) := by decide +kernel
theorem dX8_sign_26 : decode cX8_sign 26 = .ok (.bipush (-2), 2) := by decide +kernel
theorem dX8_sign_28 : decode cX8_sign 28 = .ok (.ireturn, 1) := by decide +kernel
theorem dX8_sign_29 : decode cX8_sign 29 = .ok (.sipush 212, 3) := by decide +kernel
theorem dX8_sign_32 : decode cX8_sign 32 = .ok (.iconst 3, 1) := by decide +kernel
theorem dX8_sign_33 : decode cX8_sign 33 = .ok (.iload_n 1, 1) := by decide +kernel
theorem dX8_sign_34 : decode cX8_sign 34 = .ok (.bipush 65, 2) := by decide +kernel
theorem dX8_sign_36 : decode cX8_sign 36 = .ok (.isub, 1) := by decide +kernel
theorem dX8_sign_37 : decode cX8_sign 37 = .ok (.imul, 1) := by decide +kernel
theorem dX8_sign_38 : decode cX8_sign 38 = .ok (.iadd, 1) := by decide +kernel
theorem dX8_sign_39 : decode cX8_sign 39 = .ok (.istore_n 3, 1) := by decide +kernel
theorem dX8_sign_40 : decode cX8_sign 40 = .ok (.iload_n 2, 1) := by decide +kernel
theorem dX8_sign_41 : decode cX8_sign 41 = .ok (.aload_n 0, 1) := by decide +kernel
theorem dX8_sign_42 : decode cX8_sign 42 = .ok (.getfield 7, 3) := by decide +kernel
theorem dX8_sign_45 : decode cX8_sign 45 = .ok (.iload_n 3, 1) := by decide +kernel
theorem dX8_sign_46 : decode cX8_sign 46 = .ok (.iaload, 1) := by decide +kernel
theorem dX8_sign_47 : decode cX8_sign 47 = .ok (.if_icmp .ge 16, 3) := by decide +kernel
theorem dX8_sign_50 : decode cX8_sign 50 = .ok (.aload_n 0, 1) := by decide +kernel
theorem dX8_sign_51 : decode cX8_sign 51 = .ok (.getfield 7, 3) := by decide +kernel
theorem dX8_sign_54 : decode cX8_sign 54 = .ok (.iload_n 3, 1) := by decide +kernel
theorem dX8_sign_55 : decode cX8_sign 55 = .ok (.iconst 1, 1) := by decide +kernel
theorem dX8_sign_56 : decode cX8_sign 56 = .ok (.iadd, 1) := by decide +kernel
theorem dX8_sign_57 : decode cX8_sign 57 = .ok (.iload_n 2, 1) := by decide +kernel
theorem dX8_sign_58 : decode cX8_sign 58 = .ok (.iadd, 1) := by decide +kernel
theorem dX8_sign_59 : decode cX8_sign 59 = .ok (.iaload, 1) := by decide +kernel
theorem dX8_sign_60 : decode cX8_sign 60 = .ok (.goto 5, 3) := by decide +kernel
theorem dX8_sign_63 : decode cX8_sign 63 = .ok (.bipush (-5), 2) := by decide +kernel
theorem dX8_sign_65 : decode cX8_sign 65 = .ok (.ireturn, 1) := by decide +kernel
set_option maxRecDepth 20000 in
theorem ggX8_word_X8_isWord : GoodIn wsX8_word wsX8_isWord := goodIn_r _ [10, 1, 11, 12, 9, 13, 80, 81, 82, 83, 84, 85, 86, 87, 88, 89, 90, 91, 92, 93, 94, 95, 96, 97, 98, 99, 100, 101, 102, 103, 104, 105, 106, 107] (by decide +kernel) (by decide +kernel)
set_option maxRecDepth 20000 in
theorem gX8_word_X8_isWord : GoodIn wsX8_word (wsV RX8 214 RX8 yX8_isWord wsX8_isWord) := goodIn_app (goodIn_of _ (by decide +kernel)) ggX8_word_X8_isWord
set_option maxRecDepth 20000 in
theorem ggX8_word_X8_spells : GoodIn wsX8_word wsX8_spells := goodIn_r _ [17, 1, 4, 18, 19, 20, 21, 22, 23, 9, 24, 2, 25, 26, 27, 28, 29, 30, 31, 32, 3, 33, 34, 35, 36, 37, 38, 39, 40, 41, 42, 43, 44, 45, 46, 47, 5, 48, 49, 50, 51, 52, 53, 54, 55, 56, 57, 58, 59, 60, 61, 62, 63, 64, 65, 66, 67, 68, 69, 70, 71, 11, 12, 13, 80, 81, 82, 83, 84, 85, 86, 87, 88, 89, 90, 91, 92, 93, 94, 95, 96, 97, 98, 99, 100, 101, 102, 103, 104, 105, 106, 107] (by decide +kernel) (by decide +kernel)
set_option maxRecDepth 20000 in
theorem gX8_word_X8_spells : GoodIn wsX8_word (wsV RX8 132 RX8 yX8_spells wsX8_spells) := goodIn_app (goodIn_of _ (by decide +kernel)) ggX8_word_X8_spells
set_option maxRecDepth 20000 in
theorem ggX8_word_X8_lays : GoodIn wsX8_word wsX8_lays := goodIn_r _ [24, 1, 2, 25, 26, 27, 9, 28, 80, 81, 82, 83, 84, 85, 86, 87, 88, 89, 90, 91, 92, 93, 94, 95, 96, 97, 98, 99, 100, 101, 102, 103, 104, 105, 106, 107] (by decide +kernel) (by decide +kernel)
set_option maxRecDepth 20000 in
theorem gX8_word_X8_lays : GoodIn wsX8_word (wsV RX8 106 RX8 yX8_lays wsX8_lays) := goodIn_app (goodIn_of _ (by decide +kernel)) ggX8_word_X8_lays
set_option maxRecDepth 20000 in
theorem ggX8_word_X8_findsSounds : GoodIn wsX8_word wsX8_findsSounds := goodIn_r _ [47, 3, 5, 2, 1, 25, 48, 49, 33, 50, 51, 52, 9, 53, 54, 55, 56, 57, 58, 59, 60, 61, 62, 63, 64, 65, 66, 67, 68, 69, 70, 71, 80, 81, 82, 83, 84, 85, 86, 87, 88, 89, 90, 91, 92, 93, 94, 95, 96, 97, 98, 99, 100, 101, 102, 103, 104, 105, 106, 107] (by decide +kernel) (by decide +kernel)
set_option maxRecDepth 20000 in
theorem gX8_word_X8_findsSounds : GoodIn wsX8_word (wsV RX8 110 RX8 yX8_findsSounds wsX8_findsSounds) := goodIn_app (goodIn_of _ (by decide +kernel)) ggX8_word_X8_findsSounds
set_option maxRecDepth 20000 in
theorem ggX8_word_X8_wordAt : GoodIn wsX8_word wsX8_wordAt := goodIn_r _ [28] (by decide +kernel) (by decide +kernel)
set_option maxRecDepth 20000 in
theorem gX8_word_X8_wordAt : GoodIn wsX8_word (va_wsS RX8 100 yX8_wordAt wsX8_wordAt) := goodIn_app (goodIn_of _ (by decide +kernel)) ggX8_word_X8_wordAt
set_option maxRecDepth 20000 in
theorem ggX8_word_X8_withSpelling : GoodIn wsX8_word wsX8_withSpelling := goodIn_r _ [75, 1, 76, 77, 78, 9, 79, 4, 19, 80, 81, 82, 83, 84, 85, 86, 87, 88, 89, 90, 91, 92, 93, 94, 95, 96, 97, 98, 99, 100, 101, 102, 103, 104, 105, 106, 107] (by decide +kernel) (by decide +kernel)
set_option maxRecDepth 20000 in
theorem gX8_word_X8_withSpelling : GoodIn wsX8_word (wsV RX8 135 RX8 yX8_withSpelling wsX8_withSpelling) := goodIn_app (goodIn_of _ (by decide +kernel)) ggX8_word_X8_withSpelling
theorem dX8_word_0 : decode cX8_word 0 = .ok (.aload_n 0, 1) := by decide +kernel
theorem dX8_word_1 : decode cX8_word 1 = .ok (.iload_n 1, 1) := by decide +kernel
theorem dX8_word_2 : decode cX8_word 2 = .ok (.invokevirtual 214, 3) := by decide +kernel
theorem dX8_word_5 : decode cX8_word 5 = .ok (.ifCond .ne 5, 3) := by decide +kernel
theorem dX8_word_8 : decode cX8_word 8 = .ok (.iconst (-1), 1) := by decide +kernel
theorem dX8_word_9 : decode cX8_word 9 = .ok (.ireturn, 1) := by decide +kernel
theorem dX8_word_10 : decode cX8_word 10 = .ok (.aload_n 0, 1) := by decide +kernel
theorem dX8_word_11 : decode cX8_word 11 = .ok (.invokevirtual 132, 3) := by decide +kernel
theorem dX8_word_14 : decode cX8_word 14 = .ok (.aload_n 0, 1) := by decide +kernel
theorem dX8_word_15 : decode cX8_word 15 = .ok (.iload_n 1, 1) := by decide +kernel
theorem dX8_word_16 : decode cX8_word 16 = .ok (.invokevirtual 106, 3) := by decide +kernel
theorem dX8_word_19 : decode cX8_word 19 = .ok (.aload_n 0, 1) := by decide +kernel
theorem dX8_word_20 : decode cX8_word 20 = .ok (.invokevirtual 110, 3) := by decide +kernel
theorem dX8_word_23 : decode cX8_word 23 = .ok (.iload_n 2, 1) := by decide +kernel
theorem dX8_word_24 : decode cX8_word 24 = .ok (.tableswitch 98 0 6 #[44, 54, 59, 64, 71, 78, 93], 44) := by decide +kernel
theorem dX8_word_68 : decode cX8_word 68 = .ok (.aload_n 0, 1) := by decide +kernel
theorem dX8_word_69 : decode cX8_word 69 = .ok (.getfield 7, 3) := by decide +kernel
theorem dX8_word_72 : decode cX8_word 72 = .ok (.iload_n 1, 1) := by decide +kernel
theorem dX8_word_73 : decode cX8_word 73 = .ok (.invokestatic 100, 3) := by decide +kernel
theorem dX8_word_76 : decode cX8_word 76 = .ok (.iaload, 1) := by decide +kernel
theorem dX8_word_77 : decode cX8_word 77 = .ok (.ireturn, 1) := by decide +kernel
theorem dX8_word_78 : decode cX8_word 78 = .ok (.aload_n 0, 1) := by decide +kernel
theorem dX8_word_79 : decode cX8_word 79 = .ok (.getfield 74, 3) := by decide +kernel
theorem dX8_word_82 : decode cX8_word 82 = .ok (.ireturn, 1) := by decide +kernel
theorem dX8_word_83 : decode cX8_word 83 = .ok (.aload_n 0, 1) := by decide +kernel
theorem dX8_word_84 : decode cX8_word 84 = .ok (.getfield 91, 3) := by decide +kernel
theorem dX8_word_87 : decode cX8_word 87 = .ok (.ireturn, 1) := by decide +kernel
theorem dX8_word_88 : decode cX8_word 88 = .ok (.aload_n 0, 1) := by decide +kernel
theorem dX8_word_89 : decode cX8_word 89 = .ok (.getfield 40, 3) := by decide +kernel
theorem dX8_word_92 : decode cX8_word 92 = .ok (.iload_n 1, 1) := by decide +kernel
theorem dX8_word_93 : decode cX8_word 93 = .ok (.iaload, 1) := by decide +kernel
theorem dX8_word_94 : decode cX8_word 94 = .ok (.ireturn, 1) := by decide +kernel
theorem dX8_word_95 : decode cX8_word 95 = .ok (.aload_n 0, 1) := by decide +kernel
theorem dX8_word_96 : decode cX8_word 96 = .ok (.iload_n 1, 1) := by decide +kernel
theorem dX8_word_97 : decode cX8_word 97 = .ok (.iconst 0, 1) := by decide +kernel
theorem dX8_word_98 : decode cX8_word 98 = .ok (.invokevirtual 135, 3) := by decide +kernel
theorem dX8_word_101 : decode cX8_word 101 = .ok (.ireturn, 1) := by decide +kernel
theorem dX8_word_102 : decode cX8_word 102 = .ok (.aload_n 0, 1) := by decide +kernel
theorem dX8_word_103 : decode cX8_word 103 = .ok (.iload_n 1, 1) := by decide +kernel
theorem dX8_word_104 : decode cX8_word 104 = .ok (.iconst 1, 1) := by decide +kernel
theorem dX8_word_105 : decode cX8_word 105 = .ok (.invokevirtual 135, 3) := by decide +kernel
theorem dX8_word_108 : decode cX8_word 108 = .ok (.ifCond .ne 7, 3) := by decide +kernel
theorem dX8_word_111 : decode cX8_word 111 = .ok (.iconst 1, 1) := by decide +kernel
theorem dX8_word_112 : decode cX8_word 112 = .ok (.goto 4, 3) := by decide +kernel
theorem dX8_word_115 : decode cX8_word 115 = .ok (.iconst 0, 1) := by decide +kernel
theorem dX8_word_116 : decode cX8_word 116 = .ok (.ireturn, 1) := by decide +kernel
theorem dX8_word_117 : decode cX8_word 117 = .ok (.aload_n 0, 1) := by decide +kernel
theorem dX8_word_118 : decode cX8_word 118 = .ok (.getfield 94, 3) := by decide +kernel
theorem dX8_word_121 : decode cX8_word 121 = .ok (.ireturn, 1) := by decide +kernel
theorem dX8_word_122 : decode cX8_word 122 = .ok (.bipush (-2), 2) := by decide +kernel
theorem dX8_word_124 : decode cX8_word 124 = .ok (.ireturn, 1) := by decide +kernel
set_option maxRecDepth 20000 in
theorem ggX8_at_X8_isWord : GoodIn wsX8_at wsX8_isWord := goodIn_r _ [13, 14, 15, 16, 12, 17, 73, 74, 75, 76, 77, 78, 79, 80, 81, 82, 83, 84, 85, 86, 87, 88, 89, 90, 91, 92, 93, 94, 95, 96, 97, 98, 99, 100] (by decide +kernel) (by decide +kernel)
set_option maxRecDepth 20000 in
theorem gX8_at_X8_isWord : GoodIn wsX8_at (wsV RX8 214 RX8 yX8_isWord wsX8_isWord) := goodIn_app (goodIn_of _ (by decide +kernel)) ggX8_at_X8_isWord
set_option maxRecDepth 20000 in
theorem ggX8_at_X8_in : GoodIn wsX8_at wsX8_in := goodIn_r _ [17] (by decide +kernel) (by decide +kernel)
set_option maxRecDepth 20000 in
theorem gX8_at_X8_in : GoodIn wsX8_at (va_wsS RX8 66 yX8_in wsX8_in) := goodIn_app (goodIn_of _ (by decide +kernel)) ggX8_at_X8_in
set_option maxRecDepth 20000 in
theorem ggX8_at_X8_spells : GoodIn wsX8_at wsX8_spells := goodIn_r _ [21, 14, 6, 22, 7, 23, 24, 25, 26, 12, 27, 2, 3, 28, 29, 30, 31, 32, 33, 34, 4, 5, 35, 36, 37, 38, 39, 40, 41, 42, 43, 44, 45, 46, 47, 48, 49, 8, 50, 51, 52, 53, 54, 55, 56, 57, 58, 59, 60, 61, 62, 63, 64, 65, 66, 67, 68, 69, 70, 71, 72, 15, 16, 17, 73, 74, 75, 76, 77, 78, 79, 80, 81, 82, 83, 84, 85, 86, 87, 88, 89, 90, 91, 92, 93, 94, 95, 96, 97, 98, 99, 100] (by decide +kernel) (by decide +kernel)
set_option maxRecDepth 20000 in
theorem gX8_at_X8_spells : GoodIn wsX8_at (wsV RX8 132 RX8 yX8_spells wsX8_spells) := goodIn_app (goodIn_of _ (by decide +kernel)) ggX8_at_X8_spells
set_option maxRecDepth 20000 in
theorem ggX8_at_X8_lays : GoodIn wsX8_at wsX8_lays := goodIn_r _ [27, 14, 2, 3, 28, 29, 12, 30, 73, 74, 75, 76, 77, 78, 79, 80, 81, 82, 83, 84, 85, 86, 87, 88, 89, 90, 91, 92, 93, 94, 95, 96, 97, 98, 99, 100] (by decide +kernel) (by decide +kernel)
set_option maxRecDepth 20000 in
theorem gX8_at_X8_lays : GoodIn wsX8_at (wsV RX8 106 RX8 yX8_lays wsX8_lays) := goodIn_app (goodIn_of _ (by decide +kernel)) ggX8_at_X8_lays
set_option maxRecDepth 20000 in
theorem ggX8_at_X8_findsSounds : GoodIn wsX8_at wsX8_findsSounds := goodIn_r _ [48, 4, 49, 2, 14, 3, 8, 50, 5, 51, 52, 53, 12, 54, 55, 56, 57, 58, 59, 60, 61, 62, 63, 64, 65, 66, 67, 68, 69, 70, 71, 72, 73, 74, 75, 76, 77, 78, 79, 80, 81, 82, 83, 84, 85, 86, 87, 88, 89, 90, 91, 92, 93, 94, 95, 96, 97, 98, 99, 100] (by decide +kernel) (by decide +kernel)
set_option maxRecDepth 20000 in
theorem gX8_at_X8_findsSounds : GoodIn wsX8_at (wsV RX8 110 RX8 yX8_findsSounds wsX8_findsSounds) := goodIn_app (goodIn_of _ (by decide +kernel)) ggX8_at_X8_findsSounds
theorem dX8_at_0 : decode cX8_at 0 = .ok (.aload_n 0, 1) := by decide +kernel
theorem dX8_at_1 : decode cX8_at 1 = .ok (.iload_n 1, 1) := by decide +kernel
theorem dX8_at_2 : decode cX8_at 2 = .ok (.invokevirtual 214, 3) := by decide +kernel
theorem dX8_at_5 : decode cX8_at 5 = .ok (.ifCond .ne 5, 3) := by decide +kernel
theorem dX8_at_8 : decode cX8_at 8 = .ok (.iconst (-1), 1) := by decide +kernel
theorem dX8_at_9 : decode cX8_at 9 = .ok (.ireturn, 1) := by decide +kernel
theorem dX8_at_10 : decode cX8_at 10 = .ok (.iload_n 2, 1) := by decide +kernel
theorem dX8_at_11 : decode cX8_at 11 = .ok (.i2l, 1) := by decide +kernel
theorem dX8_at_12 : decode cX8_at 12 = .ok (.lconst 0, 1) := by decide +kernel
theorem dX8_at_13 : decode cX8_at 13 = .ok (.ldc2_w 249, 3) := by decide +kernel
theorem dX8_at_16 : decode cX8_at 16 = .ok (.invokestatic 66, 3) := by decide +kernel
theorem dX8_at_19 : decode cX8_at 19 = .ok (.ifCond .eq 7, 3) := by decide +kernel
theorem dX8_at_22 : decode cX8_at 22 = .ok (.iload_n 3, 1) := by decide +kernel
theorem dX8_at_23 : decode cX8_at 23 = .ok (.ifCond .ge 6, 3) := by decide +kernel
theorem dX8_at_26 : decode cX8_at 26 = .ok (.bipush (-2), 2) := by decide +kernel
theorem dX8_at_28 : decode cX8_at 28 = .ok (.ireturn, 1) := by decide +kernel
theorem dX8_at_29 : decode cX8_at 29 = .ok (.aload_n 0, 1) := by decide +kernel
theorem dX8_at_30 : decode cX8_at 30 = .ok (.invokevirtual 132, 3) := by decide +kernel
theorem dX8_at_33 : decode cX8_at 33 = .ok (.aload_n 0, 1) := by decide +kernel
theorem dX8_at_34 : decode cX8_at 34 = .ok (.iload_n 1, 1) := by decide +kernel
theorem dX8_at_35 : decode cX8_at 35 = .ok (.invokevirtual 106, 3) := by decide +kernel
theorem dX8_at_38 : decode cX8_at 38 = .ok (.aload_n 0, 1) := by decide +kernel
theorem dX8_at_39 : decode cX8_at 39 = .ok (.invokevirtual 110, 3) := by decide +kernel
theorem dX8_at_42 : decode cX8_at 42 = .ok (.iload_n 2, 1) := by decide +kernel
theorem dX8_at_43 : decode cX8_at 43 = .ok (.tableswitch 92 0 2 #[25, 45, 65], 25) := by decide +kernel
theorem dX8_at_68 : decode cX8_at 68 = .ok (.iload_n 3, 1) := by decide +kernel
theorem dX8_at_69 : decode cX8_at 69 = .ok (.aload_n 0, 1) := by decide +kernel
theorem dX8_at_70 : decode cX8_at 70 = .ok (.getfield 74, 3) := by decide +kernel
theorem dX8_at_73 : decode cX8_at 73 = .ok (.if_icmp .ge 12, 3) := by decide +kernel
theorem dX8_at_76 : decode cX8_at 76 = .ok (.aload_n 0, 1) := by decide +kernel
theorem dX8_at_77 : decode cX8_at 77 = .ok (.getfield 22, 3) := by decide +kernel
theorem dX8_at_80 : decode cX8_at 80 = .ok (.iload_n 3, 1) := by decide +kernel
theorem dX8_at_81 : decode cX8_at 81 = .ok (.iaload, 1) := by decide +kernel
theorem dX8_at_82 : decode cX8_at 82 = .ok (.goto 5, 3) := by decide +kernel
theorem dX8_at_85 : decode cX8_at 85 = .ok (.bipush (-5), 2) := by decide +kernel
theorem dX8_at_87 : decode cX8_at 87 = .ok (.ireturn, 1) := by decide +kernel
theorem dX8_at_88 : decode cX8_at 88 = .ok (.iload_n 3, 1) := by decide +kernel
theorem dX8_at_89 : decode cX8_at 89 = .ok (.aload_n 0, 1) := by decide +kernel
theorem dX8_at_90 : decode cX8_at 90 = .ok (.getfield 91, 3) := by decide +kernel
theorem dX8_at_93 : decode cX8_at 93 = .ok (.if_icmp .ge 12, 3) := by decide +kernel
theorem dX8_at_96 : decode cX8_at 96 = .ok (.aload_n 0, 1) := by decide +kernel
theorem dX8_at_97 : decode cX8_at 97 = .ok (.getfield 28, 3) := by decide +kernel
theorem dX8_at_100 : decode cX8_at 100 = .ok (.iload_n 3, 1) := by decide +kernel
theorem dX8_at_101 : decode cX8_at 101 = .ok (.iaload, 1) := by decide +kernel
theorem dX8_at_102 : decode cX8_at 102 = .ok (.goto 5, 3) := by decide +kernel
theorem dX8_at_105 : decode cX8_at 105 = .ok (.bipush (-5), 2) := by decide +kernel
theorem dX8_at_107 : decode cX8_at 107 = .ok (.ireturn, 1) := by decide +kernel
theorem dX8_at_108 : decode cX8_at 108 = .ok (.iload_n 3, 1) := by decide +kernel
theorem dX8_at_109 : decode cX8_at 109 = .ok (.aload_n 0, 1) := by decide +kernel
theorem dX8_at_110 : decode cX8_at 110 = .ok (.getfield 40, 3) := by decide +kernel
theorem dX8_at_113 : decode cX8_at 113 = .ok (.iload_n 1, 1) := by decide +kernel
theorem dX8_at_114 : decode cX8_at 114 = .ok (.iaload, 1) := by decide +kernel
theorem dX8_at_115 : decode cX8_at 115 = .ok (.if_icmp .ge 17, 3) := by decide +kernel
theorem dX8_at_118 : decode cX8_at 118 = .ok (.aload_n 0, 1) := by decide +kernel
theorem dX8_at_119 : decode cX8_at 119 = .ok (.getfield 37, 3) := by decide +kernel
theorem dX8_at_122 : decode cX8_at 122 = .ok (.bipush 26, 2) := by decide +kernel
theorem dX8_at_124 : decode cX8_at 124 = .ok (.iload_n 1, 1) := by decide +kernel
theorem dX8_at_125 : decode cX8_at 125 = .ok (.imul, 1) := by decide +kernel
theorem dX8_at_126 : decode cX8_at 126 = .ok (.iload_n 3, 1) := by decide +kernel
theorem dX8_at_127 : decode cX8_at 127 = .ok (.iadd, 1) := by decide +kernel
theorem dX8_at_128 : decode cX8_at 128 = .ok (.iaload, 1) := by decide +kernel
theorem dX8_at_129 : decode cX8_at 129 = .ok (.goto 5, 3) := by decide +kernel
theorem dX8_at_132 : decode cX8_at 132 = .ok (.bipush (-5), 2) := by decide +kernel
theorem dX8_at_134 : decode cX8_at 134 = .ok (.ireturn, 1) := by decide +kernel
theorem dX8_at_135 : decode cX8_at 135 = .ok (.iload_n 3, 1) := by decide +kernel
theorem dX8_at_136 : decode cX8_at 136 = .ok (.aload_n 0, 1) := by decide +kernel
theorem dX8_at_137 : decode cX8_at 137 = .ok (.getfield 74, 3) := by decide +kernel
theorem dX8_at_140 : decode cX8_at 140 = .ok (.if_icmp .ge 12, 3) := by decide +kernel
theorem dX8_at_143 : decode cX8_at 143 = .ok (.aload_n 0, 1) := by decide +kernel
theorem dX8_at_144 : decode cX8_at 144 = .ok (.getfield 25, 3) := by decide +kernel
theorem dX8_at_147 : decode cX8_at 147 = .ok (.iload_n 3, 1) := by decide +kernel
theorem dX8_at_148 : decode cX8_at 148 = .ok (.iaload, 1) := by decide +kernel
theorem dX8_at_149 : decode cX8_at 149 = .ok (.goto 5, 3) := by decide +kernel
theorem dX8_at_152 : decode cX8_at 152 = .ok (.bipush (-5), 2) := by decide +kernel
theorem dX8_at_154 : decode cX8_at 154 = .ok (.ireturn, 1) := by decide +kernel
theorem dX8_result_0 : decode cX8_result 0 = .ok (.iload_n 1, 1) := by decide +kernel
theorem dX8_result_1 : decode cX8_result 1 = .ok (.ifCond .ge 6, 3) := by decide +kernel
theorem dX8_result_4 : decode cX8_result 4 = .ok (.bipush (-2), 2) := by decide +kernel
theorem dX8_result_6 : decode cX8_result 6 = .ok (.ireturn, 1) := by decide +kernel
theorem dX8_result_7 : decode cX8_result 7 = .ok (.iload_n 1, 1) := by decide +kernel
theorem dX8_result_8 : decode cX8_result 8 = .ok (.aload_n 0, 1) := by decide +kernel
theorem dX8_result_9 : decode cX8_result 9 = .ok (.getfield 219, 3) := by decide +kernel
theorem dX8_result_12 : decode cX8_result 12 = .ok (.if_icmp .ge 12, 3) := by decide +kernel
theorem dX8_result_15 : decode cX8_result 15 = .ok (.aload_n 0, 1) := by decide +kernel
theorem dX8_result_16 : decode cX8_result 16 = .ok (.getfield 55, 3) := by decide +kernel
theorem dX8_result_19 : decode cX8_result 19 = .ok (.iload_n 1, 1) := by decide +kernel
theorem dX8_result_20 : decode cX8_result 20 = .ok (.iaload, 1) := by decide +kernel
theorem dX8_result_21 : decode cX8_result 21 = .ok (.goto 5, 3) := by decide +kernel
theorem dX8_result_24 : decode cX8_result 24 = .ok (.bipush (-5), 2) := by decide +kernel
theorem dX8_result_26 : decode cX8_result 26 = .ok (.ireturn, 1) := by decide +kernel
set_option maxRecDepth 20000 in
theorem ggX8_collideWith_X8_in : GoodIn wsX8_collideWith wsX8_in := goodIn_r _ [10] (by decide +kernel) (by decide +kernel)
set_option maxRecDepth 20000 in
theorem gX8_collideWith_X8_in : GoodIn wsX8_collideWith (va_wsS RX8 66 yX8_in wsX8_in) := goodIn_app (goodIn_of _ (by decide +kernel)) ggX8_collideWith_X8_in
set_option maxRecDepth 20000 in
theorem ggX8_collideWith_X8_remember : GoodIn wsX8_collideWith wsX8_remember := goodIn_r _ [14, 5, 6, 15, 16, 9, 17, 90, 91, 92, 93, 94, 95, 96, 97, 98, 99, 100, 101, 102, 103, 104, 105, 106, 107, 108, 109, 110, 111, 112, 113, 114, 115, 116, 117] (by decide +kernel) (by decide +kernel)
set_option maxRecDepth 20000 in
theorem gX8_collideWith_X8_remember : GoodIn wsX8_collideWith (wsV RX8 196 RX8 yX8_remember wsX8_remember) := goodIn_app (goodIn_of _ (by decide +kernel)) ggX8_collideWith_X8_remember
set_option maxRecDepth 20000 in
theorem ggX8_collideWith_X8_colliding : GoodIn wsX8_collideWith wsX8_colliding := goodIn_r _ [21, 5, 22, 23, 24, 9, 25, 26, 27, 28, 29, 30, 31, 32, 33, 34, 35, 36, 37, 38, 39, 40, 41, 42, 43, 44, 1, 2, 45, 46, 47, 48, 49, 50, 51, 52, 53, 54, 55, 56, 57, 58, 59, 60, 61, 62, 63, 64, 65, 66, 67, 68, 69, 70, 71, 72, 73, 74, 75, 76, 77, 78, 79, 80, 81, 7, 8, 10, 82, 83, 84, 85, 86, 87, 88, 89, 90, 91, 92, 93, 94, 95, 96, 97, 98, 99, 100, 101, 102, 103, 104, 105, 106, 107, 108, 109, 110, 111, 112, 113, 114, 115, 116, 117] (by decide +kernel) (by decide +kernel)
set_option maxRecDepth 20000 in
theorem gX8_collideWith_X8_colliding : GoodIn wsX8_collideWith (wsV RX8 255 RX8 yX8_colliding wsX8_colliding) := goodIn_app (goodIn_of _ (by decide +kernel)) ggX8_collideWith_X8_colliding
set_option maxRecDepth 20000 in
theorem ggX8_collideWith_X8_copy : GoodIn wsX8_collideWith wsX8_copy := goodIn_r _ [17] (by decide +kernel) (by decide +kernel)
set_option maxRecDepth 20000 in
theorem gX8_collideWith_X8_copy : GoodIn wsX8_collideWith (va_wsS RX8 58 yX8_copy wsX8_copy) := goodIn_app (goodIn_of _ (by decide +kernel)) ggX8_collideWith_X8_copy
theorem dX8_collideWith_0 : decode cX8_collideWith 0 = .ok (.iload_n 1, 1) := by decide +kernel
theorem dX8_collideWith_1 : decode cX8_collideWith 1 = .ok (.i2l, 1) := by decide +kernel
theorem dX8_collideWith_2 : decode cX8_collideWith 2 = .ok (.ldc2_w 122, 3) := by decide +kernel
theorem dX8_collideWith_5 : decode cX8_collideWith 5 = .ok (.ldc2_w 124, 3) := by decide +kernel
theorem dX8_collideWith_8 : decode cX8_collideWith 8 = .ok (.invokestatic 66, 3) := by decide +kernel
theorem dX8_collideWith_11 : decode cX8_collideWith 11 = .ok (.ifCond .ne 5, 3) := by decide +kernel
theorem dX8_collideWith_14 : decode cX8_collideWith 14 = .ok (.iconst (-1), 1) := by decide +kernel
theorem dX8_collideWith_15 : decode cX8_collideWith 15 = .ok (.ireturn, 1) := by decide +kernel
theorem dX8_collideWith_16 : decode cX8_collideWith 16 = .ok (.iload_n 2, 1) := by decide +kernel
theorem dX8_collideWith_17 : decode cX8_collideWith 17 = .ok (.i2l, 1) := by decide +kernel
theorem dX8_collideWith_18 : decode cX8_collideWith 18 = .ok (.ldc2_w 251, 3) := by decide +kernel
theorem dX8_collideWith_21 : decode cX8_collideWith 21 = .ok (.ldc2_w 253, 3) := by decide +kernel
theorem dX8_collideWith_24 : decode cX8_collideWith 24 = .ok (.invokestatic 66, 3) := by decide +kernel
theorem dX8_collideWith_27 : decode cX8_collideWith 27 = .ok (.ifCond .ne 6, 3) := by decide +kernel
theorem dX8_collideWith_30 : decode cX8_collideWith 30 = .ok (.bipush (-2), 2) := by decide +kernel
theorem dX8_collideWith_32 : decode cX8_collideWith 32 = .ok (.ireturn, 1) := by decide +kernel
theorem dX8_collideWith_33 : decode cX8_collideWith 33 = .ok (.aload_n 0, 1) := by decide +kernel
theorem dX8_collideWith_34 : decode cX8_collideWith 34 = .ok (.invokevirtual 196, 3) := by decide +kernel
theorem dX8_collideWith_37 : decode cX8_collideWith 37 = .ok (.aload_n 0, 1) := by decide +kernel
theorem dX8_collideWith_38 : decode cX8_collideWith 38 = .ok (.getfield 7, 3) := by decide +kernel
theorem dX8_collideWith_41 : decode cX8_collideWith 41 = .ok (.sipush 212, 3) := by decide +kernel
theorem dX8_collideWith_44 : decode cX8_collideWith 44 = .ok (.iconst 3, 1) := by decide +kernel
theorem dX8_collideWith_45 : decode cX8_collideWith 45 = .ok (.iload_n 1, 1) := by decide +kernel
theorem dX8_collideWith_46 : decode cX8_collideWith 46 = .ok (.bipush 65, 2) := by decide +kernel
theorem dX8_collideWith_48 : decode cX8_collideWith 48 = .ok (.isub, 1) := by decide +kernel
theorem dX8_collideWith_49 : decode cX8_collideWith 49 = .ok (.imul, 1) := by decide +kernel
theorem dX8_collideWith_50 : decode cX8_collideWith 50 = .ok (.iadd, 1) := by decide +kernel
theorem dX8_collideWith_51 : decode cX8_collideWith 51 = .ok (.iconst 1, 1) := by decide +kernel
theorem dX8_collideWith_52 : decode cX8_collideWith 52 = .ok (.iastore, 1) := by decide +kernel
theorem dX8_collideWith_53 : decode cX8_collideWith 53 = .ok (.aload_n 0, 1) := by decide +kernel
theorem dX8_collideWith_54 : decode cX8_collideWith 54 = .ok (.getfield 7, 3) := by decide +kernel
theorem dX8_collideWith_57 : decode cX8_collideWith 57 = .ok (.sipush 212, 3) := by decide +kernel
theorem dX8_collideWith_60 : decode cX8_collideWith 60 = .ok (.iconst 3, 1) := by decide +kernel
theorem dX8_collideWith_61 : decode cX8_collideWith 61 = .ok (.iload_n 1, 1) := by decide +kernel
theorem dX8_collideWith_62 : decode cX8_collideWith 62 = .ok (.bipush 65, 2) := by decide +kernel
theorem dX8_collideWith_64 : decode cX8_collideWith 64 = .ok (.isub, 1) := by decide +kernel
theorem dX8_collideWith_65 : decode cX8_collideWith 65 = .ok (.imul, 1) := by decide +kernel
theorem dX8_collideWith_66 : decode cX8_collideWith 66 = .ok (.iadd, 1) := by decide +kernel
theorem dX8_collideWith_67 : decode cX8_collideWith 67 = .ok (.iconst 1, 1) := by decide +kernel
theorem dX8_collideWith_68 : decode cX8_collideWith 68 = .ok (.iadd, 1) := by decide +kernel
theorem dX8_collideWith_69 : decode cX8_collideWith 69 = .ok (.iload_n 2, 1) := by decide +kernel
theorem dX8_collideWith_70 : decode cX8_collideWith 70 = .ok (.iastore, 1) := by decide +kernel
theorem dX8_collideWith_71 : decode cX8_collideWith 71 = .ok (.aload_n 0, 1) := by decide +kernel
theorem dX8_collideWith_72 : decode cX8_collideWith 72 = .ok (.invokevirtual 255, 3) := by decide +kernel
theorem dX8_collideWith_75 : decode cX8_collideWith 75 = .ok (.istore_n 3, 1) := by decide +kernel
theorem dX8_collideWith_76 : decode cX8_collideWith 76 = .ok (.aload_n 0, 1) := by decide +kernel
theorem dX8_collideWith_77 : decode cX8_collideWith 77 = .ok (.getfield 13, 3) := by decide +kernel
theorem dX8_collideWith_80 : decode cX8_collideWith 80 = .ok (.aload_n 0, 1) := by decide +kernel
theorem dX8_collideWith_81 : decode cX8_collideWith 81 = .ok (.getfield 7, 3) := by decide +kernel
theorem dX8_collideWith_84 : decode cX8_collideWith 84 = .ok (.invokestatic 58, 3) := by decide +kernel
theorem dX8_collideWith_87 : decode cX8_collideWith 87 = .ok (.iload_n 3, 1) := by decide +kernel
theorem dX8_collideWith_88 : decode cX8_collideWith 88 = .ok (.ireturn, 1) := by decide +kernel
set_option maxRecDepth 20000 in
theorem ggX8_comeBack_X8_spells : GoodIn wsX8_comeBack wsX8_spells := goodIn_r _ [6, 1, 7, 8, 9, 10, 11, 12, 13, 5, 14, 15, 16, 17, 18, 19, 20, 21, 22, 23, 24, 25, 26, 27, 28, 29, 30, 31, 32, 33, 34, 35, 36, 37, 38, 39, 40, 41, 42, 43, 44, 45, 46, 47, 48, 49, 50, 51, 52, 53, 54, 55, 56, 57, 58, 59, 60, 61, 62, 63, 64, 65, 66, 67, 76, 77, 78, 79, 80, 81, 82, 83, 84, 85, 86, 87, 88, 89, 90, 91, 92, 93, 94, 95, 96, 97, 98, 99, 100, 101, 102, 103] (by decide +kernel) (by decide +kernel)
set_option maxRecDepth 20000 in
theorem gX8_comeBack_X8_spells : GoodIn wsX8_comeBack (wsV RX8 132 RX8 yX8_spells wsX8_spells) := goodIn_app (goodIn_of _ (by decide +kernel)) ggX8_comeBack_X8_spells
set_option maxRecDepth 20000 in
theorem ggX8_comeBack_X8_withSpelling : GoodIn wsX8_comeBack wsX8_withSpelling := goodIn_r _ [71, 1, 72, 73, 74, 5, 75, 7, 9, 76, 77, 78, 79, 80, 81, 82, 83, 84, 85, 86, 87, 88, 89, 90, 91, 92, 93, 94, 95, 96, 97, 98, 99, 100, 101, 102, 103] (by decide +kernel) (by decide +kernel)
set_option maxRecDepth 20000 in
theorem gX8_comeBack_X8_withSpelling : GoodIn wsX8_comeBack (wsV RX8 135 RX8 yX8_withSpelling wsX8_withSpelling) := goodIn_app (goodIn_of _ (by decide +kernel)) ggX8_comeBack_X8_withSpelling
theorem dX8_comeBack_0 : decode cX8_comeBack 0 = .ok (.aload_n 0, 1) := by decide +kernel
theorem dX8_comeBack_1 : decode cX8_comeBack 1 = .ok (.invokevirtual 132, 3) := by decide +kernel
theorem dX8_comeBack_4 : decode cX8_comeBack 4 = .ok (.iconst 0, 1) := by decide +kernel
theorem dX8_comeBack_5 : decode cX8_comeBack 5 = .ok (.istore_n 1, 1) := by decide +kernel
theorem dX8_comeBack_6 : decode cX8_comeBack 6 = .ok (.iconst 0, 1) := by decide +kernel
theorem dX8_comeBack_7 : decode cX8_comeBack 7 = .ok (.istore_n 2, 1) := by decide +kernel
theorem dX8_comeBack_8 : decode cX8_comeBack 8 = .ok (.iload_n 2, 1) := by decide +kernel
theorem dX8_comeBack_9 : decode cX8_comeBack 9 = .ok (.aload_n 0, 1) := by decide +kernel
theorem dX8_comeBack_10 : decode cX8_comeBack 10 = .ok (.getfield 7, 3) := by decide +kernel
theorem dX8_comeBack_13 : decode cX8_comeBack 13 = .ok (.iconst 1, 1) := by decide +kernel
theorem dX8_comeBack_14 : decode cX8_comeBack 14 = .ok (.iaload, 1) := by decide +kernel
theorem dX8_comeBack_15 : decode cX8_comeBack 15 = .ok (.if_icmp .ge 26, 3) := by decide +kernel
theorem dX8_comeBack_18 : decode cX8_comeBack 18 = .ok (.iload_n 1, 1) := by decide +kernel
theorem dX8_comeBack_19 : decode cX8_comeBack 19 = .ok (.aload_n 0, 1) := by decide +kernel
theorem dX8_comeBack_20 : decode cX8_comeBack 20 = .ok (.iload_n 2, 1) := by decide +kernel
theorem dX8_comeBack_21 : decode cX8_comeBack 21 = .ok (.iconst 1, 1) := by decide +kernel
theorem dX8_comeBack_22 : decode cX8_comeBack 22 = .ok (.invokevirtual 135, 3) := by decide +kernel
theorem dX8_comeBack_25 : decode cX8_comeBack 25 = .ok (.ifCond .ne 7, 3) := by decide +kernel
theorem dX8_comeBack_28 : decode cX8_comeBack 28 = .ok (.iconst 1, 1) := by decide +kernel
theorem dX8_comeBack_29 : decode cX8_comeBack 29 = .ok (.goto 4, 3) := by decide +kernel
theorem dX8_comeBack_32 : decode cX8_comeBack 32 = .ok (.iconst 0, 1) := by decide +kernel
theorem dX8_comeBack_33 : decode cX8_comeBack 33 = .ok (.iadd, 1) := by decide +kernel
theorem dX8_comeBack_34 : decode cX8_comeBack 34 = .ok (.istore_n 1, 1) := by decide +kernel
theorem dX8_comeBack_35 : decode cX8_comeBack 35 = .ok (.iinc 2 1, 3) := by decide +kernel
theorem dX8_comeBack_38 : decode cX8_comeBack 38 = .ok (.goto (-30), 3) := by decide +kernel
theorem dX8_comeBack_41 : decode cX8_comeBack 41 = .ok (.iload_n 1, 1) := by decide +kernel
theorem dX8_comeBack_42 : decode cX8_comeBack 42 = .ok (.ireturn, 1) := by decide +kernel
set_option maxRecDepth 20000 in
theorem ggX8_neverUsed_X8_uses : GoodIn wsX8_neverUsed wsX8_uses := goodIn_r _ [7, 1, 8, 9, 10, 6, 11, 2, 12, 13, 14, 15, 16, 17, 18, 19, 20, 21, 22, 23, 24, 25, 26, 27, 28, 29, 30, 31, 32, 33, 34, 35, 36, 37, 38, 39, 40, 41, 42, 43, 44, 45, 46, 47, 48, 49, 50, 51, 52, 53, 54, 55, 56, 57, 58, 59, 60, 61, 62, 63, 64, 65, 66, 67, 68, 69, 70, 71, 72, 73, 74, 75, 76, 77, 78] (by decide +kernel) (by decide +kernel)
set_option maxRecDepth 20000 in
theorem gX8_neverUsed_X8_uses : GoodIn wsX8_neverUsed (wsV RX8 246 RX8 yX8_uses wsX8_uses) := goodIn_app (goodIn_of _ (by decide +kernel)) ggX8_neverUsed_X8_uses
theorem dX8_neverUsed_0 : decode cX8_neverUsed 0 = .ok (.aload_n 0, 1) := by decide +kernel
theorem dX8_neverUsed_1 : decode cX8_neverUsed 1 = .ok (.invokevirtual 246, 3) := by decide +kernel
theorem dX8_neverUsed_4 : decode cX8_neverUsed 4 = .ok (.iconst 0, 1) := by decide +kernel
theorem dX8_neverUsed_5 : decode cX8_neverUsed 5 = .ok (.istore_n 1, 1) := by decide +kernel
theorem dX8_neverUsed_6 : decode cX8_neverUsed 6 = .ok (.iconst 0, 1) := by decide +kernel
theorem dX8_neverUsed_7 : decode cX8_neverUsed 7 = .ok (.istore_n 2, 1) := by decide +kernel
theorem dX8_neverUsed_8 : decode cX8_neverUsed 8 = .ok (.iload_n 2, 1) := by decide +kernel
theorem dX8_neverUsed_9 : decode cX8_neverUsed 9 = .ok (.aload_n 0, 1) := by decide +kernel
theorem dX8_neverUsed_10 : decode cX8_neverUsed 10 = .ok (.getfield 7, 3) := by decide +kernel
theorem dX8_neverUsed_13 : decode cX8_neverUsed 13 = .ok (.iconst 0, 1) := by decide +kernel
theorem dX8_neverUsed_14 : decode cX8_neverUsed 14 = .ok (.iaload, 1) := by decide +kernel
theorem dX8_neverUsed_15 : decode cX8_neverUsed 15 = .ok (.if_icmp .ge 26, 3) := by decide +kernel
theorem dX8_neverUsed_18 : decode cX8_neverUsed 18 = .ok (.iload_n 1, 1) := by decide +kernel
theorem dX8_neverUsed_19 : decode cX8_neverUsed 19 = .ok (.aload_n 0, 1) := by decide +kernel
theorem dX8_neverUsed_20 : decode cX8_neverUsed 20 = .ok (.getfield 31, 3) := by decide +kernel
theorem dX8_neverUsed_23 : decode cX8_neverUsed 23 = .ok (.iload_n 2, 1) := by decide +kernel
theorem dX8_neverUsed_24 : decode cX8_neverUsed 24 = .ok (.iaload, 1) := by decide +kernel
theorem dX8_neverUsed_25 : decode cX8_neverUsed 25 = .ok (.ifCond .ne 7, 3) := by decide +kernel
theorem dX8_neverUsed_28 : decode cX8_neverUsed 28 = .ok (.iconst 1, 1) := by decide +kernel
theorem dX8_neverUsed_29 : decode cX8_neverUsed 29 = .ok (.goto 4, 3) := by decide +kernel
theorem dX8_neverUsed_32 : decode cX8_neverUsed 32 = .ok (.iconst 0, 1) := by decide +kernel
theorem dX8_neverUsed_33 : decode cX8_neverUsed 33 = .ok (.iadd, 1) := by decide +kernel
theorem dX8_neverUsed_34 : decode cX8_neverUsed 34 = .ok (.istore_n 1, 1) := by decide +kernel
theorem dX8_neverUsed_35 : decode cX8_neverUsed 35 = .ok (.iinc 2 1, 3) := by decide +kernel
theorem dX8_neverUsed_38 : decode cX8_neverUsed 38 = .ok (.goto (-30), 3) := by decide +kernel
theorem dX8_neverUsed_41 : decode cX8_neverUsed 41 = .ok (.iload_n 1, 1) := by decide +kernel
theorem dX8_neverUsed_42 : decode cX8_neverUsed 42 = .ok (.ireturn, 1) := by decide +kernel
set_option maxRecDepth 20000 in
theorem ggX8_lettersOfAll_X8_wordAt : GoodIn wsX8_lettersOfAll wsX8_wordAt := goodIn_r _ [5] (by decide +kernel) (by decide +kernel)
set_option maxRecDepth 20000 in
theorem gX8_lettersOfAll_X8_wordAt : GoodIn wsX8_lettersOfAll (va_wsS RX8 100 yX8_wordAt wsX8_wordAt) := goodIn_app (goodIn_of _ (by decide +kernel)) ggX8_lettersOfAll_X8_wordAt
theorem dX8_lettersOfAll_0 : decode cX8_lettersOfAll 0 = .ok (.iconst 0, 1) := by decide +kernel
theorem dX8_lettersOfAll_1 : decode cX8_lettersOfAll 1 = .ok (.istore_n 1, 1) := by decide +kernel
theorem dX8_lettersOfAll_2 : decode cX8_lettersOfAll 2 = .ok (.iconst 0, 1) := by decide +kernel
theorem dX8_lettersOfAll_3 : decode cX8_lettersOfAll 3 = .ok (.istore_n 2, 1) := by decide +kernel
theorem dX8_lettersOfAll_4 : decode cX8_lettersOfAll 4 = .ok (.iload_n 2, 1) := by decide +kernel
theorem dX8_lettersOfAll_5 : decode cX8_lettersOfAll 5 = .ok (.aload_n 0, 1) := by decide +kernel
theorem dX8_lettersOfAll_6 : decode cX8_lettersOfAll 6 = .ok (.getfield 7, 3) := by decide +kernel
theorem dX8_lettersOfAll_9 : decode cX8_lettersOfAll 9 = .ok (.iconst 1, 1) := by decide +kernel
theorem dX8_lettersOfAll_10 : decode cX8_lettersOfAll 10 = .ok (.iaload, 1) := by decide +kernel
theorem dX8_lettersOfAll_11 : decode cX8_lettersOfAll 11 = .ok (.if_icmp .ge 23, 3) := by decide +kernel
theorem dX8_lettersOfAll_14 : decode cX8_lettersOfAll 14 = .ok (.iload_n 1, 1) := by decide +kernel
theorem dX8_lettersOfAll_15 : decode cX8_lettersOfAll 15 = .ok (.aload_n 0, 1) := by decide +kernel
theorem dX8_lettersOfAll_16 : decode cX8_lettersOfAll 16 = .ok (.getfield 7, 3) := by decide +kernel
theorem dX8_lettersOfAll_19 : decode cX8_lettersOfAll 19 = .ok (.iload_n 2, 1) := by decide +kernel
theorem dX8_lettersOfAll_20 : decode cX8_lettersOfAll 20 = .ok (.invokestatic 100, 3) := by decide +kernel
theorem dX8_lettersOfAll_23 : decode cX8_lettersOfAll 23 = .ok (.iconst 1, 1) := by decide +kernel
theorem dX8_lettersOfAll_24 : decode cX8_lettersOfAll 24 = .ok (.iadd, 1) := by decide +kernel
theorem dX8_lettersOfAll_25 : decode cX8_lettersOfAll 25 = .ok (.iaload, 1) := by decide +kernel
theorem dX8_lettersOfAll_26 : decode cX8_lettersOfAll 26 = .ok (.iadd, 1) := by decide +kernel
theorem dX8_lettersOfAll_27 : decode cX8_lettersOfAll 27 = .ok (.istore_n 1, 1) := by decide +kernel
theorem dX8_lettersOfAll_28 : decode cX8_lettersOfAll 28 = .ok (.iinc 2 1, 3) := by decide +kernel
theorem dX8_lettersOfAll_31 : decode cX8_lettersOfAll 31 = .ok (.goto (-27), 3) := by decide +kernel
theorem dX8_lettersOfAll_34 : decode cX8_lettersOfAll 34 = .ok (.iload_n 1, 1) := by decide +kernel
theorem dX8_lettersOfAll_35 : decode cX8_lettersOfAll 35 = .ok (.ireturn, 1) := by decide +kernel
set_option maxRecDepth 20000 in
theorem ggX8_spellingsOfAll_X8_spells : GoodIn wsX8_spellingsOfAll wsX8_spells := goodIn_r _ [7, 1, 2, 8, 9, 10, 11, 12, 13, 6, 14, 15, 16, 17, 18, 19, 20, 21, 22, 23, 24, 25, 26, 27, 28, 29, 30, 31, 32, 33, 34, 35, 36, 37, 38, 39, 40, 41, 42, 43, 44, 45, 46, 47, 48, 49, 50, 51, 52, 53, 54, 55, 56, 57, 58, 59, 60, 61, 62, 63, 64, 65, 66, 67, 68, 69, 70, 71, 72, 73, 74, 75, 76, 77, 78, 79, 80, 81, 82, 83, 84, 85, 86, 87, 88, 89, 90, 91, 92, 93, 94, 95] (by decide +kernel) (by decide +kernel)
set_option maxRecDepth 20000 in
theorem gX8_spellingsOfAll_X8_spells : GoodIn wsX8_spellingsOfAll (wsV RX8 132 RX8 yX8_spells wsX8_spells) := goodIn_app (goodIn_of _ (by decide +kernel)) ggX8_spellingsOfAll_X8_spells
theorem dX8_spellingsOfAll_0 : decode cX8_spellingsOfAll 0 = .ok (.aload_n 0, 1) := by decide +kernel
theorem dX8_spellingsOfAll_1 : decode cX8_spellingsOfAll 1 = .ok (.invokevirtual 132, 3) := by decide +kernel
theorem dX8_spellingsOfAll_4 : decode cX8_spellingsOfAll 4 = .ok (.iconst 0, 1) := by decide +kernel
theorem dX8_spellingsOfAll_5 : decode cX8_spellingsOfAll 5 = .ok (.istore_n 1, 1) := by decide +kernel
theorem dX8_spellingsOfAll_6 : decode cX8_spellingsOfAll 6 = .ok (.iconst 0, 1) := by decide +kernel
theorem dX8_spellingsOfAll_7 : decode cX8_spellingsOfAll 7 = .ok (.istore_n 2, 1) := by decide +kernel
theorem dX8_spellingsOfAll_8 : decode cX8_spellingsOfAll 8 = .ok (.iload_n 2, 1) := by decide +kernel
theorem dX8_spellingsOfAll_9 : decode cX8_spellingsOfAll 9 = .ok (.aload_n 0, 1) := by decide +kernel
theorem dX8_spellingsOfAll_10 : decode cX8_spellingsOfAll 10 = .ok (.getfield 7, 3) := by decide +kernel
theorem dX8_spellingsOfAll_13 : decode cX8_spellingsOfAll 13 = .ok (.iconst 1, 1) := by decide +kernel
theorem dX8_spellingsOfAll_14 : decode cX8_spellingsOfAll 14 = .ok (.iaload, 1) := by decide +kernel
theorem dX8_spellingsOfAll_15 : decode cX8_spellingsOfAll 15 = .ok (.if_icmp .ge 18, 3) := by decide +kernel
theorem dX8_spellingsOfAll_18 : decode cX8_spellingsOfAll 18 = .ok (.iload_n 1, 1) := by decide +kernel
theorem dX8_spellingsOfAll_19 : decode cX8_spellingsOfAll 19 = .ok (.aload_n 0, 1) := by decide +kernel
theorem dX8_spellingsOfAll_20 : decode cX8_spellingsOfAll 20 = .ok (.getfield 40, 3) := by decide +kernel
theorem dX8_spellingsOfAll_23 : decode cX8_spellingsOfAll 23 = .ok (.iload_n 2, 1) := by decide +kernel
theorem dX8_spellingsOfAll_24 : decode cX8_spellingsOfAll 24 = .ok (.iaload, 1) := by decide +kernel
theorem dX8_spellingsOfAll_25 : decode cX8_spellingsOfAll 25 = .ok (.iadd, 1) := by decide +kernel
theorem dX8_spellingsOfAll_26 : decode cX8_spellingsOfAll 26 = .ok (.istore_n 1, 1) := by decide +kernel
theorem dX8_spellingsOfAll_27 : decode cX8_spellingsOfAll 27 = .ok (.iinc 2 1, 3) := by decide +kernel
theorem dX8_spellingsOfAll_30 : decode cX8_spellingsOfAll 30 = .ok (.goto (-22), 3) := by decide +kernel
theorem dX8_spellingsOfAll_33 : decode cX8_spellingsOfAll 33 = .ok (.iload_n 1, 1) := by decide +kernel
theorem dX8_spellingsOfAll_34 : decode cX8_spellingsOfAll 34 = .ok (.ireturn, 1) := by decide +kernel
theorem dX8_longSigns_0 : decode cX8_longSigns 0 = .ok (.iconst 0, 1) := by decide +kernel
theorem dX8_longSigns_1 : decode cX8_longSigns 1 = .ok (.istore_n 1, 1) := by decide +kernel
theorem dX8_longSigns_2 : decode cX8_longSigns 2 = .ok (.iconst 0, 1) := by decide +kernel
theorem dX8_longSigns_3 : decode cX8_longSigns 3 = .ok (.istore_n 2, 1) := by decide +kernel
theorem dX8_longSigns_4 : decode cX8_longSigns 4 = .ok (.iload_n 2, 1) := by decide +kernel
theorem dX8_longSigns_5 : decode cX8_longSigns 5 = .ok (.bipush 26, 2) := by decide +kernel
theorem dX8_longSigns_7 : decode cX8_longSigns 7 = .ok (.if_icmp .ge 26, 3) := by decide +kernel
theorem dX8_longSigns_10 : decode cX8_longSigns 10 = .ok (.iload_n 1, 1) := by decide +kernel
theorem dX8_longSigns_11 : decode cX8_longSigns 11 = .ok (.aload_n 0, 1) := by decide +kernel
theorem dX8_longSigns_12 : decode cX8_longSigns 12 = .ok (.getfield 7, 3) := by decide +kernel
theorem dX8_longSigns_15 : decode cX8_longSigns 15 = .ok (.sipush 212, 3) := by decide +kernel
theorem dX8_longSigns_18 : decode cX8_longSigns 18 = .ok (.iconst 3, 1) := by decide +kernel
theorem dX8_longSigns_19 : decode cX8_longSigns 19 = .ok (.iload_n 2, 1) := by decide +kernel
theorem dX8_longSigns_20 : decode cX8_longSigns 20 = .ok (.imul, 1) := by decide +kernel
theorem dX8_longSigns_21 : decode cX8_longSigns 21 = .ok (.iadd, 1) := by decide +kernel
theorem dX8_longSigns_22 : decode cX8_longSigns 22 = .ok (.iaload, 1) := by decide +kernel
theorem dX8_longSigns_23 : decode cX8_longSigns 23 = .ok (.iconst 1, 1) := by decide +kernel
theorem dX8_longSigns_24 : decode cX8_longSigns 24 = .ok (.isub, 1) := by decide +kernel
theorem dX8_longSigns_25 : decode cX8_longSigns 25 = .ok (.iadd, 1) := by decide +kernel
theorem dX8_longSigns_26 : decode cX8_longSigns 26 = .ok (.istore_n 1, 1) := by decide +kernel
theorem dX8_longSigns_27 : decode cX8_longSigns 27 = .ok (.iinc 2 1, 3) := by decide +kernel
theorem dX8_longSigns_30 : decode cX8_longSigns 30 = .ok (.goto (-26), 3) := by decide +kernel
theorem dX8_longSigns_33 : decode cX8_longSigns 33 = .ok (.iload_n 1, 1) := by decide +kernel
theorem dX8_longSigns_34 : decode cX8_longSigns 34 = .ok (.ireturn, 1) := by decide +kernel
set_option maxRecDepth 20000 in
theorem ggX8_count_X8_colliding : GoodIn wsX8_count wsX8_colliding := goodIn_r _ [9, 1, 10, 11, 12, 8, 13, 14, 15, 16, 17, 18, 19, 20, 21, 22, 23, 24, 25, 26, 27, 28, 29, 30, 31, 32, 33, 34, 35, 36, 37, 38, 39, 40, 41, 42, 43, 44, 45, 46, 47, 48, 49, 50, 51, 52, 53, 54, 55, 56, 57, 58, 59, 60, 61, 62, 63, 64, 65, 66, 67, 68, 69, 70, 71, 72, 73, 74, 75, 76, 77, 78, 79, 80, 81, 82, 111, 112, 113, 114, 115, 116, 117, 118, 119, 120, 121, 122, 123, 124, 125, 126, 127, 128, 129, 130, 131, 132, 133, 134, 135, 136, 137, 138] (by decide +kernel) (by decide +kernel)
set_option maxRecDepth 20000 in
theorem gX8_count_X8_colliding : GoodIn wsX8_count (wsV RX8 255 RX8 yX8_colliding wsX8_colliding) := goodIn_app (goodIn_of _ (by decide +kernel)) ggX8_count_X8_colliding
set_option maxRecDepth 20000 in
theorem ggX8_count_X8_comeBack : GoodIn wsX8_count wsX8_comeBack := goodIn_r _ [86, 1, 10, 11, 12, 8, 13, 14, 15, 16, 17, 18, 19, 20, 21, 22, 23, 24, 25, 26, 27, 28, 29, 30, 31, 32, 33, 34, 35, 36, 37, 38, 39, 40, 41, 42, 43, 44, 45, 46, 47, 48, 49, 50, 51, 52, 53, 54, 55, 56, 57, 58, 59, 60, 61, 62, 63, 64, 65, 66, 67, 68, 69, 70, 71, 72, 73, 74, 75, 76, 77, 78, 79, 80, 81, 82, 111, 112, 113, 114, 115, 116, 117, 118, 119, 120, 121, 122, 123, 124, 125, 126, 127, 128, 129, 130, 131, 132, 133, 134, 135, 136, 137, 138] (by decide +kernel) (by decide +kernel)
set_option maxRecDepth 20000 in
theorem gX8_count_X8_comeBack : GoodIn wsX8_count (wsV RX8 258 RX8 yX8_comeBack wsX8_comeBack) := goodIn_app (goodIn_of _ (by decide +kernel)) ggX8_count_X8_comeBack
set_option maxRecDepth 20000 in
theorem ggX8_count_X8_neverUsed : GoodIn wsX8_count wsX8_neverUsed := goodIn_r _ [90, 1, 49, 91, 92, 93, 8, 94, 95, 96, 97, 98, 18, 19, 20, 21, 22, 23, 24, 25, 26, 43, 44, 45, 46, 31, 47, 48, 32, 50, 51, 52, 53, 54, 55, 56, 57, 58, 59, 60, 61, 62, 63, 64, 65, 66, 67, 68, 69, 70, 71, 111, 112, 113, 114, 115, 116, 117, 118, 119, 120, 121, 122, 123, 124, 125, 126, 127, 128, 129, 130, 131, 132, 133, 134, 135, 136, 137, 138] (by decide +kernel) (by decide +kernel)
set_option maxRecDepth 20000 in
theorem gX8_count_X8_neverUsed : GoodIn wsX8_count (wsV RX8 261 RX8 yX8_neverUsed wsX8_neverUsed) := goodIn_app (goodIn_of _ (by decide +kernel)) ggX8_count_X8_neverUsed
set_option maxRecDepth 20000 in
theorem ggX8_count_X8_lettersOfAll : GoodIn wsX8_count wsX8_lettersOfAll := goodIn_r _ [102, 1, 24, 25, 8, 26, 111, 112, 113, 114, 115, 116, 117, 118, 119, 120, 121, 122, 123, 124, 125, 126, 127, 128, 129, 130, 131, 132, 133, 134, 135, 136, 137, 138] (by decide +kernel) (by decide +kernel)
set_option maxRecDepth 20000 in
theorem gX8_count_X8_lettersOfAll : GoodIn wsX8_count (wsV RX8 264 RX8 yX8_lettersOfAll wsX8_lettersOfAll) := goodIn_app (goodIn_of _ (by decide +kernel)) ggX8_count_X8_lettersOfAll
set_option maxRecDepth 20000 in
theorem ggX8_count_X8_spellingsOfAll : GoodIn wsX8_count wsX8_spellingsOfAll := goodIn_r _ [106, 1, 14, 10, 11, 12, 8, 13, 15, 16, 17, 18, 19, 20, 21, 22, 23, 24, 25, 26, 27, 28, 29, 30, 31, 32, 33, 34, 35, 36, 37, 38, 39, 40, 41, 42, 43, 44, 45, 46, 47, 48, 49, 50, 51, 52, 53, 54, 55, 56, 57, 58, 59, 60, 61, 62, 63, 64, 65, 66, 67, 68, 69, 70, 71, 72, 73, 74, 111, 112, 113, 114, 115, 116, 117, 118, 119, 120, 121, 122, 123, 124, 125, 126, 127, 128, 129, 130, 131, 132, 133, 134, 135, 136, 137, 138] (by decide +kernel) (by decide +kernel)
set_option maxRecDepth 20000 in
theorem gX8_count_X8_spellingsOfAll : GoodIn wsX8_count (wsV RX8 267 RX8 yX8_spellingsOfAll wsX8_spellingsOfAll) := goodIn_app (goodIn_of _ (by decide +kernel)) ggX8_count_X8_spellingsOfAll
set_option maxRecDepth 20000 in
theorem ggX8_count_X8_longSigns : GoodIn wsX8_count wsX8_longSigns := goodIn_r _ [110, 1, 111, 112, 113, 114, 115, 116, 117, 118, 119, 120, 121, 122, 123, 124, 125, 126, 127, 128, 129, 130, 131, 132, 133, 134, 135, 136, 137, 138] (by decide +kernel) (by decide +kernel)
set_option maxRecDepth 20000 in
theorem gX8_count_X8_longSigns : GoodIn wsX8_count (wsV RX8 270 RX8 yX8_longSigns wsX8_longSigns) := goodIn_app (goodIn_of _ (by decide +kernel)) ggX8_count_X8_longSigns
theorem dX8_count_0 : decode cX8_count 0 = .ok (.iload_n 1, 1) := by decide +kernel
theorem dX8_count_1 : decode cX8_count 1 = .ok (.tableswitch 118 0 10 #[59, 66, 73, 78, 83, 88, 93, 98, 103, 108, 113], 59) := by decide +kernel
theorem dX8_count_60 : decode cX8_count 60 = .ok (.aload_n 0, 1) := by decide +kernel
theorem dX8_count_61 : decode cX8_count 61 = .ok (.getfield 7, 3) := by decide +kernel
theorem dX8_count_64 : decode cX8_count 64 = .ok (.iconst 0, 1) := by decide +kernel
theorem dX8_count_65 : decode cX8_count 65 = .ok (.iaload, 1) := by decide +kernel
theorem dX8_count_66 : decode cX8_count 66 = .ok (.ireturn, 1) := by decide +kernel
theorem dX8_count_67 : decode cX8_count 67 = .ok (.aload_n 0, 1) := by decide +kernel
theorem dX8_count_68 : decode cX8_count 68 = .ok (.getfield 7, 3) := by decide +kernel
theorem dX8_count_71 : decode cX8_count 71 = .ok (.iconst 1, 1) := by decide +kernel
theorem dX8_count_72 : decode cX8_count 72 = .ok (.iaload, 1) := by decide +kernel
theorem dX8_count_73 : decode cX8_count 73 = .ok (.ireturn, 1) := by decide +kernel
theorem dX8_count_74 : decode cX8_count 74 = .ok (.aload_n 0, 1) := by decide +kernel
theorem dX8_count_75 : decode cX8_count 75 = .ok (.invokevirtual 255, 3) := by decide +kernel
theorem dX8_count_78 : decode cX8_count 78 = .ok (.ireturn, 1) := by decide +kernel
theorem dX8_count_79 : decode cX8_count 79 = .ok (.aload_n 0, 1) := by decide +kernel
theorem dX8_count_80 : decode cX8_count 80 = .ok (.invokevirtual 258, 3) := by decide +kernel
theorem dX8_count_83 : decode cX8_count 83 = .ok (.ireturn, 1) := by decide +kernel
theorem dX8_count_84 : decode cX8_count 84 = .ok (.aload_n 0, 1) := by decide +kernel
theorem dX8_count_85 : decode cX8_count 85 = .ok (.invokevirtual 261, 3) := by decide +kernel
theorem dX8_count_88 : decode cX8_count 88 = .ok (.ireturn, 1) := by decide +kernel
theorem dX8_count_89 : decode cX8_count 89 = .ok (.aload_n 0, 1) := by decide +kernel
theorem dX8_count_90 : decode cX8_count 90 = .ok (.invokevirtual 264, 3) := by decide +kernel
theorem dX8_count_93 : decode cX8_count 93 = .ok (.ireturn, 1) := by decide +kernel
theorem dX8_count_94 : decode cX8_count 94 = .ok (.aload_n 0, 1) := by decide +kernel
theorem dX8_count_95 : decode cX8_count 95 = .ok (.invokevirtual 267, 3) := by decide +kernel
theorem dX8_count_98 : decode cX8_count 98 = .ok (.ireturn, 1) := by decide +kernel
theorem dX8_count_99 : decode cX8_count 99 = .ok (.aload_n 0, 1) := by decide +kernel
theorem dX8_count_100 : decode cX8_count 100 = .ok (.getfield 219, 3) := by decide +kernel
theorem dX8_count_103 : decode cX8_count 103 = .ok (.ireturn, 1) := by decide +kernel
theorem dX8_count_104 : decode cX8_count 104 = .ok (.aload_n 0, 1) := by decide +kernel
theorem dX8_count_105 : decode cX8_count 105 = .ok (.getfield 62, 3) := by decide +kernel
theorem dX8_count_108 : decode cX8_count 108 = .ok (.ireturn, 1) := by decide +kernel
theorem dX8_count_109 : decode cX8_count 109 = .ok (.aload_n 0, 1) := by decide +kernel
theorem dX8_count_110 : decode cX8_count 110 = .ok (.getfield 139, 3) := by decide +kernel
theorem dX8_count_113 : decode cX8_count 113 = .ok (.ireturn, 1) := by decide +kernel
theorem dX8_count_114 : decode cX8_count 114 = .ok (.aload_n 0, 1) := by decide +kernel
theorem dX8_count_115 : decode cX8_count 115 = .ok (.invokevirtual 270, 3) := by decide +kernel
theorem dX8_count_118 : decode cX8_count 118 = .ok (.ireturn, 1) := by decide +kernel
theorem dX8_count_119 : decode cX8_count 119 = .ok (.bipush (-2), 2) := by decide +kernel
theorem dX8_count_121 : decode cX8_count 121 = .ok (.ireturn, 1) := by decide +kernel
