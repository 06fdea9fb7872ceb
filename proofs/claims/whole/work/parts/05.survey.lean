set_option maxRecDepth 20000 in
theorem ggX5_init_X3_init : GoodIn wsX5_init wsX3_init := goodIn_r _ [13, 14, 2, 3, 15, 16, 17, 18, 19, 20, 21, 22] (by decide +kernel) (by decide +kernel)
set_option maxRecDepth 20000 in
theorem gX5_init_X3_init : GoodIn wsX5_init (wsX3_init) := ggX5_init_X3_init
theorem dX5_init_0 : decode cX5_init 0 = .ok (.aload_n 0, 1) := by decide +kernel
theorem dX5_init_1 : decode cX5_init 1 = .ok (.invokespecial 3, 3) := by decide +kernel
theorem dX5_init_4 : decode cX5_init 4 = .ok (.aload_n 0, 1) := by decide +kernel
theorem dX5_init_5 : decode cX5_init 5 = .ok (.new 9, 3) := by decide +kernel
theorem dX5_init_8 : decode cX5_init 8 = .ok (.dup, 1) := by decide +kernel
theorem dX5_init_9 : decode cX5_init 9 = .ok (.bipush 12, 2) := by decide +kernel
theorem dX5_init_11 : decode cX5_init 11 = .ok (.invokespecial 11, 3) := by decide +kernel
theorem dX5_init_14 : decode cX5_init 14 = .ok (.putfield 14, 3) := by decide +kernel
theorem dX5_init_17 : decode cX5_init 17 = .ok (.aload_n 0, 1) := by decide +kernel
theorem dX5_init_18 : decode cX5_init 18 = .ok (.new 9, 3) := by decide +kernel
theorem dX5_init_21 : decode cX5_init 21 = .ok (.dup, 1) := by decide +kernel
theorem dX5_init_22 : decode cX5_init 22 = .ok (.bipush 12, 2) := by decide +kernel
theorem dX5_init_24 : decode cX5_init 24 = .ok (.invokespecial 11, 3) := by decide +kernel
theorem dX5_init_27 : decode cX5_init 27 = .ok (.putfield 20, 3) := by decide +kernel
theorem dX5_init_30 : decode cX5_init 30 = .ok (.aload_n 0, 1) := by decide +kernel
theorem dX5_init_31 : decode cX5_init 31 = .ok (.new 9, 3) := by decide +kernel
theorem dX5_init_34 : decode cX5_init 34 = .ok (.dup, 1) := by decide +kernel
theorem dX5_init_35 : decode cX5_init 35 = .ok (.bipush 12, 2) := by decide +kernel
theorem dX5_init_37 : decode cX5_init 37 = .ok (.invokespecial 11, 3) := by decide +kernel
theorem dX5_init_40 : decode cX5_init 40 = .ok (.putfield 23, 3) := by decide +kernel
theorem dX5_init_43 : decode cX5_init 43 = .ok (.aload_n 0, 1) := by decide +kernel
theorem dX5_init_44 : decode cX5_init 44 = .ok (.new 9, 3) := by decide +kernel
theorem dX5_init_47 : decode cX5_init 47 = .ok (.dup, 1) := by decide +kernel
theorem dX5_init_48 : decode cX5_init 48 = .ok (.bipush 25, 2) := by decide +kernel
theorem dX5_init_50 : decode cX5_init 50 = .ok (.invokespecial 11, 3) := by decide +kernel
theorem dX5_init_53 : decode cX5_init 53 = .ok (.putfield 26, 3) := by decide +kernel
theorem dX5_init_56 : decode cX5_init 56 = .ok (.return_, 1) := by decide +kernel
set_option maxRecDepth 20000 in
theorem ggX5_hear_X3_clear : GoodIn wsX5_hear wsX3_clear := goodIn_r _ [9, 10, 82, 83] (by decide +kernel) (by decide +kernel)
set_option maxRecDepth 20000 in
theorem gX5_hear_X3_clear : GoodIn wsX5_hear (wsV RX5 29 RX3 yX3_clear wsX3_clear) := goodIn_app (goodIn_of _ (by decide +kernel)) ggX5_hear_X3_clear
set_option maxRecDepth 20000 in
theorem ggX5_hear_X3_size : GoodIn wsX5_hear wsX3_size := goodIn_r _ [14, 10, 82, 83] (by decide +kernel) (by decide +kernel)
set_option maxRecDepth 20000 in
theorem gX5_hear_X3_size : GoodIn wsX5_hear (wsV RX5 32 RX3 yX3_size wsX3_size) := goodIn_app (goodIn_of _ (by decide +kernel)) ggX5_hear_X3_size
set_option maxRecDepth 20000 in
theorem ggX5_hear_X5_bestRule : GoodIn wsX5_hear wsX5_bestRule := goodIn_r _ [18, 4, 19, 20, 21, 22, 23, 24, 25, 26, 27, 28, 29, 30, 31, 32, 12, 13, 8, 14, 10, 33, 34, 35, 36, 37, 38, 39, 40, 41, 42, 43, 44, 17, 45, 46, 47, 48, 49, 50, 51, 52, 53, 54, 11, 55, 56, 57, 76, 77, 78, 79, 80, 81, 84, 85, 86, 82, 83] (by decide +kernel) (by decide +kernel)
set_option maxRecDepth 20000 in
theorem gX5_hear_X5_bestRule : GoodIn wsX5_hear (va_wsS RX5 36 yX5_bestRule wsX5_bestRule) := goodIn_app (goodIn_of _ (by decide +kernel)) ggX5_hear_X5_bestRule
set_option maxRecDepth 20000 in
theorem ggX5_hear_X3_get : GoodIn wsX5_hear wsX3_get := goodIn_r _ [40, 10, 41, 82, 83] (by decide +kernel) (by decide +kernel)
set_option maxRecDepth 20000 in
theorem gX5_hear_X3_get : GoodIn wsX5_hear (wsV RX5 40 RX3 yX3_get wsX3_get) := goodIn_app (goodIn_of _ (by decide +kernel)) ggX5_hear_X3_get
set_option maxRecDepth 20000 in
theorem ggX5_hear_X3_add : GoodIn wsX5_hear wsX3_add := goodIn_r _ [61, 10, 41, 82, 83] (by decide +kernel) (by decide +kernel)
set_option maxRecDepth 20000 in
theorem gX5_hear_X3_add : GoodIn wsX5_hear (wsV RX5 44 RX3 yX3_add wsX3_add) := goodIn_app (goodIn_of _ (by decide +kernel)) ggX5_hear_X3_add
set_option maxRecDepth 20000 in
theorem ggX5_hear_X5_useRule : GoodIn wsX5_hear wsX5_useRule := goodIn_r _ [65, 66, 1, 3, 2, 4, 42, 38, 39, 8, 40, 10, 41, 58, 59, 60, 61, 33, 34, 35, 29, 36, 31, 37, 67, 68, 69, 70, 71, 76, 77, 78, 79, 80, 81, 72, 73, 74, 75, 82, 83, 84, 85, 86] (by decide +kernel) (by decide +kernel)
set_option maxRecDepth 20000 in
theorem gX5_hear_X5_useRule : GoodIn wsX5_hear (wsV RX5 47 RX5 yX5_useRule wsX5_useRule) := goodIn_app (goodIn_of _ (by decide +kernel)) ggX5_hear_X5_useRule
set_option maxRecDepth 20000 in
theorem ggX5_hear_X4_length : GoodIn wsX5_hear wsX4_length := goodIn_r _ [36, 31, 37, 38, 39, 8, 40, 10, 41, 84, 85, 86, 82, 83] (by decide +kernel) (by decide +kernel)
set_option maxRecDepth 20000 in
theorem gX5_hear_X4_length : GoodIn wsX5_hear (wsV RX5 57 RX4 yX4_length wsX4_length) := goodIn_app (goodIn_of _ (by decide +kernel)) ggX5_hear_X4_length
theorem dX5_hear_0 : decode cX5_hear 0 = .ok (.aload_n 0, 1) := by decide +kernel
theorem dX5_hear_1 : decode cX5_hear 1 = .ok (.getfield 14, 3) := by decide +kernel
theorem dX5_hear_4 : decode cX5_hear 4 = .ok (.invokevirtual 29, 3) := by decide +kernel
theorem dX5_hear_7 : decode cX5_hear 7 = .ok (.aload_n 0, 1) := by decide +kernel
theorem dX5_hear_8 : decode cX5_hear 8 = .ok (.getfield 20, 3) := by decide +kernel
theorem dX5_hear_11 : decode cX5_hear 11 = .ok (.invokevirtual 29, 3) := by decide +kernel
theorem dX5_hear_14 : decode cX5_hear 14 = .ok (.aload_n 0, 1) := by decide +kernel
theorem dX5_hear_15 : decode cX5_hear 15 = .ok (.getfield 23, 3) := by decide +kernel
theorem dX5_hear_18 : decode cX5_hear 18 = .ok (.invokevirtual 29, 3) := by decide +kernel
theorem dX5_hear_21 : decode cX5_hear 21 = .ok (.iconst 0, 1) := by decide +kernel
theorem dX5_hear_22 : decode cX5_hear 22 = .ok (.istore_n 3, 1) := by decide +kernel
theorem dX5_hear_23 : decode cX5_hear 23 = .ok (.iconst 0, 1) := by decide +kernel
theorem dX5_hear_24 : decode cX5_hear 24 = .ok (.istore 4, 2) := by decide +kernel
theorem dX5_hear_26 : decode cX5_hear 26 = .ok (.iload 4, 2) := by decide +kernel
theorem dX5_hear_28 : decode cX5_hear 28 = .ok (.bipush 12, 2) := by decide +kernel
theorem dX5_hear_30 : decode cX5_hear 30 = .ok (.if_icmp .ge 78, 3) := by decide +kernel
theorem dX5_hear_33 : decode cX5_hear 33 = .ok (.iload_n 3, 1) := by decide +kernel
theorem dX5_hear_34 : decode cX5_hear 34 = .ok (.aload_n 2, 1) := by decide +kernel
theorem dX5_hear_35 : decode cX5_hear 35 = .ok (.invokevirtual 32, 3) := by decide +kernel
theorem dX5_hear_38 : decode cX5_hear 38 = .ok (.if_icmp .ge 70, 3) := by decide +kernel
theorem dX5_hear_41 : decode cX5_hear 41 = .ok (.aload_n 1, 1) := by decide +kernel
theorem dX5_hear_42 : decode cX5_hear 42 = .ok (.aload_n 2, 1) := by decide +kernel
theorem dX5_hear_43 : decode cX5_hear 43 = .ok (.iload_n 3, 1) := by decide +kernel
theorem dX5_hear_44 : decode cX5_hear 44 = .ok (.invokestatic 36, 3) := by decide +kernel
theorem dX5_hear_47 : decode cX5_hear 47 = .ok (.istore 5, 2) := by decide +kernel
theorem dX5_hear_49 : decode cX5_hear 49 = .ok (.iload 5, 2) := by decide +kernel
theorem dX5_hear_51 : decode cX5_hear 51 = .ok (.bipush (-5), 2) := by decide +kernel
theorem dX5_hear_53 : decode cX5_hear 53 = .ok (.if_icmp .ne 30, 3) := by decide +kernel
theorem dX5_hear_56 : decode cX5_hear 56 = .ok (.aload_n 0, 1) := by decide +kernel
theorem dX5_hear_57 : decode cX5_hear 57 = .ok (.getfield 14, 3) := by decide +kernel
theorem dX5_hear_60 : decode cX5_hear 60 = .ok (.aload_n 2, 1) := by decide +kernel
theorem dX5_hear_61 : decode cX5_hear 61 = .ok (.iload_n 3, 1) := by decide +kernel
theorem dX5_hear_62 : decode cX5_hear 62 = .ok (.invokevirtual 40, 3) := by decide +kernel
theorem dX5_hear_65 : decode cX5_hear 65 = .ok (.invokevirtual 44, 3) := by decide +kernel
theorem dX5_hear_68 : decode cX5_hear 68 = .ok (.aload_n 0, 1) := by decide +kernel
theorem dX5_hear_69 : decode cX5_hear 69 = .ok (.getfield 20, 3) := by decide +kernel
theorem dX5_hear_72 : decode cX5_hear 72 = .ok (.bipush (-5), 2) := by decide +kernel
theorem dX5_hear_74 : decode cX5_hear 74 = .ok (.invokevirtual 44, 3) := by decide +kernel
theorem dX5_hear_77 : decode cX5_hear 77 = .ok (.iinc 3 1, 3) := by decide +kernel
theorem dX5_hear_80 : decode cX5_hear 80 = .ok (.goto 22, 3) := by decide +kernel
theorem dX5_hear_83 : decode cX5_hear 83 = .ok (.aload_n 0, 1) := by decide +kernel
theorem dX5_hear_84 : decode cX5_hear 84 = .ok (.aload_n 1, 1) := by decide +kernel
theorem dX5_hear_85 : decode cX5_hear 85 = .ok (.iload 5, 2) := by decide +kernel
theorem dX5_hear_87 : decode cX5_hear 87 = .ok (.invokevirtual 47, 3) := by decide +kernel
theorem dX5_hear_90 : decode cX5_hear 90 = .ok (.iload_n 3, 1) := by decide +kernel
theorem dX5_hear_91 : decode cX5_hear 91 = .ok (.aload_n 1, 1) := by decide +kernel
theorem dX5_hear_92 : decode cX5_hear 92 = .ok (.getfield 51, 3) := by decide +kernel
theorem dX5_hear_95 : decode cX5_hear 95 = .ok (.iload 5, 2) := by decide +kernel
theorem dX5_hear_97 : decode cX5_hear 97 = .ok (.invokevirtual 57, 3) := by decide +kernel
theorem dX5_hear_100 : decode cX5_hear 100 = .ok (.iadd, 1) := by decide +kernel
theorem dX5_hear_101 : decode cX5_hear 101 = .ok (.istore_n 3, 1) := by decide +kernel
theorem dX5_hear_102 : decode cX5_hear 102 = .ok (.iinc 4 1, 3) := by decide +kernel
theorem dX5_hear_105 : decode cX5_hear 105 = .ok (.goto (-79), 3) := by decide +kernel
theorem dX5_hear_108 : decode cX5_hear 108 = .ok (.return_, 1) := by decide +kernel
set_option maxRecDepth 20000 in
theorem ggX5_useRule_X3_get : GoodIn wsX5_useRule wsX3_get := goodIn_r _ [10, 11, 12, 39, 40] (by decide +kernel) (by decide +kernel)
set_option maxRecDepth 20000 in
theorem gX5_useRule_X3_get : GoodIn wsX5_useRule (wsV RX5 40 RX3 yX3_get wsX3_get) := goodIn_app (goodIn_of _ (by decide +kernel)) ggX5_useRule_X3_get
set_option maxRecDepth 20000 in
theorem ggX5_useRule_X3_add : GoodIn wsX5_useRule wsX3_add := goodIn_r _ [16, 11, 12, 39, 40] (by decide +kernel) (by decide +kernel)
set_option maxRecDepth 20000 in
theorem gX5_useRule_X3_add : GoodIn wsX5_useRule (wsV RX5 44 RX3 yX3_add wsX3_add) := goodIn_app (goodIn_of _ (by decide +kernel)) ggX5_useRule_X3_add
set_option maxRecDepth 20000 in
theorem ggX5_useRule_X4_length : GoodIn wsX5_useRule wsX4_length := goodIn_r _ [21, 22, 23, 7, 8, 9, 10, 11, 12, 41, 42, 43, 39, 40] (by decide +kernel) (by decide +kernel)
set_option maxRecDepth 20000 in
theorem gX5_useRule_X4_length : GoodIn wsX5_useRule (wsV RX5 57 RX4 yX4_length wsX4_length) := goodIn_app (goodIn_of _ (by decide +kernel)) ggX5_useRule_X4_length
set_option maxRecDepth 20000 in
theorem ggX5_useRule_X3_addMany : GoodIn wsX5_useRule wsX3_addMany := goodIn_r _ [27, 28, 14, 15, 9, 16, 11, 12, 39, 40] (by decide +kernel) (by decide +kernel)
set_option maxRecDepth 20000 in
theorem gX5_useRule_X3_addMany : GoodIn wsX5_useRule (wsV RX5 65 RX3 yX3_addMany wsX3_addMany) := goodIn_app (goodIn_of _ (by decide +kernel)) ggX5_useRule_X3_addMany
theorem dX5_useRule_0 : decode cX5_useRule 0 = .ok (.aload_n 1, 1) := by decide +kernel
theorem dX5_useRule_1 : decode cX5_useRule 1 = .ok (.getfield 62, 3) := by decide +kernel
theorem dX5_useRule_4 : decode cX5_useRule 4 = .ok (.iload_n 2, 1) := by decide +kernel
theorem dX5_useRule_5 : decode cX5_useRule 5 = .ok (.invokevirtual 40, 3) := by decide +kernel
theorem dX5_useRule_8 : decode cX5_useRule 8 = .ok (.istore_n 3, 1) := by decide +kernel
theorem dX5_useRule_9 : decode cX5_useRule 9 = .ok (.iload_n 3, 1) := by decide +kernel
theorem dX5_useRule_10 : decode cX5_useRule 10 = .ok (.ifCond .eq 11, 3) := by decide +kernel
theorem dX5_useRule_13 : decode cX5_useRule 13 = .ok (.aload_n 0, 1) := by decide +kernel
theorem dX5_useRule_14 : decode cX5_useRule 14 = .ok (.getfield 14, 3) := by decide +kernel
theorem dX5_useRule_17 : decode cX5_useRule 17 = .ok (.iload_n 3, 1) := by decide +kernel
theorem dX5_useRule_18 : decode cX5_useRule 18 = .ok (.invokevirtual 44, 3) := by decide +kernel
theorem dX5_useRule_21 : decode cX5_useRule 21 = .ok (.aload_n 0, 1) := by decide +kernel
theorem dX5_useRule_22 : decode cX5_useRule 22 = .ok (.getfield 23, 3) := by decide +kernel
theorem dX5_useRule_25 : decode cX5_useRule 25 = .ok (.iload_n 2, 1) := by decide +kernel
theorem dX5_useRule_26 : decode cX5_useRule 26 = .ok (.invokevirtual 44, 3) := by decide +kernel
theorem dX5_useRule_29 : decode cX5_useRule 29 = .ok (.aload_n 0, 1) := by decide +kernel
theorem dX5_useRule_30 : decode cX5_useRule 30 = .ok (.getfield 20, 3) := by decide +kernel
theorem dX5_useRule_33 : decode cX5_useRule 33 = .ok (.iload_n 2, 1) := by decide +kernel
theorem dX5_useRule_34 : decode cX5_useRule 34 = .ok (.aload_n 1, 1) := by decide +kernel
theorem dX5_useRule_35 : decode cX5_useRule 35 = .ok (.getfield 51, 3) := by decide +kernel
theorem dX5_useRule_38 : decode cX5_useRule 38 = .ok (.iload_n 2, 1) := by decide +kernel
theorem dX5_useRule_39 : decode cX5_useRule 39 = .ok (.invokevirtual 57, 3) := by decide +kernel
theorem dX5_useRule_42 : decode cX5_useRule 42 = .ok (.invokevirtual 65, 3) := by decide +kernel
theorem dX5_useRule_45 : decode cX5_useRule 45 = .ok (.return_, 1) := by decide +kernel
set_option maxRecDepth 20000 in
theorem ggX5_bestRule_X0_rules : GoodIn wsX5_bestRule wsX0_rules := goodIn_r _ [7, 8, 9, 10, 11, 12, 13, 14, 15, 16, 17, 18, 19, 20, 48, 49, 50, 51, 52, 53, 54, 55, 56, 57, 58] (by decide +kernel) (by decide +kernel)
set_option maxRecDepth 20000 in
theorem gX5_bestRule_X0_rules : GoodIn wsX5_bestRule (wsV RX5 69 RX0 yX0_rules wsX0_rules) := goodIn_app (goodIn_of _ (by decide +kernel)) ggX5_bestRule_X0_rules
set_option maxRecDepth 20000 in
theorem ggX5_bestRule_X4_length : GoodIn wsX5_bestRule wsX4_length := goodIn_r _ [24, 14, 25, 26, 27, 18, 28, 20, 29, 54, 55, 56, 57, 58] (by decide +kernel) (by decide +kernel)
set_option maxRecDepth 20000 in
theorem gX5_bestRule_X4_length : GoodIn wsX5_bestRule (wsV RX5 57 RX4 yX4_length wsX4_length) := goodIn_app (goodIn_of _ (by decide +kernel)) ggX5_bestRule_X4_length
set_option maxRecDepth 20000 in
theorem ggX5_bestRule_X3_get : GoodIn wsX5_bestRule wsX3_get := goodIn_r _ [28, 20, 29, 57, 58] (by decide +kernel) (by decide +kernel)
set_option maxRecDepth 20000 in
theorem gX5_bestRule_X3_get : GoodIn wsX5_bestRule (wsV RX5 40 RX3 yX3_get wsX3_get) := goodIn_app (goodIn_of _ (by decide +kernel)) ggX5_bestRule_X3_get
set_option maxRecDepth 20000 in
theorem ggX5_bestRule_X5_holds : GoodIn wsX5_bestRule wsX5_holds := goodIn_r _ [34, 1, 2, 21, 22, 23, 12, 24, 14, 25, 26, 27, 18, 28, 20, 29, 35, 36, 37, 38, 39, 40, 30, 41, 42, 33, 43, 44, 16, 17, 19, 45, 46, 47, 48, 49, 50, 51, 52, 53, 54, 55, 56, 57, 58] (by decide +kernel) (by decide +kernel)
set_option maxRecDepth 20000 in
theorem gX5_bestRule_X5_holds : GoodIn wsX5_bestRule (va_wsS RX5 75 yX5_holds wsX5_holds) := goodIn_app (goodIn_of _ (by decide +kernel)) ggX5_bestRule_X5_holds
theorem dX5_bestRule_0 : decode cX5_bestRule 0 = .ok (.bipush (-5), 2) := by decide +kernel
theorem dX5_bestRule_2 : decode cX5_bestRule 2 = .ok (.istore_n 3, 1) := by decide +kernel
theorem dX5_bestRule_3 : decode cX5_bestRule 3 = .ok (.iconst 0, 1) := by decide +kernel
theorem dX5_bestRule_4 : decode cX5_bestRule 4 = .ok (.istore 4, 2) := by decide +kernel
theorem dX5_bestRule_6 : decode cX5_bestRule 6 = .ok (.iconst 0, 1) := by decide +kernel
theorem dX5_bestRule_7 : decode cX5_bestRule 7 = .ok (.istore 5, 2) := by decide +kernel
theorem dX5_bestRule_9 : decode cX5_bestRule 9 = .ok (.iload 5, 2) := by decide +kernel
theorem dX5_bestRule_11 : decode cX5_bestRule 11 = .ok (.aload_n 0, 1) := by decide +kernel
theorem dX5_bestRule_12 : decode cX5_bestRule 12 = .ok (.invokevirtual 69, 3) := by decide +kernel
theorem dX5_bestRule_15 : decode cX5_bestRule 15 = .ok (.if_icmp .ge 65, 3) := by decide +kernel
theorem dX5_bestRule_18 : decode cX5_bestRule 18 = .ok (.iconst 2, 1) := by decide +kernel
theorem dX5_bestRule_19 : decode cX5_bestRule 19 = .ok (.aload_n 0, 1) := by decide +kernel
theorem dX5_bestRule_20 : decode cX5_bestRule 20 = .ok (.getfield 51, 3) := by decide +kernel
theorem dX5_bestRule_23 : decode cX5_bestRule 23 = .ok (.iload 5, 2) := by decide +kernel
theorem dX5_bestRule_25 : decode cX5_bestRule 25 = .ok (.invokevirtual 57, 3) := by decide +kernel
theorem dX5_bestRule_28 : decode cX5_bestRule 28 = .ok (.imul, 1) := by decide +kernel
theorem dX5_bestRule_29 : decode cX5_bestRule 29 = .ok (.aload_n 0, 1) := by decide +kernel
theorem dX5_bestRule_30 : decode cX5_bestRule 30 = .ok (.getfield 72, 3) := by decide +kernel
theorem dX5_bestRule_33 : decode cX5_bestRule 33 = .ok (.iload 5, 2) := by decide +kernel
theorem dX5_bestRule_35 : decode cX5_bestRule 35 = .ok (.invokevirtual 40, 3) := by decide +kernel
theorem dX5_bestRule_38 : decode cX5_bestRule 38 = .ok (.ifCond .ne 7, 3) := by decide +kernel
theorem dX5_bestRule_41 : decode cX5_bestRule 41 = .ok (.iconst 0, 1) := by decide +kernel
theorem dX5_bestRule_42 : decode cX5_bestRule 42 = .ok (.goto 4, 3) := by decide +kernel
theorem dX5_bestRule_45 : decode cX5_bestRule 45 = .ok (.iconst 1, 1) := by decide +kernel
theorem dX5_bestRule_46 : decode cX5_bestRule 46 = .ok (.iadd, 1) := by decide +kernel
theorem dX5_bestRule_47 : decode cX5_bestRule 47 = .ok (.istore 6, 2) := by decide +kernel
theorem dX5_bestRule_49 : decode cX5_bestRule 49 = .ok (.iload 6, 2) := by decide +kernel
theorem dX5_bestRule_51 : decode cX5_bestRule 51 = .ok (.iload 4, 2) := by decide +kernel
theorem dX5_bestRule_53 : decode cX5_bestRule 53 = .ok (.if_icmp .le 21, 3) := by decide +kernel
theorem dX5_bestRule_56 : decode cX5_bestRule 56 = .ok (.aload_n 0, 1) := by decide +kernel
theorem dX5_bestRule_57 : decode cX5_bestRule 57 = .ok (.iload 5, 2) := by decide +kernel
theorem dX5_bestRule_59 : decode cX5_bestRule 59 = .ok (.aload_n 1, 1) := by decide +kernel
theorem dX5_bestRule_60 : decode cX5_bestRule 60 = .ok (.iload_n 2, 1) := by decide +kernel
theorem dX5_bestRule_61 : decode cX5_bestRule 61 = .ok (.invokestatic 75, 3) := by decide +kernel
theorem dX5_bestRule_64 : decode cX5_bestRule 64 = .ok (.ifCond .eq 10, 3) := by decide +kernel
theorem dX5_bestRule_67 : decode cX5_bestRule 67 = .ok (.iload 5, 2) := by decide +kernel
theorem dX5_bestRule_69 : decode cX5_bestRule 69 = .ok (.istore_n 3, 1) := by decide +kernel
theorem dX5_bestRule_70 : decode cX5_bestRule 70 = .ok (.iload 6, 2) := by decide +kernel
theorem dX5_bestRule_72 : decode cX5_bestRule 72 = .ok (.istore 4, 2) := by decide +kernel
theorem dX5_bestRule_74 : decode cX5_bestRule 74 = .ok (.iinc 5 1, 3) := by decide +kernel
theorem dX5_bestRule_77 : decode cX5_bestRule 77 = .ok (.goto (-68), 3) := by decide +kernel
theorem dX5_bestRule_80 : decode cX5_bestRule 80 = .ok (.iload_n 3, 1) := by decide +kernel
theorem dX5_bestRule_81 : decode cX5_bestRule 81 = .ok (.ireturn, 1) := by decide +kernel
set_option maxRecDepth 20000 in
theorem ggX5_holds_X4_length : GoodIn wsX5_holds wsX4_length := goodIn_r _ [7, 8, 9, 10, 11, 12, 13, 14, 15, 40, 41, 42, 43, 44] (by decide +kernel) (by decide +kernel)
set_option maxRecDepth 20000 in
theorem gX5_holds_X4_length : GoodIn wsX5_holds (wsV RX5 57 RX4 yX4_length wsX4_length) := goodIn_app (goodIn_of _ (by decide +kernel)) ggX5_holds_X4_length
set_option maxRecDepth 20000 in
theorem ggX5_holds_X4_get : GoodIn wsX5_holds wsX4_get := goodIn_r _ [19, 8, 20, 21, 9, 10, 11, 12, 13, 14, 15, 40, 41, 42, 43, 44] (by decide +kernel) (by decide +kernel)
set_option maxRecDepth 20000 in
theorem gX5_holds_X4_get : GoodIn wsX5_holds (wsV RX5 79 RX4 yX4_get wsX4_get) := goodIn_app (goodIn_of _ (by decide +kernel)) ggX5_holds_X4_get
set_option maxRecDepth 20000 in
theorem ggX5_holds_X3_get : GoodIn wsX5_holds wsX3_get := goodIn_r _ [13, 14, 15, 43, 44] (by decide +kernel) (by decide +kernel)
set_option maxRecDepth 20000 in
theorem gX5_holds_X3_get : GoodIn wsX5_holds (wsV RX5 40 RX3 yX3_get wsX3_get) := goodIn_app (goodIn_of _ (by decide +kernel)) ggX5_holds_X3_get
set_option maxRecDepth 20000 in
theorem ggX5_holds_X5_sideHolds : GoodIn wsX5_holds wsX5_sideHolds := goodIn_r _ [26, 27, 28, 29, 12, 30, 14, 22, 10, 11, 13, 15, 31, 32, 33, 43, 44] (by decide +kernel) (by decide +kernel)
set_option maxRecDepth 20000 in
theorem gX5_holds_X5_sideHolds : GoodIn wsX5_holds (va_wsS RX5 82 yX5_sideHolds wsX5_sideHolds) := goodIn_app (goodIn_of _ (by decide +kernel)) ggX5_holds_X5_sideHolds
theorem dX5_holds_0 : decode cX5_holds 0 = .ok (.aload_n 0, 1) := by decide +kernel
theorem dX5_holds_1 : decode cX5_holds 1 = .ok (.getfield 51, 3) := by decide +kernel
theorem dX5_holds_4 : decode cX5_holds 4 = .ok (.iload_n 1, 1) := by decide +kernel
theorem dX5_holds_5 : decode cX5_holds 5 = .ok (.invokevirtual 57, 3) := by decide +kernel
theorem dX5_holds_8 : decode cX5_holds 8 = .ok (.istore 4, 2) := by decide +kernel
theorem dX5_holds_10 : decode cX5_holds 10 = .ok (.iconst 0, 1) := by decide +kernel
theorem dX5_holds_11 : decode cX5_holds 11 = .ok (.istore 5, 2) := by decide +kernel
theorem dX5_holds_13 : decode cX5_holds 13 = .ok (.iload 5, 2) := by decide +kernel
theorem dX5_holds_15 : decode cX5_holds 15 = .ok (.iload 4, 2) := by decide +kernel
theorem dX5_holds_17 : decode cX5_holds 17 = .ok (.if_icmp .ge 32, 3) := by decide +kernel
theorem dX5_holds_20 : decode cX5_holds 20 = .ok (.aload_n 0, 1) := by decide +kernel
theorem dX5_holds_21 : decode cX5_holds 21 = .ok (.getfield 51, 3) := by decide +kernel
theorem dX5_holds_24 : decode cX5_holds 24 = .ok (.iload_n 1, 1) := by decide +kernel
theorem dX5_holds_25 : decode cX5_holds 25 = .ok (.iload 5, 2) := by decide +kernel
theorem dX5_holds_27 : decode cX5_holds 27 = .ok (.invokevirtual 79, 3) := by decide +kernel
theorem dX5_holds_30 : decode cX5_holds 30 = .ok (.aload_n 2, 1) := by decide +kernel
theorem dX5_holds_31 : decode cX5_holds 31 = .ok (.iload_n 3, 1) := by decide +kernel
theorem dX5_holds_32 : decode cX5_holds 32 = .ok (.iload 5, 2) := by decide +kernel
theorem dX5_holds_34 : decode cX5_holds 34 = .ok (.iadd, 1) := by decide +kernel
theorem dX5_holds_35 : decode cX5_holds 35 = .ok (.invokevirtual 40, 3) := by decide +kernel
theorem dX5_holds_38 : decode cX5_holds 38 = .ok (.if_icmp .eq 5, 3) := by decide +kernel
theorem dX5_holds_41 : decode cX5_holds 41 = .ok (.iconst 0, 1) := by decide +kernel
theorem dX5_holds_42 : decode cX5_holds 42 = .ok (.ireturn, 1) := by decide +kernel
theorem dX5_holds_43 : decode cX5_holds 43 = .ok (.iinc 5 1, 3) := by decide +kernel
theorem dX5_holds_46 : decode cX5_holds 46 = .ok (.goto (-33), 3) := by decide +kernel
theorem dX5_holds_49 : decode cX5_holds 49 = .ok (.aload_n 0, 1) := by decide +kernel
theorem dX5_holds_50 : decode cX5_holds 50 = .ok (.getfield 72, 3) := by decide +kernel
theorem dX5_holds_53 : decode cX5_holds 53 = .ok (.iload_n 1, 1) := by decide +kernel
theorem dX5_holds_54 : decode cX5_holds 54 = .ok (.invokevirtual 40, 3) := by decide +kernel
theorem dX5_holds_57 : decode cX5_holds 57 = .ok (.aload_n 2, 1) := by decide +kernel
theorem dX5_holds_58 : decode cX5_holds 58 = .ok (.iload_n 3, 1) := by decide +kernel
theorem dX5_holds_59 : decode cX5_holds 59 = .ok (.iload_n 3, 1) := by decide +kernel
theorem dX5_holds_60 : decode cX5_holds 60 = .ok (.iload 4, 2) := by decide +kernel
theorem dX5_holds_62 : decode cX5_holds 62 = .ok (.iadd, 1) := by decide +kernel
theorem dX5_holds_63 : decode cX5_holds 63 = .ok (.invokestatic 82, 3) := by decide +kernel
theorem dX5_holds_66 : decode cX5_holds 66 = .ok (.ireturn, 1) := by decide +kernel
set_option maxRecDepth 20000 in
theorem ggX5_sideHolds_X3_size : GoodIn wsX5_sideHolds wsX3_size := goodIn_r _ [5, 6, 15, 16] (by decide +kernel) (by decide +kernel)
set_option maxRecDepth 20000 in
theorem gX5_sideHolds_X3_size : GoodIn wsX5_sideHolds (wsV RX5 32 RX3 yX3_size wsX3_size) := goodIn_app (goodIn_of _ (by decide +kernel)) ggX5_sideHolds_X3_size
set_option maxRecDepth 20000 in
theorem ggX5_sideHolds_X3_get : GoodIn wsX5_sideHolds wsX3_get := goodIn_r _ [10, 6, 11, 15, 16] (by decide +kernel) (by decide +kernel)
set_option maxRecDepth 20000 in
theorem gX5_sideHolds_X3_get : GoodIn wsX5_sideHolds (wsV RX5 40 RX3 yX3_get wsX3_get) := goodIn_app (goodIn_of _ (by decide +kernel)) ggX5_sideHolds_X3_get
set_option maxRecDepth 20000 in
theorem ggX5_sideHolds_X7_isVowel : GoodIn wsX5_sideHolds wsX7_isVowel := goodIn_r _ [14] (by decide +kernel) (by decide +kernel)
set_option maxRecDepth 20000 in
theorem gX5_sideHolds_X7_isVowel_n86 : GoodIn wsX5_sideHolds (wsX7_isVowel) := ggX5_sideHolds_X7_isVowel
theorem dX5_sideHolds_0 : decode cX5_sideHolds 0 = .ok (.iload_n 0, 1) := by decide +kernel
theorem dX5_sideHolds_1 : decode cX5_sideHolds 1 = .ok (.tableswitch 96 1 5 #[35, 45, 59, 68, 85], 35) := by decide +kernel
theorem dX5_sideHolds_36 : decode cX5_sideHolds 36 = .ok (.iload_n 2, 1) := by decide +kernel
theorem dX5_sideHolds_37 : decode cX5_sideHolds 37 = .ok (.ifCond .ne 7, 3) := by decide +kernel
theorem dX5_sideHolds_40 : decode cX5_sideHolds 40 = .ok (.iconst 1, 1) := by decide +kernel
theorem dX5_sideHolds_41 : decode cX5_sideHolds 41 = .ok (.goto 4, 3) := by decide +kernel
theorem dX5_sideHolds_44 : decode cX5_sideHolds 44 = .ok (.iconst 0, 1) := by decide +kernel
theorem dX5_sideHolds_45 : decode cX5_sideHolds 45 = .ok (.ireturn, 1) := by decide +kernel
theorem dX5_sideHolds_46 : decode cX5_sideHolds 46 = .ok (.iload_n 3, 1) := by decide +kernel
theorem dX5_sideHolds_47 : decode cX5_sideHolds 47 = .ok (.aload_n 1, 1) := by decide +kernel
theorem dX5_sideHolds_48 : decode cX5_sideHolds 48 = .ok (.invokevirtual 32, 3) := by decide +kernel
theorem dX5_sideHolds_51 : decode cX5_sideHolds 51 = .ok (.if_icmp .ne 7, 3) := by decide +kernel
theorem dX5_sideHolds_54 : decode cX5_sideHolds 54 = .ok (.iconst 1, 1) := by decide +kernel
theorem dX5_sideHolds_55 : decode cX5_sideHolds 55 = .ok (.goto 4, 3) := by decide +kernel
theorem dX5_sideHolds_58 : decode cX5_sideHolds 58 = .ok (.iconst 0, 1) := by decide +kernel
theorem dX5_sideHolds_59 : decode cX5_sideHolds 59 = .ok (.ireturn, 1) := by decide +kernel
theorem dX5_sideHolds_60 : decode cX5_sideHolds 60 = .ok (.aload_n 1, 1) := by decide +kernel
theorem dX5_sideHolds_61 : decode cX5_sideHolds 61 = .ok (.iload_n 3, 1) := by decide +kernel
theorem dX5_sideHolds_62 : decode cX5_sideHolds 62 = .ok (.invokevirtual 40, 3) := by decide +kernel
theorem dX5_sideHolds_65 : decode cX5_sideHolds 65 = .ok (.invokestatic 86, 3) := by decide +kernel
theorem dX5_sideHolds_68 : decode cX5_sideHolds 68 = .ok (.ireturn, 1) := by decide +kernel
theorem dX5_sideHolds_69 : decode cX5_sideHolds 69 = .ok (.aload_n 1, 1) := by decide +kernel
theorem dX5_sideHolds_70 : decode cX5_sideHolds 70 = .ok (.iload_n 3, 1) := by decide +kernel
theorem dX5_sideHolds_71 : decode cX5_sideHolds 71 = .ok (.invokevirtual 40, 3) := by decide +kernel
theorem dX5_sideHolds_74 : decode cX5_sideHolds 74 = .ok (.invokestatic 86, 3) := by decide +kernel
theorem dX5_sideHolds_77 : decode cX5_sideHolds 77 = .ok (.ifCond .ne 7, 3) := by decide +kernel
theorem dX5_sideHolds_80 : decode cX5_sideHolds 80 = .ok (.iconst 1, 1) := by decide +kernel
theorem dX5_sideHolds_81 : decode cX5_sideHolds 81 = .ok (.goto 4, 3) := by decide +kernel
theorem dX5_sideHolds_84 : decode cX5_sideHolds 84 = .ok (.iconst 0, 1) := by decide +kernel
theorem dX5_sideHolds_85 : decode cX5_sideHolds 85 = .ok (.ireturn, 1) := by decide +kernel
theorem dX5_sideHolds_86 : decode cX5_sideHolds 86 = .ok (.aload_n 1, 1) := by decide +kernel
theorem dX5_sideHolds_87 : decode cX5_sideHolds 87 = .ok (.iload_n 2, 1) := by decide +kernel
theorem dX5_sideHolds_88 : decode cX5_sideHolds 88 = .ok (.iconst 1, 1) := by decide +kernel
theorem dX5_sideHolds_89 : decode cX5_sideHolds 89 = .ok (.isub, 1) := by decide +kernel
theorem dX5_sideHolds_90 : decode cX5_sideHolds 90 = .ok (.invokevirtual 40, 3) := by decide +kernel
theorem dX5_sideHolds_93 : decode cX5_sideHolds 93 = .ok (.invokestatic 86, 3) := by decide +kernel
theorem dX5_sideHolds_96 : decode cX5_sideHolds 96 = .ok (.ireturn, 1) := by decide +kernel
theorem dX5_sideHolds_97 : decode cX5_sideHolds 97 = .ok (.iconst 1, 1) := by decide +kernel
theorem dX5_sideHolds_98 : decode cX5_sideHolds 98 = .ok (.ireturn, 1) := by decide +kernel
set_option maxRecDepth 20000 in
theorem ggX5_write_X3_clear : GoodIn wsX5_write wsX3_clear := goodIn_r _ [7, 8, 54, 55] (by decide +kernel) (by decide +kernel)
set_option maxRecDepth 20000 in
theorem gX5_write_X3_clear : GoodIn wsX5_write (wsV RX5 29 RX3 yX3_clear wsX3_clear) := goodIn_app (goodIn_of _ (by decide +kernel)) ggX5_write_X3_clear
set_option maxRecDepth 20000 in
theorem ggX5_write_X3_size : GoodIn wsX5_write wsX3_size := goodIn_r _ [12, 8, 54, 55] (by decide +kernel) (by decide +kernel)
set_option maxRecDepth 20000 in
theorem gX5_write_X3_size : GoodIn wsX5_write (wsV RX5 32 RX3 yX3_size wsX3_size) := goodIn_app (goodIn_of _ (by decide +kernel)) ggX5_write_X3_size
set_option maxRecDepth 20000 in
theorem ggX5_write_X3_get : GoodIn wsX5_write wsX3_get := goodIn_r _ [16, 8, 17, 54, 55] (by decide +kernel) (by decide +kernel)
set_option maxRecDepth 20000 in
theorem gX5_write_X3_get : GoodIn wsX5_write (wsV RX5 40 RX3 yX3_get wsX3_get) := goodIn_app (goodIn_of _ (by decide +kernel)) ggX5_write_X3_get
set_option maxRecDepth 20000 in
theorem ggX5_write_X5_addSign : GoodIn wsX5_write wsX5_addSign := goodIn_r _ [22, 23, 1, 24, 25, 26, 27, 28, 29, 30, 31, 32, 33, 14, 15, 6, 16, 8, 17, 34, 35, 36, 37, 38, 39, 40, 41, 42, 43, 56, 57, 58, 59, 60, 61, 50, 51, 52, 53, 62, 63, 64, 54, 55] (by decide +kernel) (by decide +kernel)
set_option maxRecDepth 20000 in
theorem gX5_write_X5_addSign : GoodIn wsX5_write (wsV RX5 90 RX5 yX5_addSign wsX5_addSign) := goodIn_app (goodIn_of _ (by decide +kernel)) ggX5_write_X5_addSign
set_option maxRecDepth 20000 in
theorem ggX5_write_X3_addAll : GoodIn wsX5_write wsX3_addAll := goodIn_r _ [47, 8, 48, 14, 15, 6, 16, 17, 49, 41, 42, 43, 54, 55] (by decide +kernel) (by decide +kernel)
set_option maxRecDepth 20000 in
theorem gX5_write_X3_addAll : GoodIn wsX5_write (wsV RX5 93 RX3 yX3_addAll wsX3_addAll) := goodIn_app (goodIn_of _ (by decide +kernel)) ggX5_write_X3_addAll
set_option maxRecDepth 20000 in
theorem ggX5_write_X3_add : GoodIn wsX5_write wsX3_add := goodIn_r _ [43, 8, 17, 54, 55] (by decide +kernel) (by decide +kernel)
set_option maxRecDepth 20000 in
theorem gX5_write_X3_add : GoodIn wsX5_write (wsV RX5 44 RX3 yX3_add wsX3_add) := goodIn_app (goodIn_of _ (by decide +kernel)) ggX5_write_X3_add
theorem dX5_write_0 : decode cX5_write 0 = .ok (.aload_n 0, 1) := by decide +kernel
theorem dX5_write_1 : decode cX5_write 1 = .ok (.getfield 26, 3) := by decide +kernel
theorem dX5_write_4 : decode cX5_write 4 = .ok (.invokevirtual 29, 3) := by decide +kernel
theorem dX5_write_7 : decode cX5_write 7 = .ok (.iload_n 3, 1) := by decide +kernel
theorem dX5_write_8 : decode cX5_write 8 = .ok (.iconst 1, 1) := by decide +kernel
theorem dX5_write_9 : decode cX5_write 9 = .ok (.if_icmp .eq 38, 3) := by decide +kernel
theorem dX5_write_12 : decode cX5_write 12 = .ok (.iconst 0, 1) := by decide +kernel
theorem dX5_write_13 : decode cX5_write 13 = .ok (.istore 4, 2) := by decide +kernel
theorem dX5_write_15 : decode cX5_write 15 = .ok (.iload 4, 2) := by decide +kernel
theorem dX5_write_17 : decode cX5_write 17 = .ok (.aload_n 0, 1) := by decide +kernel
theorem dX5_write_18 : decode cX5_write 18 = .ok (.getfield 14, 3) := by decide +kernel
theorem dX5_write_21 : decode cX5_write 21 = .ok (.invokevirtual 32, 3) := by decide +kernel
theorem dX5_write_24 : decode cX5_write 24 = .ok (.if_icmp .ge 23, 3) := by decide +kernel
theorem dX5_write_27 : decode cX5_write 27 = .ok (.aload_n 0, 1) := by decide +kernel
theorem dX5_write_28 : decode cX5_write 28 = .ok (.aload_n 1, 1) := by decide +kernel
theorem dX5_write_29 : decode cX5_write 29 = .ok (.aload_n 0, 1) := by decide +kernel
theorem dX5_write_30 : decode cX5_write 30 = .ok (.getfield 14, 3) := by decide +kernel
theorem dX5_write_33 : decode cX5_write 33 = .ok (.iload 4, 2) := by decide +kernel
theorem dX5_write_35 : decode cX5_write 35 = .ok (.invokevirtual 40, 3) := by decide +kernel
theorem dX5_write_38 : decode cX5_write 38 = .ok (.invokevirtual 90, 3) := by decide +kernel
theorem dX5_write_41 : decode cX5_write 41 = .ok (.iinc 4 1, 3) := by decide +kernel
theorem dX5_write_44 : decode cX5_write 44 = .ok (.goto (-29), 3) := by decide +kernel
theorem dX5_write_47 : decode cX5_write 47 = .ok (.aload_n 0, 1) := by decide +kernel
theorem dX5_write_48 : decode cX5_write 48 = .ok (.getfield 26, 3) := by decide +kernel
theorem dX5_write_51 : decode cX5_write 51 = .ok (.invokevirtual 32, 3) := by decide +kernel
theorem dX5_write_54 : decode cX5_write 54 = .ok (.ifCond .ne 11, 3) := by decide +kernel
theorem dX5_write_57 : decode cX5_write 57 = .ok (.aload_n 0, 1) := by decide +kernel
theorem dX5_write_58 : decode cX5_write 58 = .ok (.getfield 26, 3) := by decide +kernel
theorem dX5_write_61 : decode cX5_write 61 = .ok (.aload_n 2, 1) := by decide +kernel
theorem dX5_write_62 : decode cX5_write 62 = .ok (.invokevirtual 93, 3) := by decide +kernel
theorem dX5_write_65 : decode cX5_write 65 = .ok (.iload_n 3, 1) := by decide +kernel
theorem dX5_write_66 : decode cX5_write 66 = .ok (.iconst 2, 1) := by decide +kernel
theorem dX5_write_67 : decode cX5_write 67 = .ok (.if_icmp .ne 12, 3) := by decide +kernel
theorem dX5_write_70 : decode cX5_write 70 = .ok (.aload_n 0, 1) := by decide +kernel
theorem dX5_write_71 : decode cX5_write 71 = .ok (.getfield 26, 3) := by decide +kernel
theorem dX5_write_74 : decode cX5_write 74 = .ok (.bipush 39, 2) := by decide +kernel
theorem dX5_write_76 : decode cX5_write 76 = .ok (.invokevirtual 44, 3) := by decide +kernel
theorem dX5_write_79 : decode cX5_write 79 = .ok (.return_, 1) := by decide +kernel
set_option maxRecDepth 20000 in
theorem ggX5_addSign_X7_isCapital : GoodIn wsX5_addSign wsX7_isCapital := goodIn_r _ [5] (by decide +kernel) (by decide +kernel)
set_option maxRecDepth 20000 in
theorem gX5_addSign_X7_isCapital_n97 : GoodIn wsX5_addSign (wsX7_isCapital) := ggX5_addSign_X7_isCapital
set_option maxRecDepth 20000 in
theorem ggX5_addSign_X4_length : GoodIn wsX5_addSign wsX4_length := goodIn_r _ [10, 11, 12, 13, 14, 15, 16, 17, 18, 39, 40, 41, 42, 43] (by decide +kernel) (by decide +kernel)
set_option maxRecDepth 20000 in
theorem gX5_addSign_X4_length : GoodIn wsX5_addSign (wsV RX5 57 RX4 yX4_length wsX4_length) := goodIn_app (goodIn_of _ (by decide +kernel)) ggX5_addSign_X4_length
set_option maxRecDepth 20000 in
theorem ggX5_addSign_X4_get : GoodIn wsX5_addSign wsX4_get := goodIn_r _ [22, 11, 23, 24, 12, 13, 14, 15, 16, 17, 18, 39, 40, 41, 42, 43] (by decide +kernel) (by decide +kernel)
set_option maxRecDepth 20000 in
theorem gX5_addSign_X4_get : GoodIn wsX5_addSign (wsV RX5 79 RX4 yX4_get wsX4_get) := goodIn_app (goodIn_of _ (by decide +kernel)) ggX5_addSign_X4_get
set_option maxRecDepth 20000 in
theorem ggX5_addSign_X3_add : GoodIn wsX5_addSign wsX3_add := goodIn_r _ [28, 17, 18, 42, 43] (by decide +kernel) (by decide +kernel)
set_option maxRecDepth 20000 in
theorem gX5_addSign_X3_add : GoodIn wsX5_addSign (wsV RX5 44 RX3 yX3_add wsX3_add) := goodIn_app (goodIn_of _ (by decide +kernel)) ggX5_addSign_X3_add
theorem dX5_addSign_0 : decode cX5_addSign 0 = .ok (.iload_n 2, 1) := by decide +kernel
theorem dX5_addSign_1 : decode cX5_addSign 1 = .ok (.invokestatic 97, 3) := by decide +kernel
theorem dX5_addSign_4 : decode cX5_addSign 4 = .ok (.ifCond .eq 48, 3) := by decide +kernel
theorem dX5_addSign_7 : decode cX5_addSign 7 = .ok (.iconst 0, 1) := by decide +kernel
theorem dX5_addSign_8 : decode cX5_addSign 8 = .ok (.istore_n 3, 1) := by decide +kernel
theorem dX5_addSign_9 : decode cX5_addSign 9 = .ok (.iload_n 3, 1) := by decide +kernel
theorem dX5_addSign_10 : decode cX5_addSign 10 = .ok (.aload_n 1, 1) := by decide +kernel
theorem dX5_addSign_11 : decode cX5_addSign 11 = .ok (.getfield 100, 3) := by decide +kernel
theorem dX5_addSign_14 : decode cX5_addSign 14 = .ok (.iload_n 2, 1) := by decide +kernel
theorem dX5_addSign_15 : decode cX5_addSign 15 = .ok (.bipush 65, 2) := by decide +kernel
theorem dX5_addSign_17 : decode cX5_addSign 17 = .ok (.isub, 1) := by decide +kernel
theorem dX5_addSign_18 : decode cX5_addSign 18 = .ok (.invokevirtual 57, 3) := by decide +kernel
theorem dX5_addSign_21 : decode cX5_addSign 21 = .ok (.if_icmp .ge 28, 3) := by decide +kernel
theorem dX5_addSign_24 : decode cX5_addSign 24 = .ok (.aload_n 0, 1) := by decide +kernel
theorem dX5_addSign_25 : decode cX5_addSign 25 = .ok (.getfield 26, 3) := by decide +kernel
theorem dX5_addSign_28 : decode cX5_addSign 28 = .ok (.aload_n 1, 1) := by decide +kernel
theorem dX5_addSign_29 : decode cX5_addSign 29 = .ok (.getfield 100, 3) := by decide +kernel
theorem dX5_addSign_32 : decode cX5_addSign 32 = .ok (.iload_n 2, 1) := by decide +kernel
theorem dX5_addSign_33 : decode cX5_addSign 33 = .ok (.bipush 65, 2) := by decide +kernel
theorem dX5_addSign_35 : decode cX5_addSign 35 = .ok (.isub, 1) := by decide +kernel
theorem dX5_addSign_36 : decode cX5_addSign 36 = .ok (.iload_n 3, 1) := by decide +kernel
theorem dX5_addSign_37 : decode cX5_addSign 37 = .ok (.invokevirtual 79, 3) := by decide +kernel
theorem dX5_addSign_40 : decode cX5_addSign 40 = .ok (.invokevirtual 44, 3) := by decide +kernel
theorem dX5_addSign_43 : decode cX5_addSign 43 = .ok (.iinc 3 1, 3) := by decide +kernel
theorem dX5_addSign_46 : decode cX5_addSign 46 = .ok (.goto (-37), 3) := by decide +kernel
theorem dX5_addSign_49 : decode cX5_addSign 49 = .ok (.goto 11, 3) := by decide +kernel
theorem dX5_addSign_52 : decode cX5_addSign 52 = .ok (.aload_n 0, 1) := by decide +kernel
theorem dX5_addSign_53 : decode cX5_addSign 53 = .ok (.getfield 26, 3) := by decide +kernel
theorem dX5_addSign_56 : decode cX5_addSign 56 = .ok (.iload_n 2, 1) := by decide +kernel
theorem dX5_addSign_57 : decode cX5_addSign 57 = .ok (.invokevirtual 44, 3) := by decide +kernel
theorem dX5_addSign_60 : decode cX5_addSign 60 = .ok (.return_, 1) := by decide +kernel
set_option maxRecDepth 20000 in
theorem ggX6_init_X4_init : GoodIn wsX6_init wsX4_init := goodIn_r _ [22, 23, 2, 3, 24, 25, 11, 12, 26, 27, 28, 29, 30, 31, 32, 33, 34, 35, 36, 37, 38, 39, 40, 41, 42, 43, 44, 45, 46, 57, 58, 59, 67, 68] (by decide +kernel) (by decide +kernel)
set_option maxRecDepth 20000 in
theorem gX6_init_X4_init : GoodIn wsX6_init (wsX4_init) := ggX6_init_X4_init
set_option maxRecDepth 20000 in
theorem ggX6_init_X3_init : GoodIn wsX6_init wsX3_init := goodIn_r _ [30, 31, 2, 3, 32, 33, 34, 35, 36, 37, 67, 68] (by decide +kernel) (by decide +kernel)
set_option maxRecDepth 20000 in
theorem gX6_init_X3_init : GoodIn wsX6_init (wsX3_init) := ggX6_init_X3_init
set_option maxRecDepth 20000 in
theorem ggX6_init_X5_init : GoodIn wsX6_init wsX5_init := goodIn_r _ [49, 50, 2, 3, 51, 11, 12, 52, 53, 54, 55, 56, 29, 30, 31, 32, 33, 34, 35, 36, 37, 67, 68, 69, 70, 71, 72] (by decide +kernel) (by decide +kernel)
set_option maxRecDepth 20000 in
theorem gX6_init_X5_init_n40 : GoodIn wsX6_init (wsX5_init) := ggX6_init_X5_init
theorem dX6_init_0 : decode cX6_init 0 = .ok (.aload_n 0, 1) := by decide +kernel
theorem dX6_init_1 : decode cX6_init 1 = .ok (.invokespecial 3, 3) := by decide +kernel
theorem dX6_init_4 : decode cX6_init 4 = .ok (.aload_n 0, 1) := by decide +kernel
theorem dX6_init_5 : decode cX6_init 5 = .ok (.new 9, 3) := by decide +kernel
theorem dX6_init_8 : decode cX6_init 8 = .ok (.dup, 1) := by decide +kernel
theorem dX6_init_9 : decode cX6_init 9 = .ok (.bipush 20, 2) := by decide +kernel
theorem dX6_init_11 : decode cX6_init 11 = .ok (.bipush 12, 2) := by decide +kernel
theorem dX6_init_13 : decode cX6_init 13 = .ok (.invokespecial 11, 3) := by decide +kernel
theorem dX6_init_16 : decode cX6_init 16 = .ok (.putfield 14, 3) := by decide +kernel
theorem dX6_init_19 : decode cX6_init 19 = .ok (.aload_n 0, 1) := by decide +kernel
theorem dX6_init_20 : decode cX6_init 20 = .ok (.new 9, 3) := by decide +kernel
theorem dX6_init_23 : decode cX6_init 23 = .ok (.dup, 1) := by decide +kernel
theorem dX6_init_24 : decode cX6_init 24 = .ok (.bipush 20, 2) := by decide +kernel
theorem dX6_init_26 : decode cX6_init 26 = .ok (.bipush 12, 2) := by decide +kernel
theorem dX6_init_28 : decode cX6_init 28 = .ok (.invokespecial 11, 3) := by decide +kernel
theorem dX6_init_31 : decode cX6_init 31 = .ok (.putfield 20, 3) := by decide +kernel
theorem dX6_init_34 : decode cX6_init 34 = .ok (.aload_n 0, 1) := by decide +kernel
theorem dX6_init_35 : decode cX6_init 35 = .ok (.new 9, 3) := by decide +kernel
theorem dX6_init_38 : decode cX6_init 38 = .ok (.dup, 1) := by decide +kernel
theorem dX6_init_39 : decode cX6_init 39 = .ok (.bipush 20, 2) := by decide +kernel
theorem dX6_init_41 : decode cX6_init 41 = .ok (.bipush 25, 2) := by decide +kernel
theorem dX6_init_43 : decode cX6_init 43 = .ok (.invokespecial 11, 3) := by decide +kernel
theorem dX6_init_46 : decode cX6_init 46 = .ok (.putfield 23, 3) := by decide +kernel
theorem dX6_init_49 : decode cX6_init 49 = .ok (.aload_n 0, 1) := by decide +kernel
theorem dX6_init_50 : decode cX6_init 50 = .ok (.new 26, 3) := by decide +kernel
theorem dX6_init_53 : decode cX6_init 53 = .ok (.dup, 1) := by decide +kernel
theorem dX6_init_54 : decode cX6_init 54 = .ok (.bipush 20, 2) := by decide +kernel
theorem dX6_init_56 : decode cX6_init 56 = .ok (.invokespecial 28, 3) := by decide +kernel
theorem dX6_init_59 : decode cX6_init 59 = .ok (.putfield 31, 3) := by decide +kernel
theorem dX6_init_62 : decode cX6_init 62 = .ok (.aload_n 0, 1) := by decide +kernel
theorem dX6_init_63 : decode cX6_init 63 = .ok (.new 26, 3) := by decide +kernel
theorem dX6_init_66 : decode cX6_init 66 = .ok (.dup, 1) := by decide +kernel
theorem dX6_init_67 : decode cX6_init 67 = .ok (.bipush 30, 2) := by decide +kernel
theorem dX6_init_69 : decode cX6_init 69 = .ok (.invokespecial 28, 3) := by decide +kernel
theorem dX6_init_72 : decode cX6_init 72 = .ok (.putfield 35, 3) := by decide +kernel
theorem dX6_init_75 : decode cX6_init 75 = .ok (.aload_n 0, 1) := by decide +kernel
theorem dX6_init_76 : decode cX6_init 76 = .ok (.new 38, 3) := by decide +kernel
theorem dX6_init_79 : decode cX6_init 79 = .ok (.dup, 1) := by decide +kernel
theorem dX6_init_80 : decode cX6_init 80 = .ok (.invokespecial 40, 3) := by decide +kernel
theorem dX6_init_83 : decode cX6_init 83 = .ok (.putfield 41, 3) := by decide +kernel
theorem dX6_init_86 : decode cX6_init 86 = .ok (.aload_n 0, 1) := by decide +kernel
theorem dX6_init_87 : decode cX6_init 87 = .ok (.new 26, 3) := by decide +kernel
theorem dX6_init_90 : decode cX6_init 90 = .ok (.dup, 1) := by decide +kernel
theorem dX6_init_91 : decode cX6_init 91 = .ok (.bipush 12, 2) := by decide +kernel
theorem dX6_init_93 : decode cX6_init 93 = .ok (.invokespecial 28, 3) := by decide +kernel
theorem dX6_init_96 : decode cX6_init 96 = .ok (.putfield 45, 3) := by decide +kernel
theorem dX6_init_99 : decode cX6_init 99 = .ok (.return_, 1) := by decide +kernel
set_option maxRecDepth 20000 in
theorem ggX6_renew_X4_clear : GoodIn wsX6_renew wsX4_clear := goodIn_r _ [18, 19, 20, 21, 22, 23, 24, 25, 179, 180, 181, 182, 183] (by decide +kernel) (by decide +kernel)
set_option maxRecDepth 20000 in
theorem gX6_renew_X4_clear : GoodIn wsX6_renew (wsV RX6 48 RX4 yX4_clear wsX4_clear) := goodIn_app (goodIn_of _ (by decide +kernel)) ggX6_renew_X4_clear
set_option maxRecDepth 20000 in
theorem ggX6_renew_X3_clear : GoodIn wsX6_renew wsX3_clear := goodIn_r _ [24, 25, 182, 183] (by decide +kernel) (by decide +kernel)
set_option maxRecDepth 20000 in
theorem gX6_renew_X3_clear : GoodIn wsX6_renew (wsV RX6 51 RX3 yX3_clear wsX3_clear) := goodIn_app (goodIn_of _ (by decide +kernel)) ggX6_renew_X3_clear
set_option maxRecDepth 20000 in
theorem ggX6_renew_X0_rules : GoodIn wsX6_renew wsX0_rules := goodIn_r _ [31, 32, 33, 34, 35, 17, 36, 19, 37, 38, 39, 23, 40, 25, 169, 170, 171, 172, 173, 174, 179, 180, 181, 182, 183] (by decide +kernel) (by decide +kernel)
set_option maxRecDepth 20000 in
theorem gX6_renew_X0_rules : GoodIn wsX6_renew (wsV RX6 52 RX0 yX0_rules wsX0_rules) := goodIn_app (goodIn_of _ (by decide +kernel)) ggX6_renew_X0_rules
set_option maxRecDepth 20000 in
theorem ggX6_renew_X3_addMany : GoodIn wsX6_renew wsX3_addMany := goodIn_r _ [44, 45, 46, 47, 23, 48, 25, 49, 182, 183] (by decide +kernel) (by decide +kernel)
set_option maxRecDepth 20000 in
theorem gX6_renew_X3_addMany : GoodIn wsX6_renew (wsV RX6 58 RX3 yX3_addMany wsX3_addMany) := goodIn_app (goodIn_of _ (by decide +kernel)) ggX6_renew_X3_addMany
set_option maxRecDepth 20000 in
theorem ggX6_renew_X0_words : GoodIn wsX6_renew wsX0_words := goodIn_r _ [53, 54, 33, 34, 35, 17, 36, 19, 37, 38, 39, 23, 40, 25, 169, 170, 171, 172, 173, 174, 179, 180, 181, 182, 183] (by decide +kernel) (by decide +kernel)
set_option maxRecDepth 20000 in
theorem gX6_renew_X0_words : GoodIn wsX6_renew (wsV RX6 61 RX0 yX0_words wsX0_words) := goodIn_app (goodIn_of _ (by decide +kernel)) ggX6_renew_X0_words
set_option maxRecDepth 20000 in
theorem ggX6_renew_X4_copyTo : GoodIn wsX6_renew wsX4_copyTo := goodIn_r _ [58, 19, 20, 21, 22, 23, 24, 25, 59, 60, 61, 62, 49, 63, 64, 65, 17, 66, 67, 68, 69, 46, 47, 48, 179, 180, 181, 182, 183] (by decide +kernel) (by decide +kernel)
set_option maxRecDepth 20000 in
theorem gX6_renew_X4_copyTo : GoodIn wsX6_renew (wsV RX6 67 RX4 yX4_copyTo wsX4_copyTo) := goodIn_app (goodIn_of _ (by decide +kernel)) ggX6_renew_X4_copyTo
set_option maxRecDepth 20000 in
theorem ggX6_renew_X5_hear : GoodIn wsX6_renew wsX5_hear := goodIn_r _ [74, 75, 76, 77, 78, 79, 21, 22, 23, 24, 25, 80, 38, 39, 40, 81, 82, 73, 83, 84, 85, 28, 29, 30, 31, 32, 33, 34, 35, 17, 36, 19, 37, 86, 87, 88, 89, 59, 60, 61, 62, 49, 90, 91, 92, 93, 94, 64, 65, 66, 67, 68, 95, 96, 97, 98, 99, 100, 101, 46, 47, 48, 102, 103, 104, 105, 106, 107, 42, 43, 44, 45, 175, 176, 177, 178, 169, 170, 171, 172, 173, 174, 182, 183, 179, 180, 181] (by decide +kernel) (by decide +kernel)
set_option maxRecDepth 20000 in
theorem gX6_renew_X5_hear : GoodIn wsX6_renew (wsV RX6 71 RX5 yX5_hear wsX5_hear) := goodIn_app (goodIn_of _ (by decide +kernel)) ggX6_renew_X5_hear
set_option maxRecDepth 20000 in
theorem ggX6_renew_X3_get : GoodIn wsX6_renew wsX3_get := goodIn_r _ [62, 25, 49, 182, 183] (by decide +kernel) (by decide +kernel)
set_option maxRecDepth 20000 in
theorem gX6_renew_X3_get : GoodIn wsX6_renew (wsV RX6 78 RX3 yX3_get wsX3_get) := goodIn_app (goodIn_of _ (by decide +kernel)) ggX6_renew_X3_get
set_option maxRecDepth 20000 in
theorem ggX6_renew_X5_write : GoodIn wsX6_renew wsX5_write := goodIn_r _ [112, 113, 75, 79, 21, 22, 23, 24, 25, 80, 38, 39, 40, 90, 60, 61, 62, 49, 114, 115, 116, 73, 117, 118, 119, 99, 120, 86, 87, 88, 17, 89, 19, 59, 94, 64, 65, 66, 67, 68, 101, 46, 47, 48, 121, 122, 123, 124, 125, 45, 175, 176, 177, 178, 182, 183, 169, 170, 171, 172, 173, 174, 179, 180, 181] (by decide +kernel) (by decide +kernel)
set_option maxRecDepth 20000 in
theorem gX6_renew_X5_write : GoodIn wsX6_renew (wsV RX6 82 RX5 yX5_write wsX5_write) := goodIn_app (goodIn_of _ (by decide +kernel)) ggX6_renew_X5_write
set_option maxRecDepth 20000 in
theorem ggX6_renew_X4_add : GoodIn wsX6_renew wsX4_add := goodIn_r _ [129, 19, 130, 131, 132, 23, 133, 25, 49, 69, 46, 47, 48, 37, 38, 39, 40, 134, 135, 136, 17, 137, 68, 138, 139, 140, 141, 67, 142, 143, 144, 145, 146, 147, 148, 149, 59, 60, 61, 62, 179, 180, 181, 182, 183] (by decide +kernel) (by decide +kernel)
set_option maxRecDepth 20000 in
theorem gX6_renew_X4_add : GoodIn wsX6_renew (wsV RX6 88 RX4 yX4_add wsX4_add) := goodIn_app (goodIn_of _ (by decide +kernel)) ggX6_renew_X4_add
set_option maxRecDepth 20000 in
theorem ggX6_renew_X3_size : GoodIn wsX6_renew wsX3_size := goodIn_r _ [40, 25, 182, 183] (by decide +kernel) (by decide +kernel)
set_option maxRecDepth 20000 in
theorem gX6_renew_X3_size : GoodIn wsX6_renew (wsV RX6 100 RX3 yX3_size wsX3_size) := goodIn_app (goodIn_of _ (by decide +kernel)) ggX6_renew_X3_size
set_option maxRecDepth 20000 in
theorem ggX6_renew_X3_add : GoodIn wsX6_renew wsX3_add := goodIn_r _ [48, 25, 49, 182, 183] (by decide +kernel) (by decide +kernel)
set_option maxRecDepth 20000 in
theorem gX6_renew_X3_add : GoodIn wsX6_renew (wsV RX6 103 RX3 yX3_add wsX3_add) := goodIn_app (goodIn_of _ (by decide +kernel)) ggX6_renew_X3_add
set_option maxRecDepth 20000 in
theorem ggX6_renew_X6_addUses : GoodIn wsX6_renew wsX6_addUses := goodIn_r _ [156, 5, 150, 38, 39, 23, 40, 25, 108, 60, 61, 62, 49, 157, 158, 159, 160, 125, 161, 147, 148, 149, 162, 163, 164, 165, 166, 167, 168, 182, 183] (by decide +kernel) (by decide +kernel)
set_option maxRecDepth 20000 in
theorem gX6_renew_X6_addUses : GoodIn wsX6_renew (wsV RX6 105 RX6 yX6_addUses wsX6_addUses) := goodIn_app (goodIn_of _ (by decide +kernel)) ggX6_renew_X6_addUses
theorem dX6_renew_0 : decode cX6_renew 0 = .ok (.aload_n 0, 1) := by decide +kernel
theorem dX6_renew_1 : decode cX6_renew 1 = .ok (.getfield 14, 3) := by decide +kernel
theorem dX6_renew_4 : decode cX6_renew 4 = .ok (.invokevirtual 48, 3) := by decide +kernel
theorem dX6_renew_7 : decode cX6_renew 7 = .ok (.aload_n 0, 1) := by decide +kernel
theorem dX6_renew_8 : decode cX6_renew 8 = .ok (.getfield 20, 3) := by decide +kernel
theorem dX6_renew_11 : decode cX6_renew 11 = .ok (.invokevirtual 48, 3) := by decide +kernel
theorem dX6_renew_14 : decode cX6_renew 14 = .ok (.aload_n 0, 1) := by decide +kernel
theorem dX6_renew_15 : decode cX6_renew 15 = .ok (.getfield 23, 3) := by decide +kernel
theorem dX6_renew_18 : decode cX6_renew 18 = .ok (.invokevirtual 48, 3) := by decide +kernel
theorem dX6_renew_21 : decode cX6_renew 21 = .ok (.aload_n 0, 1) := by decide +kernel
theorem dX6_renew_22 : decode cX6_renew 22 = .ok (.getfield 31, 3) := by decide +kernel
theorem dX6_renew_25 : decode cX6_renew 25 = .ok (.invokevirtual 51, 3) := by decide +kernel
theorem dX6_renew_28 : decode cX6_renew 28 = .ok (.aload_n 0, 1) := by decide +kernel
theorem dX6_renew_29 : decode cX6_renew 29 = .ok (.getfield 35, 3) := by decide +kernel
theorem dX6_renew_32 : decode cX6_renew 32 = .ok (.invokevirtual 51, 3) := by decide +kernel
theorem dX6_renew_35 : decode cX6_renew 35 = .ok (.aload_n 0, 1) := by decide +kernel
theorem dX6_renew_36 : decode cX6_renew 36 = .ok (.getfield 35, 3) := by decide +kernel
theorem dX6_renew_39 : decode cX6_renew 39 = .ok (.iconst 0, 1) := by decide +kernel
theorem dX6_renew_40 : decode cX6_renew 40 = .ok (.aload_n 1, 1) := by decide +kernel
theorem dX6_renew_41 : decode cX6_renew 41 = .ok (.invokevirtual 52, 3) := by decide +kernel
theorem dX6_renew_44 : decode cX6_renew 44 = .ok (.invokevirtual 58, 3) := by decide +kernel
theorem dX6_renew_47 : decode cX6_renew 47 = .ok (.iconst 0, 1) := by decide +kernel
theorem dX6_renew_48 : decode cX6_renew 48 = .ok (.istore_n 2, 1) := by decide +kernel
theorem dX6_renew_49 : decode cX6_renew 49 = .ok (.iload_n 2, 1) := by decide +kernel
theorem dX6_renew_50 : decode cX6_renew 50 = .ok (.aload_n 1, 1) := by decide +kernel
theorem dX6_renew_51 : decode cX6_renew 51 = .ok (.invokevirtual 61, 3) := by decide +kernel
theorem dX6_renew_54 : decode cX6_renew 54 = .ok (.if_icmp .ge 123, 3) := by decide +kernel
theorem dX6_renew_57 : decode cX6_renew 57 = .ok (.aload_n 1, 1) := by decide +kernel
theorem dX6_renew_58 : decode cX6_renew 58 = .ok (.getfield 64, 3) := by decide +kernel
theorem dX6_renew_61 : decode cX6_renew 61 = .ok (.iload_n 2, 1) := by decide +kernel
theorem dX6_renew_62 : decode cX6_renew 62 = .ok (.aload_n 0, 1) := by decide +kernel
theorem dX6_renew_63 : decode cX6_renew 63 = .ok (.getfield 45, 3) := by decide +kernel
theorem dX6_renew_66 : decode cX6_renew 66 = .ok (.invokevirtual 67, 3) := by decide +kernel
theorem dX6_renew_69 : decode cX6_renew 69 = .ok (.aload_n 0, 1) := by decide +kernel
theorem dX6_renew_70 : decode cX6_renew 70 = .ok (.getfield 41, 3) := by decide +kernel
theorem dX6_renew_73 : decode cX6_renew 73 = .ok (.aload_n 1, 1) := by decide +kernel
theorem dX6_renew_74 : decode cX6_renew 74 = .ok (.aload_n 0, 1) := by decide +kernel
theorem dX6_renew_75 : decode cX6_renew 75 = .ok (.getfield 45, 3) := by decide +kernel
theorem dX6_renew_78 : decode cX6_renew 78 = .ok (.invokevirtual 71, 3) := by decide +kernel
theorem dX6_renew_81 : decode cX6_renew 81 = .ok (.aload_n 0, 1) := by decide +kernel
theorem dX6_renew_82 : decode cX6_renew 82 = .ok (.getfield 41, 3) := by decide +kernel
theorem dX6_renew_85 : decode cX6_renew 85 = .ok (.aload_n 1, 1) := by decide +kernel
theorem dX6_renew_86 : decode cX6_renew 86 = .ok (.aload_n 0, 1) := by decide +kernel
theorem dX6_renew_87 : decode cX6_renew 87 = .ok (.getfield 45, 3) := by decide +kernel
theorem dX6_renew_90 : decode cX6_renew 90 = .ok (.aload_n 1, 1) := by decide +kernel
theorem dX6_renew_91 : decode cX6_renew 91 = .ok (.getfield 75, 3) := by decide +kernel
theorem dX6_renew_94 : decode cX6_renew 94 = .ok (.iload_n 2, 1) := by decide +kernel
theorem dX6_renew_95 : decode cX6_renew 95 = .ok (.invokevirtual 78, 3) := by decide +kernel
theorem dX6_renew_98 : decode cX6_renew 98 = .ok (.invokevirtual 82, 3) := by decide +kernel
theorem dX6_renew_101 : decode cX6_renew 101 = .ok (.aload_n 0, 1) := by decide +kernel
theorem dX6_renew_102 : decode cX6_renew 102 = .ok (.getfield 14, 3) := by decide +kernel
theorem dX6_renew_105 : decode cX6_renew 105 = .ok (.aload_n 0, 1) := by decide +kernel
theorem dX6_renew_106 : decode cX6_renew 106 = .ok (.getfield 41, 3) := by decide +kernel
theorem dX6_renew_109 : decode cX6_renew 109 = .ok (.getfield 86, 3) := by decide +kernel
theorem dX6_renew_112 : decode cX6_renew 112 = .ok (.invokevirtual 88, 3) := by decide +kernel
theorem dX6_renew_115 : decode cX6_renew 115 = .ok (.aload_n 0, 1) := by decide +kernel
theorem dX6_renew_116 : decode cX6_renew 116 = .ok (.getfield 20, 3) := by decide +kernel
theorem dX6_renew_119 : decode cX6_renew 119 = .ok (.aload_n 0, 1) := by decide +kernel
theorem dX6_renew_120 : decode cX6_renew 120 = .ok (.getfield 41, 3) := by decide +kernel
theorem dX6_renew_123 : decode cX6_renew 123 = .ok (.getfield 92, 3) := by decide +kernel
theorem dX6_renew_126 : decode cX6_renew 126 = .ok (.invokevirtual 88, 3) := by decide +kernel
theorem dX6_renew_129 : decode cX6_renew 129 = .ok (.aload_n 0, 1) := by decide +kernel
theorem dX6_renew_130 : decode cX6_renew 130 = .ok (.getfield 23, 3) := by decide +kernel
theorem dX6_renew_133 : decode cX6_renew 133 = .ok (.aload_n 0, 1) := by decide +kernel
theorem dX6_renew_134 : decode cX6_renew 134 = .ok (.getfield 41, 3) := by decide +kernel
theorem dX6_renew_137 : decode cX6_renew 137 = .ok (.getfield 94, 3) := by decide +kernel
theorem dX6_renew_140 : decode cX6_renew 140 = .ok (.invokevirtual 88, 3) := by decide +kernel
theorem dX6_renew_143 : decode cX6_renew 143 = .ok (.aload_n 0, 1) := by decide +kernel
theorem dX6_renew_144 : decode cX6_renew 144 = .ok (.getfield 31, 3) := by decide +kernel
theorem dX6_renew_147 : decode cX6_renew 147 = .ok (.aload_n 0, 1) := by decide +kernel
theorem dX6_renew_148 : decode cX6_renew 148 = .ok (.getfield 41, 3) := by decide +kernel
theorem dX6_renew_151 : decode cX6_renew 151 = .ok (.getfield 97, 3) := by decide +kernel
theorem dX6_renew_154 : decode cX6_renew 154 = .ok (.invokevirtual 100, 3) := by decide +kernel
theorem dX6_renew_157 : decode cX6_renew 157 = .ok (.invokevirtual 103, 3) := by decide +kernel
theorem dX6_renew_160 : decode cX6_renew 160 = .ok (.aload_n 0, 1) := by decide +kernel
theorem dX6_renew_161 : decode cX6_renew 161 = .ok (.aload_n 0, 1) := by decide +kernel
theorem dX6_renew_162 : decode cX6_renew 162 = .ok (.getfield 41, 3) := by decide +kernel
theorem dX6_renew_165 : decode cX6_renew 165 = .ok (.getfield 97, 3) := by decide +kernel
theorem dX6_renew_168 : decode cX6_renew 168 = .ok (.invokevirtual 105, 3) := by decide +kernel
theorem dX6_renew_171 : decode cX6_renew 171 = .ok (.iinc 2 1, 3) := by decide +kernel
theorem dX6_renew_174 : decode cX6_renew 174 = .ok (.goto (-125), 3) := by decide +kernel
theorem dX6_renew_177 : decode cX6_renew 177 = .ok (.return_, 1) := by decide +kernel
set_option maxRecDepth 20000 in
theorem ggX6_addUses_X3_size : GoodIn wsX6_addUses wsX3_size := goodIn_r _ [6, 7, 29, 30] (by decide +kernel) (by decide +kernel)
set_option maxRecDepth 20000 in
theorem gX6_addUses_X3_size : GoodIn wsX6_addUses (wsV RX6 100 RX3 yX3_size wsX3_size) := goodIn_app (goodIn_of _ (by decide +kernel)) ggX6_addUses_X3_size
set_option maxRecDepth 20000 in
theorem ggX6_addUses_X3_get : GoodIn wsX6_addUses wsX3_get := goodIn_r _ [11, 7, 12, 29, 30] (by decide +kernel) (by decide +kernel)
set_option maxRecDepth 20000 in
theorem gX6_addUses_X3_get : GoodIn wsX6_addUses (wsV RX6 78 RX3 yX3_get wsX3_get) := goodIn_app (goodIn_of _ (by decide +kernel)) ggX6_addUses_X3_get
set_option maxRecDepth 20000 in
theorem ggX6_addUses_X3_increase : GoodIn wsX6_addUses wsX3_increase := goodIn_r _ [16, 17, 9, 10, 5, 11, 7, 12, 18, 19, 20, 21, 29, 30] (by decide +kernel) (by decide +kernel)
set_option maxRecDepth 20000 in
theorem gX6_addUses_X3_increase : GoodIn wsX6_addUses (wsV RX6 108 RX3 yX3_increase wsX3_increase) := goodIn_app (goodIn_of _ (by decide +kernel)) ggX6_addUses_X3_increase
theorem dX6_addUses_0 : decode cX6_addUses 0 = .ok (.iconst 0, 1) := by decide +kernel
theorem dX6_addUses_1 : decode cX6_addUses 1 = .ok (.istore_n 2, 1) := by decide +kernel
theorem dX6_addUses_2 : decode cX6_addUses 2 = .ok (.iload_n 2, 1) := by decide +kernel
theorem dX6_addUses_3 : decode cX6_addUses 3 = .ok (.aload_n 1, 1) := by decide +kernel
theorem dX6_addUses_4 : decode cX6_addUses 4 = .ok (.invokevirtual 100, 3) := by decide +kernel
theorem dX6_addUses_7 : decode cX6_addUses 7 = .ok (.if_icmp .ge 21, 3) := by decide +kernel
theorem dX6_addUses_10 : decode cX6_addUses 10 = .ok (.aload_n 0, 1) := by decide +kernel
theorem dX6_addUses_11 : decode cX6_addUses 11 = .ok (.getfield 35, 3) := by decide +kernel
theorem dX6_addUses_14 : decode cX6_addUses 14 = .ok (.aload_n 1, 1) := by decide +kernel
theorem dX6_addUses_15 : decode cX6_addUses 15 = .ok (.iload_n 2, 1) := by decide +kernel
theorem dX6_addUses_16 : decode cX6_addUses 16 = .ok (.invokevirtual 78, 3) := by decide +kernel
theorem dX6_addUses_19 : decode cX6_addUses 19 = .ok (.invokevirtual 108, 3) := by decide +kernel
theorem dX6_addUses_22 : decode cX6_addUses 22 = .ok (.iinc 2 1, 3) := by decide +kernel
theorem dX6_addUses_25 : decode cX6_addUses 25 = .ok (.goto (-23), 3) := by decide +kernel
theorem dX6_addUses_28 : decode cX6_addUses 28 = .ok (.return_, 1) := by decide +kernel
set_option maxRecDepth 20000 in
theorem ggX6_comesBack_X4_lowestLike : GoodIn wsX6_comesBack wsX4_lowestLike := goodIn_r _ [6, 7, 8, 9, 5, 10, 11, 12, 13, 14, 15, 16, 17, 18, 19, 20, 21, 22, 23, 24, 32, 33, 34, 35, 36] (by decide +kernel) (by decide +kernel)
set_option maxRecDepth 20000 in
theorem gX6_comesBack_X4_lowestLike : GoodIn wsX6_comesBack (wsV RX6 111 RX4 yX4_lowestLike wsX4_lowestLike) := goodIn_app (goodIn_of _ (by decide +kernel)) ggX6_comesBack_X4_lowestLike
theorem dX6_comesBack_0 : decode cX6_comesBack 0 = .ok (.aload_n 0, 1) := by decide +kernel
theorem dX6_comesBack_1 : decode cX6_comesBack 1 = .ok (.getfield 23, 3) := by decide +kernel
theorem dX6_comesBack_4 : decode cX6_comesBack 4 = .ok (.iload_n 1, 1) := by decide +kernel
theorem dX6_comesBack_5 : decode cX6_comesBack 5 = .ok (.invokevirtual 111, 3) := by decide +kernel
theorem dX6_comesBack_8 : decode cX6_comesBack 8 = .ok (.iload_n 1, 1) := by decide +kernel
theorem dX6_comesBack_9 : decode cX6_comesBack 9 = .ok (.if_icmp .ne 7, 3) := by decide +kernel
theorem dX6_comesBack_12 : decode cX6_comesBack 12 = .ok (.iconst 1, 1) := by decide +kernel
theorem dX6_comesBack_13 : decode cX6_comesBack 13 = .ok (.goto 4, 3) := by decide +kernel
theorem dX6_comesBack_16 : decode cX6_comesBack 16 = .ok (.iconst 0, 1) := by decide +kernel
theorem dX6_comesBack_17 : decode cX6_comesBack 17 = .ok (.ireturn, 1) := by decide +kernel
set_option maxRecDepth 20000 in
theorem ggX6_comingBack_X4_lines : GoodIn wsX6_comingBack wsX4_lines := goodIn_r _ [6, 7, 8, 9, 10, 11, 12, 13, 45, 46, 47, 48, 49] (by decide +kernel) (by decide +kernel)
set_option maxRecDepth 20000 in
theorem gX6_comingBack_X4_lines : GoodIn wsX6_comingBack (wsV RX6 114 RX4 yX4_lines wsX4_lines) := goodIn_app (goodIn_of _ (by decide +kernel)) ggX6_comingBack_X4_lines
set_option maxRecDepth 20000 in
theorem ggX6_comingBack_X6_comesBack : GoodIn wsX6_comingBack wsX6_comesBack := goodIn_r _ [18, 1, 19, 20, 21, 5, 22, 23, 24, 25, 26, 7, 27, 28, 29, 11, 30, 13, 31, 32, 33, 34, 35, 36, 37, 38, 39, 40, 41, 42, 43, 44, 45, 46, 47, 48, 49] (by decide +kernel) (by decide +kernel)
set_option maxRecDepth 20000 in
theorem gX6_comingBack_X6_comesBack : GoodIn wsX6_comingBack (wsV RX6 117 RX6 yX6_comesBack wsX6_comesBack) := goodIn_app (goodIn_of _ (by decide +kernel)) ggX6_comingBack_X6_comesBack
theorem dX6_comingBack_0 : decode cX6_comingBack 0 = .ok (.iconst 0, 1) := by decide +kernel
theorem dX6_comingBack_1 : decode cX6_comingBack 1 = .ok (.istore_n 1, 1) := by decide +kernel
theorem dX6_comingBack_2 : decode cX6_comingBack 2 = .ok (.iconst 0, 1) := by decide +kernel
theorem dX6_comingBack_3 : decode cX6_comingBack 3 = .ok (.istore_n 2, 1) := by decide +kernel
theorem dX6_comingBack_4 : decode cX6_comingBack 4 = .ok (.iload_n 2, 1) := by decide +kernel
theorem dX6_comingBack_5 : decode cX6_comingBack 5 = .ok (.aload_n 0, 1) := by decide +kernel
theorem dX6_comingBack_6 : decode cX6_comingBack 6 = .ok (.getfield 23, 3) := by decide +kernel
theorem dX6_comingBack_9 : decode cX6_comingBack 9 = .ok (.invokevirtual 114, 3) := by decide +kernel
theorem dX6_comingBack_12 : decode cX6_comingBack 12 = .ok (.if_icmp .ge 20, 3) := by decide +kernel
theorem dX6_comingBack_15 : decode cX6_comingBack 15 = .ok (.aload_n 0, 1) := by decide +kernel
theorem dX6_comingBack_16 : decode cX6_comingBack 16 = .ok (.iload_n 2, 1) := by decide +kernel
theorem dX6_comingBack_17 : decode cX6_comingBack 17 = .ok (.invokevirtual 117, 3) := by decide +kernel
theorem dX6_comingBack_20 : decode cX6_comingBack 20 = .ok (.ifCond .eq 6, 3) := by decide +kernel
theorem dX6_comingBack_23 : decode cX6_comingBack 23 = .ok (.iinc 1 1, 3) := by decide +kernel
theorem dX6_comingBack_26 : decode cX6_comingBack 26 = .ok (.iinc 2 1, 3) := by decide +kernel
theorem dX6_comingBack_29 : decode cX6_comingBack 29 = .ok (.goto (-25), 3) := by decide +kernel
theorem dX6_comingBack_32 : decode cX6_comingBack 32 = .ok (.iload_n 1, 1) := by decide +kernel
theorem dX6_comingBack_33 : decode cX6_comingBack 33 = .ok (.ireturn, 1) := by decide +kernel
set_option maxRecDepth 20000 in
theorem ggX6_collisions_X4_lines : GoodIn wsX6_collisions wsX4_lines := goodIn_r _ [6, 7, 8, 9, 10, 11, 12, 13, 40, 41, 42, 43, 44] (by decide +kernel) (by decide +kernel)
set_option maxRecDepth 20000 in
theorem gX6_collisions_X4_lines : GoodIn wsX6_collisions (wsV RX6 114 RX4 yX4_lines wsX4_lines) := goodIn_app (goodIn_of _ (by decide +kernel)) ggX6_collisions_X4_lines
set_option maxRecDepth 20000 in
theorem ggX6_collisions_X4_countLike : GoodIn wsX6_collisions wsX4_countLike := goodIn_r _ [17, 7, 8, 9, 10, 11, 12, 13, 18, 19, 20, 5, 21, 22, 23, 24, 25, 26, 27, 28, 29, 30, 31, 32, 40, 41, 42, 43, 44] (by decide +kernel) (by decide +kernel)
set_option maxRecDepth 20000 in
theorem gX6_collisions_X4_countLike : GoodIn wsX6_collisions (wsV RX6 121 RX4 yX4_countLike wsX4_countLike) := goodIn_app (goodIn_of _ (by decide +kernel)) ggX6_collisions_X4_countLike
theorem dX6_collisions_0 : decode cX6_collisions 0 = .ok (.iconst 0, 1) := by decide +kernel
theorem dX6_collisions_1 : decode cX6_collisions 1 = .ok (.istore_n 1, 1) := by decide +kernel
theorem dX6_collisions_2 : decode cX6_collisions 2 = .ok (.iconst 0, 1) := by decide +kernel
theorem dX6_collisions_3 : decode cX6_collisions 3 = .ok (.istore_n 2, 1) := by decide +kernel
theorem dX6_collisions_4 : decode cX6_collisions 4 = .ok (.iload_n 2, 1) := by decide +kernel
theorem dX6_collisions_5 : decode cX6_collisions 5 = .ok (.aload_n 0, 1) := by decide +kernel
theorem dX6_collisions_6 : decode cX6_collisions 6 = .ok (.getfield 23, 3) := by decide +kernel
theorem dX6_collisions_9 : decode cX6_collisions 9 = .ok (.invokevirtual 114, 3) := by decide +kernel
theorem dX6_collisions_12 : decode cX6_collisions 12 = .ok (.if_icmp .ge 24, 3) := by decide +kernel
theorem dX6_collisions_15 : decode cX6_collisions 15 = .ok (.aload_n 0, 1) := by decide +kernel
theorem dX6_collisions_16 : decode cX6_collisions 16 = .ok (.getfield 23, 3) := by decide +kernel
theorem dX6_collisions_19 : decode cX6_collisions 19 = .ok (.iload_n 2, 1) := by decide +kernel
theorem dX6_collisions_20 : decode cX6_collisions 20 = .ok (.invokevirtual 121, 3) := by decide +kernel
theorem dX6_collisions_23 : decode cX6_collisions 23 = .ok (.iconst 1, 1) := by decide +kernel
theorem dX6_collisions_24 : decode cX6_collisions 24 = .ok (.if_icmp .le 6, 3) := by decide +kernel
theorem dX6_collisions_27 : decode cX6_collisions 27 = .ok (.iinc 1 1, 3) := by decide +kernel
theorem dX6_collisions_30 : decode cX6_collisions 30 = .ok (.iinc 2 1, 3) := by decide +kernel
theorem dX6_collisions_33 : decode cX6_collisions 33 = .ok (.goto (-29), 3) := by decide +kernel
theorem dX6_collisions_36 : decode cX6_collisions 36 = .ok (.iload_n 1, 1) := by decide +kernel
theorem dX6_collisions_37 : decode cX6_collisions 37 = .ok (.ireturn, 1) := by decide +kernel
set_option maxRecDepth 20000 in
theorem ggX6_unusedRules_X3_size : GoodIn wsX6_unusedRules wsX3_size := goodIn_r _ [6, 7, 20, 21] (by decide +kernel) (by decide +kernel)
set_option maxRecDepth 20000 in
theorem gX6_unusedRules_X3_size : GoodIn wsX6_unusedRules (wsV RX6 100 RX3 yX3_size wsX3_size) := goodIn_app (goodIn_of _ (by decide +kernel)) ggX6_unusedRules_X3_size
set_option maxRecDepth 20000 in
theorem ggX6_unusedRules_X3_get : GoodIn wsX6_unusedRules wsX3_get := goodIn_r _ [11, 7, 12, 20, 21] (by decide +kernel) (by decide +kernel)
set_option maxRecDepth 20000 in
theorem gX6_unusedRules_X3_get : GoodIn wsX6_unusedRules (wsV RX6 78 RX3 yX3_get wsX3_get) := goodIn_app (goodIn_of _ (by decide +kernel)) ggX6_unusedRules_X3_get
theorem dX6_unusedRules_0 : decode cX6_unusedRules 0 = .ok (.iconst 0, 1) := by decide +kernel
theorem dX6_unusedRules_1 : decode cX6_unusedRules 1 = .ok (.istore_n 1, 1) := by decide +kernel
theorem dX6_unusedRules_2 : decode cX6_unusedRules 2 = .ok (.iconst 0, 1) := by decide +kernel
theorem dX6_unusedRules_3 : decode cX6_unusedRules 3 = .ok (.istore_n 2, 1) := by decide +kernel
theorem dX6_unusedRules_4 : decode cX6_unusedRules 4 = .ok (.iload_n 2, 1) := by decide +kernel
theorem dX6_unusedRules_5 : decode cX6_unusedRules 5 = .ok (.aload_n 0, 1) := by decide +kernel
theorem dX6_unusedRules_6 : decode cX6_unusedRules 6 = .ok (.getfield 35, 3) := by decide +kernel
theorem dX6_unusedRules_9 : decode cX6_unusedRules 9 = .ok (.invokevirtual 100, 3) := by decide +kernel
theorem dX6_unusedRules_12 : decode cX6_unusedRules 12 = .ok (.if_icmp .ge 23, 3) := by decide +kernel
theorem dX6_unusedRules_15 : decode cX6_unusedRules 15 = .ok (.aload_n 0, 1) := by decide +kernel
theorem dX6_unusedRules_16 : decode cX6_unusedRules 16 = .ok (.getfield 35, 3) := by decide +kernel
theorem dX6_unusedRules_19 : decode cX6_unusedRules 19 = .ok (.iload_n 2, 1) := by decide +kernel
theorem dX6_unusedRules_20 : decode cX6_unusedRules 20 = .ok (.invokevirtual 78, 3) := by decide +kernel
theorem dX6_unusedRules_23 : decode cX6_unusedRules 23 = .ok (.ifCond .ne 6, 3) := by decide +kernel
theorem dX6_unusedRules_26 : decode cX6_unusedRules 26 = .ok (.iinc 1 1, 3) := by decide +kernel
theorem dX6_unusedRules_29 : decode cX6_unusedRules 29 = .ok (.iinc 2 1, 3) := by decide +kernel
theorem dX6_unusedRules_32 : decode cX6_unusedRules 32 = .ok (.goto (-28), 3) := by decide +kernel
theorem dX6_unusedRules_35 : decode cX6_unusedRules 35 = .ok (.iload_n 1, 1) := by decide +kernel
theorem dX6_unusedRules_36 : decode cX6_unusedRules 36 = .ok (.ireturn, 1) := by decide +kernel
set_option maxRecDepth 20000 in
theorem ggX6_differences_X4_lines : GoodIn wsX6_differences wsX4_lines := goodIn_r _ [6, 7, 8, 9, 10, 11, 12, 13, 36, 37, 38, 39, 40] (by decide +kernel) (by decide +kernel)
set_option maxRecDepth 20000 in
theorem gX6_differences_X4_lines : GoodIn wsX6_differences (wsV RX6 114 RX4 yX4_lines wsX4_lines) := goodIn_app (goodIn_of _ (by decide +kernel)) ggX6_differences_X4_lines
set_option maxRecDepth 20000 in
theorem ggX6_differences_X4_isLike_ : GoodIn wsX6_differences wsX4_isLike_ := goodIn_r _ [17, 7, 18, 19, 20, 11, 21, 13, 22, 23, 24, 25, 5, 26, 27, 28, 36, 37, 38, 39, 40] (by decide +kernel) (by decide +kernel)
set_option maxRecDepth 20000 in
theorem gX6_differences_X4_isLike_ : GoodIn wsX6_differences (wsV RX6 124 RX4 yX4_isLike_ wsX4_isLike_) := goodIn_app (goodIn_of _ (by decide +kernel)) ggX6_differences_X4_isLike_
theorem dX6_differences_0 : decode cX6_differences 0 = .ok (.iconst 0, 1) := by decide +kernel
theorem dX6_differences_1 : decode cX6_differences 1 = .ok (.istore_n 2, 1) := by decide +kernel
theorem dX6_differences_2 : decode cX6_differences 2 = .ok (.iconst 0, 1) := by decide +kernel
theorem dX6_differences_3 : decode cX6_differences 3 = .ok (.istore_n 3, 1) := by decide +kernel
theorem dX6_differences_4 : decode cX6_differences 4 = .ok (.iload_n 3, 1) := by decide +kernel
theorem dX6_differences_5 : decode cX6_differences 5 = .ok (.aload_n 0, 1) := by decide +kernel
theorem dX6_differences_6 : decode cX6_differences 6 = .ok (.getfield 23, 3) := by decide +kernel
theorem dX6_differences_9 : decode cX6_differences 9 = .ok (.invokevirtual 114, 3) := by decide +kernel
theorem dX6_differences_12 : decode cX6_differences 12 = .ok (.if_icmp .ge 28, 3) := by decide +kernel
theorem dX6_differences_15 : decode cX6_differences 15 = .ok (.aload_n 0, 1) := by decide +kernel
theorem dX6_differences_16 : decode cX6_differences 16 = .ok (.getfield 23, 3) := by decide +kernel
theorem dX6_differences_19 : decode cX6_differences 19 = .ok (.iload_n 3, 1) := by decide +kernel
theorem dX6_differences_20 : decode cX6_differences 20 = .ok (.aload_n 1, 1) := by decide +kernel
theorem dX6_differences_21 : decode cX6_differences 21 = .ok (.getfield 23, 3) := by decide +kernel
theorem dX6_differences_24 : decode cX6_differences 24 = .ok (.iload_n 3, 1) := by decide +kernel
theorem dX6_differences_25 : decode cX6_differences 25 = .ok (.invokevirtual 124, 3) := by decide +kernel
theorem dX6_differences_28 : decode cX6_differences 28 = .ok (.ifCond .ne 6, 3) := by decide +kernel
theorem dX6_differences_31 : decode cX6_differences 31 = .ok (.iinc 2 1, 3) := by decide +kernel
theorem dX6_differences_34 : decode cX6_differences 34 = .ok (.iinc 3 1, 3) := by decide +kernel
theorem dX6_differences_37 : decode cX6_differences 37 = .ok (.goto (-33), 3) := by decide +kernel
theorem dX6_differences_40 : decode cX6_differences 40 = .ok (.iload_n 2, 1) := by decide +kernel
theorem dX6_differences_41 : decode cX6_differences 41 = .ok (.ireturn, 1) := by decide +kernel
