set_option maxRecDepth 20000 in
theorem ggX0_init_X4_init : GoodIn wsX0_init wsX4_init := goodIn_r _ [18, 19, 2, 3, 20, 21, 9, 10, 22, 23, 24, 25, 26, 27, 28, 29, 30, 31, 32, 33, 34, 35, 36, 37, 38, 39, 40, 41, 42, 81, 82, 83, 90, 91] (by decide +kernel) (by decide +kernel)
set_option maxRecDepth 20000 in
theorem gX0_init_X4_init : GoodIn wsX0_init (wsX4_init) := ggX0_init_X4_init
set_option maxRecDepth 20000 in
theorem ggX0_init_X3_init : GoodIn wsX0_init wsX3_init := goodIn_r _ [26, 27, 2, 3, 28, 29, 30, 31, 32, 33, 90, 91] (by decide +kernel) (by decide +kernel)
set_option maxRecDepth 20000 in
theorem gX0_init_X3_init : GoodIn wsX0_init (wsX3_init) := ggX0_init_X3_init
set_option maxRecDepth 20000 in
theorem ggX0_init_X3_clear : GoodIn wsX0_init wsX3_clear := goodIn_r _ [47, 42, 90, 91] (by decide +kernel) (by decide +kernel)
set_option maxRecDepth 20000 in
theorem gX0_init_X3_clear : GoodIn wsX0_init (wsV RX0 41 RX3 yX3_clear wsX3_clear) := goodIn_app (goodIn_of _ (by decide +kernel)) ggX0_init_X3_clear
set_option maxRecDepth 20000 in
theorem ggX0_init_X3_add : GoodIn wsX0_init wsX3_add := goodIn_r _ [41, 42, 33, 90, 91] (by decide +kernel) (by decide +kernel)
set_option maxRecDepth 20000 in
theorem gX0_init_X3_add : GoodIn wsX0_init (wsV RX0 44 RX3 yX3_add wsX3_add) := goodIn_app (goodIn_of _ (by decide +kernel)) ggX0_init_X3_add
set_option maxRecDepth 20000 in
theorem ggX0_init_X4_add : GoodIn wsX0_init wsX4_add := goodIn_r _ [52, 23, 53, 54, 55, 10, 56, 42, 33, 57, 39, 40, 41, 58, 59, 60, 61, 62, 63, 64, 6, 65, 20, 66, 67, 30, 68, 22, 69, 70, 71, 72, 73, 74, 75, 76, 77, 78, 79, 80, 81, 82, 83, 90, 91] (by decide +kernel) (by decide +kernel)
set_option maxRecDepth 20000 in
theorem gX0_init_X4_add : GoodIn wsX0_init (wsV RX0 47 RX4 yX4_add wsX4_add) := goodIn_app (goodIn_of _ (by decide +kernel)) ggX0_init_X4_add
theorem dX0_init_0 : decode cX0_init 0 = .ok (.aload_n 0, 1) := by decide +kernel
theorem dX0_init_1 : decode cX0_init 1 = .ok (.invokespecial 3, 3) := by decide +kernel
theorem dX0_init_4 : decode cX0_init 4 = .ok (.aload_n 0, 1) := by decide +kernel
theorem dX0_init_5 : decode cX0_init 5 = .ok (.new 9, 3) := by decide +kernel
theorem dX0_init_8 : decode cX0_init 8 = .ok (.dup, 1) := by decide +kernel
theorem dX0_init_9 : decode cX0_init 9 = .ok (.iload_n 1, 1) := by decide +kernel
theorem dX0_init_10 : decode cX0_init 10 = .ok (.iconst 4, 1) := by decide +kernel
theorem dX0_init_11 : decode cX0_init 11 = .ok (.invokespecial 11, 3) := by decide +kernel
theorem dX0_init_14 : decode cX0_init 14 = .ok (.putfield 14, 3) := by decide +kernel
theorem dX0_init_17 : decode cX0_init 17 = .ok (.aload_n 0, 1) := by decide +kernel
theorem dX0_init_18 : decode cX0_init 18 = .ok (.new 20, 3) := by decide +kernel
theorem dX0_init_21 : decode cX0_init 21 = .ok (.dup, 1) := by decide +kernel
theorem dX0_init_22 : decode cX0_init 22 = .ok (.iload_n 1, 1) := by decide +kernel
theorem dX0_init_23 : decode cX0_init 23 = .ok (.invokespecial 22, 3) := by decide +kernel
theorem dX0_init_26 : decode cX0_init 26 = .ok (.putfield 25, 3) := by decide +kernel
theorem dX0_init_29 : decode cX0_init 29 = .ok (.aload_n 0, 1) := by decide +kernel
theorem dX0_init_30 : decode cX0_init 30 = .ok (.new 20, 3) := by decide +kernel
theorem dX0_init_33 : decode cX0_init 33 = .ok (.dup, 1) := by decide +kernel
theorem dX0_init_34 : decode cX0_init 34 = .ok (.iload_n 1, 1) := by decide +kernel
theorem dX0_init_35 : decode cX0_init 35 = .ok (.invokespecial 22, 3) := by decide +kernel
theorem dX0_init_38 : decode cX0_init 38 = .ok (.putfield 29, 3) := by decide +kernel
theorem dX0_init_41 : decode cX0_init 41 = .ok (.aload_n 0, 1) := by decide +kernel
theorem dX0_init_42 : decode cX0_init 42 = .ok (.new 9, 3) := by decide +kernel
theorem dX0_init_45 : decode cX0_init 45 = .ok (.dup, 1) := by decide +kernel
theorem dX0_init_46 : decode cX0_init 46 = .ok (.bipush 26, 2) := by decide +kernel
theorem dX0_init_48 : decode cX0_init 48 = .ok (.iconst 2, 1) := by decide +kernel
theorem dX0_init_49 : decode cX0_init 49 = .ok (.invokespecial 11, 3) := by decide +kernel
theorem dX0_init_52 : decode cX0_init 52 = .ok (.putfield 32, 3) := by decide +kernel
theorem dX0_init_55 : decode cX0_init 55 = .ok (.aload_n 0, 1) := by decide +kernel
theorem dX0_init_56 : decode cX0_init 56 = .ok (.new 9, 3) := by decide +kernel
theorem dX0_init_59 : decode cX0_init 59 = .ok (.dup, 1) := by decide +kernel
theorem dX0_init_60 : decode cX0_init 60 = .ok (.iload_n 2, 1) := by decide +kernel
theorem dX0_init_61 : decode cX0_init 61 = .ok (.bipush 12, 2) := by decide +kernel
theorem dX0_init_63 : decode cX0_init 63 = .ok (.invokespecial 11, 3) := by decide +kernel
theorem dX0_init_66 : decode cX0_init 66 = .ok (.putfield 35, 3) := by decide +kernel
theorem dX0_init_69 : decode cX0_init 69 = .ok (.aload_n 0, 1) := by decide +kernel
theorem dX0_init_70 : decode cX0_init 70 = .ok (.new 20, 3) := by decide +kernel
theorem dX0_init_73 : decode cX0_init 73 = .ok (.dup, 1) := by decide +kernel
theorem dX0_init_74 : decode cX0_init 74 = .ok (.iload_n 2, 1) := by decide +kernel
theorem dX0_init_75 : decode cX0_init 75 = .ok (.invokespecial 22, 3) := by decide +kernel
theorem dX0_init_78 : decode cX0_init 78 = .ok (.putfield 38, 3) := by decide +kernel
theorem dX0_init_81 : decode cX0_init 81 = .ok (.new 20, 3) := by decide +kernel
theorem dX0_init_84 : decode cX0_init 84 = .ok (.dup, 1) := by decide +kernel
theorem dX0_init_85 : decode cX0_init 85 = .ok (.iconst 1, 1) := by decide +kernel
theorem dX0_init_86 : decode cX0_init 86 = .ok (.invokespecial 22, 3) := by decide +kernel
theorem dX0_init_89 : decode cX0_init 89 = .ok (.astore_n 3, 1) := by decide +kernel
theorem dX0_init_90 : decode cX0_init 90 = .ok (.iconst 0, 1) := by decide +kernel
theorem dX0_init_91 : decode cX0_init 91 = .ok (.istore 4, 2) := by decide +kernel
theorem dX0_init_93 : decode cX0_init 93 = .ok (.iload 4, 2) := by decide +kernel
theorem dX0_init_95 : decode cX0_init 95 = .ok (.bipush 26, 2) := by decide +kernel
theorem dX0_init_97 : decode cX0_init 97 = .ok (.if_icmp .ge 30, 3) := by decide +kernel
theorem dX0_init_100 : decode cX0_init 100 = .ok (.aload_n 3, 1) := by decide +kernel
theorem dX0_init_101 : decode cX0_init 101 = .ok (.invokevirtual 41, 3) := by decide +kernel
theorem dX0_init_104 : decode cX0_init 104 = .ok (.aload_n 3, 1) := by decide +kernel
theorem dX0_init_105 : decode cX0_init 105 = .ok (.bipush 97, 2) := by decide +kernel
theorem dX0_init_107 : decode cX0_init 107 = .ok (.iload 4, 2) := by decide +kernel
theorem dX0_init_109 : decode cX0_init 109 = .ok (.iadd, 1) := by decide +kernel
theorem dX0_init_110 : decode cX0_init 110 = .ok (.invokevirtual 44, 3) := by decide +kernel
theorem dX0_init_113 : decode cX0_init 113 = .ok (.aload_n 0, 1) := by decide +kernel
theorem dX0_init_114 : decode cX0_init 114 = .ok (.getfield 32, 3) := by decide +kernel
theorem dX0_init_117 : decode cX0_init 117 = .ok (.aload_n 3, 1) := by decide +kernel
theorem dX0_init_118 : decode cX0_init 118 = .ok (.invokevirtual 47, 3) := by decide +kernel
theorem dX0_init_121 : decode cX0_init 121 = .ok (.iinc 4 1, 3) := by decide +kernel
theorem dX0_init_124 : decode cX0_init 124 = .ok (.goto (-31), 3) := by decide +kernel
theorem dX0_init_127 : decode cX0_init 127 = .ok (.return_, 1) := by decide +kernel
set_option maxRecDepth 20000 in
theorem ggX0_copyFrom_X4_copyFrom : GoodIn wsX0_copyFrom wsX4_copyFrom := goodIn_r _ [11, 12, 13, 14, 15, 16, 17, 18, 19, 20, 21, 22, 23, 24, 25, 26, 27, 28, 29, 30, 31, 32, 33, 34, 35, 36, 37, 38, 39, 40, 41, 42, 43, 44, 45, 46, 54, 55, 56, 57, 58] (by decide +kernel) (by decide +kernel)
set_option maxRecDepth 20000 in
theorem gX0_copyFrom_X4_copyFrom : GoodIn wsX0_copyFrom (wsV RX0 50 RX4 yX4_copyFrom wsX4_copyFrom) := goodIn_app (goodIn_of _ (by decide +kernel)) ggX0_copyFrom_X4_copyFrom
set_option maxRecDepth 20000 in
theorem ggX0_copyFrom_X3_copyFrom : GoodIn wsX0_copyFrom wsX3_copyFrom := goodIn_r _ [19, 20, 21, 22, 18, 23, 24, 25, 26, 27, 28, 29, 30, 31, 32, 33, 34, 35, 36, 37, 57, 58] (by decide +kernel) (by decide +kernel)
set_option maxRecDepth 20000 in
theorem gX0_copyFrom_X3_copyFrom : GoodIn wsX0_copyFrom (wsV RX0 54 RX3 yX3_copyFrom wsX3_copyFrom) := goodIn_app (goodIn_of _ (by decide +kernel)) ggX0_copyFrom_X3_copyFrom
theorem dX0_copyFrom_0 : decode cX0_copyFrom 0 = .ok (.aload_n 0, 1) := by decide +kernel
theorem dX0_copyFrom_1 : decode cX0_copyFrom 1 = .ok (.getfield 14, 3) := by decide +kernel
theorem dX0_copyFrom_4 : decode cX0_copyFrom 4 = .ok (.aload_n 1, 1) := by decide +kernel
theorem dX0_copyFrom_5 : decode cX0_copyFrom 5 = .ok (.getfield 14, 3) := by decide +kernel
theorem dX0_copyFrom_8 : decode cX0_copyFrom 8 = .ok (.invokevirtual 50, 3) := by decide +kernel
theorem dX0_copyFrom_11 : decode cX0_copyFrom 11 = .ok (.aload_n 0, 1) := by decide +kernel
theorem dX0_copyFrom_12 : decode cX0_copyFrom 12 = .ok (.getfield 25, 3) := by decide +kernel
theorem dX0_copyFrom_15 : decode cX0_copyFrom 15 = .ok (.aload_n 1, 1) := by decide +kernel
theorem dX0_copyFrom_16 : decode cX0_copyFrom 16 = .ok (.getfield 25, 3) := by decide +kernel
theorem dX0_copyFrom_19 : decode cX0_copyFrom 19 = .ok (.invokevirtual 54, 3) := by decide +kernel
theorem dX0_copyFrom_22 : decode cX0_copyFrom 22 = .ok (.aload_n 0, 1) := by decide +kernel
theorem dX0_copyFrom_23 : decode cX0_copyFrom 23 = .ok (.getfield 29, 3) := by decide +kernel
theorem dX0_copyFrom_26 : decode cX0_copyFrom 26 = .ok (.aload_n 1, 1) := by decide +kernel
theorem dX0_copyFrom_27 : decode cX0_copyFrom 27 = .ok (.getfield 29, 3) := by decide +kernel
theorem dX0_copyFrom_30 : decode cX0_copyFrom 30 = .ok (.invokevirtual 54, 3) := by decide +kernel
theorem dX0_copyFrom_33 : decode cX0_copyFrom 33 = .ok (.aload_n 0, 1) := by decide +kernel
theorem dX0_copyFrom_34 : decode cX0_copyFrom 34 = .ok (.getfield 32, 3) := by decide +kernel
theorem dX0_copyFrom_37 : decode cX0_copyFrom 37 = .ok (.aload_n 1, 1) := by decide +kernel
theorem dX0_copyFrom_38 : decode cX0_copyFrom 38 = .ok (.getfield 32, 3) := by decide +kernel
theorem dX0_copyFrom_41 : decode cX0_copyFrom 41 = .ok (.invokevirtual 50, 3) := by decide +kernel
theorem dX0_copyFrom_44 : decode cX0_copyFrom 44 = .ok (.aload_n 0, 1) := by decide +kernel
theorem dX0_copyFrom_45 : decode cX0_copyFrom 45 = .ok (.getfield 35, 3) := by decide +kernel
theorem dX0_copyFrom_48 : decode cX0_copyFrom 48 = .ok (.aload_n 1, 1) := by decide +kernel
theorem dX0_copyFrom_49 : decode cX0_copyFrom 49 = .ok (.getfield 35, 3) := by decide +kernel
theorem dX0_copyFrom_52 : decode cX0_copyFrom 52 = .ok (.invokevirtual 50, 3) := by decide +kernel
theorem dX0_copyFrom_55 : decode cX0_copyFrom 55 = .ok (.aload_n 0, 1) := by decide +kernel
theorem dX0_copyFrom_56 : decode cX0_copyFrom 56 = .ok (.getfield 38, 3) := by decide +kernel
theorem dX0_copyFrom_59 : decode cX0_copyFrom 59 = .ok (.aload_n 1, 1) := by decide +kernel
theorem dX0_copyFrom_60 : decode cX0_copyFrom 60 = .ok (.getfield 38, 3) := by decide +kernel
theorem dX0_copyFrom_63 : decode cX0_copyFrom 63 = .ok (.invokevirtual 54, 3) := by decide +kernel
theorem dX0_copyFrom_66 : decode cX0_copyFrom 66 = .ok (.return_, 1) := by decide +kernel
set_option maxRecDepth 20000 in
theorem ggX0_rules_X4_lines : GoodIn wsX0_rules wsX4_lines := goodIn_r _ [6, 7, 8, 9, 10, 11, 12, 13, 20, 21, 22, 23, 24] (by decide +kernel) (by decide +kernel)
set_option maxRecDepth 20000 in
theorem gX0_rules_X4_lines : GoodIn wsX0_rules (wsV RX0 56 RX4 yX4_lines wsX4_lines) := goodIn_app (goodIn_of _ (by decide +kernel)) ggX0_rules_X4_lines
theorem dX0_rules_0 : decode cX0_rules 0 = .ok (.aload_n 0, 1) := by decide +kernel
theorem dX0_rules_1 : decode cX0_rules 1 = .ok (.getfield 14, 3) := by decide +kernel
theorem dX0_rules_4 : decode cX0_rules 4 = .ok (.invokevirtual 56, 3) := by decide +kernel
theorem dX0_rules_7 : decode cX0_rules 7 = .ok (.ireturn, 1) := by decide +kernel
set_option maxRecDepth 20000 in
theorem ggX0_words_X4_lines : GoodIn wsX0_words wsX4_lines := goodIn_r _ [6, 7, 8, 9, 10, 11, 12, 13, 20, 21, 22, 23, 24] (by decide +kernel) (by decide +kernel)
set_option maxRecDepth 20000 in
theorem gX0_words_X4_lines : GoodIn wsX0_words (wsV RX0 56 RX4 yX4_lines wsX4_lines) := goodIn_app (goodIn_of _ (by decide +kernel)) ggX0_words_X4_lines
theorem dX0_words_0 : decode cX0_words 0 = .ok (.aload_n 0, 1) := by decide +kernel
theorem dX0_words_1 : decode cX0_words 1 = .ok (.getfield 35, 3) := by decide +kernel
theorem dX0_words_4 : decode cX0_words 4 = .ok (.invokevirtual 56, 3) := by decide +kernel
theorem dX0_words_7 : decode cX0_words 7 = .ok (.ireturn, 1) := by decide +kernel
set_option maxRecDepth 20000 in
theorem ggX0_hasRule_X4_has : GoodIn wsX0_hasRule wsX4_has := goodIn_r _ [6, 7, 8, 9, 10, 11, 12, 13, 20, 21, 22, 23, 24] (by decide +kernel) (by decide +kernel)
set_option maxRecDepth 20000 in
theorem gX0_hasRule_X4_has : GoodIn wsX0_hasRule (wsV RX0 60 RX4 yX4_has wsX4_has) := goodIn_app (goodIn_of _ (by decide +kernel)) ggX0_hasRule_X4_has
theorem dX0_hasRule_0 : decode cX0_hasRule 0 = .ok (.aload_n 0, 1) := by decide +kernel
theorem dX0_hasRule_1 : decode cX0_hasRule 1 = .ok (.getfield 14, 3) := by decide +kernel
theorem dX0_hasRule_4 : decode cX0_hasRule 4 = .ok (.iload_n 1, 1) := by decide +kernel
theorem dX0_hasRule_5 : decode cX0_hasRule 5 = .ok (.invokevirtual 60, 3) := by decide +kernel
theorem dX0_hasRule_8 : decode cX0_hasRule 8 = .ok (.ireturn, 1) := by decide +kernel
set_option maxRecDepth 20000 in
theorem ggX0_hasWord_X4_has : GoodIn wsX0_hasWord wsX4_has := goodIn_r _ [6, 7, 8, 9, 10, 11, 12, 13, 20, 21, 22, 23, 24] (by decide +kernel) (by decide +kernel)
set_option maxRecDepth 20000 in
theorem gX0_hasWord_X4_has : GoodIn wsX0_hasWord (wsV RX0 60 RX4 yX4_has wsX4_has) := goodIn_app (goodIn_of _ (by decide +kernel)) ggX0_hasWord_X4_has
theorem dX0_hasWord_0 : decode cX0_hasWord 0 = .ok (.aload_n 0, 1) := by decide +kernel
theorem dX0_hasWord_1 : decode cX0_hasWord 1 = .ok (.getfield 35, 3) := by decide +kernel
theorem dX0_hasWord_4 : decode cX0_hasWord 4 = .ok (.iload_n 1, 1) := by decide +kernel
theorem dX0_hasWord_5 : decode cX0_hasWord 5 = .ok (.invokevirtual 60, 3) := by decide +kernel
theorem dX0_hasWord_8 : decode cX0_hasWord 8 = .ok (.ireturn, 1) := by decide +kernel
set_option maxRecDepth 20000 in
theorem ggX0_addEntry_X0_addRule : GoodIn wsX0_addEntry wsX0_addRule := goodIn_r _ [9, 10, 11, 12, 4, 13, 3, 14, 15, 16, 8, 17, 18, 19, 20, 21, 22, 23, 24, 25, 26, 27, 28, 29, 30, 31, 32, 33, 34, 35, 36, 37, 38, 39, 40, 41, 42, 43, 44, 45, 46, 47, 48, 49, 50, 51, 52, 53, 54, 55, 56, 57, 58, 59, 60, 61, 62, 63, 64, 65, 66, 67, 68, 69, 70, 71, 72, 73, 74, 95, 96, 97, 98, 99, 100, 88, 89, 90, 91, 92, 93, 94, 101, 102, 103, 104, 105] (by decide +kernel) (by decide +kernel)
set_option maxRecDepth 20000 in
theorem gX0_addEntry_X0_addRule : GoodIn wsX0_addEntry (wsV RX0 70 RX0 yX0_addRule wsX0_addRule) := goodIn_app (goodIn_of _ (by decide +kernel)) ggX0_addEntry_X0_addRule
set_option maxRecDepth 20000 in
theorem ggX0_addEntry_X0_addWord : GoodIn wsX0_addEntry wsX0_addWord := goodIn_r _ [78, 79, 4, 80, 81, 82, 83, 84, 21, 85, 23, 24, 25, 26, 27, 28, 29, 86, 36, 37, 38, 39, 31, 32, 33, 34, 40, 41, 42, 43, 44, 45, 46, 47, 48, 49, 50, 51, 52, 53, 54, 55, 56, 57, 58, 59, 60, 61, 62, 63, 64, 65, 66, 67, 68, 69, 70, 71, 72, 73, 74, 95, 96, 97, 98, 99, 100, 88, 89, 90, 91, 92, 93, 94, 101, 102, 103, 104, 105] (by decide +kernel) (by decide +kernel)
set_option maxRecDepth 20000 in
theorem gX0_addEntry_X0_addWord : GoodIn wsX0_addEntry (wsV RX0 74 RX0 yX0_addWord wsX0_addWord) := goodIn_app (goodIn_of _ (by decide +kernel)) ggX0_addEntry_X0_addWord
set_option maxRecDepth 20000 in
theorem ggX0_addEntry_X4_put : GoodIn wsX0_addEntry wsX4_put := goodIn_r _ [61, 45, 62, 63, 64, 65, 23, 44, 66, 67, 68, 21, 69, 24, 25, 26, 27, 28, 29, 70, 71, 72, 73, 34, 39, 31, 32, 33, 101, 102, 103, 104, 105] (by decide +kernel) (by decide +kernel)
set_option maxRecDepth 20000 in
theorem gX0_addEntry_X4_put : GoodIn wsX0_addEntry (wsV RX0 82 RX4 yX4_put wsX4_put) := goodIn_app (goodIn_of _ (by decide +kernel)) ggX0_addEntry_X4_put
theorem dX0_addEntry_0 : decode cX0_addEntry 0 = .ok (.aload_n 1, 1) := by decide +kernel
theorem dX0_addEntry_1 : decode cX0_addEntry 1 = .ok (.getfield 64, 3) := by decide +kernel
theorem dX0_addEntry_4 : decode cX0_addEntry 4 = .ok (.lookupswitch 40 #[(0, 28), (1, 34)], 28) := by decide +kernel
theorem dX0_addEntry_32 : decode cX0_addEntry 32 = .ok (.aload_n 0, 1) := by decide +kernel
theorem dX0_addEntry_33 : decode cX0_addEntry 33 = .ok (.aload_n 1, 1) := by decide +kernel
theorem dX0_addEntry_34 : decode cX0_addEntry 34 = .ok (.invokevirtual 70, 3) := by decide +kernel
theorem dX0_addEntry_37 : decode cX0_addEntry 37 = .ok (.ireturn, 1) := by decide +kernel
theorem dX0_addEntry_38 : decode cX0_addEntry 38 = .ok (.aload_n 0, 1) := by decide +kernel
theorem dX0_addEntry_39 : decode cX0_addEntry 39 = .ok (.aload_n 1, 1) := by decide +kernel
theorem dX0_addEntry_40 : decode cX0_addEntry 40 = .ok (.invokevirtual 74, 3) := by decide +kernel
theorem dX0_addEntry_43 : decode cX0_addEntry 43 = .ok (.ireturn, 1) := by decide +kernel
theorem dX0_addEntry_44 : decode cX0_addEntry 44 = .ok (.aload_n 0, 1) := by decide +kernel
theorem dX0_addEntry_45 : decode cX0_addEntry 45 = .ok (.getfield 32, 3) := by decide +kernel
theorem dX0_addEntry_48 : decode cX0_addEntry 48 = .ok (.aload_n 1, 1) := by decide +kernel
theorem dX0_addEntry_49 : decode cX0_addEntry 49 = .ok (.getfield 77, 3) := by decide +kernel
theorem dX0_addEntry_52 : decode cX0_addEntry 52 = .ok (.bipush 65, 2) := by decide +kernel
theorem dX0_addEntry_54 : decode cX0_addEntry 54 = .ok (.isub, 1) := by decide +kernel
theorem dX0_addEntry_55 : decode cX0_addEntry 55 = .ok (.aload_n 1, 1) := by decide +kernel
theorem dX0_addEntry_56 : decode cX0_addEntry 56 = .ok (.getfield 80, 3) := by decide +kernel
theorem dX0_addEntry_59 : decode cX0_addEntry 59 = .ok (.invokevirtual 82, 3) := by decide +kernel
theorem dX0_addEntry_62 : decode cX0_addEntry 62 = .ok (.iconst 1, 1) := by decide +kernel
theorem dX0_addEntry_63 : decode cX0_addEntry 63 = .ok (.ireturn, 1) := by decide +kernel
set_option maxRecDepth 20000 in
theorem ggX0_addRule_X0_rules : GoodIn wsX0_addRule wsX0_rules := goodIn_r _ [11, 3, 12, 13, 14, 15, 16, 17, 18, 19, 20, 21, 22, 23, 69, 70, 71, 72, 73, 74, 82, 83, 84, 85, 86] (by decide +kernel) (by decide +kernel)
set_option maxRecDepth 20000 in
theorem gX0_addRule_X0_rules : GoodIn wsX0_addRule (wsV RX0 86 RX0 yX0_rules wsX0_rules) := goodIn_app (goodIn_of _ (by decide +kernel)) ggX0_addRule_X0_rules
set_option maxRecDepth 20000 in
theorem ggX0_addRule_X3_get : GoodIn wsX0_addRule wsX3_get := goodIn_r _ [27, 23, 28, 85, 86] (by decide +kernel) (by decide +kernel)
set_option maxRecDepth 20000 in
theorem gX0_addRule_X3_get : GoodIn wsX0_addRule (wsV RX0 89 RX3 yX3_get wsX3_get) := goodIn_app (goodIn_of _ (by decide +kernel)) ggX0_addRule_X3_get
set_option maxRecDepth 20000 in
theorem ggX0_addRule_X4_isLike : GoodIn wsX0_addRule wsX4_isLike := goodIn_r _ [32, 17, 33, 25, 26, 21, 27, 23, 28, 18, 19, 20, 22, 34, 35, 36, 15, 37, 38, 39, 82, 83, 84, 85, 86] (by decide +kernel) (by decide +kernel)
set_option maxRecDepth 20000 in
theorem gX0_addRule_X4_isLike : GoodIn wsX0_addRule (wsV RX0 96 RX4 yX4_isLike wsX4_isLike) := goodIn_app (goodIn_of _ (by decide +kernel)) ggX0_addRule_X4_isLike
set_option maxRecDepth 20000 in
theorem ggX0_addRule_X4_add : GoodIn wsX0_addRule wsX4_add := goodIn_r _ [43, 17, 44, 45, 46, 21, 47, 23, 28, 48, 49, 50, 51, 18, 19, 20, 22, 52, 53, 54, 15, 55, 39, 56, 57, 58, 59, 38, 60, 61, 62, 63, 64, 65, 66, 67, 33, 25, 26, 27, 82, 83, 84, 85, 86] (by decide +kernel) (by decide +kernel)
set_option maxRecDepth 20000 in
theorem gX0_addRule_X4_add : GoodIn wsX0_addRule (wsV RX0 47 RX4 yX4_add wsX4_add) := goodIn_app (goodIn_of _ (by decide +kernel)) ggX0_addRule_X4_add
set_option maxRecDepth 20000 in
theorem ggX0_addRule_X3_add : GoodIn wsX0_addRule wsX3_add := goodIn_r _ [51, 23, 28, 85, 86] (by decide +kernel) (by decide +kernel)
set_option maxRecDepth 20000 in
theorem gX0_addRule_X3_add : GoodIn wsX0_addRule (wsV RX0 44 RX3 yX3_add wsX3_add) := goodIn_app (goodIn_of _ (by decide +kernel)) ggX0_addRule_X3_add
theorem dX0_addRule_0 : decode cX0_addRule 0 = .ok (.iconst 0, 1) := by decide +kernel
theorem dX0_addRule_1 : decode cX0_addRule 1 = .ok (.istore_n 2, 1) := by decide +kernel
theorem dX0_addRule_2 : decode cX0_addRule 2 = .ok (.iload_n 2, 1) := by decide +kernel
theorem dX0_addRule_3 : decode cX0_addRule 3 = .ok (.aload_n 0, 1) := by decide +kernel
theorem dX0_addRule_4 : decode cX0_addRule 4 = .ok (.invokevirtual 86, 3) := by decide +kernel
theorem dX0_addRule_7 : decode cX0_addRule 7 = .ok (.if_icmp .ge 41, 3) := by decide +kernel
theorem dX0_addRule_10 : decode cX0_addRule 10 = .ok (.aload_n 0, 1) := by decide +kernel
theorem dX0_addRule_11 : decode cX0_addRule 11 = .ok (.getfield 29, 3) := by decide +kernel
theorem dX0_addRule_14 : decode cX0_addRule 14 = .ok (.iload_n 2, 1) := by decide +kernel
theorem dX0_addRule_15 : decode cX0_addRule 15 = .ok (.invokevirtual 89, 3) := by decide +kernel
theorem dX0_addRule_18 : decode cX0_addRule 18 = .ok (.aload_n 1, 1) := by decide +kernel
theorem dX0_addRule_19 : decode cX0_addRule 19 = .ok (.getfield 93, 3) := by decide +kernel
theorem dX0_addRule_22 : decode cX0_addRule 22 = .ok (.if_icmp .ne 20, 3) := by decide +kernel
theorem dX0_addRule_25 : decode cX0_addRule 25 = .ok (.aload_n 0, 1) := by decide +kernel
theorem dX0_addRule_26 : decode cX0_addRule 26 = .ok (.getfield 14, 3) := by decide +kernel
theorem dX0_addRule_29 : decode cX0_addRule 29 = .ok (.iload_n 2, 1) := by decide +kernel
theorem dX0_addRule_30 : decode cX0_addRule 30 = .ok (.aload_n 1, 1) := by decide +kernel
theorem dX0_addRule_31 : decode cX0_addRule 31 = .ok (.getfield 80, 3) := by decide +kernel
theorem dX0_addRule_34 : decode cX0_addRule 34 = .ok (.invokevirtual 96, 3) := by decide +kernel
theorem dX0_addRule_37 : decode cX0_addRule 37 = .ok (.ifCond .eq 5, 3) := by decide +kernel
theorem dX0_addRule_40 : decode cX0_addRule 40 = .ok (.iconst 0, 1) := by decide +kernel
theorem dX0_addRule_41 : decode cX0_addRule 41 = .ok (.ireturn, 1) := by decide +kernel
theorem dX0_addRule_42 : decode cX0_addRule 42 = .ok (.iinc 2 1, 3) := by decide +kernel
theorem dX0_addRule_45 : decode cX0_addRule 45 = .ok (.goto (-43), 3) := by decide +kernel
theorem dX0_addRule_48 : decode cX0_addRule 48 = .ok (.aload_n 0, 1) := by decide +kernel
theorem dX0_addRule_49 : decode cX0_addRule 49 = .ok (.getfield 14, 3) := by decide +kernel
theorem dX0_addRule_52 : decode cX0_addRule 52 = .ok (.aload_n 1, 1) := by decide +kernel
theorem dX0_addRule_53 : decode cX0_addRule 53 = .ok (.getfield 80, 3) := by decide +kernel
theorem dX0_addRule_56 : decode cX0_addRule 56 = .ok (.invokevirtual 47, 3) := by decide +kernel
theorem dX0_addRule_59 : decode cX0_addRule 59 = .ok (.aload_n 0, 1) := by decide +kernel
theorem dX0_addRule_60 : decode cX0_addRule 60 = .ok (.getfield 25, 3) := by decide +kernel
theorem dX0_addRule_63 : decode cX0_addRule 63 = .ok (.aload_n 1, 1) := by decide +kernel
theorem dX0_addRule_64 : decode cX0_addRule 64 = .ok (.getfield 77, 3) := by decide +kernel
theorem dX0_addRule_67 : decode cX0_addRule 67 = .ok (.invokevirtual 44, 3) := by decide +kernel
theorem dX0_addRule_70 : decode cX0_addRule 70 = .ok (.aload_n 0, 1) := by decide +kernel
theorem dX0_addRule_71 : decode cX0_addRule 71 = .ok (.getfield 29, 3) := by decide +kernel
theorem dX0_addRule_74 : decode cX0_addRule 74 = .ok (.aload_n 1, 1) := by decide +kernel
theorem dX0_addRule_75 : decode cX0_addRule 75 = .ok (.getfield 93, 3) := by decide +kernel
theorem dX0_addRule_78 : decode cX0_addRule 78 = .ok (.invokevirtual 44, 3) := by decide +kernel
theorem dX0_addRule_81 : decode cX0_addRule 81 = .ok (.iconst 1, 1) := by decide +kernel
theorem dX0_addRule_82 : decode cX0_addRule 82 = .ok (.ireturn, 1) := by decide +kernel
set_option maxRecDepth 20000 in
theorem ggX0_addWord_X4_find : GoodIn wsX0_addWord wsX4_find := goodIn_r _ [9, 10, 11, 12, 13, 14, 15, 16, 17, 18, 19, 8, 20, 21, 22, 23, 24, 25, 26, 27, 28, 29, 30, 31, 74, 75, 76, 77, 78] (by decide +kernel) (by decide +kernel)
set_option maxRecDepth 20000 in
theorem gX0_addWord_X4_find : GoodIn wsX0_addWord (wsV RX0 100 RX4 yX4_find wsX4_find) := goodIn_app (goodIn_of _ (by decide +kernel)) ggX0_addWord_X4_find
set_option maxRecDepth 20000 in
theorem ggX0_addWord_X4_add : GoodIn wsX0_addWord wsX4_add := goodIn_r _ [35, 10, 36, 37, 38, 14, 39, 16, 25, 40, 41, 42, 43, 11, 12, 13, 15, 44, 45, 46, 8, 47, 31, 48, 49, 50, 51, 30, 52, 53, 54, 55, 56, 57, 58, 59, 21, 22, 23, 24, 74, 75, 76, 77, 78] (by decide +kernel) (by decide +kernel)
set_option maxRecDepth 20000 in
theorem gX0_addWord_X4_add : GoodIn wsX0_addWord (wsV RX0 47 RX4 yX4_add wsX4_add) := goodIn_app (goodIn_of _ (by decide +kernel)) ggX0_addWord_X4_add
set_option maxRecDepth 20000 in
theorem ggX0_addWord_X3_add : GoodIn wsX0_addWord wsX3_add := goodIn_r _ [43, 16, 25, 77, 78] (by decide +kernel) (by decide +kernel)
set_option maxRecDepth 20000 in
theorem gX0_addWord_X3_add : GoodIn wsX0_addWord (wsV RX0 44 RX3 yX3_add wsX3_add) := goodIn_app (goodIn_of _ (by decide +kernel)) ggX0_addWord_X3_add
theorem dX0_addWord_0 : decode cX0_addWord 0 = .ok (.aload_n 0, 1) := by decide +kernel
theorem dX0_addWord_1 : decode cX0_addWord 1 = .ok (.getfield 35, 3) := by decide +kernel
theorem dX0_addWord_4 : decode cX0_addWord 4 = .ok (.aload_n 1, 1) := by decide +kernel
theorem dX0_addWord_5 : decode cX0_addWord 5 = .ok (.getfield 80, 3) := by decide +kernel
theorem dX0_addWord_8 : decode cX0_addWord 8 = .ok (.invokevirtual 100, 3) := by decide +kernel
theorem dX0_addWord_11 : decode cX0_addWord 11 = .ok (.bipush (-5), 2) := by decide +kernel
theorem dX0_addWord_13 : decode cX0_addWord 13 = .ok (.if_icmp .eq 5, 3) := by decide +kernel
theorem dX0_addWord_16 : decode cX0_addWord 16 = .ok (.iconst 0, 1) := by decide +kernel
theorem dX0_addWord_17 : decode cX0_addWord 17 = .ok (.ireturn, 1) := by decide +kernel
theorem dX0_addWord_18 : decode cX0_addWord 18 = .ok (.aload_n 0, 1) := by decide +kernel
theorem dX0_addWord_19 : decode cX0_addWord 19 = .ok (.getfield 35, 3) := by decide +kernel
theorem dX0_addWord_22 : decode cX0_addWord 22 = .ok (.aload_n 1, 1) := by decide +kernel
theorem dX0_addWord_23 : decode cX0_addWord 23 = .ok (.getfield 80, 3) := by decide +kernel
theorem dX0_addWord_26 : decode cX0_addWord 26 = .ok (.invokevirtual 47, 3) := by decide +kernel
theorem dX0_addWord_29 : decode cX0_addWord 29 = .ok (.aload_n 0, 1) := by decide +kernel
theorem dX0_addWord_30 : decode cX0_addWord 30 = .ok (.getfield 38, 3) := by decide +kernel
theorem dX0_addWord_33 : decode cX0_addWord 33 = .ok (.aload_n 1, 1) := by decide +kernel
theorem dX0_addWord_34 : decode cX0_addWord 34 = .ok (.getfield 104, 3) := by decide +kernel
theorem dX0_addWord_37 : decode cX0_addWord 37 = .ok (.invokevirtual 44, 3) := by decide +kernel
theorem dX0_addWord_40 : decode cX0_addWord 40 = .ok (.iconst 1, 1) := by decide +kernel
theorem dX0_addWord_41 : decode cX0_addWord 41 = .ok (.ireturn, 1) := by decide +kernel
set_option maxRecDepth 20000 in
theorem ggX0_dropRule_X4_remove : GoodIn wsX0_dropRule wsX4_remove := goodIn_r _ [8, 9, 10, 11, 12, 7, 13, 14, 15, 16, 17, 18, 19, 20, 21, 22, 23, 24, 25, 26, 27, 28, 29, 30, 31, 32, 33, 34, 35, 36, 37, 38, 39, 40, 41, 42, 43, 44, 45, 46, 47, 48, 49, 50, 67, 68, 69, 70, 71] (by decide +kernel) (by decide +kernel)
set_option maxRecDepth 20000 in
theorem gX0_dropRule_X4_remove : GoodIn wsX0_dropRule (wsV RX0 107 RX4 yX4_remove wsX4_remove) := goodIn_app (goodIn_of _ (by decide +kernel)) ggX0_dropRule_X4_remove
set_option maxRecDepth 20000 in
theorem ggX0_dropRule_X3_remove : GoodIn wsX0_dropRule wsX3_remove := goodIn_r _ [54, 19, 55, 56, 57, 17, 58, 59, 31, 32, 33, 34, 35, 36, 37, 38, 39, 40, 41, 42, 60, 44, 45, 46, 47, 48, 49, 50, 70, 71] (by decide +kernel) (by decide +kernel)
set_option maxRecDepth 20000 in
theorem gX0_dropRule_X3_remove : GoodIn wsX0_dropRule (wsV RX0 110 RX3 yX3_remove wsX3_remove) := goodIn_app (goodIn_of _ (by decide +kernel)) ggX0_dropRule_X3_remove
theorem dX0_dropRule_0 : decode cX0_dropRule 0 = .ok (.aload_n 0, 1) := by decide +kernel
theorem dX0_dropRule_1 : decode cX0_dropRule 1 = .ok (.getfield 14, 3) := by decide +kernel
theorem dX0_dropRule_4 : decode cX0_dropRule 4 = .ok (.iload_n 1, 1) := by decide +kernel
theorem dX0_dropRule_5 : decode cX0_dropRule 5 = .ok (.invokevirtual 107, 3) := by decide +kernel
theorem dX0_dropRule_8 : decode cX0_dropRule 8 = .ok (.aload_n 0, 1) := by decide +kernel
theorem dX0_dropRule_9 : decode cX0_dropRule 9 = .ok (.getfield 25, 3) := by decide +kernel
theorem dX0_dropRule_12 : decode cX0_dropRule 12 = .ok (.iload_n 1, 1) := by decide +kernel
theorem dX0_dropRule_13 : decode cX0_dropRule 13 = .ok (.invokevirtual 110, 3) := by decide +kernel
theorem dX0_dropRule_16 : decode cX0_dropRule 16 = .ok (.aload_n 0, 1) := by decide +kernel
theorem dX0_dropRule_17 : decode cX0_dropRule 17 = .ok (.getfield 29, 3) := by decide +kernel
theorem dX0_dropRule_20 : decode cX0_dropRule 20 = .ok (.iload_n 1, 1) := by decide +kernel
theorem dX0_dropRule_21 : decode cX0_dropRule 21 = .ok (.invokevirtual 110, 3) := by decide +kernel
theorem dX0_dropRule_24 : decode cX0_dropRule 24 = .ok (.return_, 1) := by decide +kernel
set_option maxRecDepth 20000 in
theorem ggX0_shiftRule_X4_move : GoodIn wsX0_shiftRule wsX4_move := goodIn_r _ [8, 9, 10, 11, 7, 12, 13, 14, 15, 16, 17, 18, 19, 20, 21, 22, 23, 24, 25, 26, 27, 28, 29, 30, 42, 43, 44, 45, 46] (by decide +kernel) (by decide +kernel)
set_option maxRecDepth 20000 in
theorem gX0_shiftRule_X4_move : GoodIn wsX0_shiftRule (wsV RX0 111 RX4 yX4_move wsX4_move) := goodIn_app (goodIn_of _ (by decide +kernel)) ggX0_shiftRule_X4_move
set_option maxRecDepth 20000 in
theorem ggX0_shiftRule_X3_move : GoodIn wsX0_shiftRule wsX3_move := goodIn_r _ [34, 35, 17, 18, 19, 20, 21, 22, 23, 24, 25, 26, 27, 28, 29, 30, 45, 46] (by decide +kernel) (by decide +kernel)
set_option maxRecDepth 20000 in
theorem gX0_shiftRule_X3_move : GoodIn wsX0_shiftRule (wsV RX0 114 RX3 yX3_move wsX3_move) := goodIn_app (goodIn_of _ (by decide +kernel)) ggX0_shiftRule_X3_move
theorem dX0_shiftRule_0 : decode cX0_shiftRule 0 = .ok (.aload_n 0, 1) := by decide +kernel
theorem dX0_shiftRule_1 : decode cX0_shiftRule 1 = .ok (.getfield 14, 3) := by decide +kernel
theorem dX0_shiftRule_4 : decode cX0_shiftRule 4 = .ok (.iload_n 1, 1) := by decide +kernel
theorem dX0_shiftRule_5 : decode cX0_shiftRule 5 = .ok (.iload_n 2, 1) := by decide +kernel
theorem dX0_shiftRule_6 : decode cX0_shiftRule 6 = .ok (.invokevirtual 111, 3) := by decide +kernel
theorem dX0_shiftRule_9 : decode cX0_shiftRule 9 = .ok (.aload_n 0, 1) := by decide +kernel
theorem dX0_shiftRule_10 : decode cX0_shiftRule 10 = .ok (.getfield 25, 3) := by decide +kernel
theorem dX0_shiftRule_13 : decode cX0_shiftRule 13 = .ok (.iload_n 1, 1) := by decide +kernel
theorem dX0_shiftRule_14 : decode cX0_shiftRule 14 = .ok (.iload_n 2, 1) := by decide +kernel
theorem dX0_shiftRule_15 : decode cX0_shiftRule 15 = .ok (.invokevirtual 114, 3) := by decide +kernel
theorem dX0_shiftRule_18 : decode cX0_shiftRule 18 = .ok (.aload_n 0, 1) := by decide +kernel
theorem dX0_shiftRule_19 : decode cX0_shiftRule 19 = .ok (.getfield 29, 3) := by decide +kernel
theorem dX0_shiftRule_22 : decode cX0_shiftRule 22 = .ok (.iload_n 1, 1) := by decide +kernel
theorem dX0_shiftRule_23 : decode cX0_shiftRule 23 = .ok (.iload_n 2, 1) := by decide +kernel
theorem dX0_shiftRule_24 : decode cX0_shiftRule 24 = .ok (.invokevirtual 114, 3) := by decide +kernel
theorem dX0_shiftRule_27 : decode cX0_shiftRule 27 = .ok (.return_, 1) := by decide +kernel
set_option maxRecDepth 20000 in
theorem ggX0_dropWord_X4_remove : GoodIn wsX0_dropWord wsX4_remove := goodIn_r _ [7, 8, 9, 10, 11, 6, 12, 13, 14, 15, 16, 17, 18, 19, 20, 21, 22, 23, 24, 25, 26, 27, 28, 29, 30, 31, 32, 33, 34, 35, 36, 37, 38, 39, 40, 41, 42, 43, 44, 45, 46, 47, 48, 49, 66, 67, 68, 69, 70] (by decide +kernel) (by decide +kernel)
set_option maxRecDepth 20000 in
theorem gX0_dropWord_X4_remove : GoodIn wsX0_dropWord (wsV RX0 107 RX4 yX4_remove wsX4_remove) := goodIn_app (goodIn_of _ (by decide +kernel)) ggX0_dropWord_X4_remove
set_option maxRecDepth 20000 in
theorem ggX0_dropWord_X3_remove : GoodIn wsX0_dropWord wsX3_remove := goodIn_r _ [53, 18, 54, 55, 56, 16, 57, 58, 30, 31, 32, 33, 34, 35, 36, 37, 38, 39, 40, 41, 59, 43, 44, 45, 46, 47, 48, 49, 69, 70] (by decide +kernel) (by decide +kernel)
set_option maxRecDepth 20000 in
theorem gX0_dropWord_X3_remove : GoodIn wsX0_dropWord (wsV RX0 110 RX3 yX3_remove wsX3_remove) := goodIn_app (goodIn_of _ (by decide +kernel)) ggX0_dropWord_X3_remove
theorem dX0_dropWord_0 : decode cX0_dropWord 0 = .ok (.aload_n 0, 1) := by decide +kernel
theorem dX0_dropWord_1 : decode cX0_dropWord 1 = .ok (.getfield 35, 3) := by decide +kernel
theorem dX0_dropWord_4 : decode cX0_dropWord 4 = .ok (.iload_n 1, 1) := by decide +kernel
theorem dX0_dropWord_5 : decode cX0_dropWord 5 = .ok (.invokevirtual 107, 3) := by decide +kernel
theorem dX0_dropWord_8 : decode cX0_dropWord 8 = .ok (.aload_n 0, 1) := by decide +kernel
theorem dX0_dropWord_9 : decode cX0_dropWord 9 = .ok (.getfield 38, 3) := by decide +kernel
theorem dX0_dropWord_12 : decode cX0_dropWord 12 = .ok (.iload_n 1, 1) := by decide +kernel
theorem dX0_dropWord_13 : decode cX0_dropWord 13 = .ok (.invokevirtual 110, 3) := by decide +kernel
theorem dX0_dropWord_16 : decode cX0_dropWord 16 = .ok (.return_, 1) := by decide +kernel
set_option maxRecDepth 20000 in
theorem ggX0_longSigns_X4_lines : GoodIn wsX0_longSigns wsX4_lines := goodIn_r _ [6, 7, 8, 9, 10, 11, 12, 13, 29, 30, 31, 32, 33] (by decide +kernel) (by decide +kernel)
set_option maxRecDepth 20000 in
theorem gX0_longSigns_X4_lines : GoodIn wsX0_longSigns (wsV RX0 56 RX4 yX4_lines wsX4_lines) := goodIn_app (goodIn_of _ (by decide +kernel)) ggX0_longSigns_X4_lines
set_option maxRecDepth 20000 in
theorem ggX0_longSigns_X4_length : GoodIn wsX0_longSigns wsX4_length := goodIn_r _ [17, 7, 18, 19, 20, 11, 21, 13, 22, 29, 30, 31, 32, 33] (by decide +kernel) (by decide +kernel)
set_option maxRecDepth 20000 in
theorem gX0_longSigns_X4_length : GoodIn wsX0_longSigns (wsV RX0 115 RX4 yX4_length wsX4_length) := goodIn_app (goodIn_of _ (by decide +kernel)) ggX0_longSigns_X4_length
theorem dX0_longSigns_0 : decode cX0_longSigns 0 = .ok (.iconst 0, 1) := by decide +kernel
theorem dX0_longSigns_1 : decode cX0_longSigns 1 = .ok (.istore_n 1, 1) := by decide +kernel
theorem dX0_longSigns_2 : decode cX0_longSigns 2 = .ok (.iconst 0, 1) := by decide +kernel
theorem dX0_longSigns_3 : decode cX0_longSigns 3 = .ok (.istore_n 2, 1) := by decide +kernel
theorem dX0_longSigns_4 : decode cX0_longSigns 4 = .ok (.iload_n 2, 1) := by decide +kernel
theorem dX0_longSigns_5 : decode cX0_longSigns 5 = .ok (.aload_n 0, 1) := by decide +kernel
theorem dX0_longSigns_6 : decode cX0_longSigns 6 = .ok (.getfield 32, 3) := by decide +kernel
theorem dX0_longSigns_9 : decode cX0_longSigns 9 = .ok (.invokevirtual 56, 3) := by decide +kernel
theorem dX0_longSigns_12 : decode cX0_longSigns 12 = .ok (.if_icmp .ge 24, 3) := by decide +kernel
theorem dX0_longSigns_15 : decode cX0_longSigns 15 = .ok (.aload_n 0, 1) := by decide +kernel
theorem dX0_longSigns_16 : decode cX0_longSigns 16 = .ok (.getfield 32, 3) := by decide +kernel
theorem dX0_longSigns_19 : decode cX0_longSigns 19 = .ok (.iload_n 2, 1) := by decide +kernel
theorem dX0_longSigns_20 : decode cX0_longSigns 20 = .ok (.invokevirtual 115, 3) := by decide +kernel
theorem dX0_longSigns_23 : decode cX0_longSigns 23 = .ok (.iconst 2, 1) := by decide +kernel
theorem dX0_longSigns_24 : decode cX0_longSigns 24 = .ok (.if_icmp .ne 6, 3) := by decide +kernel
theorem dX0_longSigns_27 : decode cX0_longSigns 27 = .ok (.iinc 1 1, 3) := by decide +kernel
theorem dX0_longSigns_30 : decode cX0_longSigns 30 = .ok (.iinc 2 1, 3) := by decide +kernel
theorem dX0_longSigns_33 : decode cX0_longSigns 33 = .ok (.goto (-29), 3) := by decide +kernel
theorem dX0_longSigns_36 : decode cX0_longSigns 36 = .ok (.iload_n 1, 1) := by decide +kernel
theorem dX0_longSigns_37 : decode cX0_longSigns 37 = .ok (.ireturn, 1) := by decide +kernel
set_option maxRecDepth 20000 in
theorem ggX1_init_X0_init : GoodIn wsX1_init wsX0_init := goodIn_r _ [10, 11, 2, 3, 12, 13, 14, 15, 16, 17, 18, 19, 20, 21, 22, 23, 24, 25, 26, 27, 28, 29, 30, 31, 32, 33, 34, 35, 36, 37, 38, 39, 40, 41, 42, 43, 44, 45, 46, 47, 48, 49, 50, 51, 52, 53, 54, 55, 56, 57, 58, 59, 60, 61, 62, 63, 64, 65, 66, 67, 68, 69, 70, 71, 72, 73, 74, 75, 76, 77, 78, 79, 80, 81, 82, 83, 84, 85, 86, 87, 88, 97, 98, 99, 91, 92, 93, 94, 95, 96, 100, 101] (by decide +kernel) (by decide +kernel)
set_option maxRecDepth 20000 in
theorem gX1_init_X0_init : GoodIn wsX1_init (wsX0_init) := ggX1_init_X0_init
theorem dX1_init_0 : decode cX1_init 0 = .ok (.aload_n 0, 1) := by decide +kernel
theorem dX1_init_1 : decode cX1_init 1 = .ok (.invokespecial 3, 3) := by decide +kernel
theorem dX1_init_4 : decode cX1_init 4 = .ok (.aload_n 0, 1) := by decide +kernel
theorem dX1_init_5 : decode cX1_init 5 = .ok (.iconst 4, 1) := by decide +kernel
theorem dX1_init_6 : decode cX1_init 6 = .ok (.anewarray 9, 3) := by decide +kernel
theorem dX1_init_9 : decode cX1_init 9 = .ok (.putfield 11, 3) := by decide +kernel
theorem dX1_init_12 : decode cX1_init 12 = .ok (.iconst 0, 1) := by decide +kernel
theorem dX1_init_13 : decode cX1_init 13 = .ok (.istore_n 1, 1) := by decide +kernel
theorem dX1_init_14 : decode cX1_init 14 = .ok (.iload_n 1, 1) := by decide +kernel
theorem dX1_init_15 : decode cX1_init 15 = .ok (.aload_n 0, 1) := by decide +kernel
theorem dX1_init_16 : decode cX1_init 16 = .ok (.getfield 11, 3) := by decide +kernel
theorem dX1_init_19 : decode cX1_init 19 = .ok (.arraylength, 1) := by decide +kernel
theorem dX1_init_20 : decode cX1_init 20 = .ok (.if_icmp .ge 26, 3) := by decide +kernel
theorem dX1_init_23 : decode cX1_init 23 = .ok (.aload_n 0, 1) := by decide +kernel
theorem dX1_init_24 : decode cX1_init 24 = .ok (.getfield 11, 3) := by decide +kernel
theorem dX1_init_27 : decode cX1_init 27 = .ok (.iload_n 1, 1) := by decide +kernel
theorem dX1_init_28 : decode cX1_init 28 = .ok (.new 9, 3) := by decide +kernel
theorem dX1_init_31 : decode cX1_init 31 = .ok (.dup, 1) := by decide +kernel
theorem dX1_init_32 : decode cX1_init 32 = .ok (.bipush 30, 2) := by decide +kernel
theorem dX1_init_34 : decode cX1_init 34 = .ok (.bipush 20, 2) := by decide +kernel
theorem dX1_init_36 : decode cX1_init 36 = .ok (.invokespecial 17, 3) := by decide +kernel
theorem dX1_init_39 : decode cX1_init 39 = .ok (.aastore, 1) := by decide +kernel
theorem dX1_init_40 : decode cX1_init 40 = .ok (.iinc 1 1, 3) := by decide +kernel
theorem dX1_init_43 : decode cX1_init 43 = .ok (.goto (-29), 3) := by decide +kernel
theorem dX1_init_46 : decode cX1_init 46 = .ok (.return_, 1) := by decide +kernel
theorem dX1_states_0 : decode cX1_states 0 = .ok (.aload_n 0, 1) := by decide +kernel
theorem dX1_states_1 : decode cX1_states 1 = .ok (.getfield 20, 3) := by decide +kernel
theorem dX1_states_4 : decode cX1_states 4 = .ok (.ireturn, 1) := by decide +kernel
set_option maxRecDepth 20000 in
theorem ggX1_record_X1_dropOldest : GoodIn wsX1_record wsX1_dropOldest := goodIn_r _ [7, 2, 1, 8, 9, 10, 11, 64, 65] (by decide +kernel) (by decide +kernel)
set_option maxRecDepth 20000 in
theorem gX1_record_X1_dropOldest : GoodIn wsX1_record (wsV RX1 24 RX1 yX1_dropOldest wsX1_dropOldest) := goodIn_app (goodIn_of _ (by decide +kernel)) ggX1_record_X1_dropOldest
set_option maxRecDepth 20000 in
theorem ggX1_record_X0_copyFrom : GoodIn wsX1_record wsX0_copyFrom := goodIn_r _ [16, 17, 18, 19, 20, 21, 22, 23, 24, 25, 26, 27, 28, 29, 30, 31, 32, 33, 34, 35, 36, 37, 38, 39, 40, 41, 42, 43, 44, 45, 46, 47, 48, 49, 50, 51, 52, 53, 54, 55, 56, 57, 58, 59, 60, 61, 62, 63, 66, 67, 68, 69, 70, 71, 72, 73, 74, 75, 76] (by decide +kernel) (by decide +kernel)
set_option maxRecDepth 20000 in
theorem gX1_record_X0_copyFrom : GoodIn wsX1_record (wsV RX1 27 RX0 yX0_copyFrom wsX0_copyFrom) := goodIn_app (goodIn_of _ (by decide +kernel)) ggX1_record_X0_copyFrom
theorem dX1_record_0 : decode cX1_record 0 = .ok (.aload_n 0, 1) := by decide +kernel
theorem dX1_record_1 : decode cX1_record 1 = .ok (.getfield 20, 3) := by decide +kernel
theorem dX1_record_4 : decode cX1_record 4 = .ok (.aload_n 0, 1) := by decide +kernel
theorem dX1_record_5 : decode cX1_record 5 = .ok (.getfield 11, 3) := by decide +kernel
theorem dX1_record_8 : decode cX1_record 8 = .ok (.arraylength, 1) := by decide +kernel
theorem dX1_record_9 : decode cX1_record 9 = .ok (.if_icmp .lt 7, 3) := by decide +kernel
theorem dX1_record_12 : decode cX1_record 12 = .ok (.aload_n 0, 1) := by decide +kernel
theorem dX1_record_13 : decode cX1_record 13 = .ok (.invokevirtual 24, 3) := by decide +kernel
theorem dX1_record_16 : decode cX1_record 16 = .ok (.aload_n 0, 1) := by decide +kernel
theorem dX1_record_17 : decode cX1_record 17 = .ok (.getfield 20, 3) := by decide +kernel
theorem dX1_record_20 : decode cX1_record 20 = .ok (.ifCond .lt 50, 3) := by decide +kernel
theorem dX1_record_23 : decode cX1_record 23 = .ok (.aload_n 0, 1) := by decide +kernel
theorem dX1_record_24 : decode cX1_record 24 = .ok (.getfield 20, 3) := by decide +kernel
theorem dX1_record_27 : decode cX1_record 27 = .ok (.aload_n 0, 1) := by decide +kernel
theorem dX1_record_28 : decode cX1_record 28 = .ok (.getfield 11, 3) := by decide +kernel
theorem dX1_record_31 : decode cX1_record 31 = .ok (.arraylength, 1) := by decide +kernel
theorem dX1_record_32 : decode cX1_record 32 = .ok (.if_icmp .ge 38, 3) := by decide +kernel
theorem dX1_record_35 : decode cX1_record 35 = .ok (.aload_n 0, 1) := by decide +kernel
theorem dX1_record_36 : decode cX1_record 36 = .ok (.getfield 11, 3) := by decide +kernel
theorem dX1_record_39 : decode cX1_record 39 = .ok (.aload_n 0, 1) := by decide +kernel
theorem dX1_record_40 : decode cX1_record 40 = .ok (.getfield 20, 3) := by decide +kernel
theorem dX1_record_43 : decode cX1_record 43 = .ok (.aaload, 1) := by decide +kernel
theorem dX1_record_44 : decode cX1_record 44 = .ok (.ifnull 26, 3) := by decide +kernel
theorem dX1_record_47 : decode cX1_record 47 = .ok (.aload_n 0, 1) := by decide +kernel
theorem dX1_record_48 : decode cX1_record 48 = .ok (.getfield 11, 3) := by decide +kernel
theorem dX1_record_51 : decode cX1_record 51 = .ok (.aload_n 0, 1) := by decide +kernel
theorem dX1_record_52 : decode cX1_record 52 = .ok (.getfield 20, 3) := by decide +kernel
theorem dX1_record_55 : decode cX1_record 55 = .ok (.aaload, 1) := by decide +kernel
theorem dX1_record_56 : decode cX1_record 56 = .ok (.aload_n 1, 1) := by decide +kernel
theorem dX1_record_57 : decode cX1_record 57 = .ok (.invokevirtual 27, 3) := by decide +kernel
theorem dX1_record_60 : decode cX1_record 60 = .ok (.aload_n 0, 1) := by decide +kernel
theorem dX1_record_61 : decode cX1_record 61 = .ok (.dup, 1) := by decide +kernel
theorem dX1_record_62 : decode cX1_record 62 = .ok (.getfield 20, 3) := by decide +kernel
theorem dX1_record_65 : decode cX1_record 65 = .ok (.iconst 1, 1) := by decide +kernel
theorem dX1_record_66 : decode cX1_record 66 = .ok (.iadd, 1) := by decide +kernel
theorem dX1_record_67 : decode cX1_record 67 = .ok (.putfield 20, 3) := by decide +kernel
theorem dX1_record_70 : decode cX1_record 70 = .ok (.return_, 1) := by decide +kernel
theorem dX1_dropOldest_0 : decode cX1_dropOldest 0 = .ok (.iconst 0, 1) := by decide +kernel
theorem dX1_dropOldest_1 : decode cX1_dropOldest 1 = .ok (.istore_n 1, 1) := by decide +kernel
theorem dX1_dropOldest_2 : decode cX1_dropOldest 2 = .ok (.iload_n 1, 1) := by decide +kernel
theorem dX1_dropOldest_3 : decode cX1_dropOldest 3 = .ok (.iconst 1, 1) := by decide +kernel
theorem dX1_dropOldest_4 : decode cX1_dropOldest 4 = .ok (.iadd, 1) := by decide +kernel
theorem dX1_dropOldest_5 : decode cX1_dropOldest 5 = .ok (.aload_n 0, 1) := by decide +kernel
theorem dX1_dropOldest_6 : decode cX1_dropOldest 6 = .ok (.getfield 11, 3) := by decide +kernel
theorem dX1_dropOldest_9 : decode cX1_dropOldest 9 = .ok (.arraylength, 1) := by decide +kernel
theorem dX1_dropOldest_10 : decode cX1_dropOldest 10 = .ok (.if_icmp .ge 39, 3) := by decide +kernel
theorem dX1_dropOldest_13 : decode cX1_dropOldest 13 = .ok (.aload_n 0, 1) := by decide +kernel
theorem dX1_dropOldest_14 : decode cX1_dropOldest 14 = .ok (.getfield 11, 3) := by decide +kernel
theorem dX1_dropOldest_17 : decode cX1_dropOldest 17 = .ok (.iload_n 1, 1) := by decide +kernel
theorem dX1_dropOldest_18 : decode cX1_dropOldest 18 = .ok (.aaload, 1) := by decide +kernel
theorem dX1_dropOldest_19 : decode cX1_dropOldest 19 = .ok (.astore_n 2, 1) := by decide +kernel
theorem dX1_dropOldest_20 : decode cX1_dropOldest 20 = .ok (.aload_n 0, 1) := by decide +kernel
theorem dX1_dropOldest_21 : decode cX1_dropOldest 21 = .ok (.getfield 11, 3) := by decide +kernel
theorem dX1_dropOldest_24 : decode cX1_dropOldest 24 = .ok (.iload_n 1, 1) := by decide +kernel
theorem dX1_dropOldest_25 : decode cX1_dropOldest 25 = .ok (.aload_n 0, 1) := by decide +kernel
theorem dX1_dropOldest_26 : decode cX1_dropOldest 26 = .ok (.getfield 11, 3) := by decide +kernel
theorem dX1_dropOldest_29 : decode cX1_dropOldest 29 = .ok (.iload_n 1, 1) := by decide +kernel
theorem dX1_dropOldest_30 : decode cX1_dropOldest 30 = .ok (.iconst 1, 1) := by decide +kernel
theorem dX1_dropOldest_31 : decode cX1_dropOldest 31 = .ok (.iadd, 1) := by decide +kernel
theorem dX1_dropOldest_32 : decode cX1_dropOldest 32 = .ok (.aaload, 1) := by decide +kernel
theorem dX1_dropOldest_33 : decode cX1_dropOldest 33 = .ok (.aastore, 1) := by decide +kernel
theorem dX1_dropOldest_34 : decode cX1_dropOldest 34 = .ok (.aload_n 0, 1) := by decide +kernel
theorem dX1_dropOldest_35 : decode cX1_dropOldest 35 = .ok (.getfield 11, 3) := by decide +kernel
theorem dX1_dropOldest_38 : decode cX1_dropOldest 38 = .ok (.iload_n 1, 1) := by decide +kernel
theorem dX1_dropOldest_39 : decode cX1_dropOldest 39 = .ok (.iconst 1, 1) := by decide +kernel
theorem dX1_dropOldest_40 : decode cX1_dropOldest 40 = .ok (.iadd, 1) := by decide +kernel
theorem dX1_dropOldest_41 : decode cX1_dropOldest 41 = .ok (.aload_n 2, 1) := by decide +kernel
theorem dX1_dropOldest_42 : decode cX1_dropOldest 42 = .ok (.aastore, 1) := by decide +kernel
theorem dX1_dropOldest_43 : decode cX1_dropOldest 43 = .ok (.iinc 1 1, 3) := by decide +kernel
theorem dX1_dropOldest_46 : decode cX1_dropOldest 46 = .ok (.goto (-44), 3) := by decide +kernel
theorem dX1_dropOldest_49 : decode cX1_dropOldest 49 = .ok (.aload_n 0, 1) := by decide +kernel
theorem dX1_dropOldest_50 : decode cX1_dropOldest 50 = .ok (.aload_n 0, 1) := by decide +kernel
theorem dX1_dropOldest_51 : decode cX1_dropOldest 51 = .ok (.getfield 20, 3) := by decide +kernel
theorem dX1_dropOldest_54 : decode cX1_dropOldest 54 = .ok (.iconst 1, 1) := by decide +kernel
theorem dX1_dropOldest_55 : decode cX1_dropOldest 55 = .ok (.isub, 1) := by decide +kernel
theorem dX1_dropOldest_56 : decode cX1_dropOldest 56 = .ok (.iconst 0, 1) := by decide +kernel
theorem dX1_dropOldest_57 : decode cX1_dropOldest 57 = .ok (.invokestatic 31, 3) := by decide +kernel
theorem dX1_dropOldest_60 : decode cX1_dropOldest 60 = .ok (.putfield 20, 3) := by decide +kernel
theorem dX1_dropOldest_63 : decode cX1_dropOldest 63 = .ok (.return_, 1) := by decide +kernel
set_option maxRecDepth 20000 in
theorem ggX1_bringBack_X0_copyFrom : GoodIn wsX1_bringBack wsX0_copyFrom := goodIn_r _ [7, 8, 9, 10, 11, 12, 13, 14, 15, 16, 17, 18, 19, 20, 21, 22, 23, 24, 25, 26, 27, 28, 29, 30, 31, 32, 33, 34, 35, 36, 37, 38, 39, 40, 41, 42, 43, 44, 45, 46, 47, 48, 49, 50, 51, 52, 53, 54, 57, 58, 59, 60, 61, 62, 63, 64, 65, 66, 67] (by decide +kernel) (by decide +kernel)
set_option maxRecDepth 20000 in
theorem gX1_bringBack_X0_copyFrom : GoodIn wsX1_bringBack (wsV RX1 27 RX0 yX0_copyFrom wsX0_copyFrom) := goodIn_app (goodIn_of _ (by decide +kernel)) ggX1_bringBack_X0_copyFrom
theorem dX1_bringBack_0 : decode cX1_bringBack 0 = .ok (.aload_n 0, 1) := by decide +kernel
theorem dX1_bringBack_1 : decode cX1_bringBack 1 = .ok (.getfield 20, 3) := by decide +kernel
theorem dX1_bringBack_4 : decode cX1_bringBack 4 = .ok (.iconst 1, 1) := by decide +kernel
theorem dX1_bringBack_5 : decode cX1_bringBack 5 = .ok (.isub, 1) := by decide +kernel
theorem dX1_bringBack_6 : decode cX1_bringBack 6 = .ok (.istore_n 2, 1) := by decide +kernel
theorem dX1_bringBack_7 : decode cX1_bringBack 7 = .ok (.iload_n 2, 1) := by decide +kernel
theorem dX1_bringBack_8 : decode cX1_bringBack 8 = .ok (.ifCond .lt 36, 3) := by decide +kernel
theorem dX1_bringBack_11 : decode cX1_bringBack 11 = .ok (.iload_n 2, 1) := by decide +kernel
theorem dX1_bringBack_12 : decode cX1_bringBack 12 = .ok (.aload_n 0, 1) := by decide +kernel
theorem dX1_bringBack_13 : decode cX1_bringBack 13 = .ok (.getfield 11, 3) := by decide +kernel
theorem dX1_bringBack_16 : decode cX1_bringBack 16 = .ok (.arraylength, 1) := by decide +kernel
theorem dX1_bringBack_17 : decode cX1_bringBack 17 = .ok (.if_icmp .ge 27, 3) := by decide +kernel
theorem dX1_bringBack_20 : decode cX1_bringBack 20 = .ok (.aload_n 0, 1) := by decide +kernel
theorem dX1_bringBack_21 : decode cX1_bringBack 21 = .ok (.getfield 11, 3) := by decide +kernel
theorem dX1_bringBack_24 : decode cX1_bringBack 24 = .ok (.iload_n 2, 1) := by decide +kernel
theorem dX1_bringBack_25 : decode cX1_bringBack 25 = .ok (.aaload, 1) := by decide +kernel
theorem dX1_bringBack_26 : decode cX1_bringBack 26 = .ok (.ifnull 18, 3) := by decide +kernel
theorem dX1_bringBack_29 : decode cX1_bringBack 29 = .ok (.aload_n 1, 1) := by decide +kernel
theorem dX1_bringBack_30 : decode cX1_bringBack 30 = .ok (.aload_n 0, 1) := by decide +kernel
theorem dX1_bringBack_31 : decode cX1_bringBack 31 = .ok (.getfield 11, 3) := by decide +kernel
theorem dX1_bringBack_34 : decode cX1_bringBack 34 = .ok (.iload_n 2, 1) := by decide +kernel
theorem dX1_bringBack_35 : decode cX1_bringBack 35 = .ok (.aaload, 1) := by decide +kernel
theorem dX1_bringBack_36 : decode cX1_bringBack 36 = .ok (.invokevirtual 27, 3) := by decide +kernel
theorem dX1_bringBack_39 : decode cX1_bringBack 39 = .ok (.aload_n 0, 1) := by decide +kernel
theorem dX1_bringBack_40 : decode cX1_bringBack 40 = .ok (.iload_n 2, 1) := by decide +kernel
theorem dX1_bringBack_41 : decode cX1_bringBack 41 = .ok (.putfield 20, 3) := by decide +kernel
theorem dX1_bringBack_44 : decode cX1_bringBack 44 = .ok (.return_, 1) := by decide +kernel
set_option maxRecDepth 20000 in
theorem ggX2_init_X3_init : GoodIn wsX2_init wsX3_init := goodIn_r _ [11, 12, 2, 3, 13, 14, 15, 16, 17, 18, 19, 20] (by decide +kernel) (by decide +kernel)
set_option maxRecDepth 20000 in
theorem gX2_init_X3_init : GoodIn wsX2_init (wsX3_init) := ggX2_init_X3_init
theorem dX2_init_0 : decode cX2_init 0 = .ok (.aload_n 0, 1) := by decide +kernel
theorem dX2_init_1 : decode cX2_init 1 = .ok (.invokespecial 3, 3) := by decide +kernel
theorem dX2_init_4 : decode cX2_init 4 = .ok (.aload_n 0, 1) := by decide +kernel
theorem dX2_init_5 : decode cX2_init 5 = .ok (.new 9, 3) := by decide +kernel
theorem dX2_init_8 : decode cX2_init 8 = .ok (.dup, 1) := by decide +kernel
theorem dX2_init_9 : decode cX2_init 9 = .ok (.bipush 25, 2) := by decide +kernel
theorem dX2_init_11 : decode cX2_init 11 = .ok (.invokespecial 11, 3) := by decide +kernel
theorem dX2_init_14 : decode cX2_init 14 = .ok (.putfield 14, 3) := by decide +kernel
theorem dX2_init_17 : decode cX2_init 17 = .ok (.aload_n 0, 1) := by decide +kernel
theorem dX2_init_18 : decode cX2_init 18 = .ok (.aload_n 1, 1) := by decide +kernel
theorem dX2_init_19 : decode cX2_init 19 = .ok (.putfield 20, 3) := by decide +kernel
theorem dX2_init_22 : decode cX2_init 22 = .ok (.return_, 1) := by decide +kernel
theorem dX2_begin_0 : decode cX2_begin 0 = .ok (.aload_n 0, 1) := by decide +kernel
theorem dX2_begin_1 : decode cX2_begin 1 = .ok (.iconst 0, 1) := by decide +kernel
theorem dX2_begin_2 : decode cX2_begin 2 = .ok (.putfield 23, 3) := by decide +kernel
theorem dX2_begin_5 : decode cX2_begin 5 = .ok (.return_, 1) := by decide +kernel
set_option maxRecDepth 20000 in
theorem ggX2_isAtEnd_X3_size : GoodIn wsX2_isAtEnd wsX3_size := goodIn_r _ [7, 8, 16, 17] (by decide +kernel) (by decide +kernel)
set_option maxRecDepth 20000 in
theorem gX2_isAtEnd_X3_size : GoodIn wsX2_isAtEnd (wsV RX2 27 RX3 yX3_size wsX3_size) := goodIn_app (goodIn_of _ (by decide +kernel)) ggX2_isAtEnd_X3_size
theorem dX2_isAtEnd_0 : decode cX2_isAtEnd 0 = .ok (.aload_n 0, 1) := by decide +kernel
theorem dX2_isAtEnd_1 : decode cX2_isAtEnd 1 = .ok (.getfield 23, 3) := by decide +kernel
theorem dX2_isAtEnd_4 : decode cX2_isAtEnd 4 = .ok (.aload_n 0, 1) := by decide +kernel
theorem dX2_isAtEnd_5 : decode cX2_isAtEnd 5 = .ok (.getfield 20, 3) := by decide +kernel
theorem dX2_isAtEnd_8 : decode cX2_isAtEnd 8 = .ok (.invokevirtual 27, 3) := by decide +kernel
theorem dX2_isAtEnd_11 : decode cX2_isAtEnd 11 = .ok (.if_icmp .lt 7, 3) := by decide +kernel
theorem dX2_isAtEnd_14 : decode cX2_isAtEnd 14 = .ok (.iconst 1, 1) := by decide +kernel
theorem dX2_isAtEnd_15 : decode cX2_isAtEnd 15 = .ok (.goto 4, 3) := by decide +kernel
theorem dX2_isAtEnd_18 : decode cX2_isAtEnd 18 = .ok (.iconst 0, 1) := by decide +kernel
theorem dX2_isAtEnd_19 : decode cX2_isAtEnd 19 = .ok (.ireturn, 1) := by decide +kernel
theorem dX2_fault_0 : decode cX2_fault 0 = .ok (.bipush (-100), 2) := by decide +kernel
theorem dX2_fault_2 : decode cX2_fault 2 = .ok (.aload_n 0, 1) := by decide +kernel
theorem dX2_fault_3 : decode cX2_fault 3 = .ok (.getfield 23, 3) := by decide +kernel
theorem dX2_fault_6 : decode cX2_fault 6 = .ok (.isub, 1) := by decide +kernel
theorem dX2_fault_7 : decode cX2_fault 7 = .ok (.ireturn, 1) := by decide +kernel
set_option maxRecDepth 20000 in
theorem ggX2_take_X3_get : GoodIn wsX2_take wsX3_get := goodIn_r _ [7, 8, 9, 17, 18] (by decide +kernel) (by decide +kernel)
set_option maxRecDepth 20000 in
theorem gX2_take_X3_get : GoodIn wsX2_take (wsV RX2 31 RX3 yX3_get wsX3_get) := goodIn_app (goodIn_of _ (by decide +kernel)) ggX2_take_X3_get
theorem dX2_take_0 : decode cX2_take 0 = .ok (.aload_n 0, 1) := by decide +kernel
theorem dX2_take_1 : decode cX2_take 1 = .ok (.getfield 20, 3) := by decide +kernel
theorem dX2_take_4 : decode cX2_take 4 = .ok (.aload_n 0, 1) := by decide +kernel
theorem dX2_take_5 : decode cX2_take 5 = .ok (.getfield 23, 3) := by decide +kernel
theorem dX2_take_8 : decode cX2_take 8 = .ok (.invokevirtual 31, 3) := by decide +kernel
theorem dX2_take_11 : decode cX2_take 11 = .ok (.iload_n 1, 1) := by decide +kernel
theorem dX2_take_12 : decode cX2_take 12 = .ok (.if_icmp .ne 7, 3) := by decide +kernel
theorem dX2_take_15 : decode cX2_take 15 = .ok (.iconst 1, 1) := by decide +kernel
theorem dX2_take_16 : decode cX2_take 16 = .ok (.goto 4, 3) := by decide +kernel
theorem dX2_take_19 : decode cX2_take 19 = .ok (.iconst 0, 1) := by decide +kernel
theorem dX2_take_20 : decode cX2_take 20 = .ok (.istore_n 2, 1) := by decide +kernel
theorem dX2_take_21 : decode cX2_take 21 = .ok (.iload_n 2, 1) := by decide +kernel
theorem dX2_take_22 : decode cX2_take 22 = .ok (.ifCond .eq 13, 3) := by decide +kernel
theorem dX2_take_25 : decode cX2_take 25 = .ok (.aload_n 0, 1) := by decide +kernel
theorem dX2_take_26 : decode cX2_take 26 = .ok (.dup, 1) := by decide +kernel
theorem dX2_take_27 : decode cX2_take 27 = .ok (.getfield 23, 3) := by decide +kernel
theorem dX2_take_30 : decode cX2_take 30 = .ok (.iconst 1, 1) := by decide +kernel
theorem dX2_take_31 : decode cX2_take 31 = .ok (.iadd, 1) := by decide +kernel
theorem dX2_take_32 : decode cX2_take 32 = .ok (.putfield 23, 3) := by decide +kernel
theorem dX2_take_35 : decode cX2_take 35 = .ok (.iload_n 2, 1) := by decide +kernel
theorem dX2_take_36 : decode cX2_take 36 = .ok (.ireturn, 1) := by decide +kernel
set_option maxRecDepth 20000 in
theorem ggX2_takeLetters_X3_clear : GoodIn wsX2_takeLetters wsX3_clear := goodIn_r _ [8, 9, 33, 34] (by decide +kernel) (by decide +kernel)
set_option maxRecDepth 20000 in
theorem gX2_takeLetters_X3_clear : GoodIn wsX2_takeLetters (wsV RX2 35 RX3 yX3_clear wsX3_clear) := goodIn_app (goodIn_of _ (by decide +kernel)) ggX2_takeLetters_X3_clear
set_option maxRecDepth 20000 in
theorem ggX2_takeLetters_X3_get : GoodIn wsX2_takeLetters wsX3_get := goodIn_r _ [13, 9, 14, 33, 34] (by decide +kernel) (by decide +kernel)
set_option maxRecDepth 20000 in
theorem gX2_takeLetters_X3_get : GoodIn wsX2_takeLetters (wsV RX2 31 RX3 yX3_get wsX3_get) := goodIn_app (goodIn_of _ (by decide +kernel)) ggX2_takeLetters_X3_get
set_option maxRecDepth 20000 in
theorem ggX2_takeLetters_X7_isSmall : GoodIn wsX2_takeLetters wsX7_isSmall := goodIn_r _ [17] (by decide +kernel) (by decide +kernel)
set_option maxRecDepth 20000 in
theorem gX2_takeLetters_X7_isSmall_n38 : GoodIn wsX2_takeLetters (wsX7_isSmall) := ggX2_takeLetters_X7_isSmall
set_option maxRecDepth 20000 in
theorem ggX2_takeLetters_X3_add : GoodIn wsX2_takeLetters wsX3_add := goodIn_r _ [21, 9, 14, 33, 34] (by decide +kernel) (by decide +kernel)
set_option maxRecDepth 20000 in
theorem gX2_takeLetters_X3_add : GoodIn wsX2_takeLetters (wsV RX2 42 RX3 yX3_add wsX3_add) := goodIn_app (goodIn_of _ (by decide +kernel)) ggX2_takeLetters_X3_add
set_option maxRecDepth 20000 in
theorem ggX2_takeLetters_X3_size : GoodIn wsX2_takeLetters wsX3_size := goodIn_r _ [25, 9, 33, 34] (by decide +kernel) (by decide +kernel)
set_option maxRecDepth 20000 in
theorem gX2_takeLetters_X3_size : GoodIn wsX2_takeLetters (wsV RX2 27 RX3 yX3_size wsX3_size) := goodIn_app (goodIn_of _ (by decide +kernel)) ggX2_takeLetters_X3_size
theorem dX2_takeLetters_0 : decode cX2_takeLetters 0 = .ok (.aload_n 0, 1) := by decide +kernel
theorem dX2_takeLetters_1 : decode cX2_takeLetters 1 = .ok (.getfield 14, 3) := by decide +kernel
theorem dX2_takeLetters_4 : decode cX2_takeLetters 4 = .ok (.invokevirtual 35, 3) := by decide +kernel
theorem dX2_takeLetters_7 : decode cX2_takeLetters 7 = .ok (.iconst 0, 1) := by decide +kernel
theorem dX2_takeLetters_8 : decode cX2_takeLetters 8 = .ok (.istore_n 2, 1) := by decide +kernel
theorem dX2_takeLetters_9 : decode cX2_takeLetters 9 = .ok (.iload_n 2, 1) := by decide +kernel
theorem dX2_takeLetters_10 : decode cX2_takeLetters 10 = .ok (.iload_n 1, 1) := by decide +kernel
theorem dX2_takeLetters_11 : decode cX2_takeLetters 11 = .ok (.if_icmp .ge 54, 3) := by decide +kernel
theorem dX2_takeLetters_14 : decode cX2_takeLetters 14 = .ok (.aload_n 0, 1) := by decide +kernel
theorem dX2_takeLetters_15 : decode cX2_takeLetters 15 = .ok (.getfield 20, 3) := by decide +kernel
theorem dX2_takeLetters_18 : decode cX2_takeLetters 18 = .ok (.aload_n 0, 1) := by decide +kernel
theorem dX2_takeLetters_19 : decode cX2_takeLetters 19 = .ok (.getfield 23, 3) := by decide +kernel
theorem dX2_takeLetters_22 : decode cX2_takeLetters 22 = .ok (.invokevirtual 31, 3) := by decide +kernel
theorem dX2_takeLetters_25 : decode cX2_takeLetters 25 = .ok (.invokestatic 38, 3) := by decide +kernel
theorem dX2_takeLetters_28 : decode cX2_takeLetters 28 = .ok (.ifCond .eq 37, 3) := by decide +kernel
theorem dX2_takeLetters_31 : decode cX2_takeLetters 31 = .ok (.aload_n 0, 1) := by decide +kernel
theorem dX2_takeLetters_32 : decode cX2_takeLetters 32 = .ok (.getfield 14, 3) := by decide +kernel
theorem dX2_takeLetters_35 : decode cX2_takeLetters 35 = .ok (.aload_n 0, 1) := by decide +kernel
theorem dX2_takeLetters_36 : decode cX2_takeLetters 36 = .ok (.getfield 20, 3) := by decide +kernel
theorem dX2_takeLetters_39 : decode cX2_takeLetters 39 = .ok (.aload_n 0, 1) := by decide +kernel
theorem dX2_takeLetters_40 : decode cX2_takeLetters 40 = .ok (.getfield 23, 3) := by decide +kernel
theorem dX2_takeLetters_43 : decode cX2_takeLetters 43 = .ok (.invokevirtual 31, 3) := by decide +kernel
theorem dX2_takeLetters_46 : decode cX2_takeLetters 46 = .ok (.invokevirtual 42, 3) := by decide +kernel
theorem dX2_takeLetters_49 : decode cX2_takeLetters 49 = .ok (.aload_n 0, 1) := by decide +kernel
theorem dX2_takeLetters_50 : decode cX2_takeLetters 50 = .ok (.dup, 1) := by decide +kernel
theorem dX2_takeLetters_51 : decode cX2_takeLetters 51 = .ok (.getfield 23, 3) := by decide +kernel
theorem dX2_takeLetters_54 : decode cX2_takeLetters 54 = .ok (.iconst 1, 1) := by decide +kernel
theorem dX2_takeLetters_55 : decode cX2_takeLetters 55 = .ok (.iadd, 1) := by decide +kernel
theorem dX2_takeLetters_56 : decode cX2_takeLetters 56 = .ok (.putfield 23, 3) := by decide +kernel
theorem dX2_takeLetters_59 : decode cX2_takeLetters 59 = .ok (.iinc 2 1, 3) := by decide +kernel
theorem dX2_takeLetters_62 : decode cX2_takeLetters 62 = .ok (.goto (-53), 3) := by decide +kernel
theorem dX2_takeLetters_65 : decode cX2_takeLetters 65 = .ok (.aload_n 0, 1) := by decide +kernel
theorem dX2_takeLetters_66 : decode cX2_takeLetters 66 = .ok (.getfield 14, 3) := by decide +kernel
theorem dX2_takeLetters_69 : decode cX2_takeLetters 69 = .ok (.invokevirtual 27, 3) := by decide +kernel
theorem dX2_takeLetters_72 : decode cX2_takeLetters 72 = .ok (.ifCond .le 7, 3) := by decide +kernel
theorem dX2_takeLetters_75 : decode cX2_takeLetters 75 = .ok (.iconst 1, 1) := by decide +kernel
theorem dX2_takeLetters_76 : decode cX2_takeLetters 76 = .ok (.goto 4, 3) := by decide +kernel
theorem dX2_takeLetters_79 : decode cX2_takeLetters 79 = .ok (.iconst 0, 1) := by decide +kernel
theorem dX2_takeLetters_80 : decode cX2_takeLetters 80 = .ok (.ireturn, 1) := by decide +kernel
set_option maxRecDepth 20000 in
theorem ggX2_takeEntry_X3_get : GoodIn wsX2_takeEntry wsX3_get := goodIn_r _ [7, 8, 9, 71, 72] (by decide +kernel) (by decide +kernel)
set_option maxRecDepth 20000 in
theorem gX2_takeEntry_X3_get : GoodIn wsX2_takeEntry (wsV RX2 31 RX3 yX3_get wsX3_get) := goodIn_app (goodIn_of _ (by decide +kernel)) ggX2_takeEntry_X3_get
set_option maxRecDepth 20000 in
theorem ggX2_takeEntry_X2_takeWord : GoodIn wsX2_takeEntry wsX2_takeWord := goodIn_r _ [14, 15, 16, 17, 18, 19, 13, 20, 1, 2, 3, 4, 5, 6, 7, 8, 9, 21, 22, 23, 24, 25, 26, 27, 28, 29, 30, 31, 32, 33, 34, 35, 36, 37, 38, 39, 40, 64, 65, 66, 67, 68, 69, 70, 71, 72] (by decide +kernel) (by decide +kernel)
set_option maxRecDepth 20000 in
theorem gX2_takeEntry_X2_takeWord : GoodIn wsX2_takeEntry (wsV RX2 45 RX2 yX2_takeWord wsX2_takeWord) := goodIn_app (goodIn_of _ (by decide +kernel)) ggX2_takeEntry_X2_takeWord
set_option maxRecDepth 20000 in
theorem ggX2_takeEntry_X7_isCapital : GoodIn wsX2_takeEntry wsX7_isCapital := goodIn_r _ [42] (by decide +kernel) (by decide +kernel)
set_option maxRecDepth 20000 in
theorem gX2_takeEntry_X7_isCapital_n49 : GoodIn wsX2_takeEntry (wsX7_isCapital) := ggX2_takeEntry_X7_isCapital
set_option maxRecDepth 20000 in
theorem ggX2_takeEntry_X2_takeSign : GoodIn wsX2_takeEntry wsX2_takeSign := goodIn_r _ [46, 15, 47, 48, 49, 13, 50, 1, 2, 51, 3, 4, 5, 6, 7, 8, 9, 41, 31, 42, 17, 18, 19, 20, 21, 22, 23, 24, 25, 26, 27, 28, 29, 30, 32, 33, 34, 35, 36, 37, 38, 39, 40, 64, 65, 66, 67, 68, 69, 70, 71, 72] (by decide +kernel) (by decide +kernel)
set_option maxRecDepth 20000 in
theorem gX2_takeEntry_X2_takeSign : GoodIn wsX2_takeEntry (wsV RX2 52 RX2 yX2_takeSign wsX2_takeSign) := goodIn_app (goodIn_of _ (by decide +kernel)) ggX2_takeEntry_X2_takeSign
set_option maxRecDepth 20000 in
theorem ggX2_takeEntry_X2_takeRule : GoodIn wsX2_takeEntry wsX2_takeRule := goodIn_r _ [55, 15, 56, 21, 22, 23, 13, 24, 25, 1, 2, 26, 27, 28, 6, 29, 8, 3, 4, 5, 7, 9, 30, 31, 32, 33, 34, 35, 36, 37, 38, 39, 40, 17, 18, 19, 20, 47, 48, 49, 50, 51, 41, 42, 57, 58, 59, 60, 61, 62, 63, 64, 65, 66, 67, 68, 69, 70, 71, 72] (by decide +kernel) (by decide +kernel)
set_option maxRecDepth 20000 in
theorem gX2_takeEntry_X2_takeRule : GoodIn wsX2_takeEntry (wsV RX2 55 RX2 yX2_takeRule wsX2_takeRule) := goodIn_app (goodIn_of _ (by decide +kernel)) ggX2_takeEntry_X2_takeRule
theorem dX2_takeEntry_0 : decode cX2_takeEntry 0 = .ok (.aload_n 0, 1) := by decide +kernel
theorem dX2_takeEntry_1 : decode cX2_takeEntry 1 = .ok (.getfield 20, 3) := by decide +kernel
theorem dX2_takeEntry_4 : decode cX2_takeEntry 4 = .ok (.aload_n 0, 1) := by decide +kernel
theorem dX2_takeEntry_5 : decode cX2_takeEntry 5 = .ok (.getfield 23, 3) := by decide +kernel
theorem dX2_takeEntry_8 : decode cX2_takeEntry 8 = .ok (.invokevirtual 31, 3) := by decide +kernel
theorem dX2_takeEntry_11 : decode cX2_takeEntry 11 = .ok (.istore_n 1, 1) := by decide +kernel
theorem dX2_takeEntry_12 : decode cX2_takeEntry 12 = .ok (.iload_n 1, 1) := by decide +kernel
theorem dX2_takeEntry_13 : decode cX2_takeEntry 13 = .ok (.bipush 58, 2) := by decide +kernel
theorem dX2_takeEntry_15 : decode cX2_takeEntry 15 = .ok (.if_icmp .ne 8, 3) := by decide +kernel
theorem dX2_takeEntry_18 : decode cX2_takeEntry 18 = .ok (.aload_n 0, 1) := by decide +kernel
theorem dX2_takeEntry_19 : decode cX2_takeEntry 19 = .ok (.invokevirtual 45, 3) := by decide +kernel
theorem dX2_takeEntry_22 : decode cX2_takeEntry 22 = .ok (.ireturn, 1) := by decide +kernel
theorem dX2_takeEntry_23 : decode cX2_takeEntry 23 = .ok (.iload_n 1, 1) := by decide +kernel
theorem dX2_takeEntry_24 : decode cX2_takeEntry 24 = .ok (.invokestatic 49, 3) := by decide +kernel
theorem dX2_takeEntry_27 : decode cX2_takeEntry 27 = .ok (.ifCond .eq 10, 3) := by decide +kernel
theorem dX2_takeEntry_30 : decode cX2_takeEntry 30 = .ok (.aload_n 0, 1) := by decide +kernel
theorem dX2_takeEntry_31 : decode cX2_takeEntry 31 = .ok (.invokevirtual 52, 3) := by decide +kernel
theorem dX2_takeEntry_34 : decode cX2_takeEntry 34 = .ok (.goto 7, 3) := by decide +kernel
theorem dX2_takeEntry_37 : decode cX2_takeEntry 37 = .ok (.aload_n 0, 1) := by decide +kernel
theorem dX2_takeEntry_38 : decode cX2_takeEntry 38 = .ok (.invokevirtual 55, 3) := by decide +kernel
theorem dX2_takeEntry_41 : decode cX2_takeEntry 41 = .ok (.ireturn, 1) := by decide +kernel
set_option maxRecDepth 20000 in
theorem ggX2_takeRule_X2_takeLetters : GoodIn wsX2_takeRule wsX2_takeLetters := goodIn_r _ [7, 8, 9, 10, 11, 12, 13, 14, 15, 16, 17, 18, 19, 20, 21, 22, 23, 24, 25, 26, 27, 28, 29, 30, 31, 32, 51, 52, 53, 54, 55, 56, 57, 58, 59] (by decide +kernel) (by decide +kernel)
set_option maxRecDepth 20000 in
theorem gX2_takeRule_X2_takeLetters : GoodIn wsX2_takeRule (wsV RX2 61 RX2 yX2_takeLetters wsX2_takeLetters) := goodIn_app (goodIn_of _ (by decide +kernel)) ggX2_takeRule_X2_takeLetters
set_option maxRecDepth 20000 in
theorem ggX2_takeRule_X2_take : GoodIn wsX2_takeRule wsX2_take := goodIn_r _ [36, 9, 10, 17, 18, 19, 14, 20, 16, 21, 51, 52, 53, 54, 55, 56, 57, 58, 59] (by decide +kernel) (by decide +kernel)
set_option maxRecDepth 20000 in
theorem gX2_takeRule_X2_take : GoodIn wsX2_takeRule (wsV RX2 64 RX2 yX2_take wsX2_take) := goodIn_app (goodIn_of _ (by decide +kernel)) ggX2_takeRule_X2_take
set_option maxRecDepth 20000 in
theorem ggX2_takeRule_X2_takeSound : GoodIn wsX2_takeRule wsX2_takeSound := goodIn_r _ [40, 9, 10, 41, 17, 18, 19, 14, 20, 16, 21, 42, 23, 43, 51, 52, 53, 54, 55, 56, 57, 58, 59] (by decide +kernel) (by decide +kernel)
set_option maxRecDepth 20000 in
theorem gX2_takeRule_X2_takeSound : GoodIn wsX2_takeRule (wsV RX2 67 RX2 yX2_takeSound wsX2_takeSound) := goodIn_app (goodIn_of _ (by decide +kernel)) ggX2_takeRule_X2_takeSound
set_option maxRecDepth 20000 in
theorem ggX2_takeRule_X2_takeSide : GoodIn wsX2_takeRule wsX2_takeSide := goodIn_r _ [47, 9, 10, 17, 18, 19, 14, 20, 16, 21, 48, 49, 6, 50, 51, 52, 53, 54, 55, 56, 57, 58, 59] (by decide +kernel) (by decide +kernel)
set_option maxRecDepth 20000 in
theorem gX2_takeRule_X2_takeSide : GoodIn wsX2_takeRule (wsV RX2 70 RX2 yX2_takeSide wsX2_takeSide) := goodIn_app (goodIn_of _ (by decide +kernel)) ggX2_takeRule_X2_takeSide
theorem dX2_takeRule_0 : decode cX2_takeRule 0 = .ok (.aload_n 0, 1) := by decide +kernel
theorem dX2_takeRule_1 : decode cX2_takeRule 1 = .ok (.iconst 0, 1) := by decide +kernel
theorem dX2_takeRule_2 : decode cX2_takeRule 2 = .ok (.putfield 58, 3) := by decide +kernel
theorem dX2_takeRule_5 : decode cX2_takeRule 5 = .ok (.aload_n 0, 1) := by decide +kernel
theorem dX2_takeRule_6 : decode cX2_takeRule 6 = .ok (.iconst 4, 1) := by decide +kernel
theorem dX2_takeRule_7 : decode cX2_takeRule 7 = .ok (.invokevirtual 61, 3) := by decide +kernel
theorem dX2_takeRule_10 : decode cX2_takeRule 10 = .ok (.ifCond .eq 19, 3) := by decide +kernel
theorem dX2_takeRule_13 : decode cX2_takeRule 13 = .ok (.aload_n 0, 1) := by decide +kernel
theorem dX2_takeRule_14 : decode cX2_takeRule 14 = .ok (.bipush 61, 2) := by decide +kernel
theorem dX2_takeRule_16 : decode cX2_takeRule 16 = .ok (.invokevirtual 64, 3) := by decide +kernel
theorem dX2_takeRule_19 : decode cX2_takeRule 19 = .ok (.ifCond .eq 10, 3) := by decide +kernel
theorem dX2_takeRule_22 : decode cX2_takeRule 22 = .ok (.aload_n 0, 1) := by decide +kernel
theorem dX2_takeRule_23 : decode cX2_takeRule 23 = .ok (.invokevirtual 67, 3) := by decide +kernel
theorem dX2_takeRule_26 : decode cX2_takeRule 26 = .ok (.ifCond .ne 5, 3) := by decide +kernel
theorem dX2_takeRule_29 : decode cX2_takeRule 29 = .ok (.iconst 0, 1) := by decide +kernel
theorem dX2_takeRule_30 : decode cX2_takeRule 30 = .ok (.ireturn, 1) := by decide +kernel
theorem dX2_takeRule_31 : decode cX2_takeRule 31 = .ok (.aload_n 0, 1) := by decide +kernel
theorem dX2_takeRule_32 : decode cX2_takeRule 32 = .ok (.aload_n 0, 1) := by decide +kernel
theorem dX2_takeRule_33 : decode cX2_takeRule 33 = .ok (.invokevirtual 70, 3) := by decide +kernel
theorem dX2_takeRule_36 : decode cX2_takeRule 36 = .ok (.putfield 73, 3) := by decide +kernel
theorem dX2_takeRule_39 : decode cX2_takeRule 39 = .ok (.iconst 1, 1) := by decide +kernel
theorem dX2_takeRule_40 : decode cX2_takeRule 40 = .ok (.ireturn, 1) := by decide +kernel
set_option maxRecDepth 20000 in
theorem ggX2_takeSound_X3_get : GoodIn wsX2_takeSound wsX3_get := goodIn_r _ [8, 9, 10, 21, 22] (by decide +kernel) (by decide +kernel)
set_option maxRecDepth 20000 in
theorem gX2_takeSound_X3_get : GoodIn wsX2_takeSound (wsV RX2 31 RX3 yX3_get wsX3_get) := goodIn_app (goodIn_of _ (by decide +kernel)) ggX2_takeSound_X3_get
set_option maxRecDepth 20000 in
theorem ggX2_takeSound_X7_isCapital : GoodIn wsX2_takeSound wsX7_isCapital := goodIn_r _ [13] (by decide +kernel) (by decide +kernel)
set_option maxRecDepth 20000 in
theorem gX2_takeSound_X7_isCapital_n49 : GoodIn wsX2_takeSound (wsX7_isCapital) := ggX2_takeSound_X7_isCapital
theorem dX2_takeSound_0 : decode cX2_takeSound 0 = .ok (.aload_n 0, 1) := by decide +kernel
theorem dX2_takeSound_1 : decode cX2_takeSound 1 = .ok (.getfield 20, 3) := by decide +kernel
theorem dX2_takeSound_4 : decode cX2_takeSound 4 = .ok (.aload_n 0, 1) := by decide +kernel
theorem dX2_takeSound_5 : decode cX2_takeSound 5 = .ok (.getfield 23, 3) := by decide +kernel
theorem dX2_takeSound_8 : decode cX2_takeSound 8 = .ok (.invokevirtual 31, 3) := by decide +kernel
theorem dX2_takeSound_11 : decode cX2_takeSound 11 = .ok (.istore_n 1, 1) := by decide +kernel
theorem dX2_takeSound_12 : decode cX2_takeSound 12 = .ok (.iload_n 1, 1) := by decide +kernel
theorem dX2_takeSound_13 : decode cX2_takeSound 13 = .ok (.bipush 95, 2) := by decide +kernel
theorem dX2_takeSound_15 : decode cX2_takeSound 15 = .ok (.if_icmp .eq 12, 3) := by decide +kernel
theorem dX2_takeSound_18 : decode cX2_takeSound 18 = .ok (.iload_n 1, 1) := by decide +kernel
theorem dX2_takeSound_19 : decode cX2_takeSound 19 = .ok (.invokestatic 49, 3) := by decide +kernel
theorem dX2_takeSound_22 : decode cX2_takeSound 22 = .ok (.ifCond .ne 5, 3) := by decide +kernel
theorem dX2_takeSound_25 : decode cX2_takeSound 25 = .ok (.iconst 0, 1) := by decide +kernel
theorem dX2_takeSound_26 : decode cX2_takeSound 26 = .ok (.ireturn, 1) := by decide +kernel
theorem dX2_takeSound_27 : decode cX2_takeSound 27 = .ok (.aload_n 0, 1) := by decide +kernel
theorem dX2_takeSound_28 : decode cX2_takeSound 28 = .ok (.iload_n 1, 1) := by decide +kernel
theorem dX2_takeSound_29 : decode cX2_takeSound 29 = .ok (.bipush 95, 2) := by decide +kernel
theorem dX2_takeSound_31 : decode cX2_takeSound 31 = .ok (.if_icmp .ne 7, 3) := by decide +kernel
theorem dX2_takeSound_34 : decode cX2_takeSound 34 = .ok (.iconst 0, 1) := by decide +kernel
theorem dX2_takeSound_35 : decode cX2_takeSound 35 = .ok (.goto 4, 3) := by decide +kernel
theorem dX2_takeSound_38 : decode cX2_takeSound 38 = .ok (.iload_n 1, 1) := by decide +kernel
theorem dX2_takeSound_39 : decode cX2_takeSound 39 = .ok (.putfield 76, 3) := by decide +kernel
theorem dX2_takeSound_42 : decode cX2_takeSound 42 = .ok (.aload_n 0, 1) := by decide +kernel
theorem dX2_takeSound_43 : decode cX2_takeSound 43 = .ok (.dup, 1) := by decide +kernel
theorem dX2_takeSound_44 : decode cX2_takeSound 44 = .ok (.getfield 23, 3) := by decide +kernel
theorem dX2_takeSound_47 : decode cX2_takeSound 47 = .ok (.iconst 1, 1) := by decide +kernel
theorem dX2_takeSound_48 : decode cX2_takeSound 48 = .ok (.iadd, 1) := by decide +kernel
theorem dX2_takeSound_49 : decode cX2_takeSound 49 = .ok (.putfield 23, 3) := by decide +kernel
theorem dX2_takeSound_52 : decode cX2_takeSound 52 = .ok (.iconst 1, 1) := by decide +kernel
theorem dX2_takeSound_53 : decode cX2_takeSound 53 = .ok (.ireturn, 1) := by decide +kernel
set_option maxRecDepth 20000 in
theorem ggX2_takeSide_X3_get : GoodIn wsX2_takeSide wsX3_get := goodIn_r _ [7, 8, 9, 21, 22] (by decide +kernel) (by decide +kernel)
set_option maxRecDepth 20000 in
theorem gX2_takeSide_X3_get : GoodIn wsX2_takeSide (wsV RX2 31 RX3 yX3_get wsX3_get) := goodIn_app (goodIn_of _ (by decide +kernel)) ggX2_takeSide_X3_get
set_option maxRecDepth 20000 in
theorem ggX2_takeSide_X2_sideOf : GoodIn wsX2_takeSide wsX2_sideOf := goodIn_r _ [13] (by decide +kernel) (by decide +kernel)
set_option maxRecDepth 20000 in
theorem gX2_takeSide_X2_sideOf : GoodIn wsX2_takeSide (va_wsS RX2 79 yX2_sideOf wsX2_sideOf) := goodIn_app (goodIn_of _ (by decide +kernel)) ggX2_takeSide_X2_sideOf
theorem dX2_takeSide_0 : decode cX2_takeSide 0 = .ok (.aload_n 0, 1) := by decide +kernel
theorem dX2_takeSide_1 : decode cX2_takeSide 1 = .ok (.getfield 20, 3) := by decide +kernel
theorem dX2_takeSide_4 : decode cX2_takeSide 4 = .ok (.aload_n 0, 1) := by decide +kernel
theorem dX2_takeSide_5 : decode cX2_takeSide 5 = .ok (.getfield 23, 3) := by decide +kernel
theorem dX2_takeSide_8 : decode cX2_takeSide 8 = .ok (.invokevirtual 31, 3) := by decide +kernel
theorem dX2_takeSide_11 : decode cX2_takeSide 11 = .ok (.invokestatic 79, 3) := by decide +kernel
theorem dX2_takeSide_14 : decode cX2_takeSide 14 = .ok (.istore_n 1, 1) := by decide +kernel
theorem dX2_takeSide_15 : decode cX2_takeSide 15 = .ok (.iload_n 1, 1) := by decide +kernel
theorem dX2_takeSide_16 : decode cX2_takeSide 16 = .ok (.ifCond .eq 13, 3) := by decide +kernel
theorem dX2_takeSide_19 : decode cX2_takeSide 19 = .ok (.aload_n 0, 1) := by decide +kernel
theorem dX2_takeSide_20 : decode cX2_takeSide 20 = .ok (.dup, 1) := by decide +kernel
theorem dX2_takeSide_21 : decode cX2_takeSide 21 = .ok (.getfield 23, 3) := by decide +kernel
theorem dX2_takeSide_24 : decode cX2_takeSide 24 = .ok (.iconst 1, 1) := by decide +kernel
theorem dX2_takeSide_25 : decode cX2_takeSide 25 = .ok (.iadd, 1) := by decide +kernel
theorem dX2_takeSide_26 : decode cX2_takeSide 26 = .ok (.putfield 23, 3) := by decide +kernel
theorem dX2_takeSide_29 : decode cX2_takeSide 29 = .ok (.iload_n 1, 1) := by decide +kernel
theorem dX2_takeSide_30 : decode cX2_takeSide 30 = .ok (.ireturn, 1) := by decide +kernel
theorem dX2_sideOf_0 : decode cX2_sideOf 0 = .ok (.iload_n 0, 1) := by decide +kernel
theorem dX2_sideOf_1 : decode cX2_sideOf 1 = .ok (.lookupswitch 61 #[(36, 53), (43, 55), (45, 57), (60, 59), (94, 51)], 51) := by decide +kernel
theorem dX2_sideOf_52 : decode cX2_sideOf 52 = .ok (.iconst 1, 1) := by decide +kernel
theorem dX2_sideOf_53 : decode cX2_sideOf 53 = .ok (.ireturn, 1) := by decide +kernel
theorem dX2_sideOf_54 : decode cX2_sideOf 54 = .ok (.iconst 2, 1) := by decide +kernel
theorem dX2_sideOf_55 : decode cX2_sideOf 55 = .ok (.ireturn, 1) := by decide +kernel
theorem dX2_sideOf_56 : decode cX2_sideOf 56 = .ok (.iconst 3, 1) := by decide +kernel
theorem dX2_sideOf_57 : decode cX2_sideOf 57 = .ok (.ireturn, 1) := by decide +kernel
theorem dX2_sideOf_58 : decode cX2_sideOf 58 = .ok (.iconst 4, 1) := by decide +kernel
theorem dX2_sideOf_59 : decode cX2_sideOf 59 = .ok (.ireturn, 1) := by decide +kernel
theorem dX2_sideOf_60 : decode cX2_sideOf 60 = .ok (.iconst 5, 1) := by decide +kernel
theorem dX2_sideOf_61 : decode cX2_sideOf 61 = .ok (.ireturn, 1) := by decide +kernel
theorem dX2_sideOf_62 : decode cX2_sideOf 62 = .ok (.iconst 0, 1) := by decide +kernel
theorem dX2_sideOf_63 : decode cX2_sideOf 63 = .ok (.ireturn, 1) := by decide +kernel
set_option maxRecDepth 20000 in
theorem ggX2_takeWord_X2_take : GoodIn wsX2_takeWord wsX2_take := goodIn_r _ [7, 8, 9, 10, 11, 12, 13, 14, 15, 16, 37, 38, 39, 40, 41, 42, 43, 44, 45] (by decide +kernel) (by decide +kernel)
set_option maxRecDepth 20000 in
theorem gX2_takeWord_X2_take : GoodIn wsX2_takeWord (wsV RX2 64 RX2 yX2_take wsX2_take) := goodIn_app (goodIn_of _ (by decide +kernel)) ggX2_takeWord_X2_take
set_option maxRecDepth 20000 in
theorem ggX2_takeWord_X2_takeLetters : GoodIn wsX2_takeWord wsX2_takeLetters := goodIn_r _ [20, 21, 8, 9, 22, 23, 24, 13, 25, 15, 10, 11, 12, 14, 16, 26, 27, 28, 29, 30, 31, 32, 33, 34, 35, 36, 37, 38, 39, 40, 41, 42, 43, 44, 45] (by decide +kernel) (by decide +kernel)
set_option maxRecDepth 20000 in
theorem gX2_takeWord_X2_takeLetters : GoodIn wsX2_takeWord (wsV RX2 61 RX2 yX2_takeLetters wsX2_takeLetters) := goodIn_app (goodIn_of _ (by decide +kernel)) ggX2_takeWord_X2_takeLetters
theorem dX2_takeWord_0 : decode cX2_takeWord 0 = .ok (.aload_n 0, 1) := by decide +kernel
theorem dX2_takeWord_1 : decode cX2_takeWord 1 = .ok (.iconst 1, 1) := by decide +kernel
theorem dX2_takeWord_2 : decode cX2_takeWord 2 = .ok (.putfield 58, 3) := by decide +kernel
theorem dX2_takeWord_5 : decode cX2_takeWord 5 = .ok (.aload_n 0, 1) := by decide +kernel
theorem dX2_takeWord_6 : decode cX2_takeWord 6 = .ok (.bipush 58, 2) := by decide +kernel
theorem dX2_takeWord_8 : decode cX2_takeWord 8 = .ok (.invokevirtual 64, 3) := by decide +kernel
theorem dX2_takeWord_11 : decode cX2_takeWord 11 = .ok (.ifCond .eq 12, 3) := by decide +kernel
theorem dX2_takeWord_14 : decode cX2_takeWord 14 = .ok (.aload_n 0, 1) := by decide +kernel
theorem dX2_takeWord_15 : decode cX2_takeWord 15 = .ok (.bipush 12, 2) := by decide +kernel
theorem dX2_takeWord_17 : decode cX2_takeWord 17 = .ok (.invokevirtual 61, 3) := by decide +kernel
theorem dX2_takeWord_20 : decode cX2_takeWord 20 = .ok (.ifCond .ne 5, 3) := by decide +kernel
theorem dX2_takeWord_23 : decode cX2_takeWord 23 = .ok (.iconst 0, 1) := by decide +kernel
theorem dX2_takeWord_24 : decode cX2_takeWord 24 = .ok (.ireturn, 1) := by decide +kernel
theorem dX2_takeWord_25 : decode cX2_takeWord 25 = .ok (.aload_n 0, 1) := by decide +kernel
theorem dX2_takeWord_26 : decode cX2_takeWord 26 = .ok (.iconst 0, 1) := by decide +kernel
theorem dX2_takeWord_27 : decode cX2_takeWord 27 = .ok (.putfield 82, 3) := by decide +kernel
theorem dX2_takeWord_30 : decode cX2_takeWord 30 = .ok (.aload_n 0, 1) := by decide +kernel
theorem dX2_takeWord_31 : decode cX2_takeWord 31 = .ok (.bipush 33, 2) := by decide +kernel
theorem dX2_takeWord_33 : decode cX2_takeWord 33 = .ok (.invokevirtual 64, 3) := by decide +kernel
theorem dX2_takeWord_36 : decode cX2_takeWord 36 = .ok (.ifCond .eq 11, 3) := by decide +kernel
theorem dX2_takeWord_39 : decode cX2_takeWord 39 = .ok (.aload_n 0, 1) := by decide +kernel
theorem dX2_takeWord_40 : decode cX2_takeWord 40 = .ok (.iconst 1, 1) := by decide +kernel
theorem dX2_takeWord_41 : decode cX2_takeWord 41 = .ok (.putfield 82, 3) := by decide +kernel
theorem dX2_takeWord_44 : decode cX2_takeWord 44 = .ok (.goto 17, 3) := by decide +kernel
theorem dX2_takeWord_47 : decode cX2_takeWord 47 = .ok (.aload_n 0, 1) := by decide +kernel
theorem dX2_takeWord_48 : decode cX2_takeWord 48 = .ok (.bipush 39, 2) := by decide +kernel
theorem dX2_takeWord_50 : decode cX2_takeWord 50 = .ok (.invokevirtual 64, 3) := by decide +kernel
theorem dX2_takeWord_53 : decode cX2_takeWord 53 = .ok (.ifCond .eq 8, 3) := by decide +kernel
theorem dX2_takeWord_56 : decode cX2_takeWord 56 = .ok (.aload_n 0, 1) := by decide +kernel
theorem dX2_takeWord_57 : decode cX2_takeWord 57 = .ok (.iconst 2, 1) := by decide +kernel
theorem dX2_takeWord_58 : decode cX2_takeWord 58 = .ok (.putfield 82, 3) := by decide +kernel
theorem dX2_takeWord_61 : decode cX2_takeWord 61 = .ok (.iconst 1, 1) := by decide +kernel
theorem dX2_takeWord_62 : decode cX2_takeWord 62 = .ok (.ireturn, 1) := by decide +kernel
set_option maxRecDepth 20000 in
theorem ggX2_takeSign_X2_takeSound : GoodIn wsX2_takeSign wsX2_takeSound := goodIn_r _ [6, 7, 8, 9, 10, 11, 12, 13, 14, 15, 16, 17, 18, 19, 43, 44, 45, 46, 47, 48, 49, 50, 51] (by decide +kernel) (by decide +kernel)
set_option maxRecDepth 20000 in
theorem gX2_takeSign_X2_takeSound : GoodIn wsX2_takeSign (wsV RX2 67 RX2 yX2_takeSound wsX2_takeSound) := goodIn_app (goodIn_of _ (by decide +kernel)) ggX2_takeSign_X2_takeSound
set_option maxRecDepth 20000 in
theorem ggX2_takeSign_X2_take : GoodIn wsX2_takeSign wsX2_take := goodIn_r _ [23, 7, 8, 10, 11, 12, 13, 14, 15, 16, 43, 44, 45, 46, 47, 48, 49, 50, 51] (by decide +kernel) (by decide +kernel)
set_option maxRecDepth 20000 in
theorem gX2_takeSign_X2_take : GoodIn wsX2_takeSign (wsV RX2 64 RX2 yX2_take wsX2_take) := goodIn_app (goodIn_of _ (by decide +kernel)) ggX2_takeSign_X2_take
set_option maxRecDepth 20000 in
theorem ggX2_takeSign_X2_takeLetters : GoodIn wsX2_takeSign wsX2_takeLetters := goodIn_r _ [27, 28, 7, 8, 29, 30, 31, 13, 32, 15, 10, 11, 12, 14, 16, 33, 18, 34, 35, 36, 37, 38, 39, 40, 41, 42, 43, 44, 45, 46, 47, 48, 49, 50, 51] (by decide +kernel) (by decide +kernel)
set_option maxRecDepth 20000 in
theorem gX2_takeSign_X2_takeLetters : GoodIn wsX2_takeSign (wsV RX2 61 RX2 yX2_takeLetters wsX2_takeLetters) := goodIn_app (goodIn_of _ (by decide +kernel)) ggX2_takeSign_X2_takeLetters
theorem dX2_takeSign_0 : decode cX2_takeSign 0 = .ok (.aload_n 0, 1) := by decide +kernel
theorem dX2_takeSign_1 : decode cX2_takeSign 1 = .ok (.iconst 2, 1) := by decide +kernel
theorem dX2_takeSign_2 : decode cX2_takeSign 2 = .ok (.putfield 58, 3) := by decide +kernel
theorem dX2_takeSign_5 : decode cX2_takeSign 5 = .ok (.aload_n 0, 1) := by decide +kernel
theorem dX2_takeSign_6 : decode cX2_takeSign 6 = .ok (.invokevirtual 67, 3) := by decide +kernel
theorem dX2_takeSign_9 : decode cX2_takeSign 9 = .ok (.ifCond .eq 24, 3) := by decide +kernel
theorem dX2_takeSign_12 : decode cX2_takeSign 12 = .ok (.aload_n 0, 1) := by decide +kernel
theorem dX2_takeSign_13 : decode cX2_takeSign 13 = .ok (.bipush 61, 2) := by decide +kernel
theorem dX2_takeSign_15 : decode cX2_takeSign 15 = .ok (.invokevirtual 64, 3) := by decide +kernel
theorem dX2_takeSign_18 : decode cX2_takeSign 18 = .ok (.ifCond .eq 15, 3) := by decide +kernel
theorem dX2_takeSign_21 : decode cX2_takeSign 21 = .ok (.aload_n 0, 1) := by decide +kernel
theorem dX2_takeSign_22 : decode cX2_takeSign 22 = .ok (.iconst 2, 1) := by decide +kernel
theorem dX2_takeSign_23 : decode cX2_takeSign 23 = .ok (.invokevirtual 61, 3) := by decide +kernel
theorem dX2_takeSign_26 : decode cX2_takeSign 26 = .ok (.ifCond .eq 7, 3) := by decide +kernel
theorem dX2_takeSign_29 : decode cX2_takeSign 29 = .ok (.iconst 1, 1) := by decide +kernel
theorem dX2_takeSign_30 : decode cX2_takeSign 30 = .ok (.goto 4, 3) := by decide +kernel
theorem dX2_takeSign_33 : decode cX2_takeSign 33 = .ok (.iconst 0, 1) := by decide +kernel
theorem dX2_takeSign_34 : decode cX2_takeSign 34 = .ok (.ireturn, 1) := by decide +kernel
