theorem dX8_init_0 : decode cX8_init 0 = .ok (.aload_n 0, 1) := by decide +kernel
theorem dX8_init_1 : decode cX8_init 1 = .ok (.invokespecial 1, 3) := by decide +kernel
theorem dX8_init_4 : decode cX8_init 4 = .ok (.aload_n 0, 1) := by decide +kernel
theorem dX8_init_5 : decode cX8_init 5 = .ok (.sipush 570, 3) := by decide +kernel
theorem dX8_init_8 : decode cX8_init 8 = .ok (.newarray .int, 2) := by decide +kernel
theorem dX8_init_10 : decode cX8_init 10 = .ok (.putfield 7, 3) := by decide +kernel
theorem dX8_init_13 : decode cX8_init 13 = .ok (.aload_n 0, 1) := by decide +kernel
theorem dX8_init_14 : decode cX8_init 14 = .ok (.sipush 570, 3) := by decide +kernel
theorem dX8_init_17 : decode cX8_init 17 = .ok (.newarray .int, 2) := by decide +kernel
theorem dX8_init_19 : decode cX8_init 19 = .ok (.putfield 13, 3) := by decide +kernel
theorem dX8_init_22 : decode cX8_init 22 = .ok (.aload_n 0, 1) := by decide +kernel
theorem dX8_init_23 : decode cX8_init 23 = .ok (.sipush 2280, 3) := by decide +kernel
theorem dX8_init_26 : decode cX8_init 26 = .ok (.newarray .int, 2) := by decide +kernel
theorem dX8_init_28 : decode cX8_init 28 = .ok (.putfield 16, 3) := by decide +kernel
theorem dX8_init_31 : decode cX8_init 31 = .ok (.aload_n 0, 1) := by decide +kernel
theorem dX8_init_32 : decode cX8_init 32 = .ok (.sipush 570, 3) := by decide +kernel
theorem dX8_init_35 : decode cX8_init 35 = .ok (.newarray .int, 2) := by decide +kernel
theorem dX8_init_37 : decode cX8_init 37 = .ok (.putfield 19, 3) := by decide +kernel
theorem dX8_init_40 : decode cX8_init 40 = .ok (.aload_n 0, 1) := by decide +kernel
theorem dX8_init_41 : decode cX8_init 41 = .ok (.bipush 12, 2) := by decide +kernel
theorem dX8_init_43 : decode cX8_init 43 = .ok (.newarray .int, 2) := by decide +kernel
theorem dX8_init_45 : decode cX8_init 45 = .ok (.putfield 22, 3) := by decide +kernel
theorem dX8_init_48 : decode cX8_init 48 = .ok (.aload_n 0, 1) := by decide +kernel
theorem dX8_init_49 : decode cX8_init 49 = .ok (.bipush 12, 2) := by decide +kernel
theorem dX8_init_51 : decode cX8_init 51 = .ok (.newarray .int, 2) := by decide +kernel
theorem dX8_init_53 : decode cX8_init 53 = .ok (.putfield 25, 3) := by decide +kernel
theorem dX8_init_56 : decode cX8_init 56 = .ok (.aload_n 0, 1) := by decide +kernel
theorem dX8_init_57 : decode cX8_init 57 = .ok (.bipush 12, 2) := by decide +kernel
theorem dX8_init_59 : decode cX8_init 59 = .ok (.newarray .int, 2) := by decide +kernel
theorem dX8_init_61 : decode cX8_init 61 = .ok (.putfield 28, 3) := by decide +kernel
theorem dX8_init_64 : decode cX8_init 64 = .ok (.aload_n 0, 1) := by decide +kernel
theorem dX8_init_65 : decode cX8_init 65 = .ok (.bipush 30, 2) := by decide +kernel
theorem dX8_init_67 : decode cX8_init 67 = .ok (.newarray .int, 2) := by decide +kernel
theorem dX8_init_69 : decode cX8_init 69 = .ok (.putfield 31, 3) := by decide +kernel
theorem dX8_init_72 : decode cX8_init 72 = .ok (.aload_n 0, 1) := by decide +kernel
theorem dX8_init_73 : decode cX8_init 73 = .ok (.bipush 26, 2) := by decide +kernel
theorem dX8_init_75 : decode cX8_init 75 = .ok (.newarray .int, 2) := by decide +kernel
theorem dX8_init_77 : decode cX8_init 77 = .ok (.putfield 34, 3) := by decide +kernel
theorem dX8_init_80 : decode cX8_init 80 = .ok (.aload_n 0, 1) := by decide +kernel
theorem dX8_init_81 : decode cX8_init 81 = .ok (.sipush 520, 3) := by decide +kernel
theorem dX8_init_84 : decode cX8_init 84 = .ok (.newarray .int, 2) := by decide +kernel
theorem dX8_init_86 : decode cX8_init 86 = .ok (.putfield 37, 3) := by decide +kernel
theorem dX8_init_89 : decode cX8_init 89 = .ok (.aload_n 0, 1) := by decide +kernel
theorem dX8_init_90 : decode cX8_init 90 = .ok (.bipush 20, 2) := by decide +kernel
theorem dX8_init_92 : decode cX8_init 92 = .ok (.newarray .int, 2) := by decide +kernel
theorem dX8_init_94 : decode cX8_init 94 = .ok (.putfield 40, 3) := by decide +kernel
theorem dX8_init_97 : decode cX8_init 97 = .ok (.aload_n 0, 1) := by decide +kernel
theorem dX8_init_98 : decode cX8_init 98 = .ok (.bipush 60, 2) := by decide +kernel
theorem dX8_init_100 : decode cX8_init 100 = .ok (.newarray .int, 2) := by decide +kernel
theorem dX8_init_102 : decode cX8_init 102 = .ok (.putfield 43, 3) := by decide +kernel
theorem dX8_init_105 : decode cX8_init 105 = .ok (.aload_n 0, 1) := by decide +kernel
theorem dX8_init_106 : decode cX8_init 106 = .ok (.bipush 60, 2) := by decide +kernel
theorem dX8_init_108 : decode cX8_init 108 = .ok (.newarray .int, 2) := by decide +kernel
theorem dX8_init_110 : decode cX8_init 110 = .ok (.putfield 46, 3) := by decide +kernel
theorem dX8_init_113 : decode cX8_init 113 = .ok (.aload_n 0, 1) := by decide +kernel
theorem dX8_init_114 : decode cX8_init 114 = .ok (.sipush 520, 3) := by decide +kernel
theorem dX8_init_117 : decode cX8_init 117 = .ok (.newarray .int, 2) := by decide +kernel
theorem dX8_init_119 : decode cX8_init 119 = .ok (.putfield 49, 3) := by decide +kernel
theorem dX8_init_122 : decode cX8_init 122 = .ok (.aload_n 0, 1) := by decide +kernel
theorem dX8_init_123 : decode cX8_init 123 = .ok (.bipush 20, 2) := by decide +kernel
theorem dX8_init_125 : decode cX8_init 125 = .ok (.newarray .int, 2) := by decide +kernel
theorem dX8_init_127 : decode cX8_init 127 = .ok (.putfield 52, 3) := by decide +kernel
theorem dX8_init_130 : decode cX8_init 130 = .ok (.aload_n 0, 1) := by decide +kernel
theorem dX8_init_131 : decode cX8_init 131 = .ok (.sipush 420, 3) := by decide +kernel
theorem dX8_init_134 : decode cX8_init 134 = .ok (.newarray .int, 2) := by decide +kernel
theorem dX8_init_136 : decode cX8_init 136 = .ok (.putfield 55, 3) := by decide +kernel
theorem dX8_init_139 : decode cX8_init 139 = .ok (.iconst 0, 1) := by decide +kernel
theorem dX8_init_140 : decode cX8_init 140 = .ok (.istore_n 1, 1) := by decide +kernel
theorem dX8_init_141 : decode cX8_init 141 = .ok (.iload_n 1, 1) := by decide +kernel
theorem dX8_init_142 : decode cX8_init 142 = .ok (.bipush 26, 2) := by decide +kernel
theorem dX8_init_144 : decode cX8_init 144 = .ok (.if_icmp .ge 40, 3) := by decide +kernel
theorem dX8_init_147 : decode cX8_init 147 = .ok (.aload_n 0, 1) := by decide +kernel
theorem dX8_init_148 : decode cX8_init 148 = .ok (.getfield 7, 3) := by decide +kernel
theorem dX8_init_151 : decode cX8_init 151 = .ok (.sipush 212, 3) := by decide +kernel
theorem dX8_init_154 : decode cX8_init 154 = .ok (.iconst 3, 1) := by decide +kernel
theorem dX8_init_155 : decode cX8_init 155 = .ok (.iload_n 1, 1) := by decide +kernel
theorem dX8_init_156 : decode cX8_init 156 = .ok (.imul, 1) := by decide +kernel
theorem dX8_init_157 : decode cX8_init 157 = .ok (.iadd, 1) := by decide +kernel
theorem dX8_init_158 : decode cX8_init 158 = .ok (.iconst 1, 1) := by decide +kernel
theorem dX8_init_159 : decode cX8_init 159 = .ok (.iastore, 1) := by decide +kernel
theorem dX8_init_160 : decode cX8_init 160 = .ok (.aload_n 0, 1) := by decide +kernel
theorem dX8_init_161 : decode cX8_init 161 = .ok (.getfield 7, 3) := by decide +kernel
theorem dX8_init_164 : decode cX8_init 164 = .ok (.sipush 212, 3) := by decide +kernel
theorem dX8_init_167 : decode cX8_init 167 = .ok (.iconst 3, 1) := by decide +kernel
theorem dX8_init_168 : decode cX8_init 168 = .ok (.iload_n 1, 1) := by decide +kernel
theorem dX8_init_169 : decode cX8_init 169 = .ok (.imul, 1) := by decide +kernel
theorem dX8_init_170 : decode cX8_init 170 = .ok (.iadd, 1) := by decide +kernel
theorem dX8_init_171 : decode cX8_init 171 = .ok (.iconst 1, 1) := by decide +kernel
theorem dX8_init_172 : decode cX8_init 172 = .ok (.iadd, 1) := by decide +kernel
theorem dX8_init_173 : decode cX8_init 173 = .ok (.bipush 97, 2) := by decide +kernel
theorem dX8_init_175 : decode cX8_init 175 = .ok (.iload_n 1, 1) := by decide +kernel
theorem dX8_init_176 : decode cX8_init 176 = .ok (.iadd, 1) := by decide +kernel
theorem dX8_init_177 : decode cX8_init 177 = .ok (.iastore, 1) := by decide +kernel
theorem dX8_init_178 : decode cX8_init 178 = .ok (.iinc 1 1, 3) := by decide +kernel
theorem dX8_init_181 : decode cX8_init 181 = .ok (.goto (-40), 3) := by decide +kernel
theorem dX8_init_184 : decode cX8_init 184 = .ok (.return_, 1) := by decide +kernel
theorem dX8_in_0 : decode cX8_in 0 = .ok (.lload_n 0, 1) := by decide +kernel
theorem dX8_in_1 : decode cX8_in 1 = .ok (.lload_n 2, 1) := by decide +kernel
theorem dX8_in_2 : decode cX8_in 2 = .ok (.lcmp, 1) := by decide +kernel
theorem dX8_in_3 : decode cX8_in 3 = .ok (.ifCond .lt 14, 3) := by decide +kernel
theorem dX8_in_6 : decode cX8_in 6 = .ok (.lload_n 0, 1) := by decide +kernel
theorem dX8_in_7 : decode cX8_in 7 = .ok (.lload 4, 2) := by decide +kernel
theorem dX8_in_9 : decode cX8_in 9 = .ok (.lcmp, 1) := by decide +kernel
theorem dX8_in_10 : decode cX8_in 10 = .ok (.ifCond .gt 7, 3) := by decide +kernel
theorem dX8_in_13 : decode cX8_in 13 = .ok (.iconst 1, 1) := by decide +kernel
theorem dX8_in_14 : decode cX8_in 14 = .ok (.goto 4, 3) := by decide +kernel
theorem dX8_in_17 : decode cX8_in 17 = .ok (.iconst 0, 1) := by decide +kernel
theorem dX8_in_18 : decode cX8_in 18 = .ok (.ireturn, 1) := by decide +kernel
theorem dX8_copy_0 : decode cX8_copy 0 = .ok (.iconst 0, 1) := by decide +kernel
theorem dX8_copy_1 : decode cX8_copy 1 = .ok (.istore_n 2, 1) := by decide +kernel
theorem dX8_copy_2 : decode cX8_copy 2 = .ok (.iload_n 2, 1) := by decide +kernel
theorem dX8_copy_3 : decode cX8_copy 3 = .ok (.sipush 570, 3) := by decide +kernel
theorem dX8_copy_6 : decode cX8_copy 6 = .ok (.if_icmp .ge 15, 3) := by decide +kernel
theorem dX8_copy_9 : decode cX8_copy 9 = .ok (.aload_n 1, 1) := by decide +kernel
theorem dX8_copy_10 : decode cX8_copy 10 = .ok (.iload_n 2, 1) := by decide +kernel
theorem dX8_copy_11 : decode cX8_copy 11 = .ok (.aload_n 0, 1) := by decide +kernel
theorem dX8_copy_12 : decode cX8_copy 12 = .ok (.iload_n 2, 1) := by decide +kernel
theorem dX8_copy_13 : decode cX8_copy 13 = .ok (.iaload, 1) := by decide +kernel
theorem dX8_copy_14 : decode cX8_copy 14 = .ok (.iastore, 1) := by decide +kernel
theorem dX8_copy_15 : decode cX8_copy 15 = .ok (.iinc 2 1, 3) := by decide +kernel
theorem dX8_copy_18 : decode cX8_copy 18 = .ok (.goto (-16), 3) := by decide +kernel
theorem dX8_copy_21 : decode cX8_copy 21 = .ok (.return_, 1) := by decide +kernel
set_option maxRecDepth 20000 in
theorem ggX8_remember_X8_copy : GoodIn wsX8_remember wsX8_copy := goodIn_r _ [6] (by decide +kernel) (by decide +kernel)
set_option maxRecDepth 20000 in
theorem gX8_remember_X8_copy : GoodIn wsX8_remember (va_wsS RX8 58 yX8_copy wsX8_copy) := goodIn_app (goodIn_of _ (by decide +kernel)) ggX8_remember_X8_copy
theorem dX8_remember_0 : decode cX8_remember 0 = .ok (.aload_n 0, 1) := by decide +kernel
theorem dX8_remember_1 : decode cX8_remember 1 = .ok (.getfield 7, 3) := by decide +kernel
theorem dX8_remember_4 : decode cX8_remember 4 = .ok (.aload_n 0, 1) := by decide +kernel
theorem dX8_remember_5 : decode cX8_remember 5 = .ok (.getfield 13, 3) := by decide +kernel
theorem dX8_remember_8 : decode cX8_remember 8 = .ok (.invokestatic 58, 3) := by decide +kernel
theorem dX8_remember_11 : decode cX8_remember 11 = .ok (.return_, 1) := by decide +kernel
set_option maxRecDepth 20000 in
theorem ggX8_refused_X8_copy : GoodIn wsX8_refused wsX8_copy := goodIn_r _ [6] (by decide +kernel) (by decide +kernel)
set_option maxRecDepth 20000 in
theorem gX8_refused_X8_copy : GoodIn wsX8_refused (va_wsS RX8 58 yX8_copy wsX8_copy) := goodIn_app (goodIn_of _ (by decide +kernel)) ggX8_refused_X8_copy
theorem dX8_refused_0 : decode cX8_refused 0 = .ok (.aload_n 0, 1) := by decide +kernel
theorem dX8_refused_1 : decode cX8_refused 1 = .ok (.getfield 13, 3) := by decide +kernel
theorem dX8_refused_4 : decode cX8_refused 4 = .ok (.aload_n 0, 1) := by decide +kernel
theorem dX8_refused_5 : decode cX8_refused 5 = .ok (.getfield 7, 3) := by decide +kernel
theorem dX8_refused_8 : decode cX8_refused 8 = .ok (.invokestatic 58, 3) := by decide +kernel
theorem dX8_refused_11 : decode cX8_refused 11 = .ok (.iload_n 1, 1) := by decide +kernel
theorem dX8_refused_12 : decode cX8_refused 12 = .ok (.ireturn, 1) := by decide +kernel
theorem dX8_acted_0 : decode cX8_acted 0 = .ok (.aload_n 0, 1) := by decide +kernel
theorem dX8_acted_1 : decode cX8_acted 1 = .ok (.getfield 62, 3) := by decide +kernel
theorem dX8_acted_4 : decode cX8_acted 4 = .ok (.iconst 4, 1) := by decide +kernel
theorem dX8_acted_5 : decode cX8_acted 5 = .ok (.if_icmp .ne 44, 3) := by decide +kernel
theorem dX8_acted_8 : decode cX8_acted 8 = .ok (.iconst 0, 1) := by decide +kernel
theorem dX8_acted_9 : decode cX8_acted 9 = .ok (.istore_n 2, 1) := by decide +kernel
theorem dX8_acted_10 : decode cX8_acted 10 = .ok (.iload_n 2, 1) := by decide +kernel
theorem dX8_acted_11 : decode cX8_acted 11 = .ok (.sipush 1710, 3) := by decide +kernel
theorem dX8_acted_14 : decode cX8_acted 14 = .ok (.if_icmp .ge 25, 3) := by decide +kernel
theorem dX8_acted_17 : decode cX8_acted 17 = .ok (.aload_n 0, 1) := by decide +kernel
theorem dX8_acted_18 : decode cX8_acted 18 = .ok (.getfield 16, 3) := by decide +kernel
theorem dX8_acted_21 : decode cX8_acted 21 = .ok (.iload_n 2, 1) := by decide +kernel
theorem dX8_acted_22 : decode cX8_acted 22 = .ok (.aload_n 0, 1) := by decide +kernel
theorem dX8_acted_23 : decode cX8_acted 23 = .ok (.getfield 16, 3) := by decide +kernel
theorem dX8_acted_26 : decode cX8_acted 26 = .ok (.iload_n 2, 1) := by decide +kernel
theorem dX8_acted_27 : decode cX8_acted 27 = .ok (.sipush 570, 3) := by decide +kernel
theorem dX8_acted_30 : decode cX8_acted 30 = .ok (.iadd, 1) := by decide +kernel
theorem dX8_acted_31 : decode cX8_acted 31 = .ok (.iaload, 1) := by decide +kernel
theorem dX8_acted_32 : decode cX8_acted 32 = .ok (.iastore, 1) := by decide +kernel
theorem dX8_acted_33 : decode cX8_acted 33 = .ok (.iinc 2 1, 3) := by decide +kernel
theorem dX8_acted_36 : decode cX8_acted 36 = .ok (.goto (-26), 3) := by decide +kernel
theorem dX8_acted_39 : decode cX8_acted 39 = .ok (.aload_n 0, 1) := by decide +kernel
theorem dX8_acted_40 : decode cX8_acted 40 = .ok (.dup, 1) := by decide +kernel
theorem dX8_acted_41 : decode cX8_acted 41 = .ok (.getfield 62, 3) := by decide +kernel
theorem dX8_acted_44 : decode cX8_acted 44 = .ok (.iconst 1, 1) := by decide +kernel
theorem dX8_acted_45 : decode cX8_acted 45 = .ok (.isub, 1) := by decide +kernel
theorem dX8_acted_46 : decode cX8_acted 46 = .ok (.putfield 62, 3) := by decide +kernel
theorem dX8_acted_49 : decode cX8_acted 49 = .ok (.iconst 0, 1) := by decide +kernel
theorem dX8_acted_50 : decode cX8_acted 50 = .ok (.istore_n 2, 1) := by decide +kernel
theorem dX8_acted_51 : decode cX8_acted 51 = .ok (.iload_n 2, 1) := by decide +kernel
theorem dX8_acted_52 : decode cX8_acted 52 = .ok (.sipush 570, 3) := by decide +kernel
theorem dX8_acted_55 : decode cX8_acted 55 = .ok (.if_icmp .ge 30, 3) := by decide +kernel
theorem dX8_acted_58 : decode cX8_acted 58 = .ok (.aload_n 0, 1) := by decide +kernel
theorem dX8_acted_59 : decode cX8_acted 59 = .ok (.getfield 16, 3) := by decide +kernel
theorem dX8_acted_62 : decode cX8_acted 62 = .ok (.sipush 570, 3) := by decide +kernel
theorem dX8_acted_65 : decode cX8_acted 65 = .ok (.aload_n 0, 1) := by decide +kernel
theorem dX8_acted_66 : decode cX8_acted 66 = .ok (.getfield 62, 3) := by decide +kernel
theorem dX8_acted_69 : decode cX8_acted 69 = .ok (.imul, 1) := by decide +kernel
theorem dX8_acted_70 : decode cX8_acted 70 = .ok (.iload_n 2, 1) := by decide +kernel
theorem dX8_acted_71 : decode cX8_acted 71 = .ok (.iadd, 1) := by decide +kernel
theorem dX8_acted_72 : decode cX8_acted 72 = .ok (.aload_n 0, 1) := by decide +kernel
theorem dX8_acted_73 : decode cX8_acted 73 = .ok (.getfield 13, 3) := by decide +kernel
theorem dX8_acted_76 : decode cX8_acted 76 = .ok (.iload_n 2, 1) := by decide +kernel
theorem dX8_acted_77 : decode cX8_acted 77 = .ok (.iaload, 1) := by decide +kernel
theorem dX8_acted_78 : decode cX8_acted 78 = .ok (.iastore, 1) := by decide +kernel
theorem dX8_acted_79 : decode cX8_acted 79 = .ok (.iinc 2 1, 3) := by decide +kernel
theorem dX8_acted_82 : decode cX8_acted 82 = .ok (.goto (-31), 3) := by decide +kernel
theorem dX8_acted_85 : decode cX8_acted 85 = .ok (.aload_n 0, 1) := by decide +kernel
theorem dX8_acted_86 : decode cX8_acted 86 = .ok (.dup, 1) := by decide +kernel
theorem dX8_acted_87 : decode cX8_acted 87 = .ok (.getfield 62, 3) := by decide +kernel
theorem dX8_acted_90 : decode cX8_acted 90 = .ok (.iconst 1, 1) := by decide +kernel
theorem dX8_acted_91 : decode cX8_acted 91 = .ok (.iadd, 1) := by decide +kernel
theorem dX8_acted_92 : decode cX8_acted 92 = .ok (.putfield 62, 3) := by decide +kernel
theorem dX8_acted_95 : decode cX8_acted 95 = .ok (.iload_n 1, 1) := by decide +kernel
theorem dX8_acted_96 : decode cX8_acted 96 = .ok (.ireturn, 1) := by decide +kernel
theorem dX8_ruleAt_0 : decode cX8_ruleAt 0 = .ok (.iconst 2, 1) := by decide +kernel
theorem dX8_ruleAt_1 : decode cX8_ruleAt 1 = .ok (.bipush 7, 2) := by decide +kernel
theorem dX8_ruleAt_3 : decode cX8_ruleAt 3 = .ok (.iload_n 0, 1) := by decide +kernel
theorem dX8_ruleAt_4 : decode cX8_ruleAt 4 = .ok (.imul, 1) := by decide +kernel
theorem dX8_ruleAt_5 : decode cX8_ruleAt 5 = .ok (.iadd, 1) := by decide +kernel
theorem dX8_ruleAt_6 : decode cX8_ruleAt 6 = .ok (.ireturn, 1) := by decide +kernel
theorem dX8_wordAt_0 : decode cX8_wordAt 0 = .ok (.sipush 290, 3) := by decide +kernel
theorem dX8_wordAt_3 : decode cX8_wordAt 3 = .ok (.bipush 14, 2) := by decide +kernel
theorem dX8_wordAt_5 : decode cX8_wordAt 5 = .ok (.iload_n 0, 1) := by decide +kernel
theorem dX8_wordAt_6 : decode cX8_wordAt 6 = .ok (.imul, 1) := by decide +kernel
theorem dX8_wordAt_7 : decode cX8_wordAt 7 = .ok (.iadd, 1) := by decide +kernel
theorem dX8_wordAt_8 : decode cX8_wordAt 8 = .ok (.ireturn, 1) := by decide +kernel
set_option maxRecDepth 20000 in
theorem ggX8_isRule_X8_in : GoodIn wsX8_isRule wsX8_in := goodIn_r _ [5] (by decide +kernel) (by decide +kernel)
set_option maxRecDepth 20000 in
theorem gX8_isRule_X8_in : GoodIn wsX8_isRule (va_wsS RX8 66 yX8_in wsX8_in) := goodIn_app (goodIn_of _ (by decide +kernel)) ggX8_isRule_X8_in
theorem dX8_isRule_0 : decode cX8_isRule 0 = .ok (.iload_n 1, 1) := by decide +kernel
theorem dX8_isRule_1 : decode cX8_isRule 1 = .ok (.i2l, 1) := by decide +kernel
theorem dX8_isRule_2 : decode cX8_isRule 2 = .ok (.lconst 0, 1) := by decide +kernel
theorem dX8_isRule_3 : decode cX8_isRule 3 = .ok (.aload_n 0, 1) := by decide +kernel
theorem dX8_isRule_4 : decode cX8_isRule 4 = .ok (.getfield 7, 3) := by decide +kernel
theorem dX8_isRule_7 : decode cX8_isRule 7 = .ok (.iconst 0, 1) := by decide +kernel
theorem dX8_isRule_8 : decode cX8_isRule 8 = .ok (.iaload, 1) := by decide +kernel
theorem dX8_isRule_9 : decode cX8_isRule 9 = .ok (.i2l, 1) := by decide +kernel
theorem dX8_isRule_10 : decode cX8_isRule 10 = .ok (.lconst 1, 1) := by decide +kernel
theorem dX8_isRule_11 : decode cX8_isRule 11 = .ok (.lsub, 1) := by decide +kernel
theorem dX8_isRule_12 : decode cX8_isRule 12 = .ok (.invokestatic 66, 3) := by decide +kernel
theorem dX8_isRule_15 : decode cX8_isRule 15 = .ok (.ireturn, 1) := by decide +kernel
set_option maxRecDepth 20000 in
theorem ggX8_isWord_X8_in : GoodIn wsX8_isWord wsX8_in := goodIn_r _ [5] (by decide +kernel) (by decide +kernel)
set_option maxRecDepth 20000 in
theorem gX8_isWord_X8_in : GoodIn wsX8_isWord (va_wsS RX8 66 yX8_in wsX8_in) := goodIn_app (goodIn_of _ (by decide +kernel)) ggX8_isWord_X8_in
theorem dX8_isWord_0 : decode cX8_isWord 0 = .ok (.iload_n 1, 1) := by decide +kernel
theorem dX8_isWord_1 : decode cX8_isWord 1 = .ok (.i2l, 1) := by decide +kernel
theorem dX8_isWord_2 : decode cX8_isWord 2 = .ok (.lconst 0, 1) := by decide +kernel
theorem dX8_isWord_3 : decode cX8_isWord 3 = .ok (.aload_n 0, 1) := by decide +kernel
theorem dX8_isWord_4 : decode cX8_isWord 4 = .ok (.getfield 7, 3) := by decide +kernel
theorem dX8_isWord_7 : decode cX8_isWord 7 = .ok (.iconst 1, 1) := by decide +kernel
theorem dX8_isWord_8 : decode cX8_isWord 8 = .ok (.iaload, 1) := by decide +kernel
theorem dX8_isWord_9 : decode cX8_isWord 9 = .ok (.i2l, 1) := by decide +kernel
theorem dX8_isWord_10 : decode cX8_isWord 10 = .ok (.lconst 1, 1) := by decide +kernel
theorem dX8_isWord_11 : decode cX8_isWord 11 = .ok (.lsub, 1) := by decide +kernel
theorem dX8_isWord_12 : decode cX8_isWord 12 = .ok (.invokestatic 66, 3) := by decide +kernel
theorem dX8_isWord_15 : decode cX8_isWord 15 = .ok (.ireturn, 1) := by decide +kernel
theorem dX8_isVowel_0 : decode cX8_isVowel 0 = .ok (.iload_n 0, 1) := by decide +kernel
theorem dX8_isVowel_1 : decode cX8_isVowel 1 = .ok (.bipush 97, 2) := by decide +kernel
theorem dX8_isVowel_3 : decode cX8_isVowel 3 = .ok (.if_icmp .eq 27, 3) := by decide +kernel
theorem dX8_isVowel_6 : decode cX8_isVowel 6 = .ok (.iload_n 0, 1) := by decide +kernel
theorem dX8_isVowel_7 : decode cX8_isVowel 7 = .ok (.bipush 101, 2) := by decide +kernel
theorem dX8_isVowel_9 : decode cX8_isVowel 9 = .ok (.if_icmp .eq 21, 3) := by decide +kernel
theorem dX8_isVowel_12 : decode cX8_isVowel 12 = .ok (.iload_n 0, 1) := by decide +kernel
theorem dX8_isVowel_13 : decode cX8_isVowel 13 = .ok (.bipush 105, 2) := by decide +kernel
theorem dX8_isVowel_15 : decode cX8_isVowel 15 = .ok (.if_icmp .eq 15, 3) := by decide +kernel
theorem dX8_isVowel_18 : decode cX8_isVowel 18 = .ok (.iload_n 0, 1) := by decide +kernel
theorem dX8_isVowel_19 : decode cX8_isVowel 19 = .ok (.bipush 111, 2) := by decide +kernel
theorem dX8_isVowel_21 : decode cX8_isVowel 21 = .ok (.if_icmp .eq 9, 3) := by decide +kernel
theorem dX8_isVowel_24 : decode cX8_isVowel 24 = .ok (.iload_n 0, 1) := by decide +kernel
theorem dX8_isVowel_25 : decode cX8_isVowel 25 = .ok (.bipush 117, 2) := by decide +kernel
theorem dX8_isVowel_27 : decode cX8_isVowel 27 = .ok (.if_icmp .ne 7, 3) := by decide +kernel
theorem dX8_isVowel_30 : decode cX8_isVowel 30 = .ok (.iconst 1, 1) := by decide +kernel
theorem dX8_isVowel_31 : decode cX8_isVowel 31 = .ok (.goto 4, 3) := by decide +kernel
theorem dX8_isVowel_34 : decode cX8_isVowel 34 = .ok (.iconst 0, 1) := by decide +kernel
theorem dX8_isVowel_35 : decode cX8_isVowel 35 = .ok (.ireturn, 1) := by decide +kernel
set_option maxRecDepth 20000 in
theorem ggX8_stands_X8_ruleAt : GoodIn wsX8_stands wsX8_ruleAt := goodIn_r _ [7] (by decide +kernel) (by decide +kernel)
set_option maxRecDepth 20000 in
theorem gX8_stands_X8_ruleAt : GoodIn wsX8_stands (va_wsS RX8 70 yX8_ruleAt wsX8_ruleAt) := goodIn_app (goodIn_of _ (by decide +kernel)) ggX8_stands_X8_ruleAt
theorem dX8_stands_0 : decode cX8_stands 0 = .ok (.iload_n 1, 1) := by decide +kernel
theorem dX8_stands_1 : decode cX8_stands 1 = .ok (.invokestatic 70, 3) := by decide +kernel
theorem dX8_stands_4 : decode cX8_stands 4 = .ok (.istore_n 3, 1) := by decide +kernel
theorem dX8_stands_5 : decode cX8_stands 5 = .ok (.iload_n 2, 1) := by decide +kernel
theorem dX8_stands_6 : decode cX8_stands 6 = .ok (.aload_n 0, 1) := by decide +kernel
theorem dX8_stands_7 : decode cX8_stands 7 = .ok (.getfield 7, 3) := by decide +kernel
theorem dX8_stands_10 : decode cX8_stands 10 = .ok (.iload_n 3, 1) := by decide +kernel
theorem dX8_stands_11 : decode cX8_stands 11 = .ok (.iaload, 1) := by decide +kernel
theorem dX8_stands_12 : decode cX8_stands 12 = .ok (.iadd, 1) := by decide +kernel
theorem dX8_stands_13 : decode cX8_stands 13 = .ok (.aload_n 0, 1) := by decide +kernel
theorem dX8_stands_14 : decode cX8_stands 14 = .ok (.getfield 74, 3) := by decide +kernel
theorem dX8_stands_17 : decode cX8_stands 17 = .ok (.if_icmp .gt 7, 3) := by decide +kernel
theorem dX8_stands_20 : decode cX8_stands 20 = .ok (.iconst 1, 1) := by decide +kernel
theorem dX8_stands_21 : decode cX8_stands 21 = .ok (.goto 4, 3) := by decide +kernel
theorem dX8_stands_24 : decode cX8_stands 24 = .ok (.iconst 0, 1) := by decide +kernel
theorem dX8_stands_25 : decode cX8_stands 25 = .ok (.istore 4, 2) := by decide +kernel
theorem dX8_stands_27 : decode cX8_stands 27 = .ok (.iconst 0, 1) := by decide +kernel
theorem dX8_stands_28 : decode cX8_stands 28 = .ok (.istore 5, 2) := by decide +kernel
theorem dX8_stands_30 : decode cX8_stands 30 = .ok (.iload 5, 2) := by decide +kernel
theorem dX8_stands_32 : decode cX8_stands 32 = .ok (.aload_n 0, 1) := by decide +kernel
theorem dX8_stands_33 : decode cX8_stands 33 = .ok (.getfield 7, 3) := by decide +kernel
theorem dX8_stands_36 : decode cX8_stands 36 = .ok (.iload_n 3, 1) := by decide +kernel
theorem dX8_stands_37 : decode cX8_stands 37 = .ok (.iaload, 1) := by decide +kernel
theorem dX8_stands_38 : decode cX8_stands 38 = .ok (.if_icmp .ge 44, 3) := by decide +kernel
theorem dX8_stands_41 : decode cX8_stands 41 = .ok (.iload 4, 2) := by decide +kernel
theorem dX8_stands_43 : decode cX8_stands 43 = .ok (.ifCond .eq 39, 3) := by decide +kernel
theorem dX8_stands_46 : decode cX8_stands 46 = .ok (.aload_n 0, 1) := by decide +kernel
theorem dX8_stands_47 : decode cX8_stands 47 = .ok (.getfield 22, 3) := by decide +kernel
theorem dX8_stands_50 : decode cX8_stands 50 = .ok (.iload_n 2, 1) := by decide +kernel
theorem dX8_stands_51 : decode cX8_stands 51 = .ok (.iload 5, 2) := by decide +kernel
theorem dX8_stands_53 : decode cX8_stands 53 = .ok (.iadd, 1) := by decide +kernel
theorem dX8_stands_54 : decode cX8_stands 54 = .ok (.iaload, 1) := by decide +kernel
theorem dX8_stands_55 : decode cX8_stands 55 = .ok (.aload_n 0, 1) := by decide +kernel
theorem dX8_stands_56 : decode cX8_stands 56 = .ok (.getfield 7, 3) := by decide +kernel
theorem dX8_stands_59 : decode cX8_stands 59 = .ok (.iload_n 3, 1) := by decide +kernel
theorem dX8_stands_60 : decode cX8_stands 60 = .ok (.iconst 1, 1) := by decide +kernel
theorem dX8_stands_61 : decode cX8_stands 61 = .ok (.iadd, 1) := by decide +kernel
theorem dX8_stands_62 : decode cX8_stands 62 = .ok (.iload 5, 2) := by decide +kernel
theorem dX8_stands_64 : decode cX8_stands 64 = .ok (.iadd, 1) := by decide +kernel
theorem dX8_stands_65 : decode cX8_stands 65 = .ok (.iaload, 1) := by decide +kernel
theorem dX8_stands_66 : decode cX8_stands 66 = .ok (.if_icmp .ne 7, 3) := by decide +kernel
theorem dX8_stands_69 : decode cX8_stands 69 = .ok (.iconst 1, 1) := by decide +kernel
theorem dX8_stands_70 : decode cX8_stands 70 = .ok (.goto 4, 3) := by decide +kernel
theorem dX8_stands_73 : decode cX8_stands 73 = .ok (.iconst 0, 1) := by decide +kernel
theorem dX8_stands_74 : decode cX8_stands 74 = .ok (.istore 4, 2) := by decide +kernel
theorem dX8_stands_76 : decode cX8_stands 76 = .ok (.iinc 5 1, 3) := by decide +kernel
theorem dX8_stands_79 : decode cX8_stands 79 = .ok (.goto (-49), 3) := by decide +kernel
theorem dX8_stands_82 : decode cX8_stands 82 = .ok (.iload 4, 2) := by decide +kernel
theorem dX8_stands_84 : decode cX8_stands 84 = .ok (.ireturn, 1) := by decide +kernel
set_option maxRecDepth 20000 in
theorem ggX8_holds_X8_ruleAt : GoodIn wsX8_holds wsX8_ruleAt := goodIn_r _ [7] (by decide +kernel) (by decide +kernel)
set_option maxRecDepth 20000 in
theorem gX8_holds_X8_ruleAt : GoodIn wsX8_holds (va_wsS RX8 70 yX8_ruleAt wsX8_ruleAt) := goodIn_app (goodIn_of _ (by decide +kernel)) ggX8_holds_X8_ruleAt
set_option maxRecDepth 20000 in
theorem ggX8_holds_X8_isVowel : GoodIn wsX8_holds wsX8_isVowel := goodIn_r _ [10] (by decide +kernel) (by decide +kernel)
set_option maxRecDepth 20000 in
theorem gX8_holds_X8_isVowel : GoodIn wsX8_holds (va_wsS RX8 77 yX8_isVowel wsX8_isVowel) := goodIn_app (goodIn_of _ (by decide +kernel)) ggX8_holds_X8_isVowel
theorem dX8_holds_0 : decode cX8_holds 0 = .ok (.iload_n 2, 1) := by decide +kernel
theorem dX8_holds_1 : decode cX8_holds 1 = .ok (.aload_n 0, 1) := by decide +kernel
theorem dX8_holds_2 : decode cX8_holds 2 = .ok (.getfield 7, 3) := by decide +kernel
theorem dX8_holds_5 : decode cX8_holds 5 = .ok (.iload_n 1, 1) := by decide +kernel
theorem dX8_holds_6 : decode cX8_holds 6 = .ok (.invokestatic 70, 3) := by decide +kernel
theorem dX8_holds_9 : decode cX8_holds 9 = .ok (.iaload, 1) := by decide +kernel
theorem dX8_holds_10 : decode cX8_holds 10 = .ok (.iadd, 1) := by decide +kernel
theorem dX8_holds_11 : decode cX8_holds 11 = .ok (.istore_n 3, 1) := by decide +kernel
theorem dX8_holds_12 : decode cX8_holds 12 = .ok (.iload_n 3, 1) := by decide +kernel
theorem dX8_holds_13 : decode cX8_holds 13 = .ok (.aload_n 0, 1) := by decide +kernel
theorem dX8_holds_14 : decode cX8_holds 14 = .ok (.getfield 74, 3) := by decide +kernel
theorem dX8_holds_17 : decode cX8_holds 17 = .ok (.if_icmp .ge 19, 3) := by decide +kernel
theorem dX8_holds_20 : decode cX8_holds 20 = .ok (.aload_n 0, 1) := by decide +kernel
theorem dX8_holds_21 : decode cX8_holds 21 = .ok (.getfield 22, 3) := by decide +kernel
theorem dX8_holds_24 : decode cX8_holds 24 = .ok (.iload_n 3, 1) := by decide +kernel
theorem dX8_holds_25 : decode cX8_holds 25 = .ok (.iaload, 1) := by decide +kernel
theorem dX8_holds_26 : decode cX8_holds 26 = .ok (.invokestatic 77, 3) := by decide +kernel
theorem dX8_holds_29 : decode cX8_holds 29 = .ok (.ifCond .eq 7, 3) := by decide +kernel
theorem dX8_holds_32 : decode cX8_holds 32 = .ok (.iconst 1, 1) := by decide +kernel
theorem dX8_holds_33 : decode cX8_holds 33 = .ok (.goto 4, 3) := by decide +kernel
theorem dX8_holds_36 : decode cX8_holds 36 = .ok (.iconst 0, 1) := by decide +kernel
theorem dX8_holds_37 : decode cX8_holds 37 = .ok (.istore 4, 2) := by decide +kernel
theorem dX8_holds_39 : decode cX8_holds 39 = .ok (.aload_n 0, 1) := by decide +kernel
theorem dX8_holds_40 : decode cX8_holds 40 = .ok (.getfield 7, 3) := by decide +kernel
theorem dX8_holds_43 : decode cX8_holds 43 = .ok (.iload_n 1, 1) := by decide +kernel
theorem dX8_holds_44 : decode cX8_holds 44 = .ok (.invokestatic 70, 3) := by decide +kernel
theorem dX8_holds_47 : decode cX8_holds 47 = .ok (.bipush 6, 2) := by decide +kernel
theorem dX8_holds_49 : decode cX8_holds 49 = .ok (.iadd, 1) := by decide +kernel
theorem dX8_holds_50 : decode cX8_holds 50 = .ok (.iaload, 1) := by decide +kernel
theorem dX8_holds_51 : decode cX8_holds 51 = .ok (.tableswitch 95 1 5 #[33, 43, 57, 60, 71], 33) := by decide +kernel
theorem dX8_holds_84 : decode cX8_holds 84 = .ok (.iload_n 2, 1) := by decide +kernel
theorem dX8_holds_85 : decode cX8_holds 85 = .ok (.ifCond .ne 7, 3) := by decide +kernel
theorem dX8_holds_88 : decode cX8_holds 88 = .ok (.iconst 1, 1) := by decide +kernel
theorem dX8_holds_89 : decode cX8_holds 89 = .ok (.goto 4, 3) := by decide +kernel
theorem dX8_holds_92 : decode cX8_holds 92 = .ok (.iconst 0, 1) := by decide +kernel
theorem dX8_holds_93 : decode cX8_holds 93 = .ok (.ireturn, 1) := by decide +kernel
theorem dX8_holds_94 : decode cX8_holds 94 = .ok (.iload_n 3, 1) := by decide +kernel
theorem dX8_holds_95 : decode cX8_holds 95 = .ok (.aload_n 0, 1) := by decide +kernel
theorem dX8_holds_96 : decode cX8_holds 96 = .ok (.getfield 74, 3) := by decide +kernel
theorem dX8_holds_99 : decode cX8_holds 99 = .ok (.if_icmp .ne 7, 3) := by decide +kernel
theorem dX8_holds_102 : decode cX8_holds 102 = .ok (.iconst 1, 1) := by decide +kernel
theorem dX8_holds_103 : decode cX8_holds 103 = .ok (.goto 4, 3) := by decide +kernel
theorem dX8_holds_106 : decode cX8_holds 106 = .ok (.iconst 0, 1) := by decide +kernel
theorem dX8_holds_107 : decode cX8_holds 107 = .ok (.ireturn, 1) := by decide +kernel
theorem dX8_holds_108 : decode cX8_holds 108 = .ok (.iload 4, 2) := by decide +kernel
theorem dX8_holds_110 : decode cX8_holds 110 = .ok (.ireturn, 1) := by decide +kernel
theorem dX8_holds_111 : decode cX8_holds 111 = .ok (.iload 4, 2) := by decide +kernel
theorem dX8_holds_113 : decode cX8_holds 113 = .ok (.ifCond .ne 7, 3) := by decide +kernel
theorem dX8_holds_116 : decode cX8_holds 116 = .ok (.iconst 1, 1) := by decide +kernel
theorem dX8_holds_117 : decode cX8_holds 117 = .ok (.goto 4, 3) := by decide +kernel
theorem dX8_holds_120 : decode cX8_holds 120 = .ok (.iconst 0, 1) := by decide +kernel
theorem dX8_holds_121 : decode cX8_holds 121 = .ok (.ireturn, 1) := by decide +kernel
theorem dX8_holds_122 : decode cX8_holds 122 = .ok (.iload_n 2, 1) := by decide +kernel
theorem dX8_holds_123 : decode cX8_holds 123 = .ok (.ifCond .le 21, 3) := by decide +kernel
theorem dX8_holds_126 : decode cX8_holds 126 = .ok (.aload_n 0, 1) := by decide +kernel
theorem dX8_holds_127 : decode cX8_holds 127 = .ok (.getfield 22, 3) := by decide +kernel
theorem dX8_holds_130 : decode cX8_holds 130 = .ok (.iload_n 2, 1) := by decide +kernel
theorem dX8_holds_131 : decode cX8_holds 131 = .ok (.iconst 1, 1) := by decide +kernel
theorem dX8_holds_132 : decode cX8_holds 132 = .ok (.isub, 1) := by decide +kernel
theorem dX8_holds_133 : decode cX8_holds 133 = .ok (.iaload, 1) := by decide +kernel
theorem dX8_holds_134 : decode cX8_holds 134 = .ok (.invokestatic 77, 3) := by decide +kernel
theorem dX8_holds_137 : decode cX8_holds 137 = .ok (.ifCond .eq 7, 3) := by decide +kernel
theorem dX8_holds_140 : decode cX8_holds 140 = .ok (.iconst 1, 1) := by decide +kernel
theorem dX8_holds_141 : decode cX8_holds 141 = .ok (.goto 4, 3) := by decide +kernel
theorem dX8_holds_144 : decode cX8_holds 144 = .ok (.iconst 0, 1) := by decide +kernel
theorem dX8_holds_145 : decode cX8_holds 145 = .ok (.ireturn, 1) := by decide +kernel
theorem dX8_holds_146 : decode cX8_holds 146 = .ok (.iconst 1, 1) := by decide +kernel
theorem dX8_holds_147 : decode cX8_holds 147 = .ok (.ireturn, 1) := by decide +kernel
set_option maxRecDepth 20000 in
theorem ggX8_weight_X8_ruleAt : GoodIn wsX8_weight wsX8_ruleAt := goodIn_r _ [5] (by decide +kernel) (by decide +kernel)
set_option maxRecDepth 20000 in
theorem gX8_weight_X8_ruleAt : GoodIn wsX8_weight (va_wsS RX8 70 yX8_ruleAt wsX8_ruleAt) := goodIn_app (goodIn_of _ (by decide +kernel)) ggX8_weight_X8_ruleAt
theorem dX8_weight_0 : decode cX8_weight 0 = .ok (.iconst 2, 1) := by decide +kernel
theorem dX8_weight_1 : decode cX8_weight 1 = .ok (.aload_n 0, 1) := by decide +kernel
theorem dX8_weight_2 : decode cX8_weight 2 = .ok (.getfield 7, 3) := by decide +kernel
theorem dX8_weight_5 : decode cX8_weight 5 = .ok (.iload_n 1, 1) := by decide +kernel
theorem dX8_weight_6 : decode cX8_weight 6 = .ok (.invokestatic 70, 3) := by decide +kernel
theorem dX8_weight_9 : decode cX8_weight 9 = .ok (.iaload, 1) := by decide +kernel
theorem dX8_weight_10 : decode cX8_weight 10 = .ok (.imul, 1) := by decide +kernel
theorem dX8_weight_11 : decode cX8_weight 11 = .ok (.aload_n 0, 1) := by decide +kernel
theorem dX8_weight_12 : decode cX8_weight 12 = .ok (.getfield 7, 3) := by decide +kernel
theorem dX8_weight_15 : decode cX8_weight 15 = .ok (.iload_n 1, 1) := by decide +kernel
theorem dX8_weight_16 : decode cX8_weight 16 = .ok (.invokestatic 70, 3) := by decide +kernel
theorem dX8_weight_19 : decode cX8_weight 19 = .ok (.bipush 6, 2) := by decide +kernel
theorem dX8_weight_21 : decode cX8_weight 21 = .ok (.iadd, 1) := by decide +kernel
theorem dX8_weight_22 : decode cX8_weight 22 = .ok (.iaload, 1) := by decide +kernel
theorem dX8_weight_23 : decode cX8_weight 23 = .ok (.ifCond .le 7, 3) := by decide +kernel
theorem dX8_weight_26 : decode cX8_weight 26 = .ok (.iconst 1, 1) := by decide +kernel
theorem dX8_weight_27 : decode cX8_weight 27 = .ok (.goto 4, 3) := by decide +kernel
theorem dX8_weight_30 : decode cX8_weight 30 = .ok (.iconst 0, 1) := by decide +kernel
theorem dX8_weight_31 : decode cX8_weight 31 = .ok (.iadd, 1) := by decide +kernel
theorem dX8_weight_32 : decode cX8_weight 32 = .ok (.ireturn, 1) := by decide +kernel
set_option maxRecDepth 20000 in
theorem ggX8_ruleAtPlace_X8_stands : GoodIn wsX8_ruleAtPlace wsX8_stands := goodIn_r _ [6, 1, 7, 8, 9, 10, 5, 11, 23, 24, 25, 26, 27, 28, 29, 30, 31, 32, 33, 34, 35, 36, 37, 38, 39, 40, 41, 42, 43, 44, 45, 46, 47, 48, 49, 50] (by decide +kernel) (by decide +kernel)
set_option maxRecDepth 20000 in
theorem gX8_ruleAtPlace_X8_stands : GoodIn wsX8_ruleAtPlace (wsV RX8 81 RX8 yX8_stands wsX8_stands) := goodIn_app (goodIn_of _ (by decide +kernel)) ggX8_ruleAtPlace_X8_stands
set_option maxRecDepth 20000 in
theorem ggX8_ruleAtPlace_X8_holds : GoodIn wsX8_ruleAtPlace wsX8_holds := goodIn_r _ [15, 1, 7, 8, 9, 10, 5, 11, 16, 17, 18, 23, 24, 25, 26, 27, 28, 29, 30, 31, 32, 33, 34, 35, 36, 37, 38, 39, 40, 41, 42, 43, 44, 45, 46, 47, 48, 49, 50] (by decide +kernel) (by decide +kernel)
set_option maxRecDepth 20000 in
theorem gX8_ruleAtPlace_X8_holds : GoodIn wsX8_ruleAtPlace (wsV RX8 85 RX8 yX8_holds wsX8_holds) := goodIn_app (goodIn_of _ (by decide +kernel)) ggX8_ruleAtPlace_X8_holds
set_option maxRecDepth 20000 in
theorem ggX8_ruleAtPlace_X8_weight : GoodIn wsX8_ruleAtPlace wsX8_weight := goodIn_r _ [22, 1, 9, 10, 5, 11, 23, 24, 25, 26, 27, 28, 29, 30, 31, 32, 33, 34, 35, 36, 37, 38, 39, 40, 41, 42, 43, 44, 45, 46, 47, 48, 49, 50] (by decide +kernel) (by decide +kernel)
set_option maxRecDepth 20000 in
theorem gX8_ruleAtPlace_X8_weight : GoodIn wsX8_ruleAtPlace (wsV RX8 88 RX8 yX8_weight wsX8_weight) := goodIn_app (goodIn_of _ (by decide +kernel)) ggX8_ruleAtPlace_X8_weight
theorem dX8_ruleAtPlace_0 : decode cX8_ruleAtPlace 0 = .ok (.bipush (-5), 2) := by decide +kernel
theorem dX8_ruleAtPlace_2 : decode cX8_ruleAtPlace 2 = .ok (.istore_n 2, 1) := by decide +kernel
theorem dX8_ruleAtPlace_3 : decode cX8_ruleAtPlace 3 = .ok (.iconst 0, 1) := by decide +kernel
theorem dX8_ruleAtPlace_4 : decode cX8_ruleAtPlace 4 = .ok (.istore_n 3, 1) := by decide +kernel
theorem dX8_ruleAtPlace_5 : decode cX8_ruleAtPlace 5 = .ok (.iload_n 3, 1) := by decide +kernel
theorem dX8_ruleAtPlace_6 : decode cX8_ruleAtPlace 6 = .ok (.aload_n 0, 1) := by decide +kernel
theorem dX8_ruleAtPlace_7 : decode cX8_ruleAtPlace 7 = .ok (.getfield 7, 3) := by decide +kernel
theorem dX8_ruleAtPlace_10 : decode cX8_ruleAtPlace 10 = .ok (.iconst 0, 1) := by decide +kernel
theorem dX8_ruleAtPlace_11 : decode cX8_ruleAtPlace 11 = .ok (.iaload, 1) := by decide +kernel
theorem dX8_ruleAtPlace_12 : decode cX8_ruleAtPlace 12 = .ok (.if_icmp .ge 48, 3) := by decide +kernel
theorem dX8_ruleAtPlace_15 : decode cX8_ruleAtPlace 15 = .ok (.aload_n 0, 1) := by decide +kernel
theorem dX8_ruleAtPlace_16 : decode cX8_ruleAtPlace 16 = .ok (.iload_n 3, 1) := by decide +kernel
theorem dX8_ruleAtPlace_17 : decode cX8_ruleAtPlace 17 = .ok (.iload_n 1, 1) := by decide +kernel
theorem dX8_ruleAtPlace_18 : decode cX8_ruleAtPlace 18 = .ok (.invokevirtual 81, 3) := by decide +kernel
theorem dX8_ruleAtPlace_21 : decode cX8_ruleAtPlace 21 = .ok (.ifCond .eq 33, 3) := by decide +kernel
theorem dX8_ruleAtPlace_24 : decode cX8_ruleAtPlace 24 = .ok (.aload_n 0, 1) := by decide +kernel
theorem dX8_ruleAtPlace_25 : decode cX8_ruleAtPlace 25 = .ok (.iload_n 3, 1) := by decide +kernel
theorem dX8_ruleAtPlace_26 : decode cX8_ruleAtPlace 26 = .ok (.iload_n 1, 1) := by decide +kernel
theorem dX8_ruleAtPlace_27 : decode cX8_ruleAtPlace 27 = .ok (.invokevirtual 85, 3) := by decide +kernel
theorem dX8_ruleAtPlace_30 : decode cX8_ruleAtPlace 30 = .ok (.ifCond .eq 24, 3) := by decide +kernel
theorem dX8_ruleAtPlace_33 : decode cX8_ruleAtPlace 33 = .ok (.iload_n 2, 1) := by decide +kernel
theorem dX8_ruleAtPlace_34 : decode cX8_ruleAtPlace 34 = .ok (.bipush (-5), 2) := by decide +kernel
theorem dX8_ruleAtPlace_36 : decode cX8_ruleAtPlace 36 = .ok (.if_icmp .eq 16, 3) := by decide +kernel
theorem dX8_ruleAtPlace_39 : decode cX8_ruleAtPlace 39 = .ok (.aload_n 0, 1) := by decide +kernel
theorem dX8_ruleAtPlace_40 : decode cX8_ruleAtPlace 40 = .ok (.iload_n 3, 1) := by decide +kernel
theorem dX8_ruleAtPlace_41 : decode cX8_ruleAtPlace 41 = .ok (.invokevirtual 88, 3) := by decide +kernel
theorem dX8_ruleAtPlace_44 : decode cX8_ruleAtPlace 44 = .ok (.aload_n 0, 1) := by decide +kernel
theorem dX8_ruleAtPlace_45 : decode cX8_ruleAtPlace 45 = .ok (.iload_n 2, 1) := by decide +kernel
theorem dX8_ruleAtPlace_46 : decode cX8_ruleAtPlace 46 = .ok (.invokevirtual 88, 3) := by decide +kernel
theorem dX8_ruleAtPlace_49 : decode cX8_ruleAtPlace 49 = .ok (.if_icmp .le 5, 3) := by decide +kernel
theorem dX8_ruleAtPlace_52 : decode cX8_ruleAtPlace 52 = .ok (.iload_n 3, 1) := by decide +kernel
theorem dX8_ruleAtPlace_53 : decode cX8_ruleAtPlace 53 = .ok (.istore_n 2, 1) := by decide +kernel
theorem dX8_ruleAtPlace_54 : decode cX8_ruleAtPlace 54 = .ok (.iinc 3 1, 3) := by decide +kernel
theorem dX8_ruleAtPlace_57 : decode cX8_ruleAtPlace 57 = .ok (.goto (-52), 3) := by decide +kernel
theorem dX8_ruleAtPlace_60 : decode cX8_ruleAtPlace 60 = .ok (.iload_n 2, 1) := by decide +kernel
theorem dX8_ruleAtPlace_61 : decode cX8_ruleAtPlace 61 = .ok (.ireturn, 1) := by decide +kernel
set_option maxRecDepth 20000 in
theorem ggX8_findsSounds_X8_ruleAtPlace : GoodIn wsX8_findsSounds wsX8_ruleAtPlace := goodIn_r _ [13, 4, 14, 15, 16, 12, 17, 3, 5, 18, 19, 20, 21, 22, 23, 24, 25, 26, 27, 28, 29, 30, 31, 32, 33, 34, 35, 36, 37, 38, 39, 40, 41, 42, 43, 44, 45, 46, 47, 48, 49, 50, 51, 52, 53, 54, 55, 56, 57, 58, 59] (by decide +kernel) (by decide +kernel)
set_option maxRecDepth 20000 in
theorem gX8_findsSounds_X8_ruleAtPlace : GoodIn wsX8_findsSounds (wsV RX8 97 RX8 yX8_ruleAtPlace wsX8_ruleAtPlace) := goodIn_app (goodIn_of _ (by decide +kernel)) ggX8_findsSounds_X8_ruleAtPlace
set_option maxRecDepth 20000 in
theorem ggX8_findsSounds_X8_ruleAt : GoodIn wsX8_findsSounds wsX8_ruleAt := goodIn_r _ [20] (by decide +kernel) (by decide +kernel)
set_option maxRecDepth 20000 in
theorem gX8_findsSounds_X8_ruleAt : GoodIn wsX8_findsSounds (va_wsS RX8 70 yX8_ruleAt wsX8_ruleAt) := goodIn_app (goodIn_of _ (by decide +kernel)) ggX8_findsSounds_X8_ruleAt
theorem dX8_findsSounds_0 : decode cX8_findsSounds 0 = .ok (.aload_n 0, 1) := by decide +kernel
theorem dX8_findsSounds_1 : decode cX8_findsSounds 1 = .ok (.iconst 0, 1) := by decide +kernel
theorem dX8_findsSounds_2 : decode cX8_findsSounds 2 = .ok (.putfield 91, 3) := by decide +kernel
theorem dX8_findsSounds_5 : decode cX8_findsSounds 5 = .ok (.aload_n 0, 1) := by decide +kernel
theorem dX8_findsSounds_6 : decode cX8_findsSounds 6 = .ok (.iconst 0, 1) := by decide +kernel
theorem dX8_findsSounds_7 : decode cX8_findsSounds 7 = .ok (.putfield 94, 3) := by decide +kernel
theorem dX8_findsSounds_10 : decode cX8_findsSounds 10 = .ok (.iconst 0, 1) := by decide +kernel
theorem dX8_findsSounds_11 : decode cX8_findsSounds 11 = .ok (.istore_n 1, 1) := by decide +kernel
theorem dX8_findsSounds_12 : decode cX8_findsSounds 12 = .ok (.iload_n 1, 1) := by decide +kernel
theorem dX8_findsSounds_13 : decode cX8_findsSounds 13 = .ok (.aload_n 0, 1) := by decide +kernel
theorem dX8_findsSounds_14 : decode cX8_findsSounds 14 = .ok (.getfield 74, 3) := by decide +kernel
theorem dX8_findsSounds_17 : decode cX8_findsSounds 17 = .ok (.if_icmp .ge 142, 3) := by decide +kernel
theorem dX8_findsSounds_20 : decode cX8_findsSounds 20 = .ok (.aload_n 0, 1) := by decide +kernel
theorem dX8_findsSounds_21 : decode cX8_findsSounds 21 = .ok (.iload_n 1, 1) := by decide +kernel
theorem dX8_findsSounds_22 : decode cX8_findsSounds 22 = .ok (.invokevirtual 97, 3) := by decide +kernel
theorem dX8_findsSounds_25 : decode cX8_findsSounds 25 = .ok (.istore_n 2, 1) := by decide +kernel
theorem dX8_findsSounds_26 : decode cX8_findsSounds 26 = .ok (.iload_n 2, 1) := by decide +kernel
theorem dX8_findsSounds_27 : decode cX8_findsSounds 27 = .ok (.bipush (-5), 2) := by decide +kernel
theorem dX8_findsSounds_29 : decode cX8_findsSounds 29 = .ok (.if_icmp .ne 7, 3) := by decide +kernel
theorem dX8_findsSounds_32 : decode cX8_findsSounds 32 = .ok (.iconst 1, 1) := by decide +kernel
theorem dX8_findsSounds_33 : decode cX8_findsSounds 33 = .ok (.goto 12, 3) := by decide +kernel
theorem dX8_findsSounds_36 : decode cX8_findsSounds 36 = .ok (.aload_n 0, 1) := by decide +kernel
theorem dX8_findsSounds_37 : decode cX8_findsSounds 37 = .ok (.getfield 7, 3) := by decide +kernel
theorem dX8_findsSounds_40 : decode cX8_findsSounds 40 = .ok (.iload_n 2, 1) := by decide +kernel
theorem dX8_findsSounds_41 : decode cX8_findsSounds 41 = .ok (.invokestatic 70, 3) := by decide +kernel
theorem dX8_findsSounds_44 : decode cX8_findsSounds 44 = .ok (.iaload, 1) := by decide +kernel
theorem dX8_findsSounds_45 : decode cX8_findsSounds 45 = .ok (.istore_n 3, 1) := by decide +kernel
theorem dX8_findsSounds_46 : decode cX8_findsSounds 46 = .ok (.iload_n 2, 1) := by decide +kernel
theorem dX8_findsSounds_47 : decode cX8_findsSounds 47 = .ok (.bipush (-5), 2) := by decide +kernel
theorem dX8_findsSounds_49 : decode cX8_findsSounds 49 = .ok (.if_icmp .ne 12, 3) := by decide +kernel
theorem dX8_findsSounds_52 : decode cX8_findsSounds 52 = .ok (.aload_n 0, 1) := by decide +kernel
theorem dX8_findsSounds_53 : decode cX8_findsSounds 53 = .ok (.getfield 22, 3) := by decide +kernel
theorem dX8_findsSounds_56 : decode cX8_findsSounds 56 = .ok (.iload_n 1, 1) := by decide +kernel
theorem dX8_findsSounds_57 : decode cX8_findsSounds 57 = .ok (.iaload, 1) := by decide +kernel
theorem dX8_findsSounds_58 : decode cX8_findsSounds 58 = .ok (.goto 14, 3) := by decide +kernel
theorem dX8_findsSounds_61 : decode cX8_findsSounds 61 = .ok (.aload_n 0, 1) := by decide +kernel
theorem dX8_findsSounds_62 : decode cX8_findsSounds 62 = .ok (.getfield 7, 3) := by decide +kernel
theorem dX8_findsSounds_65 : decode cX8_findsSounds 65 = .ok (.iload_n 2, 1) := by decide +kernel
theorem dX8_findsSounds_66 : decode cX8_findsSounds 66 = .ok (.invokestatic 70, 3) := by decide +kernel
theorem dX8_findsSounds_69 : decode cX8_findsSounds 69 = .ok (.iconst 5, 1) := by decide +kernel
theorem dX8_findsSounds_70 : decode cX8_findsSounds 70 = .ok (.iadd, 1) := by decide +kernel
theorem dX8_findsSounds_71 : decode cX8_findsSounds 71 = .ok (.iaload, 1) := by decide +kernel
theorem dX8_findsSounds_72 : decode cX8_findsSounds 72 = .ok (.istore 4, 2) := by decide +kernel
theorem dX8_findsSounds_74 : decode cX8_findsSounds 74 = .ok (.iconst 0, 1) := by decide +kernel
theorem dX8_findsSounds_75 : decode cX8_findsSounds 75 = .ok (.istore 5, 2) := by decide +kernel
theorem dX8_findsSounds_77 : decode cX8_findsSounds 77 = .ok (.iload 5, 2) := by decide +kernel
theorem dX8_findsSounds_79 : decode cX8_findsSounds 79 = .ok (.iload_n 3, 1) := by decide +kernel
theorem dX8_findsSounds_80 : decode cX8_findsSounds 80 = .ok (.if_icmp .ge 19, 3) := by decide +kernel
theorem dX8_findsSounds_83 : decode cX8_findsSounds 83 = .ok (.aload_n 0, 1) := by decide +kernel
theorem dX8_findsSounds_84 : decode cX8_findsSounds 84 = .ok (.getfield 25, 3) := by decide +kernel
theorem dX8_findsSounds_87 : decode cX8_findsSounds 87 = .ok (.iload_n 1, 1) := by decide +kernel
theorem dX8_findsSounds_88 : decode cX8_findsSounds 88 = .ok (.iload 5, 2) := by decide +kernel
theorem dX8_findsSounds_90 : decode cX8_findsSounds 90 = .ok (.iadd, 1) := by decide +kernel
theorem dX8_findsSounds_91 : decode cX8_findsSounds 91 = .ok (.iload_n 2, 1) := by decide +kernel
theorem dX8_findsSounds_92 : decode cX8_findsSounds 92 = .ok (.iastore, 1) := by decide +kernel
theorem dX8_findsSounds_93 : decode cX8_findsSounds 93 = .ok (.iinc 5 1, 3) := by decide +kernel
theorem dX8_findsSounds_96 : decode cX8_findsSounds 96 = .ok (.goto (-19), 3) := by decide +kernel
theorem dX8_findsSounds_99 : decode cX8_findsSounds 99 = .ok (.iload_n 2, 1) := by decide +kernel
theorem dX8_findsSounds_100 : decode cX8_findsSounds 100 = .ok (.bipush (-5), 2) := by decide +kernel
theorem dX8_findsSounds_102 : decode cX8_findsSounds 102 = .ok (.if_icmp .eq 23, 3) := by decide +kernel
theorem dX8_findsSounds_105 : decode cX8_findsSounds 105 = .ok (.aload_n 0, 1) := by decide +kernel
theorem dX8_findsSounds_106 : decode cX8_findsSounds 106 = .ok (.getfield 31, 3) := by decide +kernel
theorem dX8_findsSounds_109 : decode cX8_findsSounds 109 = .ok (.iload_n 2, 1) := by decide +kernel
theorem dX8_findsSounds_110 : decode cX8_findsSounds 110 = .ok (.dup2, 1) := by decide +kernel
theorem dX8_findsSounds_111 : decode cX8_findsSounds 111 = .ok (.iaload, 1) := by decide +kernel
theorem dX8_findsSounds_112 : decode cX8_findsSounds 112 = .ok (.iconst 1, 1) := by decide +kernel
theorem dX8_findsSounds_113 : decode cX8_findsSounds 113 = .ok (.iadd, 1) := by decide +kernel
theorem dX8_findsSounds_114 : decode cX8_findsSounds 114 = .ok (.iastore, 1) := by decide +kernel
theorem dX8_findsSounds_115 : decode cX8_findsSounds 115 = .ok (.aload_n 0, 1) := by decide +kernel
theorem dX8_findsSounds_116 : decode cX8_findsSounds 116 = .ok (.dup, 1) := by decide +kernel
theorem dX8_findsSounds_117 : decode cX8_findsSounds 117 = .ok (.getfield 94, 3) := by decide +kernel
theorem dX8_findsSounds_120 : decode cX8_findsSounds 120 = .ok (.iconst 1, 1) := by decide +kernel
theorem dX8_findsSounds_121 : decode cX8_findsSounds 121 = .ok (.iadd, 1) := by decide +kernel
theorem dX8_findsSounds_122 : decode cX8_findsSounds 122 = .ok (.putfield 94, 3) := by decide +kernel
theorem dX8_findsSounds_125 : decode cX8_findsSounds 125 = .ok (.iload 4, 2) := by decide +kernel
theorem dX8_findsSounds_127 : decode cX8_findsSounds 127 = .ok (.iconst (-1), 1) := by decide +kernel
theorem dX8_findsSounds_128 : decode cX8_findsSounds 128 = .ok (.if_icmp .eq 24, 3) := by decide +kernel
theorem dX8_findsSounds_131 : decode cX8_findsSounds 131 = .ok (.aload_n 0, 1) := by decide +kernel
theorem dX8_findsSounds_132 : decode cX8_findsSounds 132 = .ok (.getfield 28, 3) := by decide +kernel
theorem dX8_findsSounds_135 : decode cX8_findsSounds 135 = .ok (.aload_n 0, 1) := by decide +kernel
theorem dX8_findsSounds_136 : decode cX8_findsSounds 136 = .ok (.getfield 91, 3) := by decide +kernel
theorem dX8_findsSounds_139 : decode cX8_findsSounds 139 = .ok (.iload 4, 2) := by decide +kernel
theorem dX8_findsSounds_141 : decode cX8_findsSounds 141 = .ok (.iastore, 1) := by decide +kernel
theorem dX8_findsSounds_142 : decode cX8_findsSounds 142 = .ok (.aload_n 0, 1) := by decide +kernel
theorem dX8_findsSounds_143 : decode cX8_findsSounds 143 = .ok (.dup, 1) := by decide +kernel
theorem dX8_findsSounds_144 : decode cX8_findsSounds 144 = .ok (.getfield 91, 3) := by decide +kernel
theorem dX8_findsSounds_147 : decode cX8_findsSounds 147 = .ok (.iconst 1, 1) := by decide +kernel
theorem dX8_findsSounds_148 : decode cX8_findsSounds 148 = .ok (.iadd, 1) := by decide +kernel
theorem dX8_findsSounds_149 : decode cX8_findsSounds 149 = .ok (.putfield 91, 3) := by decide +kernel
theorem dX8_findsSounds_152 : decode cX8_findsSounds 152 = .ok (.iload_n 1, 1) := by decide +kernel
theorem dX8_findsSounds_153 : decode cX8_findsSounds 153 = .ok (.iload_n 3, 1) := by decide +kernel
theorem dX8_findsSounds_154 : decode cX8_findsSounds 154 = .ok (.iadd, 1) := by decide +kernel
theorem dX8_findsSounds_155 : decode cX8_findsSounds 155 = .ok (.istore_n 1, 1) := by decide +kernel
theorem dX8_findsSounds_156 : decode cX8_findsSounds 156 = .ok (.goto (-144), 3) := by decide +kernel
theorem dX8_findsSounds_159 : decode cX8_findsSounds 159 = .ok (.return_, 1) := by decide +kernel
set_option maxRecDepth 20000 in
theorem ggX8_lays_X8_wordAt : GoodIn wsX8_lays wsX8_wordAt := goodIn_r _ [7] (by decide +kernel) (by decide +kernel)
set_option maxRecDepth 20000 in
theorem gX8_lays_X8_wordAt : GoodIn wsX8_lays (va_wsS RX8 100 yX8_wordAt wsX8_wordAt) := goodIn_app (goodIn_of _ (by decide +kernel)) ggX8_lays_X8_wordAt
theorem dX8_lays_0 : decode cX8_lays 0 = .ok (.aload_n 0, 1) := by decide +kernel
theorem dX8_lays_1 : decode cX8_lays 1 = .ok (.aload_n 0, 1) := by decide +kernel
theorem dX8_lays_2 : decode cX8_lays 2 = .ok (.getfield 7, 3) := by decide +kernel
theorem dX8_lays_5 : decode cX8_lays 5 = .ok (.iload_n 1, 1) := by decide +kernel
theorem dX8_lays_6 : decode cX8_lays 6 = .ok (.invokestatic 100, 3) := by decide +kernel
theorem dX8_lays_9 : decode cX8_lays 9 = .ok (.iconst 1, 1) := by decide +kernel
theorem dX8_lays_10 : decode cX8_lays 10 = .ok (.iadd, 1) := by decide +kernel
theorem dX8_lays_11 : decode cX8_lays 11 = .ok (.iaload, 1) := by decide +kernel
theorem dX8_lays_12 : decode cX8_lays 12 = .ok (.putfield 74, 3) := by decide +kernel
theorem dX8_lays_15 : decode cX8_lays 15 = .ok (.iconst 0, 1) := by decide +kernel
theorem dX8_lays_16 : decode cX8_lays 16 = .ok (.istore_n 2, 1) := by decide +kernel
theorem dX8_lays_17 : decode cX8_lays 17 = .ok (.iload_n 2, 1) := by decide +kernel
theorem dX8_lays_18 : decode cX8_lays 18 = .ok (.aload_n 0, 1) := by decide +kernel
theorem dX8_lays_19 : decode cX8_lays 19 = .ok (.getfield 74, 3) := by decide +kernel
theorem dX8_lays_22 : decode cX8_lays 22 = .ok (.if_icmp .ge 28, 3) := by decide +kernel
theorem dX8_lays_25 : decode cX8_lays 25 = .ok (.aload_n 0, 1) := by decide +kernel
theorem dX8_lays_26 : decode cX8_lays 26 = .ok (.getfield 22, 3) := by decide +kernel
theorem dX8_lays_29 : decode cX8_lays 29 = .ok (.iload_n 2, 1) := by decide +kernel
theorem dX8_lays_30 : decode cX8_lays 30 = .ok (.aload_n 0, 1) := by decide +kernel
theorem dX8_lays_31 : decode cX8_lays 31 = .ok (.getfield 7, 3) := by decide +kernel
theorem dX8_lays_34 : decode cX8_lays 34 = .ok (.iload_n 1, 1) := by decide +kernel
theorem dX8_lays_35 : decode cX8_lays 35 = .ok (.invokestatic 100, 3) := by decide +kernel
theorem dX8_lays_38 : decode cX8_lays 38 = .ok (.iconst 2, 1) := by decide +kernel
theorem dX8_lays_39 : decode cX8_lays 39 = .ok (.iadd, 1) := by decide +kernel
theorem dX8_lays_40 : decode cX8_lays 40 = .ok (.iload_n 2, 1) := by decide +kernel
theorem dX8_lays_41 : decode cX8_lays 41 = .ok (.iadd, 1) := by decide +kernel
theorem dX8_lays_42 : decode cX8_lays 42 = .ok (.iaload, 1) := by decide +kernel
theorem dX8_lays_43 : decode cX8_lays 43 = .ok (.iastore, 1) := by decide +kernel
theorem dX8_lays_44 : decode cX8_lays 44 = .ok (.iinc 2 1, 3) := by decide +kernel
theorem dX8_lays_47 : decode cX8_lays 47 = .ok (.goto (-30), 3) := by decide +kernel
theorem dX8_lays_50 : decode cX8_lays 50 = .ok (.return_, 1) := by decide +kernel
theorem dX8_usesNone_0 : decode cX8_usesNone 0 = .ok (.iconst 0, 1) := by decide +kernel
theorem dX8_usesNone_1 : decode cX8_usesNone 1 = .ok (.istore_n 1, 1) := by decide +kernel
theorem dX8_usesNone_2 : decode cX8_usesNone 2 = .ok (.iload_n 1, 1) := by decide +kernel
theorem dX8_usesNone_3 : decode cX8_usesNone 3 = .ok (.bipush 30, 2) := by decide +kernel
theorem dX8_usesNone_5 : decode cX8_usesNone 5 = .ok (.if_icmp .ge 16, 3) := by decide +kernel
theorem dX8_usesNone_8 : decode cX8_usesNone 8 = .ok (.aload_n 0, 1) := by decide +kernel
theorem dX8_usesNone_9 : decode cX8_usesNone 9 = .ok (.getfield 31, 3) := by decide +kernel
theorem dX8_usesNone_12 : decode cX8_usesNone 12 = .ok (.iload_n 1, 1) := by decide +kernel
theorem dX8_usesNone_13 : decode cX8_usesNone 13 = .ok (.iconst 0, 1) := by decide +kernel
theorem dX8_usesNone_14 : decode cX8_usesNone 14 = .ok (.iastore, 1) := by decide +kernel
theorem dX8_usesNone_15 : decode cX8_usesNone 15 = .ok (.iinc 1 1, 3) := by decide +kernel
theorem dX8_usesNone_18 : decode cX8_usesNone 18 = .ok (.goto (-16), 3) := by decide +kernel
theorem dX8_usesNone_21 : decode cX8_usesNone 21 = .ok (.return_, 1) := by decide +kernel
set_option maxRecDepth 20000 in
theorem ggX8_uses_X8_usesNone : GoodIn wsX8_uses wsX8_usesNone := goodIn_r _ [6, 7, 47, 48, 49, 50, 51, 52, 53, 54, 55, 56, 57, 58, 59, 60, 61, 62, 63, 64, 65, 66, 67, 68, 69, 70, 71, 72, 73, 74] (by decide +kernel) (by decide +kernel)
set_option maxRecDepth 20000 in
theorem gX8_uses_X8_usesNone : GoodIn wsX8_uses (wsV RX8 103 RX8 yX8_usesNone wsX8_usesNone) := goodIn_app (goodIn_of _ (by decide +kernel)) ggX8_uses_X8_usesNone
set_option maxRecDepth 20000 in
theorem ggX8_uses_X8_lays : GoodIn wsX8_uses wsX8_lays := goodIn_r _ [11, 1, 12, 13, 14, 15, 5, 16, 47, 48, 49, 50, 51, 52, 53, 54, 55, 56, 57, 58, 59, 60, 61, 62, 63, 64, 65, 66, 67, 68, 69, 70, 71, 72, 73, 74] (by decide +kernel) (by decide +kernel)
set_option maxRecDepth 20000 in
theorem gX8_uses_X8_lays : GoodIn wsX8_uses (wsV RX8 106 RX8 yX8_lays wsX8_lays) := goodIn_app (goodIn_of _ (by decide +kernel)) ggX8_uses_X8_lays
set_option maxRecDepth 20000 in
theorem ggX8_uses_X8_findsSounds : GoodIn wsX8_uses wsX8_findsSounds := goodIn_r _ [20, 21, 22, 12, 1, 13, 23, 7, 24, 25, 26, 27, 5, 28, 29, 30, 31, 32, 33, 34, 35, 36, 37, 38, 39, 40, 41, 42, 43, 44, 45, 46, 47, 48, 49, 50, 51, 52, 53, 54, 55, 56, 57, 58, 59, 60, 61, 62, 63, 64, 65, 66, 67, 68, 69, 70, 71, 72, 73, 74] (by decide +kernel) (by decide +kernel)
set_option maxRecDepth 20000 in
theorem gX8_uses_X8_findsSounds : GoodIn wsX8_uses (wsV RX8 110 RX8 yX8_findsSounds wsX8_findsSounds) := goodIn_app (goodIn_of _ (by decide +kernel)) ggX8_uses_X8_findsSounds
theorem dX8_uses_0 : decode cX8_uses 0 = .ok (.aload_n 0, 1) := by decide +kernel
theorem dX8_uses_1 : decode cX8_uses 1 = .ok (.invokevirtual 103, 3) := by decide +kernel
theorem dX8_uses_4 : decode cX8_uses 4 = .ok (.iconst 0, 1) := by decide +kernel
theorem dX8_uses_5 : decode cX8_uses 5 = .ok (.istore_n 1, 1) := by decide +kernel
theorem dX8_uses_6 : decode cX8_uses 6 = .ok (.iload_n 1, 1) := by decide +kernel
theorem dX8_uses_7 : decode cX8_uses 7 = .ok (.aload_n 0, 1) := by decide +kernel
theorem dX8_uses_8 : decode cX8_uses 8 = .ok (.getfield 7, 3) := by decide +kernel
theorem dX8_uses_11 : decode cX8_uses 11 = .ok (.iconst 1, 1) := by decide +kernel
theorem dX8_uses_12 : decode cX8_uses 12 = .ok (.iaload, 1) := by decide +kernel
theorem dX8_uses_13 : decode cX8_uses 13 = .ok (.if_icmp .ge 18, 3) := by decide +kernel
theorem dX8_uses_16 : decode cX8_uses 16 = .ok (.aload_n 0, 1) := by decide +kernel
theorem dX8_uses_17 : decode cX8_uses 17 = .ok (.iload_n 1, 1) := by decide +kernel
theorem dX8_uses_18 : decode cX8_uses 18 = .ok (.invokevirtual 106, 3) := by decide +kernel
theorem dX8_uses_21 : decode cX8_uses 21 = .ok (.aload_n 0, 1) := by decide +kernel
theorem dX8_uses_22 : decode cX8_uses 22 = .ok (.invokevirtual 110, 3) := by decide +kernel
theorem dX8_uses_25 : decode cX8_uses 25 = .ok (.iinc 1 1, 3) := by decide +kernel
theorem dX8_uses_28 : decode cX8_uses 28 = .ok (.goto (-22), 3) := by decide +kernel
theorem dX8_uses_31 : decode cX8_uses 31 = .ok (.return_, 1) := by decide +kernel
theorem dX8_writes_0 : decode cX8_writes 0 = .ok (.aload_n 0, 1) := by decide +kernel
theorem dX8_writes_1 : decode cX8_writes 1 = .ok (.getfield 34, 3) := by decide +kernel
theorem dX8_writes_4 : decode cX8_writes 4 = .ok (.aload_n 0, 1) := by decide +kernel
theorem dX8_writes_5 : decode cX8_writes 5 = .ok (.getfield 113, 3) := by decide +kernel
theorem dX8_writes_8 : decode cX8_writes 8 = .ok (.iload_n 1, 1) := by decide +kernel
theorem dX8_writes_9 : decode cX8_writes 9 = .ok (.iastore, 1) := by decide +kernel
theorem dX8_writes_10 : decode cX8_writes 10 = .ok (.aload_n 0, 1) := by decide +kernel
theorem dX8_writes_11 : decode cX8_writes 11 = .ok (.dup, 1) := by decide +kernel
theorem dX8_writes_12 : decode cX8_writes 12 = .ok (.getfield 113, 3) := by decide +kernel
theorem dX8_writes_15 : decode cX8_writes 15 = .ok (.iconst 1, 1) := by decide +kernel
theorem dX8_writes_16 : decode cX8_writes 16 = .ok (.iadd, 1) := by decide +kernel
theorem dX8_writes_17 : decode cX8_writes 17 = .ok (.putfield 113, 3) := by decide +kernel
theorem dX8_writes_20 : decode cX8_writes 20 = .ok (.return_, 1) := by decide +kernel
set_option maxRecDepth 20000 in
theorem ggX8_writesItself_X8_writes : GoodIn wsX8_writesItself wsX8_writes := goodIn_r _ [7, 8, 9, 10, 11, 12, 13, 14, 15, 16, 17, 18, 19, 20, 21, 22, 23, 24, 25, 26, 27, 28, 29, 30, 31, 32, 33, 34, 35, 36, 37] (by decide +kernel) (by decide +kernel)
set_option maxRecDepth 20000 in
theorem gX8_writesItself_X8_writes : GoodIn wsX8_writesItself (wsV RX8 116 RX8 yX8_writes wsX8_writes) := goodIn_app (goodIn_of _ (by decide +kernel)) ggX8_writesItself_X8_writes
theorem dX8_writesItself_0 : decode cX8_writesItself 0 = .ok (.iconst 0, 1) := by decide +kernel
theorem dX8_writesItself_1 : decode cX8_writesItself 1 = .ok (.istore_n 1, 1) := by decide +kernel
theorem dX8_writesItself_2 : decode cX8_writesItself 2 = .ok (.iload_n 1, 1) := by decide +kernel
theorem dX8_writesItself_3 : decode cX8_writesItself 3 = .ok (.aload_n 0, 1) := by decide +kernel
theorem dX8_writesItself_4 : decode cX8_writesItself 4 = .ok (.getfield 74, 3) := by decide +kernel
theorem dX8_writesItself_7 : decode cX8_writesItself 7 = .ok (.if_icmp .ge 19, 3) := by decide +kernel
theorem dX8_writesItself_10 : decode cX8_writesItself 10 = .ok (.aload_n 0, 1) := by decide +kernel
theorem dX8_writesItself_11 : decode cX8_writesItself 11 = .ok (.aload_n 0, 1) := by decide +kernel
theorem dX8_writesItself_12 : decode cX8_writesItself 12 = .ok (.getfield 22, 3) := by decide +kernel
theorem dX8_writesItself_15 : decode cX8_writesItself 15 = .ok (.iload_n 1, 1) := by decide +kernel
theorem dX8_writesItself_16 : decode cX8_writesItself 16 = .ok (.iaload, 1) := by decide +kernel
theorem dX8_writesItself_17 : decode cX8_writesItself 17 = .ok (.invokevirtual 116, 3) := by decide +kernel
theorem dX8_writesItself_20 : decode cX8_writesItself 20 = .ok (.iinc 1 1, 3) := by decide +kernel
theorem dX8_writesItself_23 : decode cX8_writesItself 23 = .ok (.goto (-21), 3) := by decide +kernel
theorem dX8_writesItself_26 : decode cX8_writesItself 26 = .ok (.return_, 1) := by decide +kernel
set_option maxRecDepth 20000 in
theorem ggX8_writesAs_X8_writesItself : GoodIn wsX8_writesAs wsX8_writesItself := goodIn_r _ [11, 12, 13, 14, 15, 16, 10, 17, 18, 1, 51, 52, 53, 54, 55, 56, 57, 58, 59, 60, 61, 62, 63, 64, 65, 66, 67, 68, 69, 70, 71, 72, 73, 74, 75, 76, 77, 78] (by decide +kernel) (by decide +kernel)
set_option maxRecDepth 20000 in
theorem gX8_writesAs_X8_writesItself : GoodIn wsX8_writesAs (wsV RX8 119 RX8 yX8_writesItself wsX8_writesItself) := goodIn_app (goodIn_of _ (by decide +kernel)) ggX8_writesAs_X8_writesItself
set_option maxRecDepth 20000 in
theorem ggX8_writesAs_X8_findsSounds : GoodIn wsX8_writesAs wsX8_findsSounds := goodIn_r _ [22, 2, 23, 12, 6, 13, 24, 25, 3, 26, 27, 28, 10, 29, 30, 31, 32, 33, 34, 35, 36, 37, 38, 39, 40, 41, 42, 43, 44, 45, 46, 47, 51, 52, 53, 54, 55, 56, 57, 58, 59, 60, 61, 62, 63, 64, 65, 66, 67, 68, 69, 70, 71, 72, 73, 74, 75, 76, 77, 78] (by decide +kernel) (by decide +kernel)
set_option maxRecDepth 20000 in
theorem gX8_writesAs_X8_findsSounds : GoodIn wsX8_writesAs (wsV RX8 110 RX8 yX8_findsSounds wsX8_findsSounds) := goodIn_app (goodIn_of _ (by decide +kernel)) ggX8_writesAs_X8_findsSounds
set_option maxRecDepth 20000 in
theorem ggX8_writesAs_X8_in : GoodIn wsX8_writesAs wsX8_in := goodIn_r _ [50] (by decide +kernel) (by decide +kernel)
set_option maxRecDepth 20000 in
theorem gX8_writesAs_X8_in : GoodIn wsX8_writesAs (va_wsS RX8 66 yX8_in wsX8_in) := goodIn_app (goodIn_of _ (by decide +kernel)) ggX8_writesAs_X8_in
set_option maxRecDepth 20000 in
theorem ggX8_writesAs_X8_writes : GoodIn wsX8_writesAs wsX8_writes := goodIn_r _ [17, 18, 1, 51, 52, 53, 54, 55, 56, 57, 58, 59, 60, 61, 62, 63, 64, 65, 66, 67, 68, 69, 70, 71, 72, 73, 74, 75, 76, 77, 78] (by decide +kernel) (by decide +kernel)
set_option maxRecDepth 20000 in
theorem gX8_writesAs_X8_writes : GoodIn wsX8_writesAs (wsV RX8 116 RX8 yX8_writes wsX8_writes) := goodIn_app (goodIn_of _ (by decide +kernel)) ggX8_writesAs_X8_writes
theorem dX8_writesAs_0 : decode cX8_writesAs 0 = .ok (.aload_n 0, 1) := by decide +kernel
theorem dX8_writesAs_1 : decode cX8_writesAs 1 = .ok (.iconst 0, 1) := by decide +kernel
theorem dX8_writesAs_2 : decode cX8_writesAs 2 = .ok (.putfield 113, 3) := by decide +kernel
theorem dX8_writesAs_5 : decode cX8_writesAs 5 = .ok (.iload_n 1, 1) := by decide +kernel
theorem dX8_writesAs_6 : decode cX8_writesAs 6 = .ok (.iconst 1, 1) := by decide +kernel
theorem dX8_writesAs_7 : decode cX8_writesAs 7 = .ok (.if_icmp .ne 8, 3) := by decide +kernel
theorem dX8_writesAs_10 : decode cX8_writesAs 10 = .ok (.aload_n 0, 1) := by decide +kernel
theorem dX8_writesAs_11 : decode cX8_writesAs 11 = .ok (.invokevirtual 119, 3) := by decide +kernel
theorem dX8_writesAs_14 : decode cX8_writesAs 14 = .ok (.return_, 1) := by decide +kernel
theorem dX8_writesAs_15 : decode cX8_writesAs 15 = .ok (.aload_n 0, 1) := by decide +kernel
theorem dX8_writesAs_16 : decode cX8_writesAs 16 = .ok (.invokevirtual 110, 3) := by decide +kernel
theorem dX8_writesAs_19 : decode cX8_writesAs 19 = .ok (.iconst 0, 1) := by decide +kernel
theorem dX8_writesAs_20 : decode cX8_writesAs 20 = .ok (.istore_n 2, 1) := by decide +kernel
theorem dX8_writesAs_21 : decode cX8_writesAs 21 = .ok (.iload_n 2, 1) := by decide +kernel
theorem dX8_writesAs_22 : decode cX8_writesAs 22 = .ok (.aload_n 0, 1) := by decide +kernel
theorem dX8_writesAs_23 : decode cX8_writesAs 23 = .ok (.getfield 91, 3) := by decide +kernel
theorem dX8_writesAs_26 : decode cX8_writesAs 26 = .ok (.if_icmp .ge 90, 3) := by decide +kernel
theorem dX8_writesAs_29 : decode cX8_writesAs 29 = .ok (.aload_n 0, 1) := by decide +kernel
theorem dX8_writesAs_30 : decode cX8_writesAs 30 = .ok (.getfield 28, 3) := by decide +kernel
theorem dX8_writesAs_33 : decode cX8_writesAs 33 = .ok (.iload_n 2, 1) := by decide +kernel
theorem dX8_writesAs_34 : decode cX8_writesAs 34 = .ok (.iaload, 1) := by decide +kernel
theorem dX8_writesAs_35 : decode cX8_writesAs 35 = .ok (.i2l, 1) := by decide +kernel
theorem dX8_writesAs_36 : decode cX8_writesAs 36 = .ok (.ldc2_w 122, 3) := by decide +kernel
theorem dX8_writesAs_39 : decode cX8_writesAs 39 = .ok (.ldc2_w 124, 3) := by decide +kernel
theorem dX8_writesAs_42 : decode cX8_writesAs 42 = .ok (.invokestatic 66, 3) := by decide +kernel
theorem dX8_writesAs_45 : decode cX8_writesAs 45 = .ok (.ifCond .eq 55, 3) := by decide +kernel
theorem dX8_writesAs_48 : decode cX8_writesAs 48 = .ok (.sipush 212, 3) := by decide +kernel
theorem dX8_writesAs_51 : decode cX8_writesAs 51 = .ok (.iconst 3, 1) := by decide +kernel
theorem dX8_writesAs_52 : decode cX8_writesAs 52 = .ok (.aload_n 0, 1) := by decide +kernel
theorem dX8_writesAs_53 : decode cX8_writesAs 53 = .ok (.getfield 28, 3) := by decide +kernel
theorem dX8_writesAs_56 : decode cX8_writesAs 56 = .ok (.iload_n 2, 1) := by decide +kernel
theorem dX8_writesAs_57 : decode cX8_writesAs 57 = .ok (.iaload, 1) := by decide +kernel
theorem dX8_writesAs_58 : decode cX8_writesAs 58 = .ok (.bipush 65, 2) := by decide +kernel
theorem dX8_writesAs_60 : decode cX8_writesAs 60 = .ok (.isub, 1) := by decide +kernel
theorem dX8_writesAs_61 : decode cX8_writesAs 61 = .ok (.imul, 1) := by decide +kernel
theorem dX8_writesAs_62 : decode cX8_writesAs 62 = .ok (.iadd, 1) := by decide +kernel
theorem dX8_writesAs_63 : decode cX8_writesAs 63 = .ok (.istore_n 3, 1) := by decide +kernel
theorem dX8_writesAs_64 : decode cX8_writesAs 64 = .ok (.iconst 1, 1) := by decide +kernel
theorem dX8_writesAs_65 : decode cX8_writesAs 65 = .ok (.istore 4, 2) := by decide +kernel
theorem dX8_writesAs_67 : decode cX8_writesAs 67 = .ok (.iload 4, 2) := by decide +kernel
theorem dX8_writesAs_69 : decode cX8_writesAs 69 = .ok (.aload_n 0, 1) := by decide +kernel
theorem dX8_writesAs_70 : decode cX8_writesAs 70 = .ok (.getfield 7, 3) := by decide +kernel
theorem dX8_writesAs_73 : decode cX8_writesAs 73 = .ok (.iload_n 3, 1) := by decide +kernel
theorem dX8_writesAs_74 : decode cX8_writesAs 74 = .ok (.iaload, 1) := by decide +kernel
theorem dX8_writesAs_75 : decode cX8_writesAs 75 = .ok (.if_icmp .gt 22, 3) := by decide +kernel
theorem dX8_writesAs_78 : decode cX8_writesAs 78 = .ok (.aload_n 0, 1) := by decide +kernel
theorem dX8_writesAs_79 : decode cX8_writesAs 79 = .ok (.aload_n 0, 1) := by decide +kernel
theorem dX8_writesAs_80 : decode cX8_writesAs 80 = .ok (.getfield 7, 3) := by decide +kernel
theorem dX8_writesAs_83 : decode cX8_writesAs 83 = .ok (.iload_n 3, 1) := by decide +kernel
theorem dX8_writesAs_84 : decode cX8_writesAs 84 = .ok (.iload 4, 2) := by decide +kernel
theorem dX8_writesAs_86 : decode cX8_writesAs 86 = .ok (.iadd, 1) := by decide +kernel
theorem dX8_writesAs_87 : decode cX8_writesAs 87 = .ok (.iaload, 1) := by decide +kernel
theorem dX8_writesAs_88 : decode cX8_writesAs 88 = .ok (.invokevirtual 116, 3) := by decide +kernel
theorem dX8_writesAs_91 : decode cX8_writesAs 91 = .ok (.iinc 4 1, 3) := by decide +kernel
theorem dX8_writesAs_94 : decode cX8_writesAs 94 = .ok (.goto (-27), 3) := by decide +kernel
theorem dX8_writesAs_97 : decode cX8_writesAs 97 = .ok (.goto 13, 3) := by decide +kernel
theorem dX8_writesAs_100 : decode cX8_writesAs 100 = .ok (.aload_n 0, 1) := by decide +kernel
theorem dX8_writesAs_101 : decode cX8_writesAs 101 = .ok (.aload_n 0, 1) := by decide +kernel
theorem dX8_writesAs_102 : decode cX8_writesAs 102 = .ok (.getfield 28, 3) := by decide +kernel
theorem dX8_writesAs_105 : decode cX8_writesAs 105 = .ok (.iload_n 2, 1) := by decide +kernel
theorem dX8_writesAs_106 : decode cX8_writesAs 106 = .ok (.iaload, 1) := by decide +kernel
theorem dX8_writesAs_107 : decode cX8_writesAs 107 = .ok (.invokevirtual 116, 3) := by decide +kernel
theorem dX8_writesAs_110 : decode cX8_writesAs 110 = .ok (.iinc 2 1, 3) := by decide +kernel
theorem dX8_writesAs_113 : decode cX8_writesAs 113 = .ok (.goto (-92), 3) := by decide +kernel
theorem dX8_writesAs_116 : decode cX8_writesAs 116 = .ok (.aload_n 0, 1) := by decide +kernel
theorem dX8_writesAs_117 : decode cX8_writesAs 117 = .ok (.getfield 113, 3) := by decide +kernel
theorem dX8_writesAs_120 : decode cX8_writesAs 120 = .ok (.ifCond .ne 7, 3) := by decide +kernel
theorem dX8_writesAs_123 : decode cX8_writesAs 123 = .ok (.aload_n 0, 1) := by decide +kernel
theorem dX8_writesAs_124 : decode cX8_writesAs 124 = .ok (.invokevirtual 119, 3) := by decide +kernel
theorem dX8_writesAs_127 : decode cX8_writesAs 127 = .ok (.iload_n 1, 1) := by decide +kernel
theorem dX8_writesAs_128 : decode cX8_writesAs 128 = .ok (.iconst 2, 1) := by decide +kernel
theorem dX8_writesAs_129 : decode cX8_writesAs 129 = .ok (.if_icmp .ne 9, 3) := by decide +kernel
theorem dX8_writesAs_132 : decode cX8_writesAs 132 = .ok (.aload_n 0, 1) := by decide +kernel
theorem dX8_writesAs_133 : decode cX8_writesAs 133 = .ok (.bipush 39, 2) := by decide +kernel
theorem dX8_writesAs_135 : decode cX8_writesAs 135 = .ok (.invokevirtual 116, 3) := by decide +kernel
theorem dX8_writesAs_138 : decode cX8_writesAs 138 = .ok (.return_, 1) := by decide +kernel
set_option maxRecDepth 20000 in
theorem ggX8_spells_X8_lays : GoodIn wsX8_spells wsX8_lays := goodIn_r _ [10, 1, 11, 12, 13, 14, 9, 15, 64, 65, 66, 67, 68, 69, 70, 71, 72, 73, 74, 75, 76, 77, 78, 79, 80, 81, 82, 83, 84, 85, 86, 87, 88, 89, 90, 91] (by decide +kernel) (by decide +kernel)
set_option maxRecDepth 20000 in
theorem gX8_spells_X8_lays : GoodIn wsX8_spells (wsV RX8 106 RX8 yX8_lays wsX8_lays) := goodIn_app (goodIn_of _ (by decide +kernel)) ggX8_spells_X8_lays
set_option maxRecDepth 20000 in
theorem ggX8_spells_X8_wordAt : GoodIn wsX8_spells wsX8_wordAt := goodIn_r _ [15] (by decide +kernel) (by decide +kernel)
set_option maxRecDepth 20000 in
theorem gX8_spells_X8_wordAt : GoodIn wsX8_spells (va_wsS RX8 100 yX8_wordAt wsX8_wordAt) := goodIn_app (goodIn_of _ (by decide +kernel)) ggX8_spells_X8_wordAt
set_option maxRecDepth 20000 in
theorem ggX8_spells_X8_writesAs : GoodIn wsX8_spells wsX8_writesAs := goodIn_r _ [19, 3, 20, 21, 22, 23, 1, 24, 25, 26, 9, 27, 11, 12, 28, 29, 30, 31, 5, 32, 33, 34, 35, 36, 37, 38, 39, 40, 41, 42, 43, 44, 45, 46, 47, 48, 49, 50, 51, 52, 53, 54, 55, 56, 57, 58, 59, 60, 61, 62, 63, 64, 65, 66, 67, 68, 69, 70, 71, 72, 73, 74, 75, 76, 77, 78, 79, 80, 81, 82, 83, 84, 85, 86, 87, 88, 89, 90, 91] (by decide +kernel) (by decide +kernel)
set_option maxRecDepth 20000 in
theorem gX8_spells_X8_writesAs : GoodIn wsX8_spells (wsV RX8 126 RX8 yX8_writesAs wsX8_writesAs) := goodIn_app (goodIn_of _ (by decide +kernel)) ggX8_spells_X8_writesAs
theorem dX8_spells_0 : decode cX8_spells 0 = .ok (.iconst 0, 1) := by decide +kernel
theorem dX8_spells_1 : decode cX8_spells 1 = .ok (.istore_n 1, 1) := by decide +kernel
theorem dX8_spells_2 : decode cX8_spells 2 = .ok (.iload_n 1, 1) := by decide +kernel
theorem dX8_spells_3 : decode cX8_spells 3 = .ok (.aload_n 0, 1) := by decide +kernel
theorem dX8_spells_4 : decode cX8_spells 4 = .ok (.getfield 7, 3) := by decide +kernel
theorem dX8_spells_7 : decode cX8_spells 7 = .ok (.iconst 1, 1) := by decide +kernel
theorem dX8_spells_8 : decode cX8_spells 8 = .ok (.iaload, 1) := by decide +kernel
theorem dX8_spells_9 : decode cX8_spells 9 = .ok (.if_icmp .ge 70, 3) := by decide +kernel
theorem dX8_spells_12 : decode cX8_spells 12 = .ok (.aload_n 0, 1) := by decide +kernel
theorem dX8_spells_13 : decode cX8_spells 13 = .ok (.iload_n 1, 1) := by decide +kernel
theorem dX8_spells_14 : decode cX8_spells 14 = .ok (.invokevirtual 106, 3) := by decide +kernel
theorem dX8_spells_17 : decode cX8_spells 17 = .ok (.aload_n 0, 1) := by decide +kernel
theorem dX8_spells_18 : decode cX8_spells 18 = .ok (.aload_n 0, 1) := by decide +kernel
theorem dX8_spells_19 : decode cX8_spells 19 = .ok (.getfield 7, 3) := by decide +kernel
theorem dX8_spells_22 : decode cX8_spells 22 = .ok (.iload_n 1, 1) := by decide +kernel
theorem dX8_spells_23 : decode cX8_spells 23 = .ok (.invokestatic 100, 3) := by decide +kernel
theorem dX8_spells_26 : decode cX8_spells 26 = .ok (.iaload, 1) := by decide +kernel
theorem dX8_spells_27 : decode cX8_spells 27 = .ok (.invokevirtual 126, 3) := by decide +kernel
theorem dX8_spells_30 : decode cX8_spells 30 = .ok (.aload_n 0, 1) := by decide +kernel
theorem dX8_spells_31 : decode cX8_spells 31 = .ok (.getfield 40, 3) := by decide +kernel
theorem dX8_spells_34 : decode cX8_spells 34 = .ok (.iload_n 1, 1) := by decide +kernel
theorem dX8_spells_35 : decode cX8_spells 35 = .ok (.aload_n 0, 1) := by decide +kernel
theorem dX8_spells_36 : decode cX8_spells 36 = .ok (.getfield 113, 3) := by decide +kernel
theorem dX8_spells_39 : decode cX8_spells 39 = .ok (.iastore, 1) := by decide +kernel
theorem dX8_spells_40 : decode cX8_spells 40 = .ok (.iconst 0, 1) := by decide +kernel
theorem dX8_spells_41 : decode cX8_spells 41 = .ok (.istore_n 2, 1) := by decide +kernel
theorem dX8_spells_42 : decode cX8_spells 42 = .ok (.iload_n 2, 1) := by decide +kernel
theorem dX8_spells_43 : decode cX8_spells 43 = .ok (.aload_n 0, 1) := by decide +kernel
theorem dX8_spells_44 : decode cX8_spells 44 = .ok (.getfield 113, 3) := by decide +kernel
theorem dX8_spells_47 : decode cX8_spells 47 = .ok (.if_icmp .ge 26, 3) := by decide +kernel
theorem dX8_spells_50 : decode cX8_spells 50 = .ok (.aload_n 0, 1) := by decide +kernel
theorem dX8_spells_51 : decode cX8_spells 51 = .ok (.getfield 37, 3) := by decide +kernel
theorem dX8_spells_54 : decode cX8_spells 54 = .ok (.bipush 26, 2) := by decide +kernel
theorem dX8_spells_56 : decode cX8_spells 56 = .ok (.iload_n 1, 1) := by decide +kernel
theorem dX8_spells_57 : decode cX8_spells 57 = .ok (.imul, 1) := by decide +kernel
theorem dX8_spells_58 : decode cX8_spells 58 = .ok (.iload_n 2, 1) := by decide +kernel
theorem dX8_spells_59 : decode cX8_spells 59 = .ok (.iadd, 1) := by decide +kernel
theorem dX8_spells_60 : decode cX8_spells 60 = .ok (.aload_n 0, 1) := by decide +kernel
theorem dX8_spells_61 : decode cX8_spells 61 = .ok (.getfield 34, 3) := by decide +kernel
theorem dX8_spells_64 : decode cX8_spells 64 = .ok (.iload_n 2, 1) := by decide +kernel
theorem dX8_spells_65 : decode cX8_spells 65 = .ok (.iaload, 1) := by decide +kernel
theorem dX8_spells_66 : decode cX8_spells 66 = .ok (.iastore, 1) := by decide +kernel
theorem dX8_spells_67 : decode cX8_spells 67 = .ok (.iinc 2 1, 3) := by decide +kernel
theorem dX8_spells_70 : decode cX8_spells 70 = .ok (.goto (-28), 3) := by decide +kernel
theorem dX8_spells_73 : decode cX8_spells 73 = .ok (.iinc 1 1, 3) := by decide +kernel
theorem dX8_spells_76 : decode cX8_spells 76 = .ok (.goto (-74), 3) := by decide +kernel
theorem dX8_spells_79 : decode cX8_spells 79 = .ok (.return_, 1) := by decide +kernel
theorem dX8_areSame_0 : decode cX8_areSame 0 = .ok (.aload_n 0, 1) := by decide +kernel
theorem dX8_areSame_1 : decode cX8_areSame 1 = .ok (.getfield 40, 3) := by decide +kernel
theorem dX8_areSame_4 : decode cX8_areSame 4 = .ok (.iload_n 1, 1) := by decide +kernel
theorem dX8_areSame_5 : decode cX8_areSame 5 = .ok (.iaload, 1) := by decide +kernel
theorem dX8_areSame_6 : decode cX8_areSame 6 = .ok (.aload_n 0, 1) := by decide +kernel
theorem dX8_areSame_7 : decode cX8_areSame 7 = .ok (.getfield 40, 3) := by decide +kernel
theorem dX8_areSame_10 : decode cX8_areSame 10 = .ok (.iload_n 2, 1) := by decide +kernel
theorem dX8_areSame_11 : decode cX8_areSame 11 = .ok (.iaload, 1) := by decide +kernel
theorem dX8_areSame_12 : decode cX8_areSame 12 = .ok (.if_icmp .ne 7, 3) := by decide +kernel
theorem dX8_areSame_15 : decode cX8_areSame 15 = .ok (.iconst 1, 1) := by decide +kernel
theorem dX8_areSame_16 : decode cX8_areSame 16 = .ok (.goto 4, 3) := by decide +kernel
theorem dX8_areSame_19 : decode cX8_areSame 19 = .ok (.iconst 0, 1) := by decide +kernel
theorem dX8_areSame_20 : decode cX8_areSame 20 = .ok (.istore_n 3, 1) := by decide +kernel
theorem dX8_areSame_21 : decode cX8_areSame 21 = .ok (.iconst 0, 1) := by decide +kernel
theorem dX8_areSame_22 : decode cX8_areSame 22 = .ok (.istore 4, 2) := by decide +kernel
theorem dX8_areSame_24 : decode cX8_areSame 24 = .ok (.iload 4, 2) := by decide +kernel
theorem dX8_areSame_26 : decode cX8_areSame 26 = .ok (.aload_n 0, 1) := by decide +kernel
theorem dX8_areSame_27 : decode cX8_areSame 27 = .ok (.getfield 40, 3) := by decide +kernel
theorem dX8_areSame_30 : decode cX8_areSame 30 = .ok (.iload_n 1, 1) := by decide +kernel
theorem dX8_areSame_31 : decode cX8_areSame 31 = .ok (.iaload, 1) := by decide +kernel
theorem dX8_areSame_32 : decode cX8_areSame 32 = .ok (.if_icmp .ge 46, 3) := by decide +kernel
theorem dX8_areSame_35 : decode cX8_areSame 35 = .ok (.iload_n 3, 1) := by decide +kernel
theorem dX8_areSame_36 : decode cX8_areSame 36 = .ok (.ifCond .eq 42, 3) := by decide +kernel
theorem dX8_areSame_39 : decode cX8_areSame 39 = .ok (.aload_n 0, 1) := by decide +kernel
theorem dX8_areSame_40 : decode cX8_areSame 40 = .ok (.getfield 37, 3) := by decide +kernel
theorem dX8_areSame_43 : decode cX8_areSame 43 = .ok (.bipush 26, 2) := by decide +kernel
theorem dX8_areSame_45 : decode cX8_areSame 45 = .ok (.iload_n 1, 1) := by decide +kernel
theorem dX8_areSame_46 : decode cX8_areSame 46 = .ok (.imul, 1) := by decide +kernel
theorem dX8_areSame_47 : decode cX8_areSame 47 = .ok (.iload 4, 2) := by decide +kernel
theorem dX8_areSame_49 : decode cX8_areSame 49 = .ok (.iadd, 1) := by decide +kernel
theorem dX8_areSame_50 : decode cX8_areSame 50 = .ok (.iaload, 1) := by decide +kernel
theorem dX8_areSame_51 : decode cX8_areSame 51 = .ok (.aload_n 0, 1) := by decide +kernel
theorem dX8_areSame_52 : decode cX8_areSame 52 = .ok (.getfield 37, 3) := by decide +kernel
theorem dX8_areSame_55 : decode cX8_areSame 55 = .ok (.bipush 26, 2) := by decide +kernel
theorem dX8_areSame_57 : decode cX8_areSame 57 = .ok (.iload_n 2, 1) := by decide +kernel
theorem dX8_areSame_58 : decode cX8_areSame 58 = .ok (.imul, 1) := by decide +kernel
theorem dX8_areSame_59 : decode cX8_areSame 59 = .ok (.iload 4, 2) := by decide +kernel
theorem dX8_areSame_61 : decode cX8_areSame 61 = .ok (.iadd, 1) := by decide +kernel
theorem dX8_areSame_62 : decode cX8_areSame 62 = .ok (.iaload, 1) := by decide +kernel
theorem dX8_areSame_63 : decode cX8_areSame 63 = .ok (.if_icmp .ne 7, 3) := by decide +kernel
theorem dX8_areSame_66 : decode cX8_areSame 66 = .ok (.iconst 1, 1) := by decide +kernel
theorem dX8_areSame_67 : decode cX8_areSame 67 = .ok (.goto 4, 3) := by decide +kernel
theorem dX8_areSame_70 : decode cX8_areSame 70 = .ok (.iconst 0, 1) := by decide +kernel
theorem dX8_areSame_71 : decode cX8_areSame 71 = .ok (.istore_n 3, 1) := by decide +kernel
theorem dX8_areSame_72 : decode cX8_areSame 72 = .ok (.iinc 4 1, 3) := by decide +kernel
theorem dX8_areSame_75 : decode cX8_areSame 75 = .ok (.goto (-51), 3) := by decide +kernel
theorem dX8_areSame_78 : decode cX8_areSame 78 = .ok (.iload_n 3, 1) := by decide +kernel
theorem dX8_areSame_79 : decode cX8_areSame 79 = .ok (.ireturn, 1) := by decide +kernel
set_option maxRecDepth 20000 in
theorem ggX8_withSpelling_X8_areSame : GoodIn wsX8_withSpelling wsX8_areSame := goodIn_r _ [6, 7, 8, 9, 10, 11, 12, 13, 14, 15, 16, 17, 18, 19, 20, 21, 22, 23, 24, 25, 26, 27, 28, 29, 30, 31, 32, 33, 34, 35, 36] (by decide +kernel) (by decide +kernel)
set_option maxRecDepth 20000 in
theorem gX8_withSpelling_X8_areSame : GoodIn wsX8_withSpelling (wsV RX8 129 RX8 yX8_areSame wsX8_areSame) := goodIn_app (goodIn_of _ (by decide +kernel)) ggX8_withSpelling_X8_areSame
theorem dX8_withSpelling_0 : decode cX8_withSpelling 0 = .ok (.iconst 0, 1) := by decide +kernel
theorem dX8_withSpelling_1 : decode cX8_withSpelling 1 = .ok (.istore_n 3, 1) := by decide +kernel
theorem dX8_withSpelling_2 : decode cX8_withSpelling 2 = .ok (.iconst 0, 1) := by decide +kernel
theorem dX8_withSpelling_3 : decode cX8_withSpelling 3 = .ok (.istore 4, 2) := by decide +kernel
theorem dX8_withSpelling_5 : decode cX8_withSpelling 5 = .ok (.iload 4, 2) := by decide +kernel
theorem dX8_withSpelling_7 : decode cX8_withSpelling 7 = .ok (.iload_n 2, 1) := by decide +kernel
theorem dX8_withSpelling_8 : decode cX8_withSpelling 8 = .ok (.ifCond .eq 7, 3) := by decide +kernel
theorem dX8_withSpelling_11 : decode cX8_withSpelling 11 = .ok (.iload_n 1, 1) := by decide +kernel
theorem dX8_withSpelling_12 : decode cX8_withSpelling 12 = .ok (.goto 9, 3) := by decide +kernel
theorem dX8_withSpelling_15 : decode cX8_withSpelling 15 = .ok (.aload_n 0, 1) := by decide +kernel
theorem dX8_withSpelling_16 : decode cX8_withSpelling 16 = .ok (.getfield 7, 3) := by decide +kernel
theorem dX8_withSpelling_19 : decode cX8_withSpelling 19 = .ok (.iconst 1, 1) := by decide +kernel
theorem dX8_withSpelling_20 : decode cX8_withSpelling 20 = .ok (.iaload, 1) := by decide +kernel
theorem dX8_withSpelling_21 : decode cX8_withSpelling 21 = .ok (.if_icmp .ge 27, 3) := by decide +kernel
theorem dX8_withSpelling_24 : decode cX8_withSpelling 24 = .ok (.iload_n 3, 1) := by decide +kernel
theorem dX8_withSpelling_25 : decode cX8_withSpelling 25 = .ok (.aload_n 0, 1) := by decide +kernel
theorem dX8_withSpelling_26 : decode cX8_withSpelling 26 = .ok (.iload_n 1, 1) := by decide +kernel
theorem dX8_withSpelling_27 : decode cX8_withSpelling 27 = .ok (.iload 4, 2) := by decide +kernel
theorem dX8_withSpelling_29 : decode cX8_withSpelling 29 = .ok (.invokevirtual 129, 3) := by decide +kernel
theorem dX8_withSpelling_32 : decode cX8_withSpelling 32 = .ok (.ifCond .eq 7, 3) := by decide +kernel
theorem dX8_withSpelling_35 : decode cX8_withSpelling 35 = .ok (.iconst 1, 1) := by decide +kernel
theorem dX8_withSpelling_36 : decode cX8_withSpelling 36 = .ok (.goto 4, 3) := by decide +kernel
theorem dX8_withSpelling_39 : decode cX8_withSpelling 39 = .ok (.iconst 0, 1) := by decide +kernel
theorem dX8_withSpelling_40 : decode cX8_withSpelling 40 = .ok (.iadd, 1) := by decide +kernel
theorem dX8_withSpelling_41 : decode cX8_withSpelling 41 = .ok (.istore_n 3, 1) := by decide +kernel
theorem dX8_withSpelling_42 : decode cX8_withSpelling 42 = .ok (.iinc 4 1, 3) := by decide +kernel
theorem dX8_withSpelling_45 : decode cX8_withSpelling 45 = .ok (.goto (-40), 3) := by decide +kernel
theorem dX8_withSpelling_48 : decode cX8_withSpelling 48 = .ok (.iload_n 3, 1) := by decide +kernel
theorem dX8_withSpelling_49 : decode cX8_withSpelling 49 = .ok (.ireturn, 1) := by decide +kernel
set_option maxRecDepth 20000 in
theorem ggX8_colliding_X8_spells : GoodIn wsX8_colliding wsX8_spells := goodIn_r _ [6, 1, 7, 8, 9, 10, 11, 12, 13, 5, 14, 15, 16, 17, 18, 19, 20, 21, 22, 23, 24, 25, 26, 27, 28, 29, 30, 31, 32, 33, 34, 35, 36, 37, 38, 39, 40, 41, 42, 43, 44, 45, 46, 47, 48, 49, 50, 51, 52, 53, 54, 55, 56, 57, 58, 59, 60, 61, 62, 63, 64, 65, 66, 67, 76, 77, 78, 79, 80, 81, 82, 83, 84, 85, 86, 87, 88, 89, 90, 91, 92, 93, 94, 95, 96, 97, 98, 99, 100, 101, 102, 103] (by decide +kernel) (by decide +kernel)
set_option maxRecDepth 20000 in
theorem gX8_colliding_X8_spells : GoodIn wsX8_colliding (wsV RX8 132 RX8 yX8_spells wsX8_spells) := goodIn_app (goodIn_of _ (by decide +kernel)) ggX8_colliding_X8_spells
set_option maxRecDepth 20000 in
theorem ggX8_colliding_X8_withSpelling : GoodIn wsX8_colliding wsX8_withSpelling := goodIn_r _ [71, 1, 72, 73, 74, 5, 75, 7, 9, 76, 77, 78, 79, 80, 81, 82, 83, 84, 85, 86, 87, 88, 89, 90, 91, 92, 93, 94, 95, 96, 97, 98, 99, 100, 101, 102, 103] (by decide +kernel) (by decide +kernel)
set_option maxRecDepth 20000 in
theorem gX8_colliding_X8_withSpelling : GoodIn wsX8_colliding (wsV RX8 135 RX8 yX8_withSpelling wsX8_withSpelling) := goodIn_app (goodIn_of _ (by decide +kernel)) ggX8_colliding_X8_withSpelling
theorem dX8_colliding_0 : decode cX8_colliding 0 = .ok (.aload_n 0, 1) := by decide +kernel
theorem dX8_colliding_1 : decode cX8_colliding 1 = .ok (.invokevirtual 132, 3) := by decide +kernel
theorem dX8_colliding_4 : decode cX8_colliding 4 = .ok (.iconst 0, 1) := by decide +kernel
theorem dX8_colliding_5 : decode cX8_colliding 5 = .ok (.istore_n 1, 1) := by decide +kernel
theorem dX8_colliding_6 : decode cX8_colliding 6 = .ok (.iconst 0, 1) := by decide +kernel
theorem dX8_colliding_7 : decode cX8_colliding 7 = .ok (.istore_n 2, 1) := by decide +kernel
theorem dX8_colliding_8 : decode cX8_colliding 8 = .ok (.iload_n 2, 1) := by decide +kernel
theorem dX8_colliding_9 : decode cX8_colliding 9 = .ok (.aload_n 0, 1) := by decide +kernel
theorem dX8_colliding_10 : decode cX8_colliding 10 = .ok (.getfield 7, 3) := by decide +kernel
theorem dX8_colliding_13 : decode cX8_colliding 13 = .ok (.iconst 1, 1) := by decide +kernel
theorem dX8_colliding_14 : decode cX8_colliding 14 = .ok (.iaload, 1) := by decide +kernel
theorem dX8_colliding_15 : decode cX8_colliding 15 = .ok (.if_icmp .ge 27, 3) := by decide +kernel
theorem dX8_colliding_18 : decode cX8_colliding 18 = .ok (.iload_n 1, 1) := by decide +kernel
theorem dX8_colliding_19 : decode cX8_colliding 19 = .ok (.aload_n 0, 1) := by decide +kernel
theorem dX8_colliding_20 : decode cX8_colliding 20 = .ok (.iload_n 2, 1) := by decide +kernel
theorem dX8_colliding_21 : decode cX8_colliding 21 = .ok (.iconst 0, 1) := by decide +kernel
theorem dX8_colliding_22 : decode cX8_colliding 22 = .ok (.invokevirtual 135, 3) := by decide +kernel
theorem dX8_colliding_25 : decode cX8_colliding 25 = .ok (.iconst 1, 1) := by decide +kernel
theorem dX8_colliding_26 : decode cX8_colliding 26 = .ok (.if_icmp .le 7, 3) := by decide +kernel
theorem dX8_colliding_29 : decode cX8_colliding 29 = .ok (.iconst 1, 1) := by decide +kernel
theorem dX8_colliding_30 : decode cX8_colliding 30 = .ok (.goto 4, 3) := by decide +kernel
theorem dX8_colliding_33 : decode cX8_colliding 33 = .ok (.iconst 0, 1) := by decide +kernel
theorem dX8_colliding_34 : decode cX8_colliding 34 = .ok (.iadd, 1) := by decide +kernel
theorem dX8_colliding_35 : decode cX8_colliding 35 = .ok (.istore_n 1, 1) := by decide +kernel
theorem dX8_colliding_36 : decode cX8_colliding 36 = .ok (.iinc 2 1, 3) := by decide +kernel
theorem dX8_colliding_39 : decode cX8_colliding 39 = .ok (.goto (-31), 3) := by decide +kernel
theorem dX8_colliding_42 : decode cX8_colliding 42 = .ok (.iload_n 1, 1) := by decide +kernel
theorem dX8_colliding_43 : decode cX8_colliding 43 = .ok (.ireturn, 1) := by decide +kernel
theorem dX8_type_0 : decode cX8_type 0 = .ok (.aload_n 0, 1) := by decide +kernel
theorem dX8_type_1 : decode cX8_type 1 = .ok (.getfield 139, 3) := by decide +kernel
theorem dX8_type_4 : decode cX8_type 4 = .ok (.bipush 60, 2) := by decide +kernel
theorem dX8_type_6 : decode cX8_type 6 = .ok (.if_icmp .ne 6, 3) := by decide +kernel
theorem dX8_type_9 : decode cX8_type 9 = .ok (.bipush (-3), 2) := by decide +kernel
theorem dX8_type_11 : decode cX8_type 11 = .ok (.ireturn, 1) := by decide +kernel
theorem dX8_type_12 : decode cX8_type 12 = .ok (.aload_n 0, 1) := by decide +kernel
theorem dX8_type_13 : decode cX8_type 13 = .ok (.getfield 43, 3) := by decide +kernel
theorem dX8_type_16 : decode cX8_type 16 = .ok (.aload_n 0, 1) := by decide +kernel
theorem dX8_type_17 : decode cX8_type 17 = .ok (.getfield 139, 3) := by decide +kernel
theorem dX8_type_20 : decode cX8_type 20 = .ok (.iload_n 1, 1) := by decide +kernel
theorem dX8_type_21 : decode cX8_type 21 = .ok (.iastore, 1) := by decide +kernel
theorem dX8_type_22 : decode cX8_type 22 = .ok (.aload_n 0, 1) := by decide +kernel
theorem dX8_type_23 : decode cX8_type 23 = .ok (.dup, 1) := by decide +kernel
theorem dX8_type_24 : decode cX8_type 24 = .ok (.getfield 139, 3) := by decide +kernel
theorem dX8_type_27 : decode cX8_type 27 = .ok (.iconst 1, 1) := by decide +kernel
theorem dX8_type_28 : decode cX8_type 28 = .ok (.iadd, 1) := by decide +kernel
theorem dX8_type_29 : decode cX8_type 29 = .ok (.putfield 139, 3) := by decide +kernel
theorem dX8_type_32 : decode cX8_type 32 = .ok (.aload_n 0, 1) := by decide +kernel
theorem dX8_type_33 : decode cX8_type 33 = .ok (.getfield 139, 3) := by decide +kernel
theorem dX8_type_36 : decode cX8_type 36 = .ok (.ireturn, 1) := by decide +kernel
theorem dX8_clearText_0 : decode cX8_clearText 0 = .ok (.aload_n 0, 1) := by decide +kernel
theorem dX8_clearText_1 : decode cX8_clearText 1 = .ok (.getfield 139, 3) := by decide +kernel
theorem dX8_clearText_4 : decode cX8_clearText 4 = .ok (.istore_n 1, 1) := by decide +kernel
theorem dX8_clearText_5 : decode cX8_clearText 5 = .ok (.aload_n 0, 1) := by decide +kernel
theorem dX8_clearText_6 : decode cX8_clearText 6 = .ok (.iconst 0, 1) := by decide +kernel
theorem dX8_clearText_7 : decode cX8_clearText 7 = .ok (.putfield 139, 3) := by decide +kernel
theorem dX8_clearText_10 : decode cX8_clearText 10 = .ok (.iload_n 1, 1) := by decide +kernel
theorem dX8_clearText_11 : decode cX8_clearText 11 = .ok (.ireturn, 1) := by decide +kernel
set_option maxRecDepth 20000 in
theorem ggX8_isHere_X8_in : GoodIn wsX8_isHere wsX8_in := goodIn_r _ [7] (by decide +kernel) (by decide +kernel)
set_option maxRecDepth 20000 in
theorem gX8_isHere_X8_in : GoodIn wsX8_isHere (va_wsS RX8 66 yX8_in wsX8_in) := goodIn_app (goodIn_of _ (by decide +kernel)) ggX8_isHere_X8_in
theorem dX8_isHere_0 : decode cX8_isHere 0 = .ok (.aload_n 0, 1) := by decide +kernel
theorem dX8_isHere_1 : decode cX8_isHere 1 = .ok (.getfield 142, 3) := by decide +kernel
theorem dX8_isHere_4 : decode cX8_isHere 4 = .ok (.aload_n 0, 1) := by decide +kernel
theorem dX8_isHere_5 : decode cX8_isHere 5 = .ok (.getfield 139, 3) := by decide +kernel
theorem dX8_isHere_8 : decode cX8_isHere 8 = .ok (.if_icmp .ge 27, 3) := by decide +kernel
theorem dX8_isHere_11 : decode cX8_isHere 11 = .ok (.aload_n 0, 1) := by decide +kernel
theorem dX8_isHere_12 : decode cX8_isHere 12 = .ok (.getfield 43, 3) := by decide +kernel
theorem dX8_isHere_15 : decode cX8_isHere 15 = .ok (.aload_n 0, 1) := by decide +kernel
theorem dX8_isHere_16 : decode cX8_isHere 16 = .ok (.getfield 142, 3) := by decide +kernel
theorem dX8_isHere_19 : decode cX8_isHere 19 = .ok (.iaload, 1) := by decide +kernel
theorem dX8_isHere_20 : decode cX8_isHere 20 = .ok (.i2l, 1) := by decide +kernel
theorem dX8_isHere_21 : decode cX8_isHere 21 = .ok (.iload_n 1, 1) := by decide +kernel
theorem dX8_isHere_22 : decode cX8_isHere 22 = .ok (.i2l, 1) := by decide +kernel
theorem dX8_isHere_23 : decode cX8_isHere 23 = .ok (.iload_n 2, 1) := by decide +kernel
theorem dX8_isHere_24 : decode cX8_isHere 24 = .ok (.i2l, 1) := by decide +kernel
theorem dX8_isHere_25 : decode cX8_isHere 25 = .ok (.invokestatic 66, 3) := by decide +kernel
theorem dX8_isHere_28 : decode cX8_isHere 28 = .ok (.ifCond .eq 7, 3) := by decide +kernel
theorem dX8_isHere_31 : decode cX8_isHere 31 = .ok (.iconst 1, 1) := by decide +kernel
theorem dX8_isHere_32 : decode cX8_isHere 32 = .ok (.goto 4, 3) := by decide +kernel
theorem dX8_isHere_35 : decode cX8_isHere 35 = .ok (.iconst 0, 1) := by decide +kernel
theorem dX8_isHere_36 : decode cX8_isHere 36 = .ok (.ireturn, 1) := by decide +kernel
set_option maxRecDepth 20000 in
theorem ggX8_takes_X8_isHere : GoodIn wsX8_takes wsX8_isHere := goodIn_r _ [6, 1, 7, 8, 9, 10, 5, 11, 12, 13, 14, 15, 16, 17, 18, 19, 20, 21, 22, 23, 24, 25, 26, 27, 28, 29, 30, 31, 32, 33, 34, 35, 36, 37, 38, 39] (by decide +kernel) (by decide +kernel)
set_option maxRecDepth 20000 in
theorem gX8_takes_X8_isHere : GoodIn wsX8_takes (wsV RX8 145 RX8 yX8_isHere wsX8_isHere) := goodIn_app (goodIn_of _ (by decide +kernel)) ggX8_takes_X8_isHere
theorem dX8_takes_0 : decode cX8_takes 0 = .ok (.aload_n 0, 1) := by decide +kernel
theorem dX8_takes_1 : decode cX8_takes 1 = .ok (.iload_n 1, 1) := by decide +kernel
theorem dX8_takes_2 : decode cX8_takes 2 = .ok (.iload_n 1, 1) := by decide +kernel
theorem dX8_takes_3 : decode cX8_takes 3 = .ok (.invokevirtual 145, 3) := by decide +kernel
theorem dX8_takes_6 : decode cX8_takes 6 = .ok (.istore_n 2, 1) := by decide +kernel
theorem dX8_takes_7 : decode cX8_takes 7 = .ok (.aload_n 0, 1) := by decide +kernel
theorem dX8_takes_8 : decode cX8_takes 8 = .ok (.dup, 1) := by decide +kernel
theorem dX8_takes_9 : decode cX8_takes 9 = .ok (.getfield 142, 3) := by decide +kernel
theorem dX8_takes_12 : decode cX8_takes 12 = .ok (.iload_n 2, 1) := by decide +kernel
theorem dX8_takes_13 : decode cX8_takes 13 = .ok (.ifCond .eq 7, 3) := by decide +kernel
theorem dX8_takes_16 : decode cX8_takes 16 = .ok (.iconst 1, 1) := by decide +kernel
theorem dX8_takes_17 : decode cX8_takes 17 = .ok (.goto 4, 3) := by decide +kernel
theorem dX8_takes_20 : decode cX8_takes 20 = .ok (.iconst 0, 1) := by decide +kernel
theorem dX8_takes_21 : decode cX8_takes 21 = .ok (.iadd, 1) := by decide +kernel
theorem dX8_takes_22 : decode cX8_takes 22 = .ok (.putfield 142, 3) := by decide +kernel
theorem dX8_takes_25 : decode cX8_takes 25 = .ok (.iload_n 2, 1) := by decide +kernel
theorem dX8_takes_26 : decode cX8_takes 26 = .ok (.ireturn, 1) := by decide +kernel
set_option maxRecDepth 20000 in
theorem ggX8_passes_X8_isHere : GoodIn wsX8_passes wsX8_isHere := goodIn_r _ [6, 1, 7, 8, 9, 10, 5, 11, 12, 13, 14, 15, 16, 17, 18, 19, 20, 21, 22, 23, 24, 25, 26, 27, 28, 29, 30, 31, 32, 33, 34, 35, 36, 37, 38, 39] (by decide +kernel) (by decide +kernel)
set_option maxRecDepth 20000 in
theorem gX8_passes_X8_isHere : GoodIn wsX8_passes (wsV RX8 145 RX8 yX8_isHere wsX8_isHere) := goodIn_app (goodIn_of _ (by decide +kernel)) ggX8_passes_X8_isHere
theorem dX8_passes_0 : decode cX8_passes 0 = .ok (.iconst 0, 1) := by decide +kernel
theorem dX8_passes_1 : decode cX8_passes 1 = .ok (.istore_n 2, 1) := by decide +kernel
theorem dX8_passes_2 : decode cX8_passes 2 = .ok (.iload_n 2, 1) := by decide +kernel
theorem dX8_passes_3 : decode cX8_passes 3 = .ok (.iload_n 1, 1) := by decide +kernel
theorem dX8_passes_4 : decode cX8_passes 4 = .ok (.if_icmp .ge 30, 3) := by decide +kernel
theorem dX8_passes_7 : decode cX8_passes 7 = .ok (.aload_n 0, 1) := by decide +kernel
theorem dX8_passes_8 : decode cX8_passes 8 = .ok (.bipush 97, 2) := by decide +kernel
theorem dX8_passes_10 : decode cX8_passes 10 = .ok (.bipush 122, 2) := by decide +kernel
theorem dX8_passes_12 : decode cX8_passes 12 = .ok (.invokevirtual 145, 3) := by decide +kernel
theorem dX8_passes_15 : decode cX8_passes 15 = .ok (.ifCond .eq 19, 3) := by decide +kernel
theorem dX8_passes_18 : decode cX8_passes 18 = .ok (.aload_n 0, 1) := by decide +kernel
theorem dX8_passes_19 : decode cX8_passes 19 = .ok (.dup, 1) := by decide +kernel
theorem dX8_passes_20 : decode cX8_passes 20 = .ok (.getfield 142, 3) := by decide +kernel
theorem dX8_passes_23 : decode cX8_passes 23 = .ok (.iconst 1, 1) := by decide +kernel
theorem dX8_passes_24 : decode cX8_passes 24 = .ok (.iadd, 1) := by decide +kernel
theorem dX8_passes_25 : decode cX8_passes 25 = .ok (.putfield 142, 3) := by decide +kernel
theorem dX8_passes_28 : decode cX8_passes 28 = .ok (.iinc 2 1, 3) := by decide +kernel
theorem dX8_passes_31 : decode cX8_passes 31 = .ok (.goto (-29), 3) := by decide +kernel
theorem dX8_passes_34 : decode cX8_passes 34 = .ok (.iload_n 2, 1) := by decide +kernel
theorem dX8_passes_35 : decode cX8_passes 35 = .ok (.ireturn, 1) := by decide +kernel
theorem dX8_sideOf_0 : decode cX8_sideOf 0 = .ok (.iload_n 0, 1) := by decide +kernel
theorem dX8_sideOf_1 : decode cX8_sideOf 1 = .ok (.bipush 94, 2) := by decide +kernel
theorem dX8_sideOf_3 : decode cX8_sideOf 3 = .ok (.if_icmp .ne 7, 3) := by decide +kernel
theorem dX8_sideOf_6 : decode cX8_sideOf 6 = .ok (.iconst 1, 1) := by decide +kernel
theorem dX8_sideOf_7 : decode cX8_sideOf 7 = .ok (.goto 44, 3) := by decide +kernel
theorem dX8_sideOf_10 : decode cX8_sideOf 10 = .ok (.iload_n 0, 1) := by decide +kernel
theorem dX8_sideOf_11 : decode cX8_sideOf 11 = .ok (.bipush 36, 2) := by decide +kernel
theorem dX8_sideOf_13 : decode cX8_sideOf 13 = .ok (.if_icmp .ne 7, 3) := by decide +kernel
theorem dX8_sideOf_16 : decode cX8_sideOf 16 = .ok (.iconst 2, 1) := by decide +kernel
theorem dX8_sideOf_17 : decode cX8_sideOf 17 = .ok (.goto 34, 3) := by decide +kernel
theorem dX8_sideOf_20 : decode cX8_sideOf 20 = .ok (.iload_n 0, 1) := by decide +kernel
theorem dX8_sideOf_21 : decode cX8_sideOf 21 = .ok (.bipush 43, 2) := by decide +kernel
theorem dX8_sideOf_23 : decode cX8_sideOf 23 = .ok (.if_icmp .ne 7, 3) := by decide +kernel
theorem dX8_sideOf_26 : decode cX8_sideOf 26 = .ok (.iconst 3, 1) := by decide +kernel
theorem dX8_sideOf_27 : decode cX8_sideOf 27 = .ok (.goto 24, 3) := by decide +kernel
theorem dX8_sideOf_30 : decode cX8_sideOf 30 = .ok (.iload_n 0, 1) := by decide +kernel
theorem dX8_sideOf_31 : decode cX8_sideOf 31 = .ok (.bipush 45, 2) := by decide +kernel
theorem dX8_sideOf_33 : decode cX8_sideOf 33 = .ok (.if_icmp .ne 7, 3) := by decide +kernel
theorem dX8_sideOf_36 : decode cX8_sideOf 36 = .ok (.iconst 4, 1) := by decide +kernel
theorem dX8_sideOf_37 : decode cX8_sideOf 37 = .ok (.goto 14, 3) := by decide +kernel
theorem dX8_sideOf_40 : decode cX8_sideOf 40 = .ok (.iload_n 0, 1) := by decide +kernel
theorem dX8_sideOf_41 : decode cX8_sideOf 41 = .ok (.bipush 60, 2) := by decide +kernel
theorem dX8_sideOf_43 : decode cX8_sideOf 43 = .ok (.if_icmp .ne 7, 3) := by decide +kernel
theorem dX8_sideOf_46 : decode cX8_sideOf 46 = .ok (.iconst 5, 1) := by decide +kernel
theorem dX8_sideOf_47 : decode cX8_sideOf 47 = .ok (.goto 4, 3) := by decide +kernel
theorem dX8_sideOf_50 : decode cX8_sideOf 50 = .ok (.iconst 0, 1) := by decide +kernel
theorem dX8_sideOf_51 : decode cX8_sideOf 51 = .ok (.ireturn, 1) := by decide +kernel
set_option maxRecDepth 20000 in
theorem ggX8_readsEntry_X8_takes : GoodIn wsX8_readsEntry wsX8_takes := goodIn_r _ [8, 1, 9, 10, 11, 7, 12, 3, 2, 13, 14, 15, 58, 59, 60, 61, 62, 63, 64, 65, 66, 67, 68, 69, 70, 71, 72, 73, 74, 75, 76, 77, 78, 79, 80, 81, 82, 83, 84, 85] (by decide +kernel) (by decide +kernel)
set_option maxRecDepth 20000 in
theorem gX8_readsEntry_X8_takes : GoodIn wsX8_readsEntry (wsV RX8 148 RX8 yX8_takes wsX8_takes) := goodIn_app (goodIn_of _ (by decide +kernel)) ggX8_readsEntry_X8_takes
set_option maxRecDepth 20000 in
theorem ggX8_readsEntry_X8_passes : GoodIn wsX8_readsEntry wsX8_passes := goodIn_r _ [19, 1, 9, 10, 11, 7, 12, 3, 2, 13, 14, 15, 58, 59, 60, 61, 62, 63, 64, 65, 66, 67, 68, 69, 70, 71, 72, 73, 74, 75, 76, 77, 78, 79, 80, 81, 82, 83, 84, 85] (by decide +kernel) (by decide +kernel)
set_option maxRecDepth 20000 in
theorem gX8_readsEntry_X8_passes : GoodIn wsX8_readsEntry (wsV RX8 151 RX8 yX8_passes wsX8_passes) := goodIn_app (goodIn_of _ (by decide +kernel)) ggX8_readsEntry_X8_passes
set_option maxRecDepth 20000 in
theorem ggX8_readsEntry_X8_addsWord : GoodIn wsX8_readsEntry wsX8_addsWord := goodIn_r _ [23, 24, 25, 2, 26, 27, 28, 7, 29, 30, 31, 32, 33, 34, 35, 36, 37, 38, 39, 40, 41, 42, 43, 58, 59, 60, 61, 62, 63, 64, 65, 66, 67, 68, 69, 70, 71, 72, 73, 74, 75, 76, 77, 78, 79, 80, 81, 82, 83, 84, 85] (by decide +kernel) (by decide +kernel)
set_option maxRecDepth 20000 in
theorem gX8_readsEntry_X8_addsWord : GoodIn wsX8_readsEntry (wsV RX8 154 RX8 yX8_addsWord wsX8_addsWord) := goodIn_app (goodIn_of _ (by decide +kernel)) ggX8_readsEntry_X8_addsWord
set_option maxRecDepth 20000 in
theorem ggX8_readsEntry_X8_isHere : GoodIn wsX8_readsEntry wsX8_isHere := goodIn_r _ [12, 1, 3, 2, 13, 14, 7, 15, 58, 59, 60, 61, 62, 63, 64, 65, 66, 67, 68, 69, 70, 71, 72, 73, 74, 75, 76, 77, 78, 79, 80, 81, 82, 83, 84, 85] (by decide +kernel) (by decide +kernel)
set_option maxRecDepth 20000 in
theorem gX8_readsEntry_X8_isHere : GoodIn wsX8_readsEntry (wsV RX8 145 RX8 yX8_isHere wsX8_isHere) := goodIn_app (goodIn_of _ (by decide +kernel)) ggX8_readsEntry_X8_isHere
set_option maxRecDepth 20000 in
theorem ggX8_readsEntry_X8_setsSign : GoodIn wsX8_readsEntry wsX8_setsSign := goodIn_r _ [47, 24, 2, 58, 59, 60, 61, 62, 63, 64, 65, 66, 67, 68, 69, 70, 71, 72, 73, 74, 75, 76, 77, 78, 79, 80, 81, 82, 83, 84, 85] (by decide +kernel) (by decide +kernel)
set_option maxRecDepth 20000 in
theorem gX8_readsEntry_X8_setsSign : GoodIn wsX8_readsEntry (wsV RX8 158 RX8 yX8_setsSign wsX8_setsSign) := goodIn_app (goodIn_of _ (by decide +kernel)) ggX8_readsEntry_X8_setsSign
set_option maxRecDepth 20000 in
theorem ggX8_readsEntry_X8_sideOf : GoodIn wsX8_readsEntry wsX8_sideOf := goodIn_r _ [50] (by decide +kernel) (by decide +kernel)
set_option maxRecDepth 20000 in
theorem gX8_readsEntry_X8_sideOf : GoodIn wsX8_readsEntry (va_wsS RX8 161 yX8_sideOf wsX8_sideOf) := goodIn_app (goodIn_of _ (by decide +kernel)) ggX8_readsEntry_X8_sideOf
set_option maxRecDepth 20000 in
theorem ggX8_readsEntry_X8_addsRule : GoodIn wsX8_readsEntry wsX8_addsRule := goodIn_r _ [54, 24, 25, 2, 26, 27, 28, 7, 29, 30, 31, 55, 56, 57, 35, 36, 37, 38, 39, 40, 41, 42, 43, 58, 59, 60, 61, 62, 63, 64, 65, 66, 67, 68, 69, 70, 71, 72, 73, 74, 75, 76, 77, 78, 79, 80, 81, 82, 83, 84, 85] (by decide +kernel) (by decide +kernel)
set_option maxRecDepth 20000 in
theorem gX8_readsEntry_X8_addsRule : GoodIn wsX8_readsEntry (wsV RX8 164 RX8 yX8_addsRule wsX8_addsRule) := goodIn_app (goodIn_of _ (by decide +kernel)) ggX8_readsEntry_X8_addsRule
theorem dX8_readsEntry_0 : decode cX8_readsEntry 0 = .ok (.aload_n 0, 1) := by decide +kernel
theorem dX8_readsEntry_1 : decode cX8_readsEntry 1 = .ok (.getfield 142, 3) := by decide +kernel
theorem dX8_readsEntry_4 : decode cX8_readsEntry 4 = .ok (.istore_n 2, 1) := by decide +kernel
theorem dX8_readsEntry_5 : decode cX8_readsEntry 5 = .ok (.aload_n 0, 1) := by decide +kernel
