set_option maxRecDepth 20000 in
theorem ggX7_init_X3_init : GoodIn wsX7_init wsX3_init := goodIn_r _ [35, 36, 2, 3, 37, 38, 39, 40, 41, 42, 152, 153] (by decide +kernel) (by decide +kernel)
set_option maxRecDepth 20000 in
theorem gX7_init_X3_init : GoodIn wsX7_init (wsX3_init) := ggX7_init_X3_init
set_option maxRecDepth 20000 in
theorem ggX7_init_X2_init : GoodIn wsX7_init wsX2_init := goodIn_r _ [45, 46, 2, 3, 47, 5, 6, 48, 49, 50, 34, 35, 36, 37, 38, 39, 40, 41, 42, 152, 153, 166, 167, 168, 169, 170, 171, 172] (by decide +kernel) (by decide +kernel)
set_option maxRecDepth 20000 in
theorem gX7_init_X2_init : GoodIn wsX7_init (wsX2_init) := ggX7_init_X2_init
set_option maxRecDepth 20000 in
theorem ggX7_init_X5_init : GoodIn wsX7_init wsX5_init := goodIn_r _ [52, 53, 2, 3, 54, 5, 6, 55, 56, 57, 58, 59, 34, 35, 36, 37, 38, 39, 40, 41, 42, 152, 153, 173, 174, 175, 176] (by decide +kernel) (by decide +kernel)
set_option maxRecDepth 20000 in
theorem gX7_init_X5_init_n35 : GoodIn wsX7_init (wsX5_init) := ggX7_init_X5_init
set_option maxRecDepth 20000 in
theorem ggX7_init_X0_init : GoodIn wsX7_init wsX0_init := goodIn_r _ [62, 63, 2, 3, 64, 65, 66, 67, 68, 5, 6, 69, 70, 71, 72, 73, 74, 75, 76, 77, 78, 79, 80, 81, 82, 34, 35, 36, 37, 38, 39, 40, 41, 42, 83, 84, 85, 86, 87, 88, 89, 90, 91, 92, 93, 94, 95, 96, 97, 98, 99, 100, 101, 102, 103, 104, 105, 106, 107, 108, 109, 110, 111, 112, 113, 114, 115, 116, 117, 118, 119, 120, 121, 122, 123, 124, 125, 126, 127, 128, 129, 192, 193, 194, 177, 178, 179, 180, 181, 182, 152, 153] (by decide +kernel) (by decide +kernel)
set_option maxRecDepth 20000 in
theorem gX7_init_X0_init : GoodIn wsX7_init (wsX0_init) := ggX7_init_X0_init
set_option maxRecDepth 20000 in
theorem ggX7_init_X1_init : GoodIn wsX7_init wsX1_init := goodIn_r _ [132, 133, 2, 3, 134, 135, 19, 20, 136, 61, 62, 63, 64, 65, 66, 67, 68, 5, 6, 69, 70, 71, 72, 73, 74, 75, 76, 77, 78, 79, 80, 81, 82, 34, 35, 36, 37, 38, 39, 40, 41, 42, 83, 84, 85, 86, 87, 88, 89, 90, 91, 92, 93, 94, 95, 96, 97, 98, 99, 100, 101, 102, 103, 104, 105, 106, 107, 108, 109, 110, 111, 112, 113, 114, 115, 116, 117, 118, 119, 120, 121, 122, 123, 124, 125, 126, 127, 128, 129, 183, 184, 177, 178, 179, 180, 181, 182, 192, 193, 194, 152, 153] (by decide +kernel) (by decide +kernel)
set_option maxRecDepth 20000 in
theorem gX7_init_X1_init : GoodIn wsX7_init (wsX1_init) := ggX7_init_X1_init
set_option maxRecDepth 20000 in
theorem ggX7_init_X6_init : GoodIn wsX7_init wsX6_init := goodIn_r _ [138, 139, 2, 3, 140, 65, 66, 141, 142, 143, 144, 5, 6, 145, 146, 147, 15, 16, 148, 149, 150, 75, 76, 77, 78, 79, 80, 81, 82, 34, 35, 36, 37, 38, 39, 40, 41, 42, 83, 84, 85, 86, 87, 88, 89, 90, 91, 151, 51, 52, 53, 54, 55, 56, 57, 58, 59, 192, 193, 194, 185, 186, 187, 188, 189, 190, 191, 152, 153, 173, 174, 175, 176] (by decide +kernel) (by decide +kernel)
set_option maxRecDepth 20000 in
theorem gX7_init_X6_init_n64 : GoodIn wsX7_init (wsX6_init) := ggX7_init_X6_init
theorem dX7_init_0 : decode cX7_init 0 = .ok (.aload_n 0, 1) := by decide +kernel
theorem dX7_init_1 : decode cX7_init 1 = .ok (.invokespecial 1, 3) := by decide +kernel
theorem dX7_init_4 : decode cX7_init 4 = .ok (.aload_n 0, 1) := by decide +kernel
theorem dX7_init_5 : decode cX7_init 5 = .ok (.new 7, 3) := by decide +kernel
theorem dX7_init_8 : decode cX7_init 8 = .ok (.dup, 1) := by decide +kernel
theorem dX7_init_9 : decode cX7_init 9 = .ok (.bipush 60, 2) := by decide +kernel
theorem dX7_init_11 : decode cX7_init 11 = .ok (.invokespecial 11, 3) := by decide +kernel
theorem dX7_init_14 : decode cX7_init 14 = .ok (.putfield 14, 3) := by decide +kernel
theorem dX7_init_17 : decode cX7_init 17 = .ok (.aload_n 0, 1) := by decide +kernel
theorem dX7_init_18 : decode cX7_init 18 = .ok (.new 7, 3) := by decide +kernel
theorem dX7_init_21 : decode cX7_init 21 = .ok (.dup, 1) := by decide +kernel
theorem dX7_init_22 : decode cX7_init 22 = .ok (.sipush 400, 3) := by decide +kernel
theorem dX7_init_25 : decode cX7_init 25 = .ok (.invokespecial 11, 3) := by decide +kernel
theorem dX7_init_28 : decode cX7_init 28 = .ok (.putfield 18, 3) := by decide +kernel
theorem dX7_init_31 : decode cX7_init 31 = .ok (.aload_n 0, 1) := by decide +kernel
theorem dX7_init_32 : decode cX7_init 32 = .ok (.new 7, 3) := by decide +kernel
theorem dX7_init_35 : decode cX7_init 35 = .ok (.dup, 1) := by decide +kernel
theorem dX7_init_36 : decode cX7_init 36 = .ok (.sipush 400, 3) := by decide +kernel
theorem dX7_init_39 : decode cX7_init 39 = .ok (.invokespecial 11, 3) := by decide +kernel
theorem dX7_init_42 : decode cX7_init 42 = .ok (.putfield 21, 3) := by decide +kernel
theorem dX7_init_45 : decode cX7_init 45 = .ok (.aload_n 0, 1) := by decide +kernel
theorem dX7_init_46 : decode cX7_init 46 = .ok (.new 24, 3) := by decide +kernel
theorem dX7_init_49 : decode cX7_init 49 = .ok (.dup, 1) := by decide +kernel
theorem dX7_init_50 : decode cX7_init 50 = .ok (.aload_n 0, 1) := by decide +kernel
theorem dX7_init_51 : decode cX7_init 51 = .ok (.getfield 14, 3) := by decide +kernel
theorem dX7_init_54 : decode cX7_init 54 = .ok (.invokespecial 26, 3) := by decide +kernel
theorem dX7_init_57 : decode cX7_init 57 = .ok (.putfield 29, 3) := by decide +kernel
theorem dX7_init_60 : decode cX7_init 60 = .ok (.aload_n 0, 1) := by decide +kernel
theorem dX7_init_61 : decode cX7_init 61 = .ok (.new 33, 3) := by decide +kernel
theorem dX7_init_64 : decode cX7_init 64 = .ok (.dup, 1) := by decide +kernel
theorem dX7_init_65 : decode cX7_init 65 = .ok (.invokespecial 35, 3) := by decide +kernel
theorem dX7_init_68 : decode cX7_init 68 = .ok (.putfield 36, 3) := by decide +kernel
theorem dX7_init_71 : decode cX7_init 71 = .ok (.aload_n 0, 1) := by decide +kernel
theorem dX7_init_72 : decode cX7_init 72 = .ok (.new 40, 3) := by decide +kernel
theorem dX7_init_75 : decode cX7_init 75 = .ok (.dup, 1) := by decide +kernel
theorem dX7_init_76 : decode cX7_init 76 = .ok (.bipush 30, 2) := by decide +kernel
theorem dX7_init_78 : decode cX7_init 78 = .ok (.bipush 20, 2) := by decide +kernel
theorem dX7_init_80 : decode cX7_init 80 = .ok (.invokespecial 42, 3) := by decide +kernel
theorem dX7_init_83 : decode cX7_init 83 = .ok (.putfield 45, 3) := by decide +kernel
theorem dX7_init_86 : decode cX7_init 86 = .ok (.aload_n 0, 1) := by decide +kernel
theorem dX7_init_87 : decode cX7_init 87 = .ok (.new 40, 3) := by decide +kernel
theorem dX7_init_90 : decode cX7_init 90 = .ok (.dup, 1) := by decide +kernel
theorem dX7_init_91 : decode cX7_init 91 = .ok (.bipush 60, 2) := by decide +kernel
theorem dX7_init_93 : decode cX7_init 93 = .ok (.bipush 50, 2) := by decide +kernel
theorem dX7_init_95 : decode cX7_init 95 = .ok (.invokespecial 42, 3) := by decide +kernel
theorem dX7_init_98 : decode cX7_init 98 = .ok (.putfield 49, 3) := by decide +kernel
theorem dX7_init_101 : decode cX7_init 101 = .ok (.aload_n 0, 1) := by decide +kernel
theorem dX7_init_102 : decode cX7_init 102 = .ok (.new 40, 3) := by decide +kernel
theorem dX7_init_105 : decode cX7_init 105 = .ok (.dup, 1) := by decide +kernel
theorem dX7_init_106 : decode cX7_init 106 = .ok (.bipush 30, 2) := by decide +kernel
theorem dX7_init_108 : decode cX7_init 108 = .ok (.bipush 20, 2) := by decide +kernel
theorem dX7_init_110 : decode cX7_init 110 = .ok (.invokespecial 42, 3) := by decide +kernel
theorem dX7_init_113 : decode cX7_init 113 = .ok (.putfield 52, 3) := by decide +kernel
theorem dX7_init_116 : decode cX7_init 116 = .ok (.aload_n 0, 1) := by decide +kernel
theorem dX7_init_117 : decode cX7_init 117 = .ok (.new 55, 3) := by decide +kernel
theorem dX7_init_120 : decode cX7_init 120 = .ok (.dup, 1) := by decide +kernel
theorem dX7_init_121 : decode cX7_init 121 = .ok (.invokespecial 57, 3) := by decide +kernel
theorem dX7_init_124 : decode cX7_init 124 = .ok (.putfield 58, 3) := by decide +kernel
theorem dX7_init_127 : decode cX7_init 127 = .ok (.aload_n 0, 1) := by decide +kernel
theorem dX7_init_128 : decode cX7_init 128 = .ok (.new 62, 3) := by decide +kernel
theorem dX7_init_131 : decode cX7_init 131 = .ok (.dup, 1) := by decide +kernel
theorem dX7_init_132 : decode cX7_init 132 = .ok (.invokespecial 64, 3) := by decide +kernel
theorem dX7_init_135 : decode cX7_init 135 = .ok (.putfield 65, 3) := by decide +kernel
theorem dX7_init_138 : decode cX7_init 138 = .ok (.aload_n 0, 1) := by decide +kernel
theorem dX7_init_139 : decode cX7_init 139 = .ok (.new 62, 3) := by decide +kernel
theorem dX7_init_142 : decode cX7_init 142 = .ok (.dup, 1) := by decide +kernel
theorem dX7_init_143 : decode cX7_init 143 = .ok (.invokespecial 64, 3) := by decide +kernel
theorem dX7_init_146 : decode cX7_init 146 = .ok (.putfield 69, 3) := by decide +kernel
theorem dX7_init_149 : decode cX7_init 149 = .ok (.return_, 1) := by decide +kernel
set_option maxRecDepth 20000 in
theorem ggX7_readEntries_X0_copyFrom : GoodIn wsX7_readEntries wsX0_copyFrom := goodIn_r _ [10, 11, 12, 13, 14, 15, 16, 17, 18, 19, 20, 21, 22, 23, 24, 25, 26, 27, 28, 29, 30, 31, 32, 33, 34, 35, 36, 37, 38, 39, 40, 41, 42, 43, 44, 45, 46, 47, 48, 49, 50, 51, 52, 53, 54, 55, 56, 57, 312, 313, 314, 315, 316, 317, 318, 319, 320, 321, 322] (by decide +kernel) (by decide +kernel)
set_option maxRecDepth 20000 in
theorem gX7_readEntries_X0_copyFrom : GoodIn wsX7_readEntries (wsV RX7 72 RX0 yX0_copyFrom wsX0_copyFrom) := goodIn_app (goodIn_of _ (by decide +kernel)) ggX7_readEntries_X0_copyFrom
set_option maxRecDepth 20000 in
theorem ggX7_readEntries_X2_begin : GoodIn wsX7_readEntries wsX2_begin := goodIn_r _ [62, 63, 323, 324, 325, 326, 327, 328, 329] (by decide +kernel) (by decide +kernel)
set_option maxRecDepth 20000 in
theorem gX7_readEntries_X2_begin : GoodIn wsX7_readEntries (wsV RX7 76 RX2 yX2_begin wsX2_begin) := goodIn_app (goodIn_of _ (by decide +kernel)) ggX7_readEntries_X2_begin
set_option maxRecDepth 20000 in
theorem ggX7_readEntries_X2_takeEntry : GoodIn wsX7_readEntries wsX2_takeEntry := goodIn_r _ [67, 68, 63, 69, 40, 41, 28, 42, 34, 43, 70, 71, 72, 61, 73, 74, 75, 76, 77, 78, 79, 80, 81, 82, 83, 84, 85, 31, 32, 33, 86, 87, 88, 89, 45, 46, 47, 90, 49, 50, 51, 91, 92, 93, 94, 95, 96, 97, 98, 99, 100, 101, 102, 103, 104, 105, 106, 107, 108, 109, 110, 111, 112, 113, 323, 324, 325, 326, 327, 328, 329, 321, 322] (by decide +kernel) (by decide +kernel)
set_option maxRecDepth 20000 in
theorem gX7_readEntries_X2_takeEntry : GoodIn wsX7_readEntries (wsV RX7 79 RX2 yX2_takeEntry wsX2_takeEntry) := goodIn_app (goodIn_of _ (by decide +kernel)) ggX7_readEntries_X2_takeEntry
set_option maxRecDepth 20000 in
theorem ggX7_readEntries_X2_fault : GoodIn wsX7_readEntries wsX2_fault := goodIn_r _ [117, 63, 323, 324, 325, 326, 327, 328, 329] (by decide +kernel) (by decide +kernel)
set_option maxRecDepth 20000 in
theorem gX7_readEntries_X2_fault : GoodIn wsX7_readEntries (wsV RX7 83 RX2 yX2_fault wsX2_fault) := goodIn_app (goodIn_of _ (by decide +kernel)) ggX7_readEntries_X2_fault
set_option maxRecDepth 20000 in
theorem ggX7_readEntries_X0_addEntry : GoodIn wsX7_readEntries wsX0_addEntry := goodIn_r _ [121, 122, 14, 123, 124, 125, 126, 127, 9, 128, 13, 129, 11, 12, 130, 131, 132, 133, 134, 135, 136, 20, 137, 22, 48, 49, 50, 28, 51, 34, 138, 40, 41, 42, 43, 139, 140, 141, 142, 52, 143, 144, 145, 146, 24, 23, 147, 148, 149, 150, 151, 152, 153, 154, 155, 45, 46, 47, 156, 157, 158, 159, 160, 161, 162, 163, 164, 165, 166, 167, 53, 54, 55, 56, 168, 169, 170, 171, 172, 15, 16, 173, 174, 175, 176, 177, 178, 179, 323, 324, 325, 326, 327, 328, 329, 312, 313, 314, 315, 316, 317, 318, 319, 320, 321, 322] (by decide +kernel) (by decide +kernel)
set_option maxRecDepth 20000 in
theorem gX7_readEntries_X0_addEntry : GoodIn wsX7_readEntries (wsV RX7 87 RX0 yX0_addEntry wsX0_addEntry) := goodIn_app (goodIn_of _ (by decide +kernel)) ggX7_readEntries_X0_addEntry
set_option maxRecDepth 20000 in
theorem ggX7_readEntries_X2_take : GoodIn wsX7_readEntries wsX2_take := goodIn_r _ [79, 68, 63, 69, 40, 41, 28, 42, 34, 43, 323, 324, 325, 326, 327, 328, 329, 321, 322] (by decide +kernel) (by decide +kernel)
set_option maxRecDepth 20000 in
theorem gX7_readEntries_X2_take : GoodIn wsX7_readEntries (wsV RX7 91 RX2 yX2_take wsX2_take) := goodIn_app (goodIn_of _ (by decide +kernel)) ggX7_readEntries_X2_take
set_option maxRecDepth 20000 in
theorem ggX7_readEntries_X2_isAtEnd : GoodIn wsX7_readEntries wsX2_isAtEnd := goodIn_r _ [184, 63, 68, 90, 49, 50, 28, 51, 34, 323, 324, 325, 326, 327, 328, 329, 321, 322] (by decide +kernel) (by decide +kernel)
set_option maxRecDepth 20000 in
theorem gX7_readEntries_X2_isAtEnd : GoodIn wsX7_readEntries (wsV RX7 95 RX2 yX2_isAtEnd wsX2_isAtEnd) := goodIn_app (goodIn_of _ (by decide +kernel)) ggX7_readEntries_X2_isAtEnd
set_option maxRecDepth 20000 in
theorem ggX7_readEntries_X0_rules : GoodIn wsX7_readEntries wsX0_rules := goodIn_r _ [133, 11, 134, 135, 136, 20, 137, 22, 48, 49, 50, 28, 51, 34, 312, 313, 314, 315, 316, 317, 318, 319, 320, 321, 322] (by decide +kernel) (by decide +kernel)
set_option maxRecDepth 20000 in
theorem gX7_readEntries_X0_rules : GoodIn wsX7_readEntries (wsV RX7 98 RX0 yX0_rules wsX0_rules) := goodIn_app (goodIn_of _ (by decide +kernel)) ggX7_readEntries_X0_rules
set_option maxRecDepth 20000 in
theorem ggX7_readEntries_X0_words : GoodIn wsX7_readEntries wsX0_words := goodIn_r _ [189, 15, 134, 135, 136, 20, 137, 22, 48, 49, 50, 28, 51, 34, 312, 313, 314, 315, 316, 317, 318, 319, 320, 321, 322] (by decide +kernel) (by decide +kernel)
set_option maxRecDepth 20000 in
theorem gX7_readEntries_X0_words : GoodIn wsX7_readEntries (wsV RX7 101 RX0 yX0_words wsX0_words) := goodIn_app (goodIn_of _ (by decide +kernel)) ggX7_readEntries_X0_words
set_option maxRecDepth 20000 in
theorem ggX7_readEntries_X1_record : GoodIn wsX7_readEntries wsX1_record := goodIn_r _ [194, 195, 196, 197, 198, 199, 193, 200, 201, 202, 162, 203, 204, 7, 8, 9, 10, 11, 12, 13, 14, 15, 16, 17, 18, 19, 20, 21, 22, 23, 24, 25, 26, 27, 28, 29, 30, 31, 32, 33, 34, 35, 36, 37, 38, 39, 40, 41, 42, 43, 44, 45, 46, 47, 48, 49, 50, 51, 52, 53, 54, 55, 56, 57, 330, 331, 312, 313, 314, 315, 316, 317, 318, 319, 320, 321, 322] (by decide +kernel) (by decide +kernel)
set_option maxRecDepth 20000 in
theorem gX7_readEntries_X1_record : GoodIn wsX7_readEntries (wsV RX7 104 RX1 yX1_record wsX1_record) := goodIn_app (goodIn_of _ (by decide +kernel)) ggX7_readEntries_X1_record
set_option maxRecDepth 20000 in
theorem ggX7_readEntries_X6_renew : GoodIn wsX7_readEntries wsX6_renew := goodIn_r _ [209, 210, 211, 212, 213, 214, 215, 216, 217, 218, 219, 220, 221, 222, 223, 224, 225, 20, 226, 22, 227, 31, 32, 28, 33, 34, 228, 229, 131, 132, 9, 133, 11, 134, 135, 136, 137, 48, 49, 50, 51, 230, 231, 232, 233, 44, 45, 46, 47, 43, 234, 187, 188, 189, 15, 235, 236, 237, 238, 52, 40, 41, 42, 143, 144, 145, 146, 24, 23, 155, 239, 240, 241, 242, 243, 244, 245, 246, 247, 248, 249, 250, 251, 252, 253, 254, 255, 256, 257, 258, 259, 260, 261, 262, 263, 264, 265, 266, 267, 87, 268, 269, 270, 271, 272, 273, 274, 275, 276, 277, 278, 279, 280, 281, 282, 283, 284, 285, 286, 91, 92, 287, 36, 37, 38, 39, 288, 148, 149, 150, 151, 152, 153, 154, 156, 157, 158, 159, 160, 161, 162, 163, 164, 165, 166, 167, 53, 54, 55, 56, 289, 290, 291, 292, 293, 208, 294, 295, 296, 297, 298, 299, 332, 333, 334, 335, 336, 337, 338, 312, 313, 314, 315, 316, 317, 339, 340, 341, 342, 318, 319, 320, 321, 322] (by decide +kernel) (by decide +kernel)
set_option maxRecDepth 20000 in
theorem gX7_readEntries_X6_renew : GoodIn wsX7_readEntries (wsV RX7 107 RX6 yX6_renew wsX6_renew) := goodIn_app (goodIn_of _ (by decide +kernel)) ggX7_readEntries_X6_renew
theorem dX7_readEntries_0 : decode cX7_readEntries 0 = .ok (.aload_n 0, 1) := by decide +kernel
theorem dX7_readEntries_1 : decode cX7_readEntries 1 = .ok (.getfield 49, 3) := by decide +kernel
theorem dX7_readEntries_4 : decode cX7_readEntries 4 = .ok (.aload_n 0, 1) := by decide +kernel
theorem dX7_readEntries_5 : decode cX7_readEntries 5 = .ok (.getfield 45, 3) := by decide +kernel
theorem dX7_readEntries_8 : decode cX7_readEntries 8 = .ok (.invokevirtual 72, 3) := by decide +kernel
theorem dX7_readEntries_11 : decode cX7_readEntries 11 = .ok (.aload_n 0, 1) := by decide +kernel
theorem dX7_readEntries_12 : decode cX7_readEntries 12 = .ok (.getfield 29, 3) := by decide +kernel
theorem dX7_readEntries_15 : decode cX7_readEntries 15 = .ok (.invokevirtual 76, 3) := by decide +kernel
theorem dX7_readEntries_18 : decode cX7_readEntries 18 = .ok (.iconst 1, 1) := by decide +kernel
theorem dX7_readEntries_19 : decode cX7_readEntries 19 = .ok (.istore_n 1, 1) := by decide +kernel
theorem dX7_readEntries_20 : decode cX7_readEntries 20 = .ok (.iconst 0, 1) := by decide +kernel
theorem dX7_readEntries_21 : decode cX7_readEntries 21 = .ok (.istore_n 2, 1) := by decide +kernel
theorem dX7_readEntries_22 : decode cX7_readEntries 22 = .ok (.iconst 0, 1) := by decide +kernel
theorem dX7_readEntries_23 : decode cX7_readEntries 23 = .ok (.istore_n 3, 1) := by decide +kernel
theorem dX7_readEntries_24 : decode cX7_readEntries 24 = .ok (.iload_n 3, 1) := by decide +kernel
theorem dX7_readEntries_25 : decode cX7_readEntries 25 = .ok (.bipush 60, 2) := by decide +kernel
theorem dX7_readEntries_27 : decode cX7_readEntries 27 = .ok (.if_icmp .ge 69, 3) := by decide +kernel
theorem dX7_readEntries_30 : decode cX7_readEntries 30 = .ok (.aload_n 0, 1) := by decide +kernel
theorem dX7_readEntries_31 : decode cX7_readEntries 31 = .ok (.getfield 29, 3) := by decide +kernel
theorem dX7_readEntries_34 : decode cX7_readEntries 34 = .ok (.invokevirtual 79, 3) := by decide +kernel
theorem dX7_readEntries_37 : decode cX7_readEntries 37 = .ok (.ifCond .ne 11, 3) := by decide +kernel
theorem dX7_readEntries_40 : decode cX7_readEntries 40 = .ok (.aload_n 0, 1) := by decide +kernel
theorem dX7_readEntries_41 : decode cX7_readEntries 41 = .ok (.getfield 29, 3) := by decide +kernel
theorem dX7_readEntries_44 : decode cX7_readEntries 44 = .ok (.invokevirtual 83, 3) := by decide +kernel
theorem dX7_readEntries_47 : decode cX7_readEntries 47 = .ok (.ireturn, 1) := by decide +kernel
theorem dX7_readEntries_48 : decode cX7_readEntries 48 = .ok (.aload_n 0, 1) := by decide +kernel
theorem dX7_readEntries_49 : decode cX7_readEntries 49 = .ok (.getfield 49, 3) := by decide +kernel
theorem dX7_readEntries_52 : decode cX7_readEntries 52 = .ok (.aload_n 0, 1) := by decide +kernel
theorem dX7_readEntries_53 : decode cX7_readEntries 53 = .ok (.getfield 29, 3) := by decide +kernel
theorem dX7_readEntries_56 : decode cX7_readEntries 56 = .ok (.invokevirtual 87, 3) := by decide +kernel
theorem dX7_readEntries_59 : decode cX7_readEntries 59 = .ok (.ifCond .eq 11, 3) := by decide +kernel
theorem dX7_readEntries_62 : decode cX7_readEntries 62 = .ok (.iload_n 1, 1) := by decide +kernel
theorem dX7_readEntries_63 : decode cX7_readEntries 63 = .ok (.ifCond .eq 7, 3) := by decide +kernel
theorem dX7_readEntries_66 : decode cX7_readEntries 66 = .ok (.iconst 1, 1) := by decide +kernel
theorem dX7_readEntries_67 : decode cX7_readEntries 67 = .ok (.goto 4, 3) := by decide +kernel
theorem dX7_readEntries_70 : decode cX7_readEntries 70 = .ok (.iconst 0, 1) := by decide +kernel
theorem dX7_readEntries_71 : decode cX7_readEntries 71 = .ok (.istore_n 1, 1) := by decide +kernel
theorem dX7_readEntries_72 : decode cX7_readEntries 72 = .ok (.iinc 2 1, 3) := by decide +kernel
theorem dX7_readEntries_75 : decode cX7_readEntries 75 = .ok (.aload_n 0, 1) := by decide +kernel
theorem dX7_readEntries_76 : decode cX7_readEntries 76 = .ok (.getfield 29, 3) := by decide +kernel
theorem dX7_readEntries_79 : decode cX7_readEntries 79 = .ok (.bipush 44, 2) := by decide +kernel
theorem dX7_readEntries_81 : decode cX7_readEntries 81 = .ok (.invokevirtual 91, 3) := by decide +kernel
theorem dX7_readEntries_84 : decode cX7_readEntries 84 = .ok (.ifCond .ne 6, 3) := by decide +kernel
theorem dX7_readEntries_87 : decode cX7_readEntries 87 = .ok (.goto 9, 3) := by decide +kernel
theorem dX7_readEntries_90 : decode cX7_readEntries 90 = .ok (.iinc 3 1, 3) := by decide +kernel
theorem dX7_readEntries_93 : decode cX7_readEntries 93 = .ok (.goto (-69), 3) := by decide +kernel
theorem dX7_readEntries_96 : decode cX7_readEntries 96 = .ok (.aload_n 0, 1) := by decide +kernel
theorem dX7_readEntries_97 : decode cX7_readEntries 97 = .ok (.getfield 29, 3) := by decide +kernel
theorem dX7_readEntries_100 : decode cX7_readEntries 100 = .ok (.invokevirtual 95, 3) := by decide +kernel
theorem dX7_readEntries_103 : decode cX7_readEntries 103 = .ok (.ifCond .ne 11, 3) := by decide +kernel
theorem dX7_readEntries_106 : decode cX7_readEntries 106 = .ok (.aload_n 0, 1) := by decide +kernel
theorem dX7_readEntries_107 : decode cX7_readEntries 107 = .ok (.getfield 29, 3) := by decide +kernel
theorem dX7_readEntries_110 : decode cX7_readEntries 110 = .ok (.invokevirtual 83, 3) := by decide +kernel
theorem dX7_readEntries_113 : decode cX7_readEntries 113 = .ok (.ireturn, 1) := by decide +kernel
theorem dX7_readEntries_114 : decode cX7_readEntries 114 = .ok (.iload_n 1, 1) := by decide +kernel
theorem dX7_readEntries_115 : decode cX7_readEntries 115 = .ok (.ifCond .ne 6, 3) := by decide +kernel
theorem dX7_readEntries_118 : decode cX7_readEntries 118 = .ok (.bipush (-4), 2) := by decide +kernel
theorem dX7_readEntries_120 : decode cX7_readEntries 120 = .ok (.ireturn, 1) := by decide +kernel
theorem dX7_readEntries_121 : decode cX7_readEntries 121 = .ok (.aload_n 0, 1) := by decide +kernel
theorem dX7_readEntries_122 : decode cX7_readEntries 122 = .ok (.getfield 49, 3) := by decide +kernel
theorem dX7_readEntries_125 : decode cX7_readEntries 125 = .ok (.invokevirtual 98, 3) := by decide +kernel
theorem dX7_readEntries_128 : decode cX7_readEntries 128 = .ok (.bipush 30, 2) := by decide +kernel
theorem dX7_readEntries_130 : decode cX7_readEntries 130 = .ok (.if_icmp .gt 15, 3) := by decide +kernel
theorem dX7_readEntries_133 : decode cX7_readEntries 133 = .ok (.aload_n 0, 1) := by decide +kernel
theorem dX7_readEntries_134 : decode cX7_readEntries 134 = .ok (.getfield 49, 3) := by decide +kernel
theorem dX7_readEntries_137 : decode cX7_readEntries 137 = .ok (.invokevirtual 101, 3) := by decide +kernel
theorem dX7_readEntries_140 : decode cX7_readEntries 140 = .ok (.bipush 20, 2) := by decide +kernel
theorem dX7_readEntries_142 : decode cX7_readEntries 142 = .ok (.if_icmp .le 6, 3) := by decide +kernel
theorem dX7_readEntries_145 : decode cX7_readEntries 145 = .ok (.bipush (-3), 2) := by decide +kernel
theorem dX7_readEntries_147 : decode cX7_readEntries 147 = .ok (.ireturn, 1) := by decide +kernel
theorem dX7_readEntries_148 : decode cX7_readEntries 148 = .ok (.aload_n 0, 1) := by decide +kernel
theorem dX7_readEntries_149 : decode cX7_readEntries 149 = .ok (.getfield 58, 3) := by decide +kernel
theorem dX7_readEntries_152 : decode cX7_readEntries 152 = .ok (.aload_n 0, 1) := by decide +kernel
theorem dX7_readEntries_153 : decode cX7_readEntries 153 = .ok (.getfield 45, 3) := by decide +kernel
theorem dX7_readEntries_156 : decode cX7_readEntries 156 = .ok (.invokevirtual 104, 3) := by decide +kernel
theorem dX7_readEntries_159 : decode cX7_readEntries 159 = .ok (.aload_n 0, 1) := by decide +kernel
theorem dX7_readEntries_160 : decode cX7_readEntries 160 = .ok (.getfield 45, 3) := by decide +kernel
theorem dX7_readEntries_163 : decode cX7_readEntries 163 = .ok (.aload_n 0, 1) := by decide +kernel
theorem dX7_readEntries_164 : decode cX7_readEntries 164 = .ok (.getfield 49, 3) := by decide +kernel
theorem dX7_readEntries_167 : decode cX7_readEntries 167 = .ok (.invokevirtual 72, 3) := by decide +kernel
theorem dX7_readEntries_170 : decode cX7_readEntries 170 = .ok (.aload_n 0, 1) := by decide +kernel
theorem dX7_readEntries_171 : decode cX7_readEntries 171 = .ok (.getfield 65, 3) := by decide +kernel
theorem dX7_readEntries_174 : decode cX7_readEntries 174 = .ok (.aload_n 0, 1) := by decide +kernel
theorem dX7_readEntries_175 : decode cX7_readEntries 175 = .ok (.getfield 45, 3) := by decide +kernel
theorem dX7_readEntries_178 : decode cX7_readEntries 178 = .ok (.invokevirtual 107, 3) := by decide +kernel
theorem dX7_readEntries_181 : decode cX7_readEntries 181 = .ok (.iload_n 2, 1) := by decide +kernel
theorem dX7_readEntries_182 : decode cX7_readEntries 182 = .ok (.ireturn, 1) := by decide +kernel
set_option maxRecDepth 20000 in
theorem ggX7_removeRule_X0_hasRule : GoodIn wsX7_removeRule wsX0_hasRule := goodIn_r _ [8, 9, 10, 11, 12, 13, 14, 15, 16, 17, 18, 19, 20, 21, 255, 256, 257, 258, 259, 260, 261, 262, 263, 264, 265] (by decide +kernel) (by decide +kernel)
set_option maxRecDepth 20000 in
theorem gX7_removeRule_X0_hasRule : GoodIn wsX7_removeRule (wsV RX7 110 RX0 yX0_hasRule wsX0_hasRule) := goodIn_app (goodIn_of _ (by decide +kernel)) ggX7_removeRule_X0_hasRule
set_option maxRecDepth 20000 in
theorem ggX7_removeRule_X1_record : GoodIn wsX7_removeRule wsX1_record := goodIn_r _ [26, 27, 28, 29, 30, 31, 25, 32, 33, 34, 35, 36, 37, 38, 39, 7, 40, 9, 41, 42, 43, 44, 45, 46, 47, 48, 13, 49, 15, 50, 51, 52, 53, 54, 19, 55, 56, 57, 58, 59, 21, 60, 61, 62, 63, 64, 65, 66, 67, 68, 69, 70, 71, 72, 16, 17, 18, 20, 73, 74, 75, 76, 77, 78, 266, 267, 255, 256, 257, 258, 259, 260, 261, 262, 263, 264, 265] (by decide +kernel) (by decide +kernel)
set_option maxRecDepth 20000 in
theorem gX7_removeRule_X1_record : GoodIn wsX7_removeRule (wsV RX7 104 RX1 yX1_record wsX1_record) := goodIn_app (goodIn_of _ (by decide +kernel)) ggX7_removeRule_X1_record
set_option maxRecDepth 20000 in
theorem ggX7_removeRule_X0_dropRule : GoodIn wsX7_removeRule wsX0_dropRule := goodIn_r _ [82, 9, 41, 42, 83, 84, 85, 13, 86, 15, 87, 11, 12, 14, 16, 17, 18, 19, 20, 21, 88, 89, 90, 91, 92, 93, 94, 95, 50, 51, 96, 97, 98, 99, 64, 65, 66, 67, 68, 100, 75, 76, 77, 101, 102, 103, 104, 105, 34, 35, 36, 106, 107, 108, 109, 110, 111, 112, 113, 114, 115, 255, 256, 257, 258, 259, 260, 261, 262, 263, 264, 265] (by decide +kernel) (by decide +kernel)
set_option maxRecDepth 20000 in
theorem gX7_removeRule_X0_dropRule : GoodIn wsX7_removeRule (wsV RX7 113 RX0 yX0_dropRule wsX0_dropRule) := goodIn_app (goodIn_of _ (by decide +kernel)) ggX7_removeRule_X0_dropRule
set_option maxRecDepth 20000 in
theorem ggX7_removeRule_X6_renew : GoodIn wsX7_removeRule wsX6_renew := goodIn_r _ [120, 121, 122, 123, 124, 125, 126, 127, 128, 129, 130, 131, 132, 133, 134, 135, 136, 13, 137, 15, 138, 57, 58, 19, 59, 21, 139, 140, 141, 142, 7, 143, 9, 144, 145, 146, 147, 16, 17, 18, 20, 148, 149, 150, 151, 69, 70, 71, 72, 68, 152, 153, 154, 155, 44, 156, 157, 158, 159, 73, 65, 66, 67, 160, 161, 162, 163, 51, 50, 164, 165, 166, 167, 168, 169, 170, 171, 172, 173, 174, 175, 176, 177, 178, 179, 180, 181, 182, 183, 184, 185, 186, 187, 188, 189, 190, 191, 192, 193, 194, 195, 196, 197, 198, 199, 200, 201, 202, 203, 204, 205, 206, 207, 208, 209, 210, 211, 212, 213, 214, 215, 216, 61, 62, 63, 64, 217, 218, 219, 220, 221, 222, 223, 224, 225, 226, 227, 228, 229, 230, 35, 231, 87, 11, 12, 14, 74, 75, 76, 77, 232, 233, 234, 235, 236, 119, 237, 238, 239, 240, 241, 100, 268, 269, 270, 271, 272, 273, 274, 255, 256, 257, 258, 259, 260, 275, 276, 277, 278, 261, 262, 263, 264, 265] (by decide +kernel) (by decide +kernel)
set_option maxRecDepth 20000 in
theorem gX7_removeRule_X6_renew : GoodIn wsX7_removeRule (wsV RX7 107 RX6 yX6_renew wsX6_renew) := goodIn_app (goodIn_of _ (by decide +kernel)) ggX7_removeRule_X6_renew
set_option maxRecDepth 20000 in
theorem ggX7_removeRule_X0_rules : GoodIn wsX7_removeRule wsX0_rules := goodIn_r _ [143, 9, 144, 145, 146, 13, 147, 15, 16, 17, 18, 19, 20, 21, 255, 256, 257, 258, 259, 260, 261, 262, 263, 264, 265] (by decide +kernel) (by decide +kernel)
set_option maxRecDepth 20000 in
theorem gX7_removeRule_X0_rules : GoodIn wsX7_removeRule (wsV RX7 98 RX0 yX0_rules wsX0_rules) := goodIn_app (goodIn_of _ (by decide +kernel)) ggX7_removeRule_X0_rules
theorem dX7_removeRule_0 : decode cX7_removeRule 0 = .ok (.aload_n 0, 1) := by decide +kernel
theorem dX7_removeRule_1 : decode cX7_removeRule 1 = .ok (.getfield 45, 3) := by decide +kernel
theorem dX7_removeRule_4 : decode cX7_removeRule 4 = .ok (.iload_n 1, 1) := by decide +kernel
theorem dX7_removeRule_5 : decode cX7_removeRule 5 = .ok (.invokevirtual 110, 3) := by decide +kernel
theorem dX7_removeRule_8 : decode cX7_removeRule 8 = .ok (.ifCond .ne 5, 3) := by decide +kernel
theorem dX7_removeRule_11 : decode cX7_removeRule 11 = .ok (.iconst (-1), 1) := by decide +kernel
theorem dX7_removeRule_12 : decode cX7_removeRule 12 = .ok (.ireturn, 1) := by decide +kernel
theorem dX7_removeRule_13 : decode cX7_removeRule 13 = .ok (.aload_n 0, 1) := by decide +kernel
theorem dX7_removeRule_14 : decode cX7_removeRule 14 = .ok (.getfield 58, 3) := by decide +kernel
theorem dX7_removeRule_17 : decode cX7_removeRule 17 = .ok (.aload_n 0, 1) := by decide +kernel
theorem dX7_removeRule_18 : decode cX7_removeRule 18 = .ok (.getfield 45, 3) := by decide +kernel
theorem dX7_removeRule_21 : decode cX7_removeRule 21 = .ok (.invokevirtual 104, 3) := by decide +kernel
theorem dX7_removeRule_24 : decode cX7_removeRule 24 = .ok (.aload_n 0, 1) := by decide +kernel
theorem dX7_removeRule_25 : decode cX7_removeRule 25 = .ok (.getfield 45, 3) := by decide +kernel
theorem dX7_removeRule_28 : decode cX7_removeRule 28 = .ok (.iload_n 1, 1) := by decide +kernel
theorem dX7_removeRule_29 : decode cX7_removeRule 29 = .ok (.invokevirtual 113, 3) := by decide +kernel
theorem dX7_removeRule_32 : decode cX7_removeRule 32 = .ok (.aload_n 0, 1) := by decide +kernel
theorem dX7_removeRule_33 : decode cX7_removeRule 33 = .ok (.getfield 65, 3) := by decide +kernel
theorem dX7_removeRule_36 : decode cX7_removeRule 36 = .ok (.aload_n 0, 1) := by decide +kernel
theorem dX7_removeRule_37 : decode cX7_removeRule 37 = .ok (.getfield 45, 3) := by decide +kernel
theorem dX7_removeRule_40 : decode cX7_removeRule 40 = .ok (.invokevirtual 107, 3) := by decide +kernel
theorem dX7_removeRule_43 : decode cX7_removeRule 43 = .ok (.aload_n 0, 1) := by decide +kernel
theorem dX7_removeRule_44 : decode cX7_removeRule 44 = .ok (.getfield 45, 3) := by decide +kernel
theorem dX7_removeRule_47 : decode cX7_removeRule 47 = .ok (.invokevirtual 98, 3) := by decide +kernel
theorem dX7_removeRule_50 : decode cX7_removeRule 50 = .ok (.ireturn, 1) := by decide +kernel
set_option maxRecDepth 20000 in
theorem ggX7_moveRule_X0_hasRule : GoodIn wsX7_moveRule wsX0_hasRule := goodIn_r _ [9, 10, 11, 12, 13, 14, 15, 16, 17, 18, 19, 20, 21, 22, 250, 251, 252, 253, 254, 255, 256, 257, 258, 259, 260] (by decide +kernel) (by decide +kernel)
set_option maxRecDepth 20000 in
theorem gX7_moveRule_X0_hasRule : GoodIn wsX7_moveRule (wsV RX7 110 RX0 yX0_hasRule wsX0_hasRule) := goodIn_app (goodIn_of _ (by decide +kernel)) ggX7_moveRule_X0_hasRule
set_option maxRecDepth 20000 in
theorem ggX7_moveRule_X1_record : GoodIn wsX7_moveRule wsX1_record := goodIn_r _ [27, 28, 29, 30, 31, 32, 26, 33, 34, 35, 36, 37, 38, 39, 40, 8, 41, 10, 42, 43, 44, 45, 46, 47, 48, 49, 14, 50, 16, 51, 52, 53, 54, 55, 20, 56, 57, 58, 59, 60, 22, 61, 62, 63, 64, 65, 66, 67, 68, 69, 70, 71, 72, 73, 17, 18, 19, 21, 74, 75, 76, 77, 78, 79, 261, 262, 250, 251, 252, 253, 254, 255, 256, 257, 258, 259, 260] (by decide +kernel) (by decide +kernel)
set_option maxRecDepth 20000 in
theorem gX7_moveRule_X1_record : GoodIn wsX7_moveRule (wsV RX7 104 RX1 yX1_record wsX1_record) := goodIn_app (goodIn_of _ (by decide +kernel)) ggX7_moveRule_X1_record
set_option maxRecDepth 20000 in
theorem ggX7_moveRule_X6_renew : GoodIn wsX7_moveRule wsX6_renew := goodIn_r _ [84, 85, 86, 87, 88, 89, 90, 91, 92, 93, 94, 95, 96, 97, 98, 99, 100, 14, 101, 16, 102, 58, 59, 20, 60, 22, 103, 104, 105, 106, 8, 107, 10, 108, 109, 110, 111, 17, 18, 19, 21, 112, 113, 114, 115, 70, 71, 72, 73, 69, 116, 117, 118, 119, 45, 120, 121, 122, 123, 74, 66, 67, 68, 124, 125, 126, 127, 52, 51, 128, 129, 130, 131, 132, 133, 134, 135, 136, 137, 138, 139, 140, 141, 142, 143, 144, 145, 146, 147, 148, 149, 150, 151, 152, 153, 154, 155, 156, 157, 158, 159, 160, 161, 162, 163, 164, 165, 166, 167, 168, 169, 170, 171, 172, 173, 174, 175, 176, 177, 178, 179, 180, 62, 63, 64, 65, 181, 182, 183, 184, 185, 186, 187, 188, 189, 190, 191, 192, 193, 194, 36, 195, 196, 12, 13, 15, 75, 76, 77, 78, 197, 198, 199, 200, 201, 83, 202, 203, 204, 205, 206, 207, 263, 264, 265, 266, 267, 268, 269, 250, 251, 252, 253, 254, 255, 270, 271, 272, 273, 256, 257, 258, 259, 260] (by decide +kernel) (by decide +kernel)
set_option maxRecDepth 20000 in
theorem gX7_moveRule_X6_renew : GoodIn wsX7_moveRule (wsV RX7 107 RX6 yX6_renew wsX6_renew) := goodIn_app (goodIn_of _ (by decide +kernel)) ggX7_moveRule_X6_renew
set_option maxRecDepth 20000 in
theorem ggX7_moveRule_X0_shiftRule : GoodIn wsX7_moveRule wsX0_shiftRule := goodIn_r _ [211, 10, 42, 43, 212, 213, 214, 14, 215, 216, 217, 218, 219, 16, 51, 52, 220, 221, 222, 20, 223, 65, 66, 67, 68, 22, 69, 207, 76, 77, 78, 224, 225, 226, 227, 228, 250, 251, 252, 253, 254, 255, 256, 257, 258, 259, 260] (by decide +kernel) (by decide +kernel)
set_option maxRecDepth 20000 in
theorem gX7_moveRule_X0_shiftRule : GoodIn wsX7_moveRule (wsV RX7 116 RX0 yX0_shiftRule wsX0_shiftRule) := goodIn_app (goodIn_of _ (by decide +kernel)) ggX7_moveRule_X0_shiftRule
set_option maxRecDepth 20000 in
theorem ggX7_moveRule_X6_differences : GoodIn wsX7_moveRule wsX6_differences := goodIn_r _ [232, 87, 233, 109, 110, 14, 111, 16, 17, 18, 19, 20, 21, 22, 234, 235, 236, 237, 74, 66, 67, 68, 69, 124, 125, 126, 127, 52, 51, 263, 264, 265, 266, 267, 268, 269, 256, 257, 258, 259, 260] (by decide +kernel) (by decide +kernel)
set_option maxRecDepth 20000 in
theorem gX7_moveRule_X6_differences : GoodIn wsX7_moveRule (wsV RX7 119 RX6 yX6_differences wsX6_differences) := goodIn_app (goodIn_of _ (by decide +kernel)) ggX7_moveRule_X6_differences
theorem dX7_moveRule_0 : decode cX7_moveRule 0 = .ok (.aload_n 0, 1) := by decide +kernel
theorem dX7_moveRule_1 : decode cX7_moveRule 1 = .ok (.getfield 45, 3) := by decide +kernel
theorem dX7_moveRule_4 : decode cX7_moveRule 4 = .ok (.iload_n 1, 1) := by decide +kernel
theorem dX7_moveRule_5 : decode cX7_moveRule 5 = .ok (.invokevirtual 110, 3) := by decide +kernel
theorem dX7_moveRule_8 : decode cX7_moveRule 8 = .ok (.ifCond .ne 5, 3) := by decide +kernel
theorem dX7_moveRule_11 : decode cX7_moveRule 11 = .ok (.iconst (-1), 1) := by decide +kernel
theorem dX7_moveRule_12 : decode cX7_moveRule 12 = .ok (.ireturn, 1) := by decide +kernel
theorem dX7_moveRule_13 : decode cX7_moveRule 13 = .ok (.aload_n 0, 1) := by decide +kernel
theorem dX7_moveRule_14 : decode cX7_moveRule 14 = .ok (.getfield 45, 3) := by decide +kernel
theorem dX7_moveRule_17 : decode cX7_moveRule 17 = .ok (.iload_n 2, 1) := by decide +kernel
theorem dX7_moveRule_18 : decode cX7_moveRule 18 = .ok (.invokevirtual 110, 3) := by decide +kernel
theorem dX7_moveRule_21 : decode cX7_moveRule 21 = .ok (.ifCond .ne 6, 3) := by decide +kernel
theorem dX7_moveRule_24 : decode cX7_moveRule 24 = .ok (.bipush (-2), 2) := by decide +kernel
theorem dX7_moveRule_26 : decode cX7_moveRule 26 = .ok (.ireturn, 1) := by decide +kernel
theorem dX7_moveRule_27 : decode cX7_moveRule 27 = .ok (.iload_n 1, 1) := by decide +kernel
theorem dX7_moveRule_28 : decode cX7_moveRule 28 = .ok (.iload_n 2, 1) := by decide +kernel
theorem dX7_moveRule_29 : decode cX7_moveRule 29 = .ok (.if_icmp .ne 6, 3) := by decide +kernel
theorem dX7_moveRule_32 : decode cX7_moveRule 32 = .ok (.bipush (-5), 2) := by decide +kernel
theorem dX7_moveRule_34 : decode cX7_moveRule 34 = .ok (.ireturn, 1) := by decide +kernel
theorem dX7_moveRule_35 : decode cX7_moveRule 35 = .ok (.aload_n 0, 1) := by decide +kernel
theorem dX7_moveRule_36 : decode cX7_moveRule 36 = .ok (.getfield 58, 3) := by decide +kernel
theorem dX7_moveRule_39 : decode cX7_moveRule 39 = .ok (.aload_n 0, 1) := by decide +kernel
theorem dX7_moveRule_40 : decode cX7_moveRule 40 = .ok (.getfield 45, 3) := by decide +kernel
theorem dX7_moveRule_43 : decode cX7_moveRule 43 = .ok (.invokevirtual 104, 3) := by decide +kernel
theorem dX7_moveRule_46 : decode cX7_moveRule 46 = .ok (.aload_n 0, 1) := by decide +kernel
theorem dX7_moveRule_47 : decode cX7_moveRule 47 = .ok (.getfield 69, 3) := by decide +kernel
theorem dX7_moveRule_50 : decode cX7_moveRule 50 = .ok (.aload_n 0, 1) := by decide +kernel
theorem dX7_moveRule_51 : decode cX7_moveRule 51 = .ok (.getfield 45, 3) := by decide +kernel
theorem dX7_moveRule_54 : decode cX7_moveRule 54 = .ok (.invokevirtual 107, 3) := by decide +kernel
theorem dX7_moveRule_57 : decode cX7_moveRule 57 = .ok (.aload_n 0, 1) := by decide +kernel
theorem dX7_moveRule_58 : decode cX7_moveRule 58 = .ok (.getfield 45, 3) := by decide +kernel
theorem dX7_moveRule_61 : decode cX7_moveRule 61 = .ok (.iload_n 1, 1) := by decide +kernel
theorem dX7_moveRule_62 : decode cX7_moveRule 62 = .ok (.iload_n 2, 1) := by decide +kernel
theorem dX7_moveRule_63 : decode cX7_moveRule 63 = .ok (.invokevirtual 116, 3) := by decide +kernel
theorem dX7_moveRule_66 : decode cX7_moveRule 66 = .ok (.aload_n 0, 1) := by decide +kernel
theorem dX7_moveRule_67 : decode cX7_moveRule 67 = .ok (.getfield 65, 3) := by decide +kernel
theorem dX7_moveRule_70 : decode cX7_moveRule 70 = .ok (.aload_n 0, 1) := by decide +kernel
theorem dX7_moveRule_71 : decode cX7_moveRule 71 = .ok (.getfield 45, 3) := by decide +kernel
theorem dX7_moveRule_74 : decode cX7_moveRule 74 = .ok (.invokevirtual 107, 3) := by decide +kernel
theorem dX7_moveRule_77 : decode cX7_moveRule 77 = .ok (.aload_n 0, 1) := by decide +kernel
theorem dX7_moveRule_78 : decode cX7_moveRule 78 = .ok (.getfield 65, 3) := by decide +kernel
theorem dX7_moveRule_81 : decode cX7_moveRule 81 = .ok (.aload_n 0, 1) := by decide +kernel
theorem dX7_moveRule_82 : decode cX7_moveRule 82 = .ok (.getfield 69, 3) := by decide +kernel
theorem dX7_moveRule_85 : decode cX7_moveRule 85 = .ok (.invokevirtual 119, 3) := by decide +kernel
theorem dX7_moveRule_88 : decode cX7_moveRule 88 = .ok (.ireturn, 1) := by decide +kernel
set_option maxRecDepth 20000 in
theorem ggX7_removeWord_X0_hasWord : GoodIn wsX7_removeWord wsX0_hasWord := goodIn_r _ [8, 9, 10, 11, 12, 13, 14, 15, 16, 17, 18, 19, 20, 21, 255, 256, 257, 258, 259, 260, 261, 262, 263, 264, 265] (by decide +kernel) (by decide +kernel)
set_option maxRecDepth 20000 in
theorem gX7_removeWord_X0_hasWord : GoodIn wsX7_removeWord (wsV RX7 123 RX0 yX0_hasWord wsX0_hasWord) := goodIn_app (goodIn_of _ (by decide +kernel)) ggX7_removeWord_X0_hasWord
set_option maxRecDepth 20000 in
theorem ggX7_removeWord_X1_record : GoodIn wsX7_removeWord wsX1_record := goodIn_r _ [26, 27, 28, 29, 30, 31, 25, 32, 33, 34, 35, 36, 37, 38, 39, 7, 40, 41, 42, 43, 44, 9, 45, 46, 47, 48, 13, 49, 15, 50, 51, 52, 53, 54, 19, 55, 56, 57, 58, 59, 21, 60, 61, 62, 63, 64, 65, 66, 67, 68, 69, 70, 71, 72, 16, 17, 18, 20, 73, 74, 75, 76, 77, 78, 266, 267, 255, 256, 257, 258, 259, 260, 261, 262, 263, 264, 265] (by decide +kernel) (by decide +kernel)
set_option maxRecDepth 20000 in
theorem gX7_removeWord_X1_record : GoodIn wsX7_removeWord (wsV RX7 104 RX1 yX1_record wsX1_record) := goodIn_app (goodIn_of _ (by decide +kernel)) ggX7_removeWord_X1_record
set_option maxRecDepth 20000 in
theorem ggX7_removeWord_X0_dropWord : GoodIn wsX7_removeWord wsX0_dropWord := goodIn_r _ [82, 9, 45, 83, 84, 85, 13, 86, 15, 87, 11, 12, 14, 16, 17, 18, 19, 20, 21, 88, 89, 90, 91, 92, 93, 94, 95, 50, 51, 96, 97, 98, 99, 64, 65, 66, 67, 68, 100, 75, 76, 77, 101, 102, 103, 104, 105, 34, 35, 36, 106, 107, 108, 109, 110, 111, 112, 113, 114, 115, 255, 256, 257, 258, 259, 260, 261, 262, 263, 264, 265] (by decide +kernel) (by decide +kernel)
set_option maxRecDepth 20000 in
theorem gX7_removeWord_X0_dropWord : GoodIn wsX7_removeWord (wsV RX7 126 RX0 yX0_dropWord wsX0_dropWord) := goodIn_app (goodIn_of _ (by decide +kernel)) ggX7_removeWord_X0_dropWord
set_option maxRecDepth 20000 in
theorem ggX7_removeWord_X6_renew : GoodIn wsX7_removeWord wsX6_renew := goodIn_r _ [120, 121, 122, 123, 124, 125, 126, 127, 128, 129, 130, 131, 132, 133, 134, 135, 136, 13, 137, 15, 138, 57, 58, 19, 59, 21, 139, 140, 141, 142, 7, 143, 41, 144, 145, 146, 147, 16, 17, 18, 20, 148, 149, 150, 151, 69, 70, 71, 72, 68, 152, 153, 154, 155, 9, 156, 157, 158, 159, 73, 65, 66, 67, 160, 161, 162, 163, 51, 50, 164, 165, 166, 167, 168, 169, 170, 171, 172, 173, 174, 175, 176, 177, 178, 179, 180, 181, 182, 183, 184, 185, 186, 187, 188, 189, 190, 191, 192, 193, 194, 195, 196, 197, 198, 199, 200, 201, 202, 203, 204, 205, 206, 207, 208, 209, 210, 211, 212, 213, 214, 215, 216, 61, 62, 63, 64, 217, 218, 219, 220, 221, 222, 223, 224, 225, 226, 227, 228, 229, 230, 35, 231, 87, 11, 12, 14, 74, 75, 76, 77, 232, 233, 234, 235, 236, 119, 237, 238, 239, 240, 241, 100, 268, 269, 270, 271, 272, 273, 274, 255, 256, 257, 258, 259, 260, 275, 276, 277, 278, 261, 262, 263, 264, 265] (by decide +kernel) (by decide +kernel)
set_option maxRecDepth 20000 in
theorem gX7_removeWord_X6_renew : GoodIn wsX7_removeWord (wsV RX7 107 RX6 yX6_renew wsX6_renew) := goodIn_app (goodIn_of _ (by decide +kernel)) ggX7_removeWord_X6_renew
set_option maxRecDepth 20000 in
theorem ggX7_removeWord_X0_words : GoodIn wsX7_removeWord wsX0_words := goodIn_r _ [155, 9, 144, 145, 146, 13, 147, 15, 16, 17, 18, 19, 20, 21, 255, 256, 257, 258, 259, 260, 261, 262, 263, 264, 265] (by decide +kernel) (by decide +kernel)
set_option maxRecDepth 20000 in
theorem gX7_removeWord_X0_words : GoodIn wsX7_removeWord (wsV RX7 101 RX0 yX0_words wsX0_words) := goodIn_app (goodIn_of _ (by decide +kernel)) ggX7_removeWord_X0_words
theorem dX7_removeWord_0 : decode cX7_removeWord 0 = .ok (.aload_n 0, 1) := by decide +kernel
theorem dX7_removeWord_1 : decode cX7_removeWord 1 = .ok (.getfield 45, 3) := by decide +kernel
theorem dX7_removeWord_4 : decode cX7_removeWord 4 = .ok (.iload_n 1, 1) := by decide +kernel
theorem dX7_removeWord_5 : decode cX7_removeWord 5 = .ok (.invokevirtual 123, 3) := by decide +kernel
theorem dX7_removeWord_8 : decode cX7_removeWord 8 = .ok (.ifCond .ne 5, 3) := by decide +kernel
theorem dX7_removeWord_11 : decode cX7_removeWord 11 = .ok (.iconst (-1), 1) := by decide +kernel
theorem dX7_removeWord_12 : decode cX7_removeWord 12 = .ok (.ireturn, 1) := by decide +kernel
theorem dX7_removeWord_13 : decode cX7_removeWord 13 = .ok (.aload_n 0, 1) := by decide +kernel
theorem dX7_removeWord_14 : decode cX7_removeWord 14 = .ok (.getfield 58, 3) := by decide +kernel
theorem dX7_removeWord_17 : decode cX7_removeWord 17 = .ok (.aload_n 0, 1) := by decide +kernel
theorem dX7_removeWord_18 : decode cX7_removeWord 18 = .ok (.getfield 45, 3) := by decide +kernel
theorem dX7_removeWord_21 : decode cX7_removeWord 21 = .ok (.invokevirtual 104, 3) := by decide +kernel
theorem dX7_removeWord_24 : decode cX7_removeWord 24 = .ok (.aload_n 0, 1) := by decide +kernel
theorem dX7_removeWord_25 : decode cX7_removeWord 25 = .ok (.getfield 45, 3) := by decide +kernel
theorem dX7_removeWord_28 : decode cX7_removeWord 28 = .ok (.iload_n 1, 1) := by decide +kernel
theorem dX7_removeWord_29 : decode cX7_removeWord 29 = .ok (.invokevirtual 126, 3) := by decide +kernel
theorem dX7_removeWord_32 : decode cX7_removeWord 32 = .ok (.aload_n 0, 1) := by decide +kernel
theorem dX7_removeWord_33 : decode cX7_removeWord 33 = .ok (.getfield 65, 3) := by decide +kernel
theorem dX7_removeWord_36 : decode cX7_removeWord 36 = .ok (.aload_n 0, 1) := by decide +kernel
theorem dX7_removeWord_37 : decode cX7_removeWord 37 = .ok (.getfield 45, 3) := by decide +kernel
theorem dX7_removeWord_40 : decode cX7_removeWord 40 = .ok (.invokevirtual 107, 3) := by decide +kernel
theorem dX7_removeWord_43 : decode cX7_removeWord 43 = .ok (.aload_n 0, 1) := by decide +kernel
theorem dX7_removeWord_44 : decode cX7_removeWord 44 = .ok (.getfield 45, 3) := by decide +kernel
theorem dX7_removeWord_47 : decode cX7_removeWord 47 = .ok (.invokevirtual 101, 3) := by decide +kernel
theorem dX7_removeWord_50 : decode cX7_removeWord 50 = .ok (.ireturn, 1) := by decide +kernel
set_option maxRecDepth 20000 in
theorem ggX7_setKind_X0_hasWord : GoodIn wsX7_setKind wsX0_hasWord := goodIn_r _ [9, 10, 11, 12, 13, 14, 15, 16, 17, 18, 19, 20, 21, 22, 222, 223, 224, 225, 226, 227, 228, 229, 230, 231, 232] (by decide +kernel) (by decide +kernel)
set_option maxRecDepth 20000 in
theorem gX7_setKind_X0_hasWord : GoodIn wsX7_setKind (wsV RX7 123 RX0 yX0_hasWord wsX0_hasWord) := goodIn_app (goodIn_of _ (by decide +kernel)) ggX7_setKind_X0_hasWord
set_option maxRecDepth 20000 in
theorem ggX7_setKind_X3_get : GoodIn wsX7_setKind wsX3_get := goodIn_r _ [26, 22, 27, 231, 232] (by decide +kernel) (by decide +kernel)
set_option maxRecDepth 20000 in
theorem gX7_setKind_X3_get : GoodIn wsX7_setKind (wsV RX7 132 RX3 yX3_get wsX3_get) := goodIn_app (goodIn_of _ (by decide +kernel)) ggX7_setKind_X3_get
set_option maxRecDepth 20000 in
theorem ggX7_setKind_X1_record : GoodIn wsX7_setKind wsX1_record := goodIn_r _ [32, 33, 34, 35, 36, 37, 31, 38, 39, 40, 41, 42, 43, 44, 45, 8, 46, 47, 48, 49, 50, 10, 51, 52, 53, 54, 14, 55, 16, 56, 57, 58, 59, 60, 20, 61, 62, 63, 64, 65, 22, 66, 67, 68, 69, 70, 24, 25, 26, 27, 71, 72, 73, 74, 17, 18, 19, 21, 75, 76, 77, 78, 79, 80, 233, 234, 222, 223, 224, 225, 226, 227, 228, 229, 230, 231, 232] (by decide +kernel) (by decide +kernel)
set_option maxRecDepth 20000 in
theorem gX7_setKind_X1_record : GoodIn wsX7_setKind (wsV RX7 104 RX1 yX1_record wsX1_record) := goodIn_app (goodIn_of _ (by decide +kernel)) ggX7_setKind_X1_record
set_option maxRecDepth 20000 in
theorem ggX7_setKind_X3_set : GoodIn wsX7_setKind wsX3_set := goodIn_r _ [79, 22, 27, 231, 232] (by decide +kernel) (by decide +kernel)
set_option maxRecDepth 20000 in
theorem gX7_setKind_X3_set : GoodIn wsX7_setKind (wsV RX7 136 RX3 yX3_set wsX3_set) := goodIn_app (goodIn_of _ (by decide +kernel)) ggX7_setKind_X3_set
set_option maxRecDepth 20000 in
theorem ggX7_setKind_X6_renew : GoodIn wsX7_setKind wsX6_renew := goodIn_r _ [86, 87, 88, 89, 90, 91, 92, 93, 94, 95, 96, 97, 98, 99, 100, 101, 102, 14, 103, 16, 104, 63, 64, 20, 65, 22, 105, 106, 107, 108, 8, 109, 47, 110, 111, 112, 113, 17, 18, 19, 21, 114, 115, 116, 117, 71, 72, 73, 74, 27, 118, 119, 120, 121, 10, 122, 123, 124, 125, 75, 24, 25, 26, 126, 127, 128, 129, 57, 56, 130, 131, 132, 133, 134, 135, 136, 137, 138, 139, 140, 141, 142, 143, 144, 145, 146, 147, 148, 149, 150, 151, 152, 153, 154, 155, 156, 157, 158, 159, 160, 161, 162, 163, 164, 165, 166, 167, 168, 169, 170, 171, 172, 173, 174, 175, 176, 177, 178, 179, 180, 181, 182, 67, 68, 69, 70, 183, 184, 185, 186, 187, 188, 189, 190, 191, 192, 193, 194, 195, 196, 41, 197, 198, 12, 13, 15, 76, 77, 78, 79, 199, 200, 201, 202, 203, 85, 204, 205, 206, 207, 208, 209, 235, 236, 237, 238, 239, 240, 241, 222, 223, 224, 225, 226, 227, 242, 243, 244, 245, 228, 229, 230, 231, 232] (by decide +kernel) (by decide +kernel)
set_option maxRecDepth 20000 in
theorem gX7_setKind_X6_renew : GoodIn wsX7_setKind (wsV RX7 107 RX6 yX6_renew wsX6_renew) := goodIn_app (goodIn_of _ (by decide +kernel)) ggX7_setKind_X6_renew
theorem dX7_setKind_0 : decode cX7_setKind 0 = .ok (.aload_n 0, 1) := by decide +kernel
theorem dX7_setKind_1 : decode cX7_setKind 1 = .ok (.getfield 45, 3) := by decide +kernel
theorem dX7_setKind_4 : decode cX7_setKind 4 = .ok (.iload_n 1, 1) := by decide +kernel
theorem dX7_setKind_5 : decode cX7_setKind 5 = .ok (.invokevirtual 123, 3) := by decide +kernel
theorem dX7_setKind_8 : decode cX7_setKind 8 = .ok (.ifCond .ne 5, 3) := by decide +kernel
theorem dX7_setKind_11 : decode cX7_setKind 11 = .ok (.iconst (-1), 1) := by decide +kernel
theorem dX7_setKind_12 : decode cX7_setKind 12 = .ok (.ireturn, 1) := by decide +kernel
theorem dX7_setKind_13 : decode cX7_setKind 13 = .ok (.iload_n 2, 1) := by decide +kernel
theorem dX7_setKind_14 : decode cX7_setKind 14 = .ok (.ifCond .lt 8, 3) := by decide +kernel
theorem dX7_setKind_17 : decode cX7_setKind 17 = .ok (.iload_n 2, 1) := by decide +kernel
theorem dX7_setKind_18 : decode cX7_setKind 18 = .ok (.iconst 2, 1) := by decide +kernel
theorem dX7_setKind_19 : decode cX7_setKind 19 = .ok (.if_icmp .le 6, 3) := by decide +kernel
theorem dX7_setKind_22 : decode cX7_setKind 22 = .ok (.bipush (-2), 2) := by decide +kernel
theorem dX7_setKind_24 : decode cX7_setKind 24 = .ok (.ireturn, 1) := by decide +kernel
theorem dX7_setKind_25 : decode cX7_setKind 25 = .ok (.aload_n 0, 1) := by decide +kernel
theorem dX7_setKind_26 : decode cX7_setKind 26 = .ok (.getfield 45, 3) := by decide +kernel
theorem dX7_setKind_29 : decode cX7_setKind 29 = .ok (.getfield 129, 3) := by decide +kernel
theorem dX7_setKind_32 : decode cX7_setKind 32 = .ok (.iload_n 1, 1) := by decide +kernel
theorem dX7_setKind_33 : decode cX7_setKind 33 = .ok (.invokevirtual 132, 3) := by decide +kernel
theorem dX7_setKind_36 : decode cX7_setKind 36 = .ok (.istore_n 3, 1) := by decide +kernel
theorem dX7_setKind_37 : decode cX7_setKind 37 = .ok (.iload_n 3, 1) := by decide +kernel
theorem dX7_setKind_38 : decode cX7_setKind 38 = .ok (.iload_n 2, 1) := by decide +kernel
theorem dX7_setKind_39 : decode cX7_setKind 39 = .ok (.if_icmp .ne 6, 3) := by decide +kernel
theorem dX7_setKind_42 : decode cX7_setKind 42 = .ok (.bipush (-5), 2) := by decide +kernel
theorem dX7_setKind_44 : decode cX7_setKind 44 = .ok (.ireturn, 1) := by decide +kernel
theorem dX7_setKind_45 : decode cX7_setKind 45 = .ok (.aload_n 0, 1) := by decide +kernel
theorem dX7_setKind_46 : decode cX7_setKind 46 = .ok (.getfield 58, 3) := by decide +kernel
theorem dX7_setKind_49 : decode cX7_setKind 49 = .ok (.aload_n 0, 1) := by decide +kernel
theorem dX7_setKind_50 : decode cX7_setKind 50 = .ok (.getfield 45, 3) := by decide +kernel
theorem dX7_setKind_53 : decode cX7_setKind 53 = .ok (.invokevirtual 104, 3) := by decide +kernel
theorem dX7_setKind_56 : decode cX7_setKind 56 = .ok (.aload_n 0, 1) := by decide +kernel
theorem dX7_setKind_57 : decode cX7_setKind 57 = .ok (.getfield 45, 3) := by decide +kernel
theorem dX7_setKind_60 : decode cX7_setKind 60 = .ok (.getfield 129, 3) := by decide +kernel
theorem dX7_setKind_63 : decode cX7_setKind 63 = .ok (.iload_n 1, 1) := by decide +kernel
theorem dX7_setKind_64 : decode cX7_setKind 64 = .ok (.iload_n 2, 1) := by decide +kernel
theorem dX7_setKind_65 : decode cX7_setKind 65 = .ok (.invokevirtual 136, 3) := by decide +kernel
theorem dX7_setKind_68 : decode cX7_setKind 68 = .ok (.aload_n 0, 1) := by decide +kernel
theorem dX7_setKind_69 : decode cX7_setKind 69 = .ok (.getfield 65, 3) := by decide +kernel
theorem dX7_setKind_72 : decode cX7_setKind 72 = .ok (.aload_n 0, 1) := by decide +kernel
theorem dX7_setKind_73 : decode cX7_setKind 73 = .ok (.getfield 45, 3) := by decide +kernel
theorem dX7_setKind_76 : decode cX7_setKind 76 = .ok (.invokevirtual 107, 3) := by decide +kernel
theorem dX7_setKind_79 : decode cX7_setKind 79 = .ok (.iload_n 3, 1) := by decide +kernel
theorem dX7_setKind_80 : decode cX7_setKind 80 = .ok (.ireturn, 1) := by decide +kernel
set_option maxRecDepth 20000 in
theorem ggX7_markCollisions_X0_words : GoodIn wsX7_markCollisions wsX0_words := goodIn_r _ [9, 10, 11, 12, 13, 14, 15, 16, 17, 18, 19, 20, 21, 22, 234, 235, 236, 237, 238, 239, 240, 241, 242, 243, 244] (by decide +kernel) (by decide +kernel)
set_option maxRecDepth 20000 in
theorem gX7_markCollisions_X0_words : GoodIn wsX7_markCollisions (wsV RX7 101 RX0 yX0_words wsX0_words) := goodIn_app (goodIn_of _ (by decide +kernel)) ggX7_markCollisions_X0_words
set_option maxRecDepth 20000 in
theorem ggX7_markCollisions_X7_isToBeMarked : GoodIn wsX7_markCollisions wsX7_isToBeMarked := goodIn_r _ [27, 1, 3, 4, 28, 29, 30, 20, 31, 22, 32, 33, 34, 35, 36, 37, 38, 39, 40, 41, 14, 42, 43, 44, 45, 46, 16, 47, 48, 49, 50, 51, 52, 53, 222, 223, 224, 225, 226, 227, 228, 229, 230, 231, 232, 233, 234, 235, 236, 237, 238, 239, 243, 244, 245, 246, 247, 248, 249, 250, 251, 240, 241, 242] (by decide +kernel) (by decide +kernel)
set_option maxRecDepth 20000 in
theorem gX7_markCollisions_X7_isToBeMarked : GoodIn wsX7_markCollisions (wsV RX7 139 RX7 yX7_isToBeMarked wsX7_isToBeMarked) := goodIn_app (goodIn_of _ (by decide +kernel)) ggX7_markCollisions_X7_isToBeMarked
set_option maxRecDepth 20000 in
theorem ggX7_markCollisions_X1_record : GoodIn wsX7_markCollisions wsX1_record := goodIn_r _ [58, 59, 60, 61, 62, 63, 57, 64, 65, 66, 67, 68, 69, 70, 71, 8, 72, 73, 74, 75, 76, 10, 77, 78, 79, 80, 14, 81, 16, 53, 52, 82, 83, 84, 20, 85, 86, 87, 88, 89, 22, 90, 91, 92, 93, 94, 29, 30, 31, 32, 95, 96, 97, 98, 17, 18, 19, 21, 47, 99, 100, 101, 102, 103, 252, 253, 234, 235, 236, 237, 238, 239, 240, 241, 242, 243, 244] (by decide +kernel) (by decide +kernel)
set_option maxRecDepth 20000 in
theorem gX7_markCollisions_X1_record : GoodIn wsX7_markCollisions (wsV RX7 104 RX1 yX1_record wsX1_record) := goodIn_app (goodIn_of _ (by decide +kernel)) ggX7_markCollisions_X1_record
set_option maxRecDepth 20000 in
theorem ggX7_markCollisions_X3_set : GoodIn wsX7_markCollisions wsX3_set := goodIn_r _ [102, 22, 32, 243, 244] (by decide +kernel) (by decide +kernel)
set_option maxRecDepth 20000 in
theorem gX7_markCollisions_X3_set : GoodIn wsX7_markCollisions (wsV RX7 136 RX3 yX3_set wsX3_set) := goodIn_app (goodIn_of _ (by decide +kernel)) ggX7_markCollisions_X3_set
set_option maxRecDepth 20000 in
theorem ggX7_markCollisions_X6_renew : GoodIn wsX7_markCollisions wsX6_renew := goodIn_r _ [108, 109, 110, 38, 111, 112, 113, 114, 115, 116, 117, 118, 119, 120, 121, 122, 123, 14, 124, 16, 125, 87, 88, 20, 89, 22, 126, 127, 128, 129, 8, 130, 73, 11, 12, 13, 15, 17, 18, 19, 21, 131, 132, 133, 134, 95, 96, 97, 98, 32, 135, 6, 7, 9, 10, 136, 137, 138, 139, 47, 29, 30, 31, 48, 49, 50, 51, 52, 53, 140, 141, 142, 143, 144, 145, 146, 147, 148, 149, 150, 151, 152, 153, 154, 155, 156, 157, 158, 159, 160, 161, 162, 163, 164, 165, 166, 167, 168, 169, 26, 170, 171, 172, 173, 174, 175, 176, 177, 178, 179, 180, 181, 182, 183, 184, 185, 186, 187, 188, 189, 190, 191, 91, 92, 93, 94, 192, 193, 194, 195, 196, 197, 198, 199, 200, 201, 202, 203, 204, 205, 67, 206, 207, 208, 209, 210, 99, 100, 101, 102, 211, 212, 213, 214, 215, 36, 216, 217, 218, 219, 220, 221, 245, 246, 247, 248, 249, 250, 251, 234, 235, 236, 237, 238, 239, 254, 255, 256, 257, 240, 241, 242, 243, 244] (by decide +kernel) (by decide +kernel)
set_option maxRecDepth 20000 in
theorem gX7_markCollisions_X6_renew : GoodIn wsX7_markCollisions (wsV RX7 107 RX6 yX6_renew wsX6_renew) := goodIn_app (goodIn_of _ (by decide +kernel)) ggX7_markCollisions_X6_renew
theorem dX7_markCollisions_0 : decode cX7_markCollisions 0 = .ok (.iconst 0, 1) := by decide +kernel
theorem dX7_markCollisions_1 : decode cX7_markCollisions 1 = .ok (.istore_n 1, 1) := by decide +kernel
theorem dX7_markCollisions_2 : decode cX7_markCollisions 2 = .ok (.iconst 0, 1) := by decide +kernel
theorem dX7_markCollisions_3 : decode cX7_markCollisions 3 = .ok (.istore_n 2, 1) := by decide +kernel
theorem dX7_markCollisions_4 : decode cX7_markCollisions 4 = .ok (.iload_n 2, 1) := by decide +kernel
theorem dX7_markCollisions_5 : decode cX7_markCollisions 5 = .ok (.aload_n 0, 1) := by decide +kernel
theorem dX7_markCollisions_6 : decode cX7_markCollisions 6 = .ok (.getfield 45, 3) := by decide +kernel
theorem dX7_markCollisions_9 : decode cX7_markCollisions 9 = .ok (.invokevirtual 101, 3) := by decide +kernel
theorem dX7_markCollisions_12 : decode cX7_markCollisions 12 = .ok (.if_icmp .ge 20, 3) := by decide +kernel
theorem dX7_markCollisions_15 : decode cX7_markCollisions 15 = .ok (.aload_n 0, 1) := by decide +kernel
theorem dX7_markCollisions_16 : decode cX7_markCollisions 16 = .ok (.iload_n 2, 1) := by decide +kernel
theorem dX7_markCollisions_17 : decode cX7_markCollisions 17 = .ok (.invokevirtual 139, 3) := by decide +kernel
theorem dX7_markCollisions_20 : decode cX7_markCollisions 20 = .ok (.ifCond .eq 6, 3) := by decide +kernel
theorem dX7_markCollisions_23 : decode cX7_markCollisions 23 = .ok (.iinc 1 1, 3) := by decide +kernel
theorem dX7_markCollisions_26 : decode cX7_markCollisions 26 = .ok (.iinc 2 1, 3) := by decide +kernel
theorem dX7_markCollisions_29 : decode cX7_markCollisions 29 = .ok (.goto (-25), 3) := by decide +kernel
theorem dX7_markCollisions_32 : decode cX7_markCollisions 32 = .ok (.iload_n 1, 1) := by decide +kernel
theorem dX7_markCollisions_33 : decode cX7_markCollisions 33 = .ok (.ifCond .ne 6, 3) := by decide +kernel
theorem dX7_markCollisions_36 : decode cX7_markCollisions 36 = .ok (.bipush (-5), 2) := by decide +kernel
theorem dX7_markCollisions_38 : decode cX7_markCollisions 38 = .ok (.ireturn, 1) := by decide +kernel
theorem dX7_markCollisions_39 : decode cX7_markCollisions 39 = .ok (.aload_n 0, 1) := by decide +kernel
theorem dX7_markCollisions_40 : decode cX7_markCollisions 40 = .ok (.getfield 58, 3) := by decide +kernel
theorem dX7_markCollisions_43 : decode cX7_markCollisions 43 = .ok (.aload_n 0, 1) := by decide +kernel
theorem dX7_markCollisions_44 : decode cX7_markCollisions 44 = .ok (.getfield 45, 3) := by decide +kernel
theorem dX7_markCollisions_47 : decode cX7_markCollisions 47 = .ok (.invokevirtual 104, 3) := by decide +kernel
theorem dX7_markCollisions_50 : decode cX7_markCollisions 50 = .ok (.iconst 0, 1) := by decide +kernel
theorem dX7_markCollisions_51 : decode cX7_markCollisions 51 = .ok (.istore_n 2, 1) := by decide +kernel
theorem dX7_markCollisions_52 : decode cX7_markCollisions 52 = .ok (.iload_n 2, 1) := by decide +kernel
theorem dX7_markCollisions_53 : decode cX7_markCollisions 53 = .ok (.aload_n 0, 1) := by decide +kernel
theorem dX7_markCollisions_54 : decode cX7_markCollisions 54 = .ok (.getfield 45, 3) := by decide +kernel
theorem dX7_markCollisions_57 : decode cX7_markCollisions 57 = .ok (.invokevirtual 101, 3) := by decide +kernel
theorem dX7_markCollisions_60 : decode cX7_markCollisions 60 = .ok (.if_icmp .ge 29, 3) := by decide +kernel
theorem dX7_markCollisions_63 : decode cX7_markCollisions 63 = .ok (.aload_n 0, 1) := by decide +kernel
theorem dX7_markCollisions_64 : decode cX7_markCollisions 64 = .ok (.iload_n 2, 1) := by decide +kernel
theorem dX7_markCollisions_65 : decode cX7_markCollisions 65 = .ok (.invokevirtual 139, 3) := by decide +kernel
theorem dX7_markCollisions_68 : decode cX7_markCollisions 68 = .ok (.ifCond .eq 15, 3) := by decide +kernel
theorem dX7_markCollisions_71 : decode cX7_markCollisions 71 = .ok (.aload_n 0, 1) := by decide +kernel
theorem dX7_markCollisions_72 : decode cX7_markCollisions 72 = .ok (.getfield 45, 3) := by decide +kernel
theorem dX7_markCollisions_75 : decode cX7_markCollisions 75 = .ok (.getfield 129, 3) := by decide +kernel
theorem dX7_markCollisions_78 : decode cX7_markCollisions 78 = .ok (.iload_n 2, 1) := by decide +kernel
theorem dX7_markCollisions_79 : decode cX7_markCollisions 79 = .ok (.iconst 2, 1) := by decide +kernel
theorem dX7_markCollisions_80 : decode cX7_markCollisions 80 = .ok (.invokevirtual 136, 3) := by decide +kernel
theorem dX7_markCollisions_83 : decode cX7_markCollisions 83 = .ok (.iinc 2 1, 3) := by decide +kernel
theorem dX7_markCollisions_86 : decode cX7_markCollisions 86 = .ok (.goto (-34), 3) := by decide +kernel
theorem dX7_markCollisions_89 : decode cX7_markCollisions 89 = .ok (.aload_n 0, 1) := by decide +kernel
theorem dX7_markCollisions_90 : decode cX7_markCollisions 90 = .ok (.getfield 65, 3) := by decide +kernel
theorem dX7_markCollisions_93 : decode cX7_markCollisions 93 = .ok (.aload_n 0, 1) := by decide +kernel
theorem dX7_markCollisions_94 : decode cX7_markCollisions 94 = .ok (.getfield 45, 3) := by decide +kernel
theorem dX7_markCollisions_97 : decode cX7_markCollisions 97 = .ok (.invokevirtual 107, 3) := by decide +kernel
theorem dX7_markCollisions_100 : decode cX7_markCollisions 100 = .ok (.iload_n 1, 1) := by decide +kernel
theorem dX7_markCollisions_101 : decode cX7_markCollisions 101 = .ok (.ireturn, 1) := by decide +kernel
set_option maxRecDepth 20000 in
theorem ggX7_isToBeMarked_X3_get : GoodIn wsX7_isToBeMarked wsX3_get := goodIn_r _ [8, 9, 10, 52, 53] (by decide +kernel) (by decide +kernel)
set_option maxRecDepth 20000 in
theorem gX7_isToBeMarked_X3_get : GoodIn wsX7_isToBeMarked (wsV RX7 132 RX3 yX3_get wsX3_get) := goodIn_app (goodIn_of _ (by decide +kernel)) ggX7_isToBeMarked_X3_get
set_option maxRecDepth 20000 in
theorem ggX7_isToBeMarked_X6_comesBack : GoodIn wsX7_isToBeMarked wsX6_comesBack := goodIn_r _ [15, 16, 17, 18, 19, 20, 21, 22, 23, 24, 25, 26, 27, 5, 6, 7, 8, 9, 10, 28, 29, 30, 31, 32, 33, 54, 55, 56, 57, 58, 59, 60, 61, 62, 63, 52, 53] (by decide +kernel) (by decide +kernel)
set_option maxRecDepth 20000 in
theorem gX7_isToBeMarked_X6_comesBack : GoodIn wsX7_isToBeMarked (wsV RX7 142 RX6 yX6_comesBack wsX6_comesBack) := goodIn_app (goodIn_of _ (by decide +kernel)) ggX7_isToBeMarked_X6_comesBack
theorem dX7_isToBeMarked_0 : decode cX7_isToBeMarked 0 = .ok (.aload_n 0, 1) := by decide +kernel
theorem dX7_isToBeMarked_1 : decode cX7_isToBeMarked 1 = .ok (.getfield 45, 3) := by decide +kernel
theorem dX7_isToBeMarked_4 : decode cX7_isToBeMarked 4 = .ok (.getfield 129, 3) := by decide +kernel
theorem dX7_isToBeMarked_7 : decode cX7_isToBeMarked 7 = .ok (.iload_n 1, 1) := by decide +kernel
theorem dX7_isToBeMarked_8 : decode cX7_isToBeMarked 8 = .ok (.invokevirtual 132, 3) := by decide +kernel
theorem dX7_isToBeMarked_11 : decode cX7_isToBeMarked 11 = .ok (.ifCond .ne 18, 3) := by decide +kernel
theorem dX7_isToBeMarked_14 : decode cX7_isToBeMarked 14 = .ok (.aload_n 0, 1) := by decide +kernel
theorem dX7_isToBeMarked_15 : decode cX7_isToBeMarked 15 = .ok (.getfield 65, 3) := by decide +kernel
theorem dX7_isToBeMarked_18 : decode cX7_isToBeMarked 18 = .ok (.iload_n 1, 1) := by decide +kernel
theorem dX7_isToBeMarked_19 : decode cX7_isToBeMarked 19 = .ok (.invokevirtual 142, 3) := by decide +kernel
theorem dX7_isToBeMarked_22 : decode cX7_isToBeMarked 22 = .ok (.ifCond .ne 7, 3) := by decide +kernel
theorem dX7_isToBeMarked_25 : decode cX7_isToBeMarked 25 = .ok (.iconst 1, 1) := by decide +kernel
theorem dX7_isToBeMarked_26 : decode cX7_isToBeMarked 26 = .ok (.goto 4, 3) := by decide +kernel
theorem dX7_isToBeMarked_29 : decode cX7_isToBeMarked 29 = .ok (.iconst 0, 1) := by decide +kernel
theorem dX7_isToBeMarked_30 : decode cX7_isToBeMarked 30 = .ok (.ireturn, 1) := by decide +kernel
set_option maxRecDepth 20000 in
theorem ggX7_type_X3_isFull : GoodIn wsX7_type wsX3_isFull := goodIn_r _ [6, 7, 8, 29, 30] (by decide +kernel) (by decide +kernel)
set_option maxRecDepth 20000 in
theorem gX7_type_X3_isFull : GoodIn wsX7_type (wsV RX7 145 RX3 yX3_isFull wsX3_isFull) := goodIn_app (goodIn_of _ (by decide +kernel)) ggX7_type_X3_isFull
set_option maxRecDepth 20000 in
theorem ggX7_type_X3_add : GoodIn wsX7_type wsX3_add := goodIn_r _ [12, 7, 8, 29, 30] (by decide +kernel) (by decide +kernel)
set_option maxRecDepth 20000 in
theorem gX7_type_X3_add : GoodIn wsX7_type (wsV RX7 148 RX3 yX3_add wsX3_add) := goodIn_app (goodIn_of _ (by decide +kernel)) ggX7_type_X3_add
set_option maxRecDepth 20000 in
theorem ggX7_type_X3_size : GoodIn wsX7_type wsX3_size := goodIn_r _ [16, 7, 29, 30] (by decide +kernel) (by decide +kernel)
set_option maxRecDepth 20000 in
theorem gX7_type_X3_size : GoodIn wsX7_type (wsV RX7 151 RX3 yX3_size wsX3_size) := goodIn_app (goodIn_of _ (by decide +kernel)) ggX7_type_X3_size
theorem dX7_type_0 : decode cX7_type 0 = .ok (.aload_n 0, 1) := by decide +kernel
theorem dX7_type_1 : decode cX7_type 1 = .ok (.getfield 14, 3) := by decide +kernel
theorem dX7_type_4 : decode cX7_type 4 = .ok (.invokevirtual 145, 3) := by decide +kernel
theorem dX7_type_7 : decode cX7_type 7 = .ok (.ifCond .eq 6, 3) := by decide +kernel
theorem dX7_type_10 : decode cX7_type 10 = .ok (.bipush (-3), 2) := by decide +kernel
theorem dX7_type_12 : decode cX7_type 12 = .ok (.ireturn, 1) := by decide +kernel
theorem dX7_type_13 : decode cX7_type 13 = .ok (.aload_n 0, 1) := by decide +kernel
theorem dX7_type_14 : decode cX7_type 14 = .ok (.getfield 14, 3) := by decide +kernel
theorem dX7_type_17 : decode cX7_type 17 = .ok (.iload_n 1, 1) := by decide +kernel
theorem dX7_type_18 : decode cX7_type 18 = .ok (.invokevirtual 148, 3) := by decide +kernel
theorem dX7_type_21 : decode cX7_type 21 = .ok (.aload_n 0, 1) := by decide +kernel
theorem dX7_type_22 : decode cX7_type 22 = .ok (.getfield 14, 3) := by decide +kernel
theorem dX7_type_25 : decode cX7_type 25 = .ok (.invokevirtual 151, 3) := by decide +kernel
theorem dX7_type_28 : decode cX7_type 28 = .ok (.ireturn, 1) := by decide +kernel
set_option maxRecDepth 20000 in
theorem ggX7_clearText_X3_size : GoodIn wsX7_clearText wsX3_size := goodIn_r _ [6, 7, 24, 25] (by decide +kernel) (by decide +kernel)
set_option maxRecDepth 20000 in
theorem gX7_clearText_X3_size : GoodIn wsX7_clearText (wsV RX7 151 RX3 yX3_size wsX3_size) := goodIn_app (goodIn_of _ (by decide +kernel)) ggX7_clearText_X3_size
set_option maxRecDepth 20000 in
theorem ggX7_clearText_X3_clear : GoodIn wsX7_clearText wsX3_clear := goodIn_r _ [11, 7, 24, 25] (by decide +kernel) (by decide +kernel)
set_option maxRecDepth 20000 in
theorem gX7_clearText_X3_clear : GoodIn wsX7_clearText (wsV RX7 154 RX3 yX3_clear wsX3_clear) := goodIn_app (goodIn_of _ (by decide +kernel)) ggX7_clearText_X3_clear
theorem dX7_clearText_0 : decode cX7_clearText 0 = .ok (.aload_n 0, 1) := by decide +kernel
theorem dX7_clearText_1 : decode cX7_clearText 1 = .ok (.getfield 14, 3) := by decide +kernel
theorem dX7_clearText_4 : decode cX7_clearText 4 = .ok (.invokevirtual 151, 3) := by decide +kernel
theorem dX7_clearText_7 : decode cX7_clearText 7 = .ok (.istore_n 1, 1) := by decide +kernel
theorem dX7_clearText_8 : decode cX7_clearText 8 = .ok (.aload_n 0, 1) := by decide +kernel
theorem dX7_clearText_9 : decode cX7_clearText 9 = .ok (.getfield 14, 3) := by decide +kernel
theorem dX7_clearText_12 : decode cX7_clearText 12 = .ok (.invokevirtual 154, 3) := by decide +kernel
theorem dX7_clearText_15 : decode cX7_clearText 15 = .ok (.iload_n 1, 1) := by decide +kernel
theorem dX7_clearText_16 : decode cX7_clearText 16 = .ok (.ireturn, 1) := by decide +kernel
set_option maxRecDepth 20000 in
theorem ggX7_convert_X3_clear : GoodIn wsX7_convert wsX3_clear := goodIn_r _ [8, 9, 188, 189] (by decide +kernel) (by decide +kernel)
set_option maxRecDepth 20000 in
theorem gX7_convert_X3_clear : GoodIn wsX7_convert (wsV RX7 154 RX3 yX3_clear wsX3_clear) := goodIn_app (goodIn_of _ (by decide +kernel)) ggX7_convert_X3_clear
set_option maxRecDepth 20000 in
theorem ggX7_convert_X2_begin : GoodIn wsX7_convert wsX2_begin := goodIn_r _ [14, 15, 190, 191, 192, 193, 194, 195, 196] (by decide +kernel) (by decide +kernel)
set_option maxRecDepth 20000 in
theorem gX7_convert_X2_begin : GoodIn wsX7_convert (wsV RX7 76 RX2 yX2_begin wsX2_begin) := goodIn_app (goodIn_of _ (by decide +kernel)) ggX7_convert_X2_begin
set_option maxRecDepth 20000 in
theorem ggX7_convert_X2_takeLetters : GoodIn wsX7_convert wsX2_takeLetters := goodIn_r _ [19, 20, 21, 15, 22, 5, 6, 7, 8, 9, 23, 24, 25, 26, 27, 28, 29, 30, 31, 32, 33, 34, 35, 36, 37, 38, 190, 191, 192, 193, 194, 195, 196, 188, 189] (by decide +kernel) (by decide +kernel)
set_option maxRecDepth 20000 in
theorem gX7_convert_X2_takeLetters : GoodIn wsX7_convert (wsV RX7 157 RX2 yX2_takeLetters wsX2_takeLetters) := goodIn_app (goodIn_of _ (by decide +kernel)) ggX7_convert_X2_takeLetters
set_option maxRecDepth 20000 in
theorem ggX7_convert_X2_fault : GoodIn wsX7_convert wsX2_fault := goodIn_r _ [42, 15, 190, 191, 192, 193, 194, 195, 196] (by decide +kernel) (by decide +kernel)
set_option maxRecDepth 20000 in
theorem gX7_convert_X2_fault : GoodIn wsX7_convert (wsV RX7 83 RX2 yX2_fault wsX2_fault) := goodIn_app (goodIn_of _ (by decide +kernel)) ggX7_convert_X2_fault
set_option maxRecDepth 20000 in
theorem ggX7_convert_X2_take : GoodIn wsX7_convert wsX2_take := goodIn_r _ [46, 21, 15, 23, 24, 25, 7, 26, 9, 27, 190, 191, 192, 193, 194, 195, 196, 188, 189] (by decide +kernel) (by decide +kernel)
set_option maxRecDepth 20000 in
theorem gX7_convert_X2_take : GoodIn wsX7_convert (wsV RX7 91 RX2 yX2_take wsX2_take) := goodIn_app (goodIn_of _ (by decide +kernel)) ggX7_convert_X2_take
set_option maxRecDepth 20000 in
theorem ggX7_convert_X7_convertBack : GoodIn wsX7_convert wsX7_convertBack := goodIn_r _ [50, 2, 51, 52, 53, 54, 55, 1, 56, 32, 33, 7, 34, 9, 27, 57, 58, 59, 60, 61, 62, 63, 36, 37, 38, 64, 65, 66, 67, 68, 24, 25, 26, 69, 70, 71, 72, 73, 74, 75, 76, 77, 78, 79, 5, 6, 8, 80, 81, 82, 83, 84, 85, 86, 87, 88, 89, 90, 91, 92, 93, 94, 176, 177, 178, 179, 180, 181, 182, 183, 184, 185, 186, 187, 190, 191, 192, 193, 194, 195, 196, 197, 198, 199, 200, 201, 202, 203, 204, 205, 206, 207, 208, 209, 188, 189, 210, 211, 212] (by decide +kernel) (by decide +kernel)
set_option maxRecDepth 20000 in
theorem gX7_convert_X7_convertBack : GoodIn wsX7_convert (wsV RX7 160 RX7 yX7_convertBack wsX7_convertBack) := goodIn_app (goodIn_of _ (by decide +kernel)) ggX7_convert_X7_convertBack
set_option maxRecDepth 20000 in
theorem ggX7_convert_X7_convertThere : GoodIn wsX7_convert wsX7_convertThere := goodIn_r _ [98, 54, 55, 2, 51, 99, 100, 1, 101, 57, 58, 59, 60, 61, 62, 63, 36, 37, 7, 38, 9, 64, 65, 66, 67, 68, 24, 25, 26, 27, 69, 70, 71, 72, 73, 74, 102, 103, 104, 105, 106, 107, 108, 109, 110, 111, 112, 5, 6, 8, 113, 114, 115, 116, 117, 118, 119, 120, 121, 122, 123, 124, 125, 126, 127, 128, 129, 130, 131, 132, 133, 134, 135, 136, 137, 138, 139, 140, 29, 141, 142, 32, 33, 34, 143, 144, 145, 146, 147, 148, 149, 150, 151, 94, 152, 153, 154, 155, 156, 157, 158, 159, 160, 161, 162, 163, 164, 90, 91, 92, 93, 89, 176, 177, 178, 179, 180, 181, 182, 183, 184, 185, 186, 187, 204, 205, 206, 207, 208, 209, 190, 191, 192, 193, 194, 195, 196, 213, 214, 215, 216, 210, 211, 212, 188, 189] (by decide +kernel) (by decide +kernel)
set_option maxRecDepth 20000 in
theorem gX7_convert_X7_convertThere : GoodIn wsX7_convert (wsV RX7 164 RX7 yX7_convertThere wsX7_convertThere) := goodIn_app (goodIn_of _ (by decide +kernel)) ggX7_convert_X7_convertThere
set_option maxRecDepth 20000 in
theorem ggX7_convert_X3_add : GoodIn wsX7_convert wsX3_add := goodIn_r _ [34, 9, 27, 188, 189] (by decide +kernel) (by decide +kernel)
set_option maxRecDepth 20000 in
theorem gX7_convert_X3_add : GoodIn wsX7_convert (wsV RX7 148 RX3 yX3_add wsX3_add) := goodIn_app (goodIn_of _ (by decide +kernel)) ggX7_convert_X3_add
set_option maxRecDepth 20000 in
theorem ggX7_convert_X2_isAtEnd : GoodIn wsX7_convert wsX2_isAtEnd := goodIn_r _ [168, 15, 21, 35, 36, 37, 7, 38, 9, 190, 191, 192, 193, 194, 195, 196, 188, 189] (by decide +kernel) (by decide +kernel)
set_option maxRecDepth 20000 in
theorem gX7_convert_X2_isAtEnd : GoodIn wsX7_convert (wsV RX7 95 RX2 yX2_isAtEnd wsX2_isAtEnd) := goodIn_app (goodIn_of _ (by decide +kernel)) ggX7_convert_X2_isAtEnd
set_option maxRecDepth 20000 in
theorem ggX7_convert_X3_copyFrom : GoodIn wsX7_convert wsX3_copyFrom := goodIn_r _ [172, 173, 5, 6, 7, 8, 9, 174, 90, 91, 92, 93, 24, 25, 26, 27, 94, 32, 33, 34, 188, 189] (by decide +kernel) (by decide +kernel)
set_option maxRecDepth 20000 in
theorem gX7_convert_X3_copyFrom : GoodIn wsX7_convert (wsV RX7 167 RX3 yX3_copyFrom wsX3_copyFrom) := goodIn_app (goodIn_of _ (by decide +kernel)) ggX7_convert_X3_copyFrom
set_option maxRecDepth 20000 in
theorem ggX7_convert_X3_size : GoodIn wsX7_convert wsX3_size := goodIn_r _ [38, 9, 188, 189] (by decide +kernel) (by decide +kernel)
set_option maxRecDepth 20000 in
theorem gX7_convert_X3_size : GoodIn wsX7_convert (wsV RX7 151 RX3 yX3_size wsX3_size) := goodIn_app (goodIn_of _ (by decide +kernel)) ggX7_convert_X3_size
theorem dX7_convert_0 : decode cX7_convert 0 = .ok (.aload_n 0, 1) := by decide +kernel
theorem dX7_convert_1 : decode cX7_convert 1 = .ok (.getfield 21, 3) := by decide +kernel
theorem dX7_convert_4 : decode cX7_convert 4 = .ok (.invokevirtual 154, 3) := by decide +kernel
theorem dX7_convert_7 : decode cX7_convert 7 = .ok (.aload_n 0, 1) := by decide +kernel
theorem dX7_convert_8 : decode cX7_convert 8 = .ok (.getfield 29, 3) := by decide +kernel
theorem dX7_convert_11 : decode cX7_convert 11 = .ok (.invokevirtual 76, 3) := by decide +kernel
theorem dX7_convert_14 : decode cX7_convert 14 = .ok (.iload_n 1, 1) := by decide +kernel
theorem dX7_convert_15 : decode cX7_convert 15 = .ok (.ifCond .eq 8, 3) := by decide +kernel
theorem dX7_convert_18 : decode cX7_convert 18 = .ok (.bipush 24, 2) := by decide +kernel
theorem dX7_convert_20 : decode cX7_convert 20 = .ok (.goto 5, 3) := by decide +kernel
theorem dX7_convert_23 : decode cX7_convert 23 = .ok (.bipush 12, 2) := by decide +kernel
theorem dX7_convert_25 : decode cX7_convert 25 = .ok (.istore_n 2, 1) := by decide +kernel
theorem dX7_convert_26 : decode cX7_convert 26 = .ok (.iconst 0, 1) := by decide +kernel
theorem dX7_convert_27 : decode cX7_convert 27 = .ok (.istore_n 3, 1) := by decide +kernel
theorem dX7_convert_28 : decode cX7_convert 28 = .ok (.iload_n 3, 1) := by decide +kernel
theorem dX7_convert_29 : decode cX7_convert 29 = .ok (.bipush 60, 2) := by decide +kernel
theorem dX7_convert_31 : decode cX7_convert 31 = .ok (.if_icmp .ge 76, 3) := by decide +kernel
theorem dX7_convert_34 : decode cX7_convert 34 = .ok (.aload_n 0, 1) := by decide +kernel
theorem dX7_convert_35 : decode cX7_convert 35 = .ok (.getfield 29, 3) := by decide +kernel
theorem dX7_convert_38 : decode cX7_convert 38 = .ok (.iload_n 2, 1) := by decide +kernel
theorem dX7_convert_39 : decode cX7_convert 39 = .ok (.invokevirtual 157, 3) := by decide +kernel
theorem dX7_convert_42 : decode cX7_convert 42 = .ok (.ifCond .ne 11, 3) := by decide +kernel
theorem dX7_convert_45 : decode cX7_convert 45 = .ok (.aload_n 0, 1) := by decide +kernel
theorem dX7_convert_46 : decode cX7_convert 46 = .ok (.getfield 29, 3) := by decide +kernel
theorem dX7_convert_49 : decode cX7_convert 49 = .ok (.invokevirtual 83, 3) := by decide +kernel
theorem dX7_convert_52 : decode cX7_convert 52 = .ok (.ireturn, 1) := by decide +kernel
theorem dX7_convert_53 : decode cX7_convert 53 = .ok (.iload_n 1, 1) := by decide +kernel
theorem dX7_convert_54 : decode cX7_convert 54 = .ok (.ifCond .eq 19, 3) := by decide +kernel
theorem dX7_convert_57 : decode cX7_convert 57 = .ok (.aload_n 0, 1) := by decide +kernel
theorem dX7_convert_58 : decode cX7_convert 58 = .ok (.aload_n 0, 1) := by decide +kernel
theorem dX7_convert_59 : decode cX7_convert 59 = .ok (.getfield 29, 3) := by decide +kernel
theorem dX7_convert_62 : decode cX7_convert 62 = .ok (.bipush 39, 2) := by decide +kernel
theorem dX7_convert_64 : decode cX7_convert 64 = .ok (.invokevirtual 91, 3) := by decide +kernel
theorem dX7_convert_67 : decode cX7_convert 67 = .ok (.invokevirtual 160, 3) := by decide +kernel
theorem dX7_convert_70 : decode cX7_convert 70 = .ok (.goto 7, 3) := by decide +kernel
theorem dX7_convert_73 : decode cX7_convert 73 = .ok (.aload_n 0, 1) := by decide +kernel
theorem dX7_convert_74 : decode cX7_convert 74 = .ok (.invokevirtual 164, 3) := by decide +kernel
theorem dX7_convert_77 : decode cX7_convert 77 = .ok (.aload_n 0, 1) := by decide +kernel
theorem dX7_convert_78 : decode cX7_convert 78 = .ok (.getfield 29, 3) := by decide +kernel
theorem dX7_convert_81 : decode cX7_convert 81 = .ok (.bipush 32, 2) := by decide +kernel
theorem dX7_convert_83 : decode cX7_convert 83 = .ok (.invokevirtual 91, 3) := by decide +kernel
theorem dX7_convert_86 : decode cX7_convert 86 = .ok (.ifCond .ne 6, 3) := by decide +kernel
theorem dX7_convert_89 : decode cX7_convert 89 = .ok (.goto 18, 3) := by decide +kernel
theorem dX7_convert_92 : decode cX7_convert 92 = .ok (.aload_n 0, 1) := by decide +kernel
theorem dX7_convert_93 : decode cX7_convert 93 = .ok (.getfield 21, 3) := by decide +kernel
theorem dX7_convert_96 : decode cX7_convert 96 = .ok (.bipush 32, 2) := by decide +kernel
theorem dX7_convert_98 : decode cX7_convert 98 = .ok (.invokevirtual 148, 3) := by decide +kernel
theorem dX7_convert_101 : decode cX7_convert 101 = .ok (.iinc 3 1, 3) := by decide +kernel
theorem dX7_convert_104 : decode cX7_convert 104 = .ok (.goto (-76), 3) := by decide +kernel
theorem dX7_convert_107 : decode cX7_convert 107 = .ok (.aload_n 0, 1) := by decide +kernel
theorem dX7_convert_108 : decode cX7_convert 108 = .ok (.getfield 29, 3) := by decide +kernel
theorem dX7_convert_111 : decode cX7_convert 111 = .ok (.invokevirtual 95, 3) := by decide +kernel
theorem dX7_convert_114 : decode cX7_convert 114 = .ok (.ifCond .ne 11, 3) := by decide +kernel
theorem dX7_convert_117 : decode cX7_convert 117 = .ok (.aload_n 0, 1) := by decide +kernel
theorem dX7_convert_118 : decode cX7_convert 118 = .ok (.getfield 29, 3) := by decide +kernel
theorem dX7_convert_121 : decode cX7_convert 121 = .ok (.invokevirtual 83, 3) := by decide +kernel
theorem dX7_convert_124 : decode cX7_convert 124 = .ok (.ireturn, 1) := by decide +kernel
theorem dX7_convert_125 : decode cX7_convert 125 = .ok (.aload_n 0, 1) := by decide +kernel
theorem dX7_convert_126 : decode cX7_convert 126 = .ok (.getfield 18, 3) := by decide +kernel
theorem dX7_convert_129 : decode cX7_convert 129 = .ok (.aload_n 0, 1) := by decide +kernel
theorem dX7_convert_130 : decode cX7_convert 130 = .ok (.getfield 21, 3) := by decide +kernel
theorem dX7_convert_133 : decode cX7_convert 133 = .ok (.invokevirtual 167, 3) := by decide +kernel
theorem dX7_convert_136 : decode cX7_convert 136 = .ok (.aload_n 0, 1) := by decide +kernel
theorem dX7_convert_137 : decode cX7_convert 137 = .ok (.getfield 18, 3) := by decide +kernel
theorem dX7_convert_140 : decode cX7_convert 140 = .ok (.invokevirtual 151, 3) := by decide +kernel
theorem dX7_convert_143 : decode cX7_convert 143 = .ok (.ireturn, 1) := by decide +kernel
set_option maxRecDepth 20000 in
theorem ggX7_convertThere_X4_find : GoodIn wsX7_convertThere wsX4_find := goodIn_r _ [13, 14, 15, 16, 17, 18, 19, 20, 21, 22, 23, 12, 24, 25, 26, 27, 28, 29, 30, 31, 32, 33, 34, 35, 141, 142, 143, 144, 145] (by decide +kernel) (by decide +kernel)
set_option maxRecDepth 20000 in
theorem gX7_convertThere_X4_find : GoodIn wsX7_convertThere (wsV RX7 175 RX4 yX4_find wsX4_find) := goodIn_app (goodIn_of _ (by decide +kernel)) ggX7_convertThere_X4_find
set_option maxRecDepth 20000 in
theorem ggX7_convertThere_X3_get : GoodIn wsX7_convertThere wsX3_get := goodIn_r _ [28, 20, 29, 144, 145] (by decide +kernel) (by decide +kernel)
set_option maxRecDepth 20000 in
theorem gX7_convertThere_X3_get : GoodIn wsX7_convertThere (wsV RX7 132 RX3 yX3_get wsX3_get) := goodIn_app (goodIn_of _ (by decide +kernel)) ggX7_convertThere_X3_get
set_option maxRecDepth 20000 in
theorem ggX7_convertThere_X5_hear : GoodIn wsX7_convertThere wsX5_hear := goodIn_r _ [41, 42, 43, 44, 45, 46, 47, 48, 18, 49, 20, 50, 16, 17, 19, 51, 52, 40, 53, 54, 55, 56, 57, 58, 59, 60, 61, 62, 63, 12, 64, 14, 15, 65, 66, 67, 68, 25, 26, 27, 28, 29, 69, 70, 71, 72, 73, 31, 32, 33, 34, 35, 74, 75, 76, 77, 78, 79, 80, 81, 82, 83, 84, 85, 86, 87, 88, 89, 90, 91, 92, 93, 137, 138, 139, 140, 124, 125, 126, 127, 128, 129, 144, 145, 141, 142, 143] (by decide +kernel) (by decide +kernel)
set_option maxRecDepth 20000 in
theorem gX7_convertThere_X5_hear : GoodIn wsX7_convertThere (wsV RX7 181 RX5 yX5_hear wsX5_hear) := goodIn_app (goodIn_of _ (by decide +kernel)) ggX7_convertThere_X5_hear
set_option maxRecDepth 20000 in
theorem ggX7_convertThere_X5_write : GoodIn wsX7_convertThere wsX5_write := goodIn_r _ [97, 98, 42, 46, 47, 48, 18, 49, 20, 50, 16, 17, 19, 69, 26, 27, 28, 29, 99, 100, 101, 40, 102, 103, 104, 78, 105, 65, 66, 67, 12, 68, 14, 25, 73, 31, 32, 33, 34, 35, 80, 81, 82, 83, 106, 107, 108, 109, 110, 93, 137, 138, 139, 140, 144, 145, 124, 125, 126, 127, 128, 129, 141, 142, 143] (by decide +kernel) (by decide +kernel)
set_option maxRecDepth 20000 in
theorem gX7_convertThere_X5_write : GoodIn wsX7_convertThere (wsV RX7 185 RX5 yX5_write wsX5_write) := goodIn_app (goodIn_of _ (by decide +kernel)) ggX7_convertThere_X5_write
set_option maxRecDepth 20000 in
theorem ggX7_convertThere_X3_addAll : GoodIn wsX7_convertThere wsX3_addAll := goodIn_r _ [109, 20, 110, 26, 27, 18, 28, 29, 93, 81, 82, 83, 144, 145] (by decide +kernel) (by decide +kernel)
set_option maxRecDepth 20000 in
theorem gX7_convertThere_X3_addAll : GoodIn wsX7_convertThere (wsV RX7 192 RX3 yX3_addAll wsX3_addAll) := goodIn_app (goodIn_of _ (by decide +kernel)) ggX7_convertThere_X3_addAll
theorem dX7_convertThere_0 : decode cX7_convertThere 0 = .ok (.aload_n 0, 1) := by decide +kernel
theorem dX7_convertThere_1 : decode cX7_convertThere 1 = .ok (.getfield 45, 3) := by decide +kernel
theorem dX7_convertThere_4 : decode cX7_convertThere 4 = .ok (.getfield 169, 3) := by decide +kernel
theorem dX7_convertThere_7 : decode cX7_convertThere 7 = .ok (.aload_n 0, 1) := by decide +kernel
theorem dX7_convertThere_8 : decode cX7_convertThere 8 = .ok (.getfield 29, 3) := by decide +kernel
theorem dX7_convertThere_11 : decode cX7_convertThere 11 = .ok (.getfield 173, 3) := by decide +kernel
theorem dX7_convertThere_14 : decode cX7_convertThere 14 = .ok (.invokevirtual 175, 3) := by decide +kernel
theorem dX7_convertThere_17 : decode cX7_convertThere 17 = .ok (.istore_n 1, 1) := by decide +kernel
theorem dX7_convertThere_18 : decode cX7_convertThere 18 = .ok (.iload_n 1, 1) := by decide +kernel
theorem dX7_convertThere_19 : decode cX7_convertThere 19 = .ok (.bipush (-5), 2) := by decide +kernel
theorem dX7_convertThere_21 : decode cX7_convertThere 21 = .ok (.if_icmp .ne 7, 3) := by decide +kernel
theorem dX7_convertThere_24 : decode cX7_convertThere 24 = .ok (.iconst 0, 1) := by decide +kernel
theorem dX7_convertThere_25 : decode cX7_convertThere 25 = .ok (.goto 14, 3) := by decide +kernel
theorem dX7_convertThere_28 : decode cX7_convertThere 28 = .ok (.aload_n 0, 1) := by decide +kernel
theorem dX7_convertThere_29 : decode cX7_convertThere 29 = .ok (.getfield 45, 3) := by decide +kernel
theorem dX7_convertThere_32 : decode cX7_convertThere 32 = .ok (.getfield 129, 3) := by decide +kernel
theorem dX7_convertThere_35 : decode cX7_convertThere 35 = .ok (.iload_n 1, 1) := by decide +kernel
theorem dX7_convertThere_36 : decode cX7_convertThere 36 = .ok (.invokevirtual 132, 3) := by decide +kernel
theorem dX7_convertThere_39 : decode cX7_convertThere 39 = .ok (.istore_n 2, 1) := by decide +kernel
theorem dX7_convertThere_40 : decode cX7_convertThere 40 = .ok (.aload_n 0, 1) := by decide +kernel
theorem dX7_convertThere_41 : decode cX7_convertThere 41 = .ok (.getfield 36, 3) := by decide +kernel
theorem dX7_convertThere_44 : decode cX7_convertThere 44 = .ok (.aload_n 0, 1) := by decide +kernel
theorem dX7_convertThere_45 : decode cX7_convertThere 45 = .ok (.getfield 45, 3) := by decide +kernel
theorem dX7_convertThere_48 : decode cX7_convertThere 48 = .ok (.aload_n 0, 1) := by decide +kernel
theorem dX7_convertThere_49 : decode cX7_convertThere 49 = .ok (.getfield 29, 3) := by decide +kernel
theorem dX7_convertThere_52 : decode cX7_convertThere 52 = .ok (.getfield 173, 3) := by decide +kernel
theorem dX7_convertThere_55 : decode cX7_convertThere 55 = .ok (.invokevirtual 181, 3) := by decide +kernel
theorem dX7_convertThere_58 : decode cX7_convertThere 58 = .ok (.aload_n 0, 1) := by decide +kernel
theorem dX7_convertThere_59 : decode cX7_convertThere 59 = .ok (.getfield 36, 3) := by decide +kernel
theorem dX7_convertThere_62 : decode cX7_convertThere 62 = .ok (.aload_n 0, 1) := by decide +kernel
theorem dX7_convertThere_63 : decode cX7_convertThere 63 = .ok (.getfield 45, 3) := by decide +kernel
theorem dX7_convertThere_66 : decode cX7_convertThere 66 = .ok (.aload_n 0, 1) := by decide +kernel
theorem dX7_convertThere_67 : decode cX7_convertThere 67 = .ok (.getfield 29, 3) := by decide +kernel
theorem dX7_convertThere_70 : decode cX7_convertThere 70 = .ok (.getfield 173, 3) := by decide +kernel
theorem dX7_convertThere_73 : decode cX7_convertThere 73 = .ok (.iload_n 2, 1) := by decide +kernel
theorem dX7_convertThere_74 : decode cX7_convertThere 74 = .ok (.invokevirtual 185, 3) := by decide +kernel
theorem dX7_convertThere_77 : decode cX7_convertThere 77 = .ok (.aload_n 0, 1) := by decide +kernel
theorem dX7_convertThere_78 : decode cX7_convertThere 78 = .ok (.getfield 21, 3) := by decide +kernel
theorem dX7_convertThere_81 : decode cX7_convertThere 81 = .ok (.aload_n 0, 1) := by decide +kernel
theorem dX7_convertThere_82 : decode cX7_convertThere 82 = .ok (.getfield 36, 3) := by decide +kernel
theorem dX7_convertThere_85 : decode cX7_convertThere 85 = .ok (.getfield 189, 3) := by decide +kernel
theorem dX7_convertThere_88 : decode cX7_convertThere 88 = .ok (.invokevirtual 192, 3) := by decide +kernel
theorem dX7_convertThere_91 : decode cX7_convertThere 91 = .ok (.return_, 1) := by decide +kernel
set_option maxRecDepth 20000 in
theorem ggX7_convertBack_X3_add : GoodIn wsX7_convertBack wsX3_add := goodIn_r _ [12, 13, 14, 94, 95] (by decide +kernel) (by decide +kernel)
set_option maxRecDepth 20000 in
theorem gX7_convertBack_X3_add : GoodIn wsX7_convertBack (wsV RX7 148 RX3 yX3_add wsX3_add) := goodIn_app (goodIn_of _ (by decide +kernel)) ggX7_convertBack_X3_add
set_option maxRecDepth 20000 in
theorem ggX7_convertBack_X4_find : GoodIn wsX7_convertBack wsX4_find := goodIn_r _ [19, 20, 21, 22, 23, 11, 24, 13, 25, 26, 27, 18, 28, 29, 30, 31, 32, 14, 33, 34, 35, 36, 37, 38, 96, 97, 98, 94, 95] (by decide +kernel) (by decide +kernel)
set_option maxRecDepth 20000 in
theorem gX7_convertBack_X4_find : GoodIn wsX7_convertBack (wsV RX7 175 RX4 yX4_find wsX4_find) := goodIn_app (goodIn_of _ (by decide +kernel)) ggX7_convertBack_X4_find
set_option maxRecDepth 20000 in
theorem ggX7_convertBack_X4_copyTo : GoodIn wsX7_convertBack wsX4_copyTo := goodIn_r _ [42, 20, 43, 44, 45, 11, 46, 13, 29, 30, 31, 32, 14, 33, 34, 35, 18, 36, 37, 38, 47, 9, 10, 12, 96, 97, 98, 94, 95] (by decide +kernel) (by decide +kernel)
set_option maxRecDepth 20000 in
theorem gX7_convertBack_X4_copyTo : GoodIn wsX7_convertBack (wsV RX7 198 RX4 yX4_copyTo wsX4_copyTo) := goodIn_app (goodIn_of _ (by decide +kernel)) ggX7_convertBack_X4_copyTo
set_option maxRecDepth 20000 in
theorem ggX7_convertBack_X3_dropLast : GoodIn wsX7_convertBack wsX3_dropLast := goodIn_r _ [51, 13, 52, 53, 54, 55, 94, 95] (by decide +kernel) (by decide +kernel)
set_option maxRecDepth 20000 in
theorem gX7_convertBack_X3_dropLast : GoodIn wsX7_convertBack (wsV RX7 202 RX3 yX3_dropLast wsX3_dropLast) := goodIn_app (goodIn_of _ (by decide +kernel)) ggX7_convertBack_X3_dropLast
set_option maxRecDepth 20000 in
theorem ggX7_convertBack_X3_addAll : GoodIn wsX7_convertBack wsX3_addAll := goodIn_r _ [59, 13, 60, 30, 31, 11, 32, 14, 61, 9, 10, 12, 94, 95] (by decide +kernel) (by decide +kernel)
set_option maxRecDepth 20000 in
theorem gX7_convertBack_X3_addAll : GoodIn wsX7_convertBack (wsV RX7 192 RX3 yX3_addAll wsX3_addAll) := goodIn_app (goodIn_of _ (by decide +kernel)) ggX7_convertBack_X3_addAll
theorem dX7_convertBack_0 : decode cX7_convertBack 0 = .ok (.iload_n 1, 1) := by decide +kernel
theorem dX7_convertBack_1 : decode cX7_convertBack 1 = .ok (.ifCond .eq 15, 3) := by decide +kernel
theorem dX7_convertBack_4 : decode cX7_convertBack 4 = .ok (.aload_n 0, 1) := by decide +kernel
theorem dX7_convertBack_5 : decode cX7_convertBack 5 = .ok (.getfield 29, 3) := by decide +kernel
theorem dX7_convertBack_8 : decode cX7_convertBack 8 = .ok (.getfield 173, 3) := by decide +kernel
theorem dX7_convertBack_11 : decode cX7_convertBack 11 = .ok (.bipush 39, 2) := by decide +kernel
theorem dX7_convertBack_13 : decode cX7_convertBack 13 = .ok (.invokevirtual 148, 3) := by decide +kernel
theorem dX7_convertBack_16 : decode cX7_convertBack 16 = .ok (.aload_n 0, 1) := by decide +kernel
theorem dX7_convertBack_17 : decode cX7_convertBack 17 = .ok (.getfield 65, 3) := by decide +kernel
theorem dX7_convertBack_20 : decode cX7_convertBack 20 = .ok (.getfield 195, 3) := by decide +kernel
theorem dX7_convertBack_23 : decode cX7_convertBack 23 = .ok (.aload_n 0, 1) := by decide +kernel
theorem dX7_convertBack_24 : decode cX7_convertBack 24 = .ok (.getfield 29, 3) := by decide +kernel
theorem dX7_convertBack_27 : decode cX7_convertBack 27 = .ok (.getfield 173, 3) := by decide +kernel
theorem dX7_convertBack_30 : decode cX7_convertBack 30 = .ok (.invokevirtual 175, 3) := by decide +kernel
theorem dX7_convertBack_33 : decode cX7_convertBack 33 = .ok (.istore_n 2, 1) := by decide +kernel
theorem dX7_convertBack_34 : decode cX7_convertBack 34 = .ok (.iload_n 2, 1) := by decide +kernel
theorem dX7_convertBack_35 : decode cX7_convertBack 35 = .ok (.bipush (-5), 2) := by decide +kernel
theorem dX7_convertBack_37 : decode cX7_convertBack 37 = .ok (.if_icmp .eq 24, 3) := by decide +kernel
theorem dX7_convertBack_40 : decode cX7_convertBack 40 = .ok (.aload_n 0, 1) := by decide +kernel
theorem dX7_convertBack_41 : decode cX7_convertBack 41 = .ok (.getfield 45, 3) := by decide +kernel
theorem dX7_convertBack_44 : decode cX7_convertBack 44 = .ok (.getfield 169, 3) := by decide +kernel
theorem dX7_convertBack_47 : decode cX7_convertBack 47 = .ok (.iload_n 2, 1) := by decide +kernel
theorem dX7_convertBack_48 : decode cX7_convertBack 48 = .ok (.aload_n 0, 1) := by decide +kernel
theorem dX7_convertBack_49 : decode cX7_convertBack 49 = .ok (.getfield 29, 3) := by decide +kernel
theorem dX7_convertBack_52 : decode cX7_convertBack 52 = .ok (.getfield 173, 3) := by decide +kernel
theorem dX7_convertBack_55 : decode cX7_convertBack 55 = .ok (.invokevirtual 198, 3) := by decide +kernel
theorem dX7_convertBack_58 : decode cX7_convertBack 58 = .ok (.goto 17, 3) := by decide +kernel
theorem dX7_convertBack_61 : decode cX7_convertBack 61 = .ok (.iload_n 1, 1) := by decide +kernel
theorem dX7_convertBack_62 : decode cX7_convertBack 62 = .ok (.ifCond .eq 13, 3) := by decide +kernel
theorem dX7_convertBack_65 : decode cX7_convertBack 65 = .ok (.aload_n 0, 1) := by decide +kernel
theorem dX7_convertBack_66 : decode cX7_convertBack 66 = .ok (.getfield 29, 3) := by decide +kernel
theorem dX7_convertBack_69 : decode cX7_convertBack 69 = .ok (.getfield 173, 3) := by decide +kernel
theorem dX7_convertBack_72 : decode cX7_convertBack 72 = .ok (.invokevirtual 202, 3) := by decide +kernel
theorem dX7_convertBack_75 : decode cX7_convertBack 75 = .ok (.aload_n 0, 1) := by decide +kernel
theorem dX7_convertBack_76 : decode cX7_convertBack 76 = .ok (.getfield 21, 3) := by decide +kernel
theorem dX7_convertBack_79 : decode cX7_convertBack 79 = .ok (.aload_n 0, 1) := by decide +kernel
theorem dX7_convertBack_80 : decode cX7_convertBack 80 = .ok (.getfield 29, 3) := by decide +kernel
theorem dX7_convertBack_83 : decode cX7_convertBack 83 = .ok (.getfield 173, 3) := by decide +kernel
theorem dX7_convertBack_86 : decode cX7_convertBack 86 = .ok (.invokevirtual 192, 3) := by decide +kernel
theorem dX7_convertBack_89 : decode cX7_convertBack 89 = .ok (.return_, 1) := by decide +kernel
set_option maxRecDepth 20000 in
theorem ggX7_takeResult_X3_size : GoodIn wsX7_takeResult wsX3_size := goodIn_r _ [7, 8, 42, 43] (by decide +kernel) (by decide +kernel)
set_option maxRecDepth 20000 in
theorem gX7_takeResult_X3_size : GoodIn wsX7_takeResult (wsV RX7 151 RX3 yX3_size wsX3_size) := goodIn_app (goodIn_of _ (by decide +kernel)) ggX7_takeResult_X3_size
set_option maxRecDepth 20000 in
theorem ggX7_takeResult_X3_copyFrom : GoodIn wsX7_takeResult wsX3_copyFrom := goodIn_r _ [12, 13, 14, 15, 6, 16, 8, 17, 18, 19, 20, 21, 22, 23, 24, 25, 26, 27, 28, 29, 42, 43] (by decide +kernel) (by decide +kernel)
set_option maxRecDepth 20000 in
theorem gX7_takeResult_X3_copyFrom : GoodIn wsX7_takeResult (wsV RX7 167 RX3 yX3_copyFrom wsX3_copyFrom) := goodIn_app (goodIn_of _ (by decide +kernel)) ggX7_takeResult_X3_copyFrom
theorem dX7_takeResult_0 : decode cX7_takeResult 0 = .ok (.aload_n 0, 1) := by decide +kernel
theorem dX7_takeResult_1 : decode cX7_takeResult 1 = .ok (.getfield 18, 3) := by decide +kernel
theorem dX7_takeResult_4 : decode cX7_takeResult 4 = .ok (.invokevirtual 151, 3) := by decide +kernel
theorem dX7_takeResult_7 : decode cX7_takeResult 7 = .ok (.bipush 60, 2) := by decide +kernel
theorem dX7_takeResult_9 : decode cX7_takeResult 9 = .ok (.if_icmp .le 6, 3) := by decide +kernel
theorem dX7_takeResult_12 : decode cX7_takeResult 12 = .ok (.bipush (-3), 2) := by decide +kernel
theorem dX7_takeResult_14 : decode cX7_takeResult 14 = .ok (.ireturn, 1) := by decide +kernel
theorem dX7_takeResult_15 : decode cX7_takeResult 15 = .ok (.aload_n 0, 1) := by decide +kernel
theorem dX7_takeResult_16 : decode cX7_takeResult 16 = .ok (.getfield 14, 3) := by decide +kernel
theorem dX7_takeResult_19 : decode cX7_takeResult 19 = .ok (.aload_n 0, 1) := by decide +kernel
theorem dX7_takeResult_20 : decode cX7_takeResult 20 = .ok (.getfield 18, 3) := by decide +kernel
theorem dX7_takeResult_23 : decode cX7_takeResult 23 = .ok (.invokevirtual 167, 3) := by decide +kernel
theorem dX7_takeResult_26 : decode cX7_takeResult 26 = .ok (.aload_n 0, 1) := by decide +kernel
theorem dX7_takeResult_27 : decode cX7_takeResult 27 = .ok (.getfield 14, 3) := by decide +kernel
theorem dX7_takeResult_30 : decode cX7_takeResult 30 = .ok (.invokevirtual 151, 3) := by decide +kernel
theorem dX7_takeResult_33 : decode cX7_takeResult 33 = .ok (.ireturn, 1) := by decide +kernel
set_option maxRecDepth 20000 in
theorem ggX7_undo_X1_states : GoodIn wsX7_undo wsX1_states := goodIn_r _ [8, 9, 211, 212] (by decide +kernel) (by decide +kernel)
set_option maxRecDepth 20000 in
theorem gX7_undo_X1_states : GoodIn wsX7_undo (wsV RX7 205 RX1 yX1_states wsX1_states) := goodIn_app (goodIn_of _ (by decide +kernel)) ggX7_undo_X1_states
set_option maxRecDepth 20000 in
theorem ggX7_undo_X1_bringBack : GoodIn wsX7_undo wsX1_bringBack := goodIn_r _ [13, 9, 14, 15, 16, 17, 18, 19, 20, 21, 22, 23, 24, 25, 26, 27, 28, 29, 30, 31, 32, 33, 34, 35, 36, 37, 38, 39, 40, 41, 42, 43, 44, 45, 46, 47, 48, 49, 50, 51, 52, 53, 54, 55, 56, 57, 58, 59, 60, 61, 62, 63, 64, 65, 66, 211, 212, 213, 214, 215, 216, 217, 218, 219, 220, 221, 222, 223] (by decide +kernel) (by decide +kernel)
set_option maxRecDepth 20000 in
theorem gX7_undo_X1_bringBack : GoodIn wsX7_undo (wsV RX7 208 RX1 yX1_bringBack wsX1_bringBack) := goodIn_app (goodIn_of _ (by decide +kernel)) ggX7_undo_X1_bringBack
set_option maxRecDepth 20000 in
theorem ggX7_undo_X6_renew : GoodIn wsX7_undo wsX6_renew := goodIn_r _ [71, 72, 73, 74, 75, 76, 77, 78, 79, 80, 81, 82, 83, 84, 85, 86, 87, 29, 88, 31, 89, 40, 41, 37, 42, 43, 90, 91, 92, 93, 18, 94, 20, 95, 96, 97, 98, 57, 58, 59, 60, 99, 100, 101, 102, 53, 54, 55, 56, 52, 103, 104, 105, 106, 24, 107, 108, 109, 110, 61, 49, 50, 51, 111, 112, 113, 114, 33, 32, 115, 116, 117, 118, 119, 120, 121, 122, 123, 124, 125, 126, 127, 128, 129, 130, 131, 132, 133, 134, 135, 136, 137, 138, 139, 140, 141, 142, 143, 144, 145, 146, 147, 148, 149, 150, 151, 152, 153, 154, 155, 156, 157, 158, 159, 160, 161, 162, 163, 164, 165, 166, 167, 45, 46, 47, 48, 168, 169, 170, 171, 172, 173, 174, 175, 176, 177, 178, 179, 180, 181, 182, 183, 184, 185, 186, 187, 62, 63, 64, 65, 188, 189, 190, 191, 192, 70, 193, 194, 195, 196, 197, 198, 224, 225, 226, 227, 228, 229, 230, 213, 214, 215, 216, 217, 218, 231, 232, 233, 234, 219, 220, 221, 222, 223] (by decide +kernel) (by decide +kernel)
set_option maxRecDepth 20000 in
theorem gX7_undo_X6_renew : GoodIn wsX7_undo (wsV RX7 107 RX6 yX6_renew wsX6_renew) := goodIn_app (goodIn_of _ (by decide +kernel)) ggX7_undo_X6_renew
theorem dX7_undo_0 : decode cX7_undo 0 = .ok (.aload_n 0, 1) := by decide +kernel
theorem dX7_undo_1 : decode cX7_undo 1 = .ok (.getfield 58, 3) := by decide +kernel
theorem dX7_undo_4 : decode cX7_undo 4 = .ok (.invokevirtual 205, 3) := by decide +kernel
theorem dX7_undo_7 : decode cX7_undo 7 = .ok (.ifCond .ne 6, 3) := by decide +kernel
theorem dX7_undo_10 : decode cX7_undo 10 = .ok (.bipush (-5), 2) := by decide +kernel
theorem dX7_undo_12 : decode cX7_undo 12 = .ok (.ireturn, 1) := by decide +kernel
theorem dX7_undo_13 : decode cX7_undo 13 = .ok (.aload_n 0, 1) := by decide +kernel
theorem dX7_undo_14 : decode cX7_undo 14 = .ok (.getfield 58, 3) := by decide +kernel
theorem dX7_undo_17 : decode cX7_undo 17 = .ok (.aload_n 0, 1) := by decide +kernel
theorem dX7_undo_18 : decode cX7_undo 18 = .ok (.getfield 45, 3) := by decide +kernel
theorem dX7_undo_21 : decode cX7_undo 21 = .ok (.invokevirtual 208, 3) := by decide +kernel
theorem dX7_undo_24 : decode cX7_undo 24 = .ok (.aload_n 0, 1) := by decide +kernel
theorem dX7_undo_25 : decode cX7_undo 25 = .ok (.getfield 65, 3) := by decide +kernel
theorem dX7_undo_28 : decode cX7_undo 28 = .ok (.aload_n 0, 1) := by decide +kernel
theorem dX7_undo_29 : decode cX7_undo 29 = .ok (.getfield 45, 3) := by decide +kernel
theorem dX7_undo_32 : decode cX7_undo 32 = .ok (.invokevirtual 107, 3) := by decide +kernel
theorem dX7_undo_35 : decode cX7_undo 35 = .ok (.aload_n 0, 1) := by decide +kernel
theorem dX7_undo_36 : decode cX7_undo 36 = .ok (.getfield 58, 3) := by decide +kernel
theorem dX7_undo_39 : decode cX7_undo 39 = .ok (.invokevirtual 205, 3) := by decide +kernel
theorem dX7_undo_42 : decode cX7_undo 42 = .ok (.ireturn, 1) := by decide +kernel
set_option maxRecDepth 20000 in
theorem ggX7_keep_X0_copyFrom : GoodIn wsX7_keep wsX0_copyFrom := goodIn_r _ [8, 9, 10, 11, 12, 13, 14, 15, 16, 17, 18, 19, 20, 21, 22, 23, 24, 25, 26, 27, 28, 29, 30, 31, 32, 33, 34, 35, 36, 37, 38, 39, 40, 41, 42, 43, 44, 45, 46, 47, 48, 49, 50, 51, 52, 53, 54, 55, 76, 77, 78, 79, 80, 81, 82, 83, 84, 85, 86] (by decide +kernel) (by decide +kernel)
set_option maxRecDepth 20000 in
theorem gX7_keep_X0_copyFrom : GoodIn wsX7_keep (wsV RX7 72 RX0 yX0_copyFrom wsX0_copyFrom) := goodIn_app (goodIn_of _ (by decide +kernel)) ggX7_keep_X0_copyFrom
set_option maxRecDepth 20000 in
theorem ggX7_keep_X0_words : GoodIn wsX7_keep wsX0_words := goodIn_r _ [59, 13, 60, 61, 62, 18, 63, 20, 46, 47, 48, 26, 49, 32, 76, 77, 78, 79, 80, 81, 82, 83, 84, 85, 86] (by decide +kernel) (by decide +kernel)
set_option maxRecDepth 20000 in
theorem gX7_keep_X0_words : GoodIn wsX7_keep (wsV RX7 101 RX0 yX0_words wsX0_words) := goodIn_app (goodIn_of _ (by decide +kernel)) ggX7_keep_X0_words
theorem dX7_keep_0 : decode cX7_keep 0 = .ok (.aload_n 0, 1) := by decide +kernel
theorem dX7_keep_1 : decode cX7_keep 1 = .ok (.getfield 52, 3) := by decide +kernel
theorem dX7_keep_4 : decode cX7_keep 4 = .ok (.aload_n 0, 1) := by decide +kernel
theorem dX7_keep_5 : decode cX7_keep 5 = .ok (.getfield 45, 3) := by decide +kernel
theorem dX7_keep_8 : decode cX7_keep 8 = .ok (.invokevirtual 72, 3) := by decide +kernel
theorem dX7_keep_11 : decode cX7_keep 11 = .ok (.aload_n 0, 1) := by decide +kernel
theorem dX7_keep_12 : decode cX7_keep 12 = .ok (.iconst 1, 1) := by decide +kernel
theorem dX7_keep_13 : decode cX7_keep 13 = .ok (.putfield 211, 3) := by decide +kernel
theorem dX7_keep_16 : decode cX7_keep 16 = .ok (.aload_n 0, 1) := by decide +kernel
theorem dX7_keep_17 : decode cX7_keep 17 = .ok (.getfield 45, 3) := by decide +kernel
theorem dX7_keep_20 : decode cX7_keep 20 = .ok (.invokevirtual 101, 3) := by decide +kernel
theorem dX7_keep_23 : decode cX7_keep 23 = .ok (.ireturn, 1) := by decide +kernel
set_option maxRecDepth 20000 in
theorem ggX7_restore_X1_record : GoodIn wsX7_restore wsX1_record := goodIn_r _ [10, 11, 12, 13, 14, 15, 9, 16, 17, 18, 19, 20, 21, 22, 23, 24, 25, 26, 27, 28, 29, 30, 31, 32, 33, 34, 35, 36, 37, 38, 39, 40, 41, 42, 43, 44, 45, 46, 47, 48, 49, 50, 51, 52, 53, 54, 55, 56, 57, 58, 59, 60, 61, 62, 63, 64, 65, 66, 67, 68, 69, 70, 71, 72, 218, 219, 220, 221, 222, 223, 224, 225, 226, 227, 228, 229, 230] (by decide +kernel) (by decide +kernel)
set_option maxRecDepth 20000 in
theorem gX7_restore_X1_record : GoodIn wsX7_restore (wsV RX7 104 RX1 yX1_record wsX1_record) := goodIn_app (goodIn_of _ (by decide +kernel)) ggX7_restore_X1_record
set_option maxRecDepth 20000 in
theorem ggX7_restore_X0_copyFrom : GoodIn wsX7_restore wsX0_copyFrom := goodIn_r _ [25, 26, 27, 28, 29, 30, 31, 32, 33, 34, 35, 36, 37, 38, 39, 40, 41, 42, 43, 44, 45, 46, 47, 48, 49, 50, 51, 52, 53, 54, 55, 56, 57, 58, 59, 60, 61, 62, 63, 64, 65, 66, 67, 68, 69, 70, 71, 72, 220, 221, 222, 223, 224, 225, 226, 227, 228, 229, 230] (by decide +kernel) (by decide +kernel)
set_option maxRecDepth 20000 in
theorem gX7_restore_X0_copyFrom : GoodIn wsX7_restore (wsV RX7 72 RX0 yX0_copyFrom wsX0_copyFrom) := goodIn_app (goodIn_of _ (by decide +kernel)) ggX7_restore_X0_copyFrom
set_option maxRecDepth 20000 in
theorem ggX7_restore_X6_renew : GoodIn wsX7_restore wsX6_renew := goodIn_r _ [78, 79, 80, 81, 82, 83, 84, 85, 86, 87, 88, 89, 90, 91, 92, 93, 94, 35, 95, 37, 96, 46, 47, 43, 48, 49, 97, 98, 99, 100, 24, 101, 26, 102, 103, 104, 105, 63, 64, 65, 66, 106, 107, 108, 109, 59, 60, 61, 62, 58, 110, 111, 112, 113, 30, 114, 115, 116, 117, 67, 55, 56, 57, 118, 119, 120, 121, 39, 38, 122, 123, 124, 125, 126, 127, 128, 129, 130, 131, 132, 133, 134, 135, 136, 137, 138, 139, 140, 141, 142, 143, 144, 145, 146, 147, 148, 149, 150, 151, 152, 153, 154, 155, 156, 157, 158, 159, 160, 161, 162, 163, 164, 165, 166, 167, 168, 169, 170, 171, 172, 173, 174, 51, 52, 53, 54, 175, 176, 177, 178, 179, 180, 181, 182, 183, 184, 185, 186, 187, 188, 19, 189, 190, 191, 192, 193, 68, 69, 70, 71, 194, 195, 196, 197, 198, 77, 199, 200, 201, 202, 203, 204, 231, 232, 233, 234, 235, 236, 237, 220, 221, 222, 223, 224, 225, 238, 239, 240, 241, 226, 227, 228, 229, 230] (by decide +kernel) (by decide +kernel)
set_option maxRecDepth 20000 in
theorem gX7_restore_X6_renew : GoodIn wsX7_restore (wsV RX7 107 RX6 yX6_renew wsX6_renew) := goodIn_app (goodIn_of _ (by decide +kernel)) ggX7_restore_X6_renew
set_option maxRecDepth 20000 in
theorem ggX7_restore_X0_words : GoodIn wsX7_restore wsX0_words := goodIn_r _ [113, 30, 102, 103, 104, 35, 105, 37, 63, 64, 65, 43, 66, 49, 220, 221, 222, 223, 224, 225, 226, 227, 228, 229, 230] (by decide +kernel) (by decide +kernel)
set_option maxRecDepth 20000 in
theorem gX7_restore_X0_words : GoodIn wsX7_restore (wsV RX7 101 RX0 yX0_words wsX0_words) := goodIn_app (goodIn_of _ (by decide +kernel)) ggX7_restore_X0_words
theorem dX7_restore_0 : decode cX7_restore 0 = .ok (.aload_n 0, 1) := by decide +kernel
theorem dX7_restore_1 : decode cX7_restore 1 = .ok (.getfield 211, 3) := by decide +kernel
theorem dX7_restore_4 : decode cX7_restore 4 = .ok (.ifCond .ne 6, 3) := by decide +kernel
theorem dX7_restore_7 : decode cX7_restore 7 = .ok (.bipush (-5), 2) := by decide +kernel
theorem dX7_restore_9 : decode cX7_restore 9 = .ok (.ireturn, 1) := by decide +kernel
theorem dX7_restore_10 : decode cX7_restore 10 = .ok (.aload_n 0, 1) := by decide +kernel
theorem dX7_restore_11 : decode cX7_restore 11 = .ok (.getfield 58, 3) := by decide +kernel
theorem dX7_restore_14 : decode cX7_restore 14 = .ok (.aload_n 0, 1) := by decide +kernel
theorem dX7_restore_15 : decode cX7_restore 15 = .ok (.getfield 45, 3) := by decide +kernel
theorem dX7_restore_18 : decode cX7_restore 18 = .ok (.invokevirtual 104, 3) := by decide +kernel
theorem dX7_restore_21 : decode cX7_restore 21 = .ok (.aload_n 0, 1) := by decide +kernel
theorem dX7_restore_22 : decode cX7_restore 22 = .ok (.getfield 45, 3) := by decide +kernel
theorem dX7_restore_25 : decode cX7_restore 25 = .ok (.aload_n 0, 1) := by decide +kernel
theorem dX7_restore_26 : decode cX7_restore 26 = .ok (.getfield 52, 3) := by decide +kernel
theorem dX7_restore_29 : decode cX7_restore 29 = .ok (.invokevirtual 72, 3) := by decide +kernel
theorem dX7_restore_32 : decode cX7_restore 32 = .ok (.aload_n 0, 1) := by decide +kernel
theorem dX7_restore_33 : decode cX7_restore 33 = .ok (.getfield 65, 3) := by decide +kernel
theorem dX7_restore_36 : decode cX7_restore 36 = .ok (.aload_n 0, 1) := by decide +kernel
theorem dX7_restore_37 : decode cX7_restore 37 = .ok (.getfield 45, 3) := by decide +kernel
theorem dX7_restore_40 : decode cX7_restore 40 = .ok (.invokevirtual 107, 3) := by decide +kernel
theorem dX7_restore_43 : decode cX7_restore 43 = .ok (.aload_n 0, 1) := by decide +kernel
theorem dX7_restore_44 : decode cX7_restore 44 = .ok (.getfield 45, 3) := by decide +kernel
theorem dX7_restore_47 : decode cX7_restore 47 = .ok (.invokevirtual 101, 3) := by decide +kernel
theorem dX7_restore_50 : decode cX7_restore 50 = .ok (.ireturn, 1) := by decide +kernel
set_option maxRecDepth 20000 in
theorem ggX7_rule_X0_hasRule : GoodIn wsX7_rule wsX0_hasRule := goodIn_r _ [11, 12, 13, 14, 15, 16, 17, 18, 19, 20, 21, 22, 23, 24, 47, 48, 49, 50, 51, 52, 60, 61, 62, 63, 64] (by decide +kernel) (by decide +kernel)
set_option maxRecDepth 20000 in
theorem gX7_rule_X0_hasRule : GoodIn wsX7_rule (wsV RX7 110 RX0 yX0_hasRule wsX0_hasRule) := goodIn_app (goodIn_of _ (by decide +kernel)) ggX7_rule_X0_hasRule
set_option maxRecDepth 20000 in
theorem ggX7_rule_X4_length : GoodIn wsX7_rule wsX4_length := goodIn_r _ [28, 18, 29, 30, 31, 22, 32, 24, 33, 60, 61, 62, 63, 64] (by decide +kernel) (by decide +kernel)
set_option maxRecDepth 20000 in
theorem gX7_rule_X4_length : GoodIn wsX7_rule (wsV RX7 218 RX4 yX4_length wsX4_length) := goodIn_app (goodIn_of _ (by decide +kernel)) ggX7_rule_X4_length
set_option maxRecDepth 20000 in
theorem ggX7_rule_X3_get : GoodIn wsX7_rule wsX3_get := goodIn_r _ [32, 24, 33, 63, 64] (by decide +kernel) (by decide +kernel)
set_option maxRecDepth 20000 in
theorem gX7_rule_X3_get : GoodIn wsX7_rule (wsV RX7 132 RX3 yX3_get wsX3_get) := goodIn_app (goodIn_of _ (by decide +kernel)) ggX7_rule_X3_get
theorem dX7_rule_0 : decode cX7_rule 0 = .ok (.aload_n 0, 1) := by decide +kernel
theorem dX7_rule_1 : decode cX7_rule 1 = .ok (.getfield 45, 3) := by decide +kernel
theorem dX7_rule_4 : decode cX7_rule 4 = .ok (.iload_n 1, 1) := by decide +kernel
theorem dX7_rule_5 : decode cX7_rule 5 = .ok (.invokevirtual 110, 3) := by decide +kernel
theorem dX7_rule_8 : decode cX7_rule 8 = .ok (.ifCond .ne 5, 3) := by decide +kernel
theorem dX7_rule_11 : decode cX7_rule 11 = .ok (.iconst (-1), 1) := by decide +kernel
theorem dX7_rule_12 : decode cX7_rule 12 = .ok (.ireturn, 1) := by decide +kernel
theorem dX7_rule_13 : decode cX7_rule 13 = .ok (.iload_n 2, 1) := by decide +kernel
theorem dX7_rule_14 : decode cX7_rule 14 = .ok (.tableswitch 78 0 3 #[30, 42, 54, 66], 30) := by decide +kernel
theorem dX7_rule_44 : decode cX7_rule 44 = .ok (.aload_n 0, 1) := by decide +kernel
theorem dX7_rule_45 : decode cX7_rule 45 = .ok (.getfield 45, 3) := by decide +kernel
theorem dX7_rule_48 : decode cX7_rule 48 = .ok (.getfield 215, 3) := by decide +kernel
theorem dX7_rule_51 : decode cX7_rule 51 = .ok (.iload_n 1, 1) := by decide +kernel
theorem dX7_rule_52 : decode cX7_rule 52 = .ok (.invokevirtual 218, 3) := by decide +kernel
theorem dX7_rule_55 : decode cX7_rule 55 = .ok (.ireturn, 1) := by decide +kernel
theorem dX7_rule_56 : decode cX7_rule 56 = .ok (.aload_n 0, 1) := by decide +kernel
theorem dX7_rule_57 : decode cX7_rule 57 = .ok (.getfield 45, 3) := by decide +kernel
theorem dX7_rule_60 : decode cX7_rule 60 = .ok (.getfield 221, 3) := by decide +kernel
theorem dX7_rule_63 : decode cX7_rule 63 = .ok (.iload_n 1, 1) := by decide +kernel
theorem dX7_rule_64 : decode cX7_rule 64 = .ok (.invokevirtual 132, 3) := by decide +kernel
theorem dX7_rule_67 : decode cX7_rule 67 = .ok (.ireturn, 1) := by decide +kernel
theorem dX7_rule_68 : decode cX7_rule 68 = .ok (.aload_n 0, 1) := by decide +kernel
theorem dX7_rule_69 : decode cX7_rule 69 = .ok (.getfield 45, 3) := by decide +kernel
theorem dX7_rule_72 : decode cX7_rule 72 = .ok (.getfield 224, 3) := by decide +kernel
theorem dX7_rule_75 : decode cX7_rule 75 = .ok (.iload_n 1, 1) := by decide +kernel
theorem dX7_rule_76 : decode cX7_rule 76 = .ok (.invokevirtual 132, 3) := by decide +kernel
theorem dX7_rule_79 : decode cX7_rule 79 = .ok (.ireturn, 1) := by decide +kernel
theorem dX7_rule_80 : decode cX7_rule 80 = .ok (.aload_n 0, 1) := by decide +kernel
theorem dX7_rule_81 : decode cX7_rule 81 = .ok (.getfield 65, 3) := by decide +kernel
theorem dX7_rule_84 : decode cX7_rule 84 = .ok (.getfield 227, 3) := by decide +kernel
theorem dX7_rule_87 : decode cX7_rule 87 = .ok (.iload_n 1, 1) := by decide +kernel
theorem dX7_rule_88 : decode cX7_rule 88 = .ok (.invokevirtual 132, 3) := by decide +kernel
theorem dX7_rule_91 : decode cX7_rule 91 = .ok (.ireturn, 1) := by decide +kernel
theorem dX7_rule_92 : decode cX7_rule 92 = .ok (.bipush (-2), 2) := by decide +kernel
theorem dX7_rule_94 : decode cX7_rule 94 = .ok (.ireturn, 1) := by decide +kernel
set_option maxRecDepth 20000 in
theorem ggX7_letterOf_X0_hasRule : GoodIn wsX7_letterOf wsX0_hasRule := goodIn_r _ [7, 8, 9, 10, 11, 12, 13, 14, 15, 16, 17, 18, 19, 20, 44, 45, 46, 47, 48, 49, 50, 51, 52, 53, 54] (by decide +kernel) (by decide +kernel)
set_option maxRecDepth 20000 in
theorem gX7_letterOf_X0_hasRule : GoodIn wsX7_letterOf (wsV RX7 110 RX0 yX0_hasRule wsX0_hasRule) := goodIn_app (goodIn_of _ (by decide +kernel)) ggX7_letterOf_X0_hasRule
set_option maxRecDepth 20000 in
theorem ggX7_letterOf_X4_get : GoodIn wsX7_letterOf wsX4_get := goodIn_r _ [24, 14, 25, 26, 27, 28, 29, 18, 30, 20, 31, 50, 51, 52, 53, 54] (by decide +kernel) (by decide +kernel)
set_option maxRecDepth 20000 in
theorem gX7_letterOf_X4_get : GoodIn wsX7_letterOf (wsV RX7 230 RX4 yX4_get wsX4_get) := goodIn_app (goodIn_of _ (by decide +kernel)) ggX7_letterOf_X4_get
theorem dX7_letterOf_0 : decode cX7_letterOf 0 = .ok (.aload_n 0, 1) := by decide +kernel
theorem dX7_letterOf_1 : decode cX7_letterOf 1 = .ok (.getfield 45, 3) := by decide +kernel
theorem dX7_letterOf_4 : decode cX7_letterOf 4 = .ok (.iload_n 1, 1) := by decide +kernel
theorem dX7_letterOf_5 : decode cX7_letterOf 5 = .ok (.invokevirtual 110, 3) := by decide +kernel
theorem dX7_letterOf_8 : decode cX7_letterOf 8 = .ok (.ifCond .ne 5, 3) := by decide +kernel
theorem dX7_letterOf_11 : decode cX7_letterOf 11 = .ok (.iconst (-1), 1) := by decide +kernel
theorem dX7_letterOf_12 : decode cX7_letterOf 12 = .ok (.ireturn, 1) := by decide +kernel
theorem dX7_letterOf_13 : decode cX7_letterOf 13 = .ok (.iload_n 2, 1) := by decide +kernel
theorem dX7_letterOf_14 : decode cX7_letterOf 14 = .ok (.ifCond .ge 8, 3) := by decide +kernel
theorem dX7_letterOf_17 : decode cX7_letterOf 17 = .ok (.bipush (-2), 2) := by decide +kernel
theorem dX7_letterOf_19 : decode cX7_letterOf 19 = .ok (.goto 15, 3) := by decide +kernel
theorem dX7_letterOf_22 : decode cX7_letterOf 22 = .ok (.aload_n 0, 1) := by decide +kernel
theorem dX7_letterOf_23 : decode cX7_letterOf 23 = .ok (.getfield 45, 3) := by decide +kernel
theorem dX7_letterOf_26 : decode cX7_letterOf 26 = .ok (.getfield 215, 3) := by decide +kernel
theorem dX7_letterOf_29 : decode cX7_letterOf 29 = .ok (.iload_n 1, 1) := by decide +kernel
theorem dX7_letterOf_30 : decode cX7_letterOf 30 = .ok (.iload_n 2, 1) := by decide +kernel
theorem dX7_letterOf_31 : decode cX7_letterOf 31 = .ok (.invokevirtual 230, 3) := by decide +kernel
theorem dX7_letterOf_34 : decode cX7_letterOf 34 = .ok (.ireturn, 1) := by decide +kernel
set_option maxRecDepth 20000 in
theorem ggX7_sign_X7_isCapital : GoodIn wsX7_sign wsX7_isCapital := goodIn_r _ [6] (by decide +kernel) (by decide +kernel)
set_option maxRecDepth 20000 in
theorem gX7_sign_X7_isCapital : GoodIn wsX7_sign (va_wsS RX7 233 yX7_isCapital wsX7_isCapital) := goodIn_app (goodIn_of _ (by decide +kernel)) ggX7_sign_X7_isCapital
set_option maxRecDepth 20000 in
theorem ggX7_sign_X4_get : GoodIn wsX7_sign wsX4_get := goodIn_r _ [11, 12, 13, 14, 15, 16, 17, 18, 19, 20, 21, 40, 41, 42, 43, 44] (by decide +kernel) (by decide +kernel)
set_option maxRecDepth 20000 in
theorem gX7_sign_X4_get : GoodIn wsX7_sign (wsV RX7 230 RX4 yX4_get wsX4_get) := goodIn_app (goodIn_of _ (by decide +kernel)) ggX7_sign_X4_get
theorem dX7_sign_0 : decode cX7_sign 0 = .ok (.iload_n 1, 1) := by decide +kernel
theorem dX7_sign_1 : decode cX7_sign 1 = .ok (.invokestatic 233, 3) := by decide +kernel
theorem dX7_sign_4 : decode cX7_sign 4 = .ok (.ifCond .ne 5, 3) := by decide +kernel
theorem dX7_sign_7 : decode cX7_sign 7 = .ok (.iconst (-1), 1) := by decide +kernel
theorem dX7_sign_8 : decode cX7_sign 8 = .ok (.ireturn, 1) := by decide +kernel
theorem dX7_sign_9 : decode cX7_sign 9 = .ok (.iload_n 2, 1) := by decide +kernel
theorem dX7_sign_10 : decode cX7_sign 10 = .ok (.ifCond .lt 8, 3) := by decide +kernel
theorem dX7_sign_13 : decode cX7_sign 13 = .ok (.iload_n 2, 1) := by decide +kernel
theorem dX7_sign_14 : decode cX7_sign 14 = .ok (.iconst 2, 1) := by decide +kernel
theorem dX7_sign_15 : decode cX7_sign 15 = .ok (.if_icmp .lt 6, 3) := by decide +kernel
theorem dX7_sign_18 : decode cX7_sign 18 = .ok (.bipush (-2), 2) := by decide +kernel
theorem dX7_sign_20 : decode cX7_sign 20 = .ok (.ireturn, 1) := by decide +kernel
theorem dX7_sign_21 : decode cX7_sign 21 = .ok (.aload_n 0, 1) := by decide +kernel
theorem dX7_sign_22 : decode cX7_sign 22 = .ok (.getfield 45, 3) := by decide +kernel
theorem dX7_sign_25 : decode cX7_sign 25 = .ok (.getfield 236, 3) := by decide +kernel
theorem dX7_sign_28 : decode cX7_sign 28 = .ok (.iload_n 1, 1) := by decide +kernel
theorem dX7_sign_29 : decode cX7_sign 29 = .ok (.bipush 65, 2) := by decide +kernel
theorem dX7_sign_31 : decode cX7_sign 31 = .ok (.isub, 1) := by decide +kernel
theorem dX7_sign_32 : decode cX7_sign 32 = .ok (.iload_n 2, 1) := by decide +kernel
theorem dX7_sign_33 : decode cX7_sign 33 = .ok (.invokevirtual 230, 3) := by decide +kernel
theorem dX7_sign_36 : decode cX7_sign 36 = .ok (.ireturn, 1) := by decide +kernel
set_option maxRecDepth 20000 in
theorem ggX7_word_X0_hasWord : GoodIn wsX7_word wsX0_hasWord := goodIn_r _ [12, 13, 14, 15, 16, 17, 18, 19, 20, 21, 22, 23, 24, 25, 72, 73, 74, 75, 76, 77, 85, 86, 87, 88, 89] (by decide +kernel) (by decide +kernel)
set_option maxRecDepth 20000 in
theorem gX7_word_X0_hasWord : GoodIn wsX7_word (wsV RX7 123 RX0 yX0_hasWord wsX0_hasWord) := goodIn_app (goodIn_of _ (by decide +kernel)) ggX7_word_X0_hasWord
set_option maxRecDepth 20000 in
theorem ggX7_word_X3_get : GoodIn wsX7_word wsX3_get := goodIn_r _ [29, 25, 30, 88, 89] (by decide +kernel) (by decide +kernel)
set_option maxRecDepth 20000 in
theorem gX7_word_X3_get : GoodIn wsX7_word (wsV RX7 132 RX3 yX3_get wsX3_get) := goodIn_app (goodIn_of _ (by decide +kernel)) ggX7_word_X3_get
set_option maxRecDepth 20000 in
theorem ggX7_word_X4_length : GoodIn wsX7_word wsX4_length := goodIn_r _ [34, 19, 35, 27, 28, 23, 29, 25, 30, 85, 86, 87, 88, 89] (by decide +kernel) (by decide +kernel)
set_option maxRecDepth 20000 in
theorem gX7_word_X4_length : GoodIn wsX7_word (wsV RX7 218 RX4 yX4_length wsX4_length) := goodIn_app (goodIn_of _ (by decide +kernel)) ggX7_word_X4_length
set_option maxRecDepth 20000 in
theorem ggX7_word_X4_countLike : GoodIn wsX7_word wsX4_countLike := goodIn_r _ [39, 19, 20, 21, 22, 23, 24, 25, 40, 41, 42, 17, 43, 35, 27, 28, 29, 30, 44, 45, 46, 47, 48, 49, 85, 86, 87, 88, 89] (by decide +kernel) (by decide +kernel)
set_option maxRecDepth 20000 in
theorem gX7_word_X4_countLike : GoodIn wsX7_word (wsV RX7 242 RX4 yX4_countLike wsX4_countLike) := goodIn_app (goodIn_of _ (by decide +kernel)) ggX7_word_X4_countLike
set_option maxRecDepth 20000 in
theorem ggX7_word_X6_comesBack : GoodIn wsX7_word wsX6_comesBack := goodIn_r _ [54, 55, 56, 57, 58, 17, 59, 40, 41, 42, 43, 19, 35, 27, 28, 23, 29, 25, 30, 44, 45, 46, 47, 48, 49, 78, 79, 80, 81, 82, 83, 84, 85, 86, 87, 88, 89] (by decide +kernel) (by decide +kernel)
set_option maxRecDepth 20000 in
theorem gX7_word_X6_comesBack : GoodIn wsX7_word (wsV RX7 142 RX6 yX6_comesBack wsX6_comesBack) := goodIn_app (goodIn_of _ (by decide +kernel)) ggX7_word_X6_comesBack
theorem dX7_word_0 : decode cX7_word 0 = .ok (.aload_n 0, 1) := by decide +kernel
theorem dX7_word_1 : decode cX7_word 1 = .ok (.getfield 45, 3) := by decide +kernel
theorem dX7_word_4 : decode cX7_word 4 = .ok (.iload_n 1, 1) := by decide +kernel
theorem dX7_word_5 : decode cX7_word 5 = .ok (.invokevirtual 123, 3) := by decide +kernel
theorem dX7_word_8 : decode cX7_word 8 = .ok (.ifCond .ne 5, 3) := by decide +kernel
theorem dX7_word_11 : decode cX7_word 11 = .ok (.iconst (-1), 1) := by decide +kernel
theorem dX7_word_12 : decode cX7_word 12 = .ok (.ireturn, 1) := by decide +kernel
theorem dX7_word_13 : decode cX7_word 13 = .ok (.iload_n 2, 1) := by decide +kernel
theorem dX7_word_14 : decode cX7_word 14 = .ok (.tableswitch 131 0 6 #[42, 54, 66, 78, 90, 102, 119], 42) := by decide +kernel
theorem dX7_word_56 : decode cX7_word 56 = .ok (.aload_n 0, 1) := by decide +kernel
theorem dX7_word_57 : decode cX7_word 57 = .ok (.getfield 45, 3) := by decide +kernel
theorem dX7_word_60 : decode cX7_word 60 = .ok (.getfield 129, 3) := by decide +kernel
theorem dX7_word_63 : decode cX7_word 63 = .ok (.iload_n 1, 1) := by decide +kernel
theorem dX7_word_64 : decode cX7_word 64 = .ok (.invokevirtual 132, 3) := by decide +kernel
theorem dX7_word_67 : decode cX7_word 67 = .ok (.ireturn, 1) := by decide +kernel
theorem dX7_word_68 : decode cX7_word 68 = .ok (.aload_n 0, 1) := by decide +kernel
theorem dX7_word_69 : decode cX7_word 69 = .ok (.getfield 45, 3) := by decide +kernel
theorem dX7_word_72 : decode cX7_word 72 = .ok (.getfield 169, 3) := by decide +kernel
theorem dX7_word_75 : decode cX7_word 75 = .ok (.iload_n 1, 1) := by decide +kernel
theorem dX7_word_76 : decode cX7_word 76 = .ok (.invokevirtual 218, 3) := by decide +kernel
theorem dX7_word_79 : decode cX7_word 79 = .ok (.ireturn, 1) := by decide +kernel
theorem dX7_word_80 : decode cX7_word 80 = .ok (.aload_n 0, 1) := by decide +kernel
theorem dX7_word_81 : decode cX7_word 81 = .ok (.getfield 65, 3) := by decide +kernel
theorem dX7_word_84 : decode cX7_word 84 = .ok (.getfield 239, 3) := by decide +kernel
theorem dX7_word_87 : decode cX7_word 87 = .ok (.iload_n 1, 1) := by decide +kernel
theorem dX7_word_88 : decode cX7_word 88 = .ok (.invokevirtual 218, 3) := by decide +kernel
theorem dX7_word_91 : decode cX7_word 91 = .ok (.ireturn, 1) := by decide +kernel
theorem dX7_word_92 : decode cX7_word 92 = .ok (.aload_n 0, 1) := by decide +kernel
theorem dX7_word_93 : decode cX7_word 93 = .ok (.getfield 65, 3) := by decide +kernel
theorem dX7_word_96 : decode cX7_word 96 = .ok (.getfield 195, 3) := by decide +kernel
theorem dX7_word_99 : decode cX7_word 99 = .ok (.iload_n 1, 1) := by decide +kernel
theorem dX7_word_100 : decode cX7_word 100 = .ok (.invokevirtual 218, 3) := by decide +kernel
theorem dX7_word_103 : decode cX7_word 103 = .ok (.ireturn, 1) := by decide +kernel
theorem dX7_word_104 : decode cX7_word 104 = .ok (.aload_n 0, 1) := by decide +kernel
theorem dX7_word_105 : decode cX7_word 105 = .ok (.getfield 65, 3) := by decide +kernel
theorem dX7_word_108 : decode cX7_word 108 = .ok (.getfield 195, 3) := by decide +kernel
theorem dX7_word_111 : decode cX7_word 111 = .ok (.iload_n 1, 1) := by decide +kernel
theorem dX7_word_112 : decode cX7_word 112 = .ok (.invokevirtual 242, 3) := by decide +kernel
theorem dX7_word_115 : decode cX7_word 115 = .ok (.ireturn, 1) := by decide +kernel
theorem dX7_word_116 : decode cX7_word 116 = .ok (.aload_n 0, 1) := by decide +kernel
theorem dX7_word_117 : decode cX7_word 117 = .ok (.getfield 65, 3) := by decide +kernel
theorem dX7_word_120 : decode cX7_word 120 = .ok (.iload_n 1, 1) := by decide +kernel
theorem dX7_word_121 : decode cX7_word 121 = .ok (.invokevirtual 142, 3) := by decide +kernel
theorem dX7_word_124 : decode cX7_word 124 = .ok (.ifCond .eq 7, 3) := by decide +kernel
theorem dX7_word_127 : decode cX7_word 127 = .ok (.iconst 1, 1) := by decide +kernel
theorem dX7_word_128 : decode cX7_word 128 = .ok (.goto 4, 3) := by decide +kernel
theorem dX7_word_131 : decode cX7_word 131 = .ok (.iconst 0, 1) := by decide +kernel
theorem dX7_word_132 : decode cX7_word 132 = .ok (.ireturn, 1) := by decide +kernel
theorem dX7_word_133 : decode cX7_word 133 = .ok (.aload_n 0, 1) := by decide +kernel
theorem dX7_word_134 : decode cX7_word 134 = .ok (.getfield 65, 3) := by decide +kernel
theorem dX7_word_137 : decode cX7_word 137 = .ok (.getfield 245, 3) := by decide +kernel
theorem dX7_word_140 : decode cX7_word 140 = .ok (.iload_n 1, 1) := by decide +kernel
theorem dX7_word_141 : decode cX7_word 141 = .ok (.invokevirtual 132, 3) := by decide +kernel
theorem dX7_word_144 : decode cX7_word 144 = .ok (.ireturn, 1) := by decide +kernel
theorem dX7_word_145 : decode cX7_word 145 = .ok (.bipush (-2), 2) := by decide +kernel
theorem dX7_word_147 : decode cX7_word 147 = .ok (.ireturn, 1) := by decide +kernel
set_option maxRecDepth 20000 in
theorem ggX7_at_X0_hasWord : GoodIn wsX7_at wsX0_hasWord := goodIn_r _ [11, 12, 13, 14, 15, 16, 17, 18, 19, 20, 21, 22, 23, 24, 48, 49, 50, 51, 52, 53, 61, 62, 63, 64, 65] (by decide +kernel) (by decide +kernel)
set_option maxRecDepth 20000 in
theorem gX7_at_X0_hasWord : GoodIn wsX7_at (wsV RX7 123 RX0 yX0_hasWord wsX0_hasWord) := goodIn_app (goodIn_of _ (by decide +kernel)) ggX7_at_X0_hasWord
set_option maxRecDepth 20000 in
theorem ggX7_at_X4_get : GoodIn wsX7_at wsX4_get := goodIn_r _ [28, 18, 29, 30, 31, 32, 33, 22, 34, 24, 35, 61, 62, 63, 64, 65] (by decide +kernel) (by decide +kernel)
set_option maxRecDepth 20000 in
theorem gX7_at_X4_get : GoodIn wsX7_at (wsV RX7 230 RX4 yX4_get wsX4_get) := goodIn_app (goodIn_of _ (by decide +kernel)) ggX7_at_X4_get
theorem dX7_at_0 : decode cX7_at 0 = .ok (.aload_n 0, 1) := by decide +kernel
theorem dX7_at_1 : decode cX7_at 1 = .ok (.getfield 45, 3) := by decide +kernel
theorem dX7_at_4 : decode cX7_at 4 = .ok (.iload_n 1, 1) := by decide +kernel
theorem dX7_at_5 : decode cX7_at 5 = .ok (.invokevirtual 123, 3) := by decide +kernel
theorem dX7_at_8 : decode cX7_at 8 = .ok (.ifCond .ne 5, 3) := by decide +kernel
theorem dX7_at_11 : decode cX7_at 11 = .ok (.iconst (-1), 1) := by decide +kernel
theorem dX7_at_12 : decode cX7_at 12 = .ok (.ireturn, 1) := by decide +kernel
theorem dX7_at_13 : decode cX7_at 13 = .ok (.iload_n 3, 1) := by decide +kernel
theorem dX7_at_14 : decode cX7_at 14 = .ok (.ifCond .ge 6, 3) := by decide +kernel
theorem dX7_at_17 : decode cX7_at 17 = .ok (.bipush (-2), 2) := by decide +kernel
theorem dX7_at_19 : decode cX7_at 19 = .ok (.ireturn, 1) := by decide +kernel
theorem dX7_at_20 : decode cX7_at 20 = .ok (.iload_n 2, 1) := by decide +kernel
theorem dX7_at_21 : decode cX7_at 21 = .ok (.tableswitch 83 0 3 #[31, 44, 57, 70], 31) := by decide +kernel
theorem dX7_at_52 : decode cX7_at 52 = .ok (.aload_n 0, 1) := by decide +kernel
theorem dX7_at_53 : decode cX7_at 53 = .ok (.getfield 45, 3) := by decide +kernel
theorem dX7_at_56 : decode cX7_at 56 = .ok (.getfield 169, 3) := by decide +kernel
theorem dX7_at_59 : decode cX7_at 59 = .ok (.iload_n 1, 1) := by decide +kernel
theorem dX7_at_60 : decode cX7_at 60 = .ok (.iload_n 3, 1) := by decide +kernel
theorem dX7_at_61 : decode cX7_at 61 = .ok (.invokevirtual 230, 3) := by decide +kernel
theorem dX7_at_64 : decode cX7_at 64 = .ok (.ireturn, 1) := by decide +kernel
theorem dX7_at_65 : decode cX7_at 65 = .ok (.aload_n 0, 1) := by decide +kernel
theorem dX7_at_66 : decode cX7_at 66 = .ok (.getfield 65, 3) := by decide +kernel
theorem dX7_at_69 : decode cX7_at 69 = .ok (.getfield 239, 3) := by decide +kernel
theorem dX7_at_72 : decode cX7_at 72 = .ok (.iload_n 1, 1) := by decide +kernel
theorem dX7_at_73 : decode cX7_at 73 = .ok (.iload_n 3, 1) := by decide +kernel
theorem dX7_at_74 : decode cX7_at 74 = .ok (.invokevirtual 230, 3) := by decide +kernel
theorem dX7_at_77 : decode cX7_at 77 = .ok (.ireturn, 1) := by decide +kernel
theorem dX7_at_78 : decode cX7_at 78 = .ok (.aload_n 0, 1) := by decide +kernel
theorem dX7_at_79 : decode cX7_at 79 = .ok (.getfield 65, 3) := by decide +kernel
theorem dX7_at_82 : decode cX7_at 82 = .ok (.getfield 195, 3) := by decide +kernel
theorem dX7_at_85 : decode cX7_at 85 = .ok (.iload_n 1, 1) := by decide +kernel
theorem dX7_at_86 : decode cX7_at 86 = .ok (.iload_n 3, 1) := by decide +kernel
theorem dX7_at_87 : decode cX7_at 87 = .ok (.invokevirtual 230, 3) := by decide +kernel
theorem dX7_at_90 : decode cX7_at 90 = .ok (.ireturn, 1) := by decide +kernel
theorem dX7_at_91 : decode cX7_at 91 = .ok (.aload_n 0, 1) := by decide +kernel
theorem dX7_at_92 : decode cX7_at 92 = .ok (.getfield 65, 3) := by decide +kernel
theorem dX7_at_95 : decode cX7_at 95 = .ok (.getfield 248, 3) := by decide +kernel
theorem dX7_at_98 : decode cX7_at 98 = .ok (.iload_n 1, 1) := by decide +kernel
theorem dX7_at_99 : decode cX7_at 99 = .ok (.iload_n 3, 1) := by decide +kernel
theorem dX7_at_100 : decode cX7_at 100 = .ok (.invokevirtual 230, 3) := by decide +kernel
theorem dX7_at_103 : decode cX7_at 103 = .ok (.ireturn, 1) := by decide +kernel
theorem dX7_at_104 : decode cX7_at 104 = .ok (.bipush (-2), 2) := by decide +kernel
theorem dX7_at_106 : decode cX7_at 106 = .ok (.ireturn, 1) := by decide +kernel
set_option maxRecDepth 20000 in
theorem ggX7_result_X3_get : GoodIn wsX7_result wsX3_get := goodIn_r _ [6, 7, 8, 21, 22] (by decide +kernel) (by decide +kernel)
set_option maxRecDepth 20000 in
theorem gX7_result_X3_get : GoodIn wsX7_result (wsV RX7 132 RX3 yX3_get wsX3_get) := goodIn_app (goodIn_of _ (by decide +kernel)) ggX7_result_X3_get
theorem dX7_result_0 : decode cX7_result 0 = .ok (.iload_n 1, 1) := by decide +kernel
theorem dX7_result_1 : decode cX7_result 1 = .ok (.ifCond .ge 8, 3) := by decide +kernel
theorem dX7_result_4 : decode cX7_result 4 = .ok (.bipush (-2), 2) := by decide +kernel
theorem dX7_result_6 : decode cX7_result 6 = .ok (.goto 11, 3) := by decide +kernel
theorem dX7_result_9 : decode cX7_result 9 = .ok (.aload_n 0, 1) := by decide +kernel
theorem dX7_result_10 : decode cX7_result 10 = .ok (.getfield 18, 3) := by decide +kernel
theorem dX7_result_13 : decode cX7_result 13 = .ok (.iload_n 1, 1) := by decide +kernel
theorem dX7_result_14 : decode cX7_result 14 = .ok (.invokevirtual 132, 3) := by decide +kernel
theorem dX7_result_17 : decode cX7_result 17 = .ok (.ireturn, 1) := by decide +kernel
set_option maxRecDepth 20000 in
theorem ggX7_collideWith_X7_isCapital : GoodIn wsX7_collideWith wsX7_isCapital := goodIn_r _ [8] (by decide +kernel) (by decide +kernel)
set_option maxRecDepth 20000 in
theorem gX7_collideWith_X7_isCapital : GoodIn wsX7_collideWith (va_wsS RX7 233 yX7_isCapital wsX7_isCapital) := goodIn_app (goodIn_of _ (by decide +kernel)) ggX7_collideWith_X7_isCapital
set_option maxRecDepth 20000 in
theorem ggX7_collideWith_X7_isSmall : GoodIn wsX7_collideWith wsX7_isSmall := goodIn_r _ [11] (by decide +kernel) (by decide +kernel)
set_option maxRecDepth 20000 in
theorem gX7_collideWith_X7_isSmall : GoodIn wsX7_collideWith (va_wsS RX7 251 yX7_isSmall wsX7_isSmall) := goodIn_app (goodIn_of _ (by decide +kernel)) ggX7_collideWith_X7_isSmall
set_option maxRecDepth 20000 in
theorem ggX7_collideWith_X0_copyFrom : GoodIn wsX7_collideWith wsX0_copyFrom := goodIn_r _ [16, 17, 18, 19, 20, 21, 22, 23, 24, 25, 26, 27, 28, 29, 30, 31, 32, 33, 34, 35, 36, 37, 38, 39, 40, 41, 42, 43, 44, 45, 46, 47, 48, 49, 50, 51, 52, 53, 54, 55, 56, 57, 58, 59, 60, 61, 62, 63, 222, 223, 224, 225, 226, 227, 228, 229, 230, 231, 232] (by decide +kernel) (by decide +kernel)
set_option maxRecDepth 20000 in
theorem gX7_collideWith_X0_copyFrom : GoodIn wsX7_collideWith (wsV RX7 72 RX0 yX0_copyFrom wsX0_copyFrom) := goodIn_app (goodIn_of _ (by decide +kernel)) ggX7_collideWith_X0_copyFrom
set_option maxRecDepth 20000 in
theorem ggX7_collideWith_X4_putOne : GoodIn wsX7_collideWith wsX4_putOne := goodIn_r _ [67, 29, 28, 30, 68, 69, 70, 26, 71, 54, 55, 56, 34, 57, 40, 59, 60, 61, 62, 49, 228, 229, 230, 231, 232] (by decide +kernel) (by decide +kernel)
set_option maxRecDepth 20000 in
theorem gX7_collideWith_X4_putOne : GoodIn wsX7_collideWith (wsV RX7 254 RX4 yX4_putOne wsX4_putOne) := goodIn_app (goodIn_of _ (by decide +kernel)) ggX7_collideWith_X4_putOne
set_option maxRecDepth 20000 in
theorem ggX7_collideWith_X6_renew : GoodIn wsX7_collideWith wsX6_renew := goodIn_r _ [76, 77, 78, 79, 80, 81, 82, 83, 84, 85, 86, 87, 88, 89, 90, 91, 92, 26, 93, 28, 94, 37, 38, 34, 39, 40, 95, 96, 97, 98, 15, 99, 17, 100, 101, 102, 103, 54, 55, 56, 57, 104, 105, 106, 107, 50, 51, 52, 53, 49, 108, 109, 110, 111, 21, 112, 113, 114, 115, 58, 46, 47, 48, 116, 117, 118, 119, 30, 29, 120, 121, 122, 123, 124, 125, 126, 127, 128, 129, 130, 131, 132, 133, 134, 135, 136, 137, 138, 139, 140, 141, 142, 143, 144, 145, 146, 147, 148, 149, 7, 150, 151, 152, 153, 154, 155, 156, 157, 158, 159, 160, 161, 162, 163, 164, 165, 166, 167, 168, 6, 8, 169, 42, 43, 44, 45, 170, 171, 172, 173, 174, 175, 176, 177, 178, 179, 180, 181, 182, 183, 184, 185, 68, 69, 70, 71, 59, 60, 61, 62, 186, 187, 188, 189, 190, 75, 191, 192, 193, 194, 195, 196, 233, 234, 235, 236, 237, 238, 239, 222, 223, 224, 225, 226, 227, 240, 241, 242, 243, 228, 229, 230, 231, 232] (by decide +kernel) (by decide +kernel)
set_option maxRecDepth 20000 in
theorem gX7_collideWith_X6_renew : GoodIn wsX7_collideWith (wsV RX7 107 RX6 yX6_renew wsX6_renew) := goodIn_app (goodIn_of _ (by decide +kernel)) ggX7_collideWith_X6_renew
set_option maxRecDepth 20000 in
theorem ggX7_collideWith_X6_collisions : GoodIn wsX7_collideWith wsX6_collisions := goodIn_r _ [200, 79, 201, 101, 102, 26, 103, 28, 54, 55, 56, 34, 57, 40, 202, 203, 204, 205, 206, 207, 208, 209, 58, 46, 47, 48, 49, 116, 117, 118, 119, 30, 29, 233, 234, 235, 236, 237, 238, 239, 228, 229, 230, 231, 232] (by decide +kernel) (by decide +kernel)
set_option maxRecDepth 20000 in
theorem gX7_collideWith_X6_collisions : GoodIn wsX7_collideWith (wsV RX7 257 RX6 yX6_collisions wsX6_collisions) := goodIn_app (goodIn_of _ (by decide +kernel)) ggX7_collideWith_X6_collisions
theorem dX7_collideWith_0 : decode cX7_collideWith 0 = .ok (.iload_n 1, 1) := by decide +kernel
theorem dX7_collideWith_1 : decode cX7_collideWith 1 = .ok (.invokestatic 233, 3) := by decide +kernel
theorem dX7_collideWith_4 : decode cX7_collideWith 4 = .ok (.ifCond .ne 5, 3) := by decide +kernel
theorem dX7_collideWith_7 : decode cX7_collideWith 7 = .ok (.iconst (-1), 1) := by decide +kernel
theorem dX7_collideWith_8 : decode cX7_collideWith 8 = .ok (.ireturn, 1) := by decide +kernel
theorem dX7_collideWith_9 : decode cX7_collideWith 9 = .ok (.iload_n 2, 1) := by decide +kernel
theorem dX7_collideWith_10 : decode cX7_collideWith 10 = .ok (.invokestatic 251, 3) := by decide +kernel
theorem dX7_collideWith_13 : decode cX7_collideWith 13 = .ok (.ifCond .ne 6, 3) := by decide +kernel
theorem dX7_collideWith_16 : decode cX7_collideWith 16 = .ok (.bipush (-2), 2) := by decide +kernel
theorem dX7_collideWith_18 : decode cX7_collideWith 18 = .ok (.ireturn, 1) := by decide +kernel
theorem dX7_collideWith_19 : decode cX7_collideWith 19 = .ok (.aload_n 0, 1) := by decide +kernel
theorem dX7_collideWith_20 : decode cX7_collideWith 20 = .ok (.getfield 49, 3) := by decide +kernel
theorem dX7_collideWith_23 : decode cX7_collideWith 23 = .ok (.aload_n 0, 1) := by decide +kernel
theorem dX7_collideWith_24 : decode cX7_collideWith 24 = .ok (.getfield 45, 3) := by decide +kernel
theorem dX7_collideWith_27 : decode cX7_collideWith 27 = .ok (.invokevirtual 72, 3) := by decide +kernel
theorem dX7_collideWith_30 : decode cX7_collideWith 30 = .ok (.aload_n 0, 1) := by decide +kernel
theorem dX7_collideWith_31 : decode cX7_collideWith 31 = .ok (.getfield 49, 3) := by decide +kernel
theorem dX7_collideWith_34 : decode cX7_collideWith 34 = .ok (.getfield 236, 3) := by decide +kernel
theorem dX7_collideWith_37 : decode cX7_collideWith 37 = .ok (.iload_n 1, 1) := by decide +kernel
theorem dX7_collideWith_38 : decode cX7_collideWith 38 = .ok (.bipush 65, 2) := by decide +kernel
theorem dX7_collideWith_40 : decode cX7_collideWith 40 = .ok (.isub, 1) := by decide +kernel
theorem dX7_collideWith_41 : decode cX7_collideWith 41 = .ok (.iload_n 2, 1) := by decide +kernel
theorem dX7_collideWith_42 : decode cX7_collideWith 42 = .ok (.invokevirtual 254, 3) := by decide +kernel
theorem dX7_collideWith_45 : decode cX7_collideWith 45 = .ok (.aload_n 0, 1) := by decide +kernel
theorem dX7_collideWith_46 : decode cX7_collideWith 46 = .ok (.getfield 69, 3) := by decide +kernel
theorem dX7_collideWith_49 : decode cX7_collideWith 49 = .ok (.aload_n 0, 1) := by decide +kernel
theorem dX7_collideWith_50 : decode cX7_collideWith 50 = .ok (.getfield 49, 3) := by decide +kernel
theorem dX7_collideWith_53 : decode cX7_collideWith 53 = .ok (.invokevirtual 107, 3) := by decide +kernel
theorem dX7_collideWith_56 : decode cX7_collideWith 56 = .ok (.aload_n 0, 1) := by decide +kernel
theorem dX7_collideWith_57 : decode cX7_collideWith 57 = .ok (.getfield 69, 3) := by decide +kernel
theorem dX7_collideWith_60 : decode cX7_collideWith 60 = .ok (.invokevirtual 257, 3) := by decide +kernel
theorem dX7_collideWith_63 : decode cX7_collideWith 63 = .ok (.ireturn, 1) := by decide +kernel
set_option maxRecDepth 20000 in
theorem ggX7_count_X0_rules : GoodIn wsX7_count wsX0_rules := goodIn_r _ [12, 13, 14, 15, 16, 17, 18, 19, 20, 21, 22, 23, 24, 25, 108, 109, 110, 111, 112, 113, 121, 122, 123, 124, 125] (by decide +kernel) (by decide +kernel)
set_option maxRecDepth 20000 in
theorem gX7_count_X0_rules : GoodIn wsX7_count (wsV RX7 98 RX0 yX0_rules wsX0_rules) := goodIn_app (goodIn_of _ (by decide +kernel)) ggX7_count_X0_rules
set_option maxRecDepth 20000 in
theorem ggX7_count_X0_words : GoodIn wsX7_count wsX0_words := goodIn_r _ [29, 30, 14, 15, 16, 17, 18, 19, 20, 21, 22, 23, 24, 25, 108, 109, 110, 111, 112, 113, 121, 122, 123, 124, 125] (by decide +kernel) (by decide +kernel)
set_option maxRecDepth 20000 in
theorem gX7_count_X0_words : GoodIn wsX7_count (wsV RX7 101 RX0 yX0_words wsX0_words) := goodIn_app (goodIn_of _ (by decide +kernel)) ggX7_count_X0_words
set_option maxRecDepth 20000 in
theorem ggX7_count_X6_collisions : GoodIn wsX7_count wsX6_collisions := goodIn_r _ [35, 36, 37, 15, 16, 17, 18, 19, 20, 21, 22, 23, 24, 25, 38, 39, 40, 41, 42, 43, 44, 45, 46, 47, 48, 49, 50, 51, 52, 53, 54, 55, 56, 114, 115, 116, 117, 118, 119, 120, 121, 122, 123, 124, 125] (by decide +kernel) (by decide +kernel)
set_option maxRecDepth 20000 in
theorem gX7_count_X6_collisions : GoodIn wsX7_count (wsV RX7 257 RX6 yX6_collisions wsX6_collisions) := goodIn_app (goodIn_of _ (by decide +kernel)) ggX7_count_X6_collisions
set_option maxRecDepth 20000 in
theorem ggX7_count_X6_comingBack : GoodIn wsX7_count wsX6_comingBack := goodIn_r _ [60, 36, 37, 15, 16, 17, 18, 19, 20, 21, 22, 23, 24, 25, 61, 62, 63, 34, 64, 65, 66, 67, 68, 42, 43, 44, 45, 46, 47, 48, 49, 50, 51, 52, 53, 54, 55, 56, 114, 115, 116, 117, 118, 119, 120, 121, 122, 123, 124, 125] (by decide +kernel) (by decide +kernel)
set_option maxRecDepth 20000 in
theorem gX7_count_X6_comingBack : GoodIn wsX7_count (wsV RX7 260 RX6 yX6_comingBack wsX6_comingBack) := goodIn_app (goodIn_of _ (by decide +kernel)) ggX7_count_X6_comingBack
set_option maxRecDepth 20000 in
theorem ggX7_count_X6_unusedRules : GoodIn wsX7_count wsX6_unusedRules := goodIn_r _ [72, 73, 74, 21, 22, 23, 24, 25, 75, 47, 48, 49, 50, 114, 115, 116, 117, 118, 119, 120, 124, 125] (by decide +kernel) (by decide +kernel)
set_option maxRecDepth 20000 in
theorem gX7_count_X6_unusedRules : GoodIn wsX7_count (wsV RX7 263 RX6 yX6_unusedRules wsX6_unusedRules) := goodIn_app (goodIn_of _ (by decide +kernel)) ggX7_count_X6_unusedRules
set_option maxRecDepth 20000 in
theorem ggX7_count_X4_wholeLength : GoodIn wsX7_count wsX4_wholeLength := goodIn_r _ [79, 19, 20, 21, 22, 23, 24, 25, 46, 47, 48, 49, 50, 121, 122, 123, 124, 125] (by decide +kernel) (by decide +kernel)
set_option maxRecDepth 20000 in
theorem gX7_count_X4_wholeLength : GoodIn wsX7_count (wsV RX7 266 RX4 yX4_wholeLength wsX4_wholeLength) := goodIn_app (goodIn_of _ (by decide +kernel)) ggX7_count_X4_wholeLength
set_option maxRecDepth 20000 in
theorem ggX7_count_X3_size : GoodIn wsX7_count wsX3_size := goodIn_r _ [24, 25, 124, 125] (by decide +kernel) (by decide +kernel)
set_option maxRecDepth 20000 in
theorem gX7_count_X3_size : GoodIn wsX7_count (wsV RX7 151 RX3 yX3_size wsX3_size) := goodIn_app (goodIn_of _ (by decide +kernel)) ggX7_count_X3_size
set_option maxRecDepth 20000 in
theorem ggX7_count_X1_states : GoodIn wsX7_count wsX1_states := goodIn_r _ [85, 86, 126, 127] (by decide +kernel) (by decide +kernel)
set_option maxRecDepth 20000 in
theorem gX7_count_X1_states : GoodIn wsX7_count (wsV RX7 205 RX1 yX1_states wsX1_states) := goodIn_app (goodIn_of _ (by decide +kernel)) ggX7_count_X1_states
set_option maxRecDepth 20000 in
theorem ggX7_count_X0_longSigns : GoodIn wsX7_count wsX0_longSigns := goodIn_r _ [90, 91, 14, 15, 16, 17, 18, 19, 20, 21, 22, 23, 24, 25, 92, 93, 94, 95, 46, 47, 48, 49, 50, 108, 109, 110, 111, 112, 113, 121, 122, 123, 124, 125] (by decide +kernel) (by decide +kernel)
set_option maxRecDepth 20000 in
theorem gX7_count_X0_longSigns : GoodIn wsX7_count (wsV RX7 269 RX0 yX0_longSigns wsX0_longSigns) := goodIn_app (goodIn_of _ (by decide +kernel)) ggX7_count_X0_longSigns
theorem dX7_count_0 : decode cX7_count 0 = .ok (.iload_n 1, 1) := by decide +kernel
theorem dX7_count_1 : decode cX7_count 1 = .ok (.tableswitch 153 0 10 #[59, 67, 75, 83, 91, 99, 110, 121, 129, 137, 145], 59) := by decide +kernel
theorem dX7_count_60 : decode cX7_count 60 = .ok (.aload_n 0, 1) := by decide +kernel
theorem dX7_count_61 : decode cX7_count 61 = .ok (.getfield 45, 3) := by decide +kernel
theorem dX7_count_64 : decode cX7_count 64 = .ok (.invokevirtual 98, 3) := by decide +kernel
theorem dX7_count_67 : decode cX7_count 67 = .ok (.ireturn, 1) := by decide +kernel
theorem dX7_count_68 : decode cX7_count 68 = .ok (.aload_n 0, 1) := by decide +kernel
theorem dX7_count_69 : decode cX7_count 69 = .ok (.getfield 45, 3) := by decide +kernel
theorem dX7_count_72 : decode cX7_count 72 = .ok (.invokevirtual 101, 3) := by decide +kernel
theorem dX7_count_75 : decode cX7_count 75 = .ok (.ireturn, 1) := by decide +kernel
theorem dX7_count_76 : decode cX7_count 76 = .ok (.aload_n 0, 1) := by decide +kernel
theorem dX7_count_77 : decode cX7_count 77 = .ok (.getfield 65, 3) := by decide +kernel
theorem dX7_count_80 : decode cX7_count 80 = .ok (.invokevirtual 257, 3) := by decide +kernel
theorem dX7_count_83 : decode cX7_count 83 = .ok (.ireturn, 1) := by decide +kernel
theorem dX7_count_84 : decode cX7_count 84 = .ok (.aload_n 0, 1) := by decide +kernel
theorem dX7_count_85 : decode cX7_count 85 = .ok (.getfield 65, 3) := by decide +kernel
theorem dX7_count_88 : decode cX7_count 88 = .ok (.invokevirtual 260, 3) := by decide +kernel
theorem dX7_count_91 : decode cX7_count 91 = .ok (.ireturn, 1) := by decide +kernel
theorem dX7_count_92 : decode cX7_count 92 = .ok (.aload_n 0, 1) := by decide +kernel
theorem dX7_count_93 : decode cX7_count 93 = .ok (.getfield 65, 3) := by decide +kernel
theorem dX7_count_96 : decode cX7_count 96 = .ok (.invokevirtual 263, 3) := by decide +kernel
theorem dX7_count_99 : decode cX7_count 99 = .ok (.ireturn, 1) := by decide +kernel
theorem dX7_count_100 : decode cX7_count 100 = .ok (.aload_n 0, 1) := by decide +kernel
theorem dX7_count_101 : decode cX7_count 101 = .ok (.getfield 45, 3) := by decide +kernel
theorem dX7_count_104 : decode cX7_count 104 = .ok (.getfield 169, 3) := by decide +kernel
theorem dX7_count_107 : decode cX7_count 107 = .ok (.invokevirtual 266, 3) := by decide +kernel
theorem dX7_count_110 : decode cX7_count 110 = .ok (.ireturn, 1) := by decide +kernel
theorem dX7_count_111 : decode cX7_count 111 = .ok (.aload_n 0, 1) := by decide +kernel
theorem dX7_count_112 : decode cX7_count 112 = .ok (.getfield 65, 3) := by decide +kernel
theorem dX7_count_115 : decode cX7_count 115 = .ok (.getfield 195, 3) := by decide +kernel
theorem dX7_count_118 : decode cX7_count 118 = .ok (.invokevirtual 266, 3) := by decide +kernel
theorem dX7_count_121 : decode cX7_count 121 = .ok (.ireturn, 1) := by decide +kernel
theorem dX7_count_122 : decode cX7_count 122 = .ok (.aload_n 0, 1) := by decide +kernel
theorem dX7_count_123 : decode cX7_count 123 = .ok (.getfield 18, 3) := by decide +kernel
theorem dX7_count_126 : decode cX7_count 126 = .ok (.invokevirtual 151, 3) := by decide +kernel
theorem dX7_count_129 : decode cX7_count 129 = .ok (.ireturn, 1) := by decide +kernel
theorem dX7_count_130 : decode cX7_count 130 = .ok (.aload_n 0, 1) := by decide +kernel
theorem dX7_count_131 : decode cX7_count 131 = .ok (.getfield 58, 3) := by decide +kernel
theorem dX7_count_134 : decode cX7_count 134 = .ok (.invokevirtual 205, 3) := by decide +kernel
theorem dX7_count_137 : decode cX7_count 137 = .ok (.ireturn, 1) := by decide +kernel
theorem dX7_count_138 : decode cX7_count 138 = .ok (.aload_n 0, 1) := by decide +kernel
theorem dX7_count_139 : decode cX7_count 139 = .ok (.getfield 14, 3) := by decide +kernel
theorem dX7_count_142 : decode cX7_count 142 = .ok (.invokevirtual 151, 3) := by decide +kernel
theorem dX7_count_145 : decode cX7_count 145 = .ok (.ireturn, 1) := by decide +kernel
theorem dX7_count_146 : decode cX7_count 146 = .ok (.aload_n 0, 1) := by decide +kernel
theorem dX7_count_147 : decode cX7_count 147 = .ok (.getfield 45, 3) := by decide +kernel
theorem dX7_count_150 : decode cX7_count 150 = .ok (.invokevirtual 269, 3) := by decide +kernel
theorem dX7_count_153 : decode cX7_count 153 = .ok (.ireturn, 1) := by decide +kernel
theorem dX7_count_154 : decode cX7_count 154 = .ok (.bipush (-2), 2) := by decide +kernel
theorem dX7_count_156 : decode cX7_count 156 = .ok (.ireturn, 1) := by decide +kernel
theorem dX7_isSmall_0 : decode cX7_isSmall 0 = .ok (.iload_n 0, 1) := by decide +kernel
theorem dX7_isSmall_1 : decode cX7_isSmall 1 = .ok (.bipush 97, 2) := by decide +kernel
theorem dX7_isSmall_3 : decode cX7_isSmall 3 = .ok (.if_icmp .lt 13, 3) := by decide +kernel
theorem dX7_isSmall_6 : decode cX7_isSmall 6 = .ok (.iload_n 0, 1) := by decide +kernel
theorem dX7_isSmall_7 : decode cX7_isSmall 7 = .ok (.bipush 122, 2) := by decide +kernel
theorem dX7_isSmall_9 : decode cX7_isSmall 9 = .ok (.if_icmp .gt 7, 3) := by decide +kernel
theorem dX7_isSmall_12 : decode cX7_isSmall 12 = .ok (.iconst 1, 1) := by decide +kernel
theorem dX7_isSmall_13 : decode cX7_isSmall 13 = .ok (.goto 4, 3) := by decide +kernel
theorem dX7_isSmall_16 : decode cX7_isSmall 16 = .ok (.iconst 0, 1) := by decide +kernel
theorem dX7_isSmall_17 : decode cX7_isSmall 17 = .ok (.ireturn, 1) := by decide +kernel
theorem dX7_isCapital_0 : decode cX7_isCapital 0 = .ok (.iload_n 0, 1) := by decide +kernel
theorem dX7_isCapital_1 : decode cX7_isCapital 1 = .ok (.bipush 65, 2) := by decide +kernel
theorem dX7_isCapital_3 : decode cX7_isCapital 3 = .ok (.if_icmp .lt 13, 3) := by decide +kernel
theorem dX7_isCapital_6 : decode cX7_isCapital 6 = .ok (.iload_n 0, 1) := by decide +kernel
theorem dX7_isCapital_7 : decode cX7_isCapital 7 = .ok (.bipush 90, 2) := by decide +kernel
theorem dX7_isCapital_9 : decode cX7_isCapital 9 = .ok (.if_icmp .gt 7, 3) := by decide +kernel
theorem dX7_isCapital_12 : decode cX7_isCapital 12 = .ok (.iconst 1, 1) := by decide +kernel
theorem dX7_isCapital_13 : decode cX7_isCapital 13 = .ok (.goto 4, 3) := by decide +kernel
theorem dX7_isCapital_16 : decode cX7_isCapital 16 = .ok (.iconst 0, 1) := by decide +kernel
theorem dX7_isCapital_17 : decode cX7_isCapital 17 = .ok (.ireturn, 1) := by decide +kernel
theorem dX7_isVowel_0 : decode cX7_isVowel 0 = .ok (.iload_n 0, 1) := by decide +kernel
theorem dX7_isVowel_1 : decode cX7_isVowel 1 = .ok (.lookupswitch 53 #[(97, 51), (101, 51), (105, 51), (111, 51), (117, 51)], 51) := by decide +kernel
theorem dX7_isVowel_52 : decode cX7_isVowel 52 = .ok (.iconst 1, 1) := by decide +kernel
theorem dX7_isVowel_53 : decode cX7_isVowel 53 = .ok (.ireturn, 1) := by decide +kernel
theorem dX7_isVowel_54 : decode cX7_isVowel 54 = .ok (.iconst 0, 1) := by decide +kernel
theorem dX7_isVowel_55 : decode cX7_isVowel 55 = .ok (.ireturn, 1) := by decide +kernel
