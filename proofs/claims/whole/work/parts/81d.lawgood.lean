set_option maxRecDepth 20000 in
theorem ggL_law_X8_letterOf : GoodIn wsL_law wsX8_letterOf := goodIn_r _ [816, 164, 527, 528, 529, 5, 530, 424, 425, 426, 461, 462, 463, 941, 942, 943, 944, 945, 946, 947, 948, 949, 950, 951, 952, 953, 954, 955, 956, 957, 958, 959, 960, 961, 962, 963, 964, 965, 966, 967, 968] (by decide +kernel) (by decide +kernel)
set_option maxRecDepth 20000 in
theorem gL_law_X8_letterOf : GoodIn wsL_law (wsV RL 77 RX8 yX8_letterOf wsX8_letterOf) := goodIn_app (goodIn_of _ (by decide +kernel)) ggL_law_X8_letterOf
set_option maxRecDepth 20000 in
theorem ggL_law_X7_sign : GoodIn wsL_law wsX7_sign := goodIn_r _ [820, 29, 821, 822, 232, 2, 233, 812, 285, 286, 74, 287, 89, 88, 86, 134, 135, 136, 14, 137, 99, 50, 929, 930, 931, 932, 933, 934, 935, 936, 937, 938, 939, 940, 982, 983, 984, 985, 986, 987, 997, 998, 999, 969, 970] (by decide +kernel) (by decide +kernel)
set_option maxRecDepth 20000 in
theorem gL_law_X7_sign : GoodIn wsL_law (wsV RL 78 RX7 yX7_sign wsX7_sign) := goodIn_app (goodIn_of _ (by decide +kernel)) ggL_law_X7_sign
set_option maxRecDepth 20000 in
theorem ggL_law_X8_sign : GoodIn wsL_law wsX8_sign := goodIn_r _ [826, 573, 574, 164, 424, 425, 5, 426, 941, 942, 943, 944, 945, 946, 947, 948, 949, 950, 951, 952, 953, 954, 955, 956, 957, 958, 959, 960, 961, 962, 963, 964, 965, 966, 967, 968] (by decide +kernel) (by decide +kernel)
set_option maxRecDepth 20000 in
theorem gL_law_X8_sign : GoodIn wsL_law (wsV RL 82 RX8 yX8_sign wsX8_sign) := goodIn_app (goodIn_of _ (by decide +kernel)) ggL_law_X8_sign
set_option maxRecDepth 20000 in
theorem ggL_law_X7_word : GoodIn wsL_law wsX7_word := goodIn_r _ [830, 29, 635, 703, 39, 831, 702, 832, 615, 616, 617, 28, 618, 80, 488, 127, 128, 74, 129, 89, 115, 116, 117, 14, 118, 99, 636, 135, 136, 137, 50, 795, 356, 357, 358, 134, 833, 834, 835, 836, 659, 551, 552, 553, 284, 285, 286, 287, 88, 86, 651, 652, 653, 38, 654, 151, 655, 656, 657, 658, 929, 930, 931, 932, 933, 934, 935, 936, 937, 938, 939, 940, 982, 983, 984, 985, 986, 987, 990, 991, 992, 993, 994, 995, 996, 997, 998, 999, 969, 970] (by decide +kernel) (by decide +kernel)
set_option maxRecDepth 20000 in
theorem gL_law_X7_word : GoodIn wsL_law (wsV RL 83 RX7 yX7_word wsX7_word) := goodIn_app (goodIn_of _ (by decide +kernel)) ggL_law_X7_word
set_option maxRecDepth 20000 in
theorem ggL_law_X8_word : GoodIn wsL_law wsX8_word := goodIn_r _ [840, 164, 567, 572, 174, 587, 627, 628, 629, 5, 630, 424, 425, 426, 558, 559, 560, 561, 562, 173, 172, 563, 564, 565, 566, 168, 439, 440, 441, 568, 569, 570, 571, 170, 573, 574, 575, 576, 577, 578, 579, 580, 581, 582, 583, 584, 585, 586, 169, 171, 588, 589, 590, 591, 592, 593, 594, 595, 461, 462, 463, 596, 597, 598, 599, 600, 601, 602, 603, 604, 605, 606, 664, 665, 666, 667, 668, 669, 670, 671, 941, 942, 943, 944, 945, 946, 947, 948, 949, 950, 951, 952, 953, 954, 955, 956, 957, 958, 959, 960, 961, 962, 963, 964, 965, 966, 967, 968] (by decide +kernel) (by decide +kernel)
set_option maxRecDepth 20000 in
theorem gL_law_X8_word : GoodIn wsL_law (wsV RL 86 RX8 yX8_word wsX8_word) := goodIn_app (goodIn_of _ (by decide +kernel)) ggL_law_X8_word
set_option maxRecDepth 20000 in
theorem ggL_law_X7_at : GoodIn wsL_law wsX7_at := goodIn_r _ [844, 29, 703, 39, 831, 702, 845, 615, 616, 617, 28, 618, 80, 488, 127, 128, 74, 129, 89, 115, 116, 117, 14, 118, 99, 812, 285, 286, 287, 88, 86, 134, 135, 136, 137, 50, 929, 930, 931, 932, 933, 934, 935, 936, 937, 938, 939, 940, 982, 983, 984, 985, 986, 987, 990, 991, 992, 993, 994, 995, 996, 997, 998, 999, 969, 970] (by decide +kernel) (by decide +kernel)
set_option maxRecDepth 20000 in
theorem gL_law_X7_at : GoodIn wsL_law (wsV RL 87 RX7 yX7_at wsX7_at) := goodIn_app (goodIn_of _ (by decide +kernel)) ggL_law_X7_at
set_option maxRecDepth 20000 in
theorem ggL_law_X8_at : GoodIn wsL_law wsX8_at := goodIn_r _ [849, 850, 567, 168, 572, 170, 174, 173, 169, 627, 628, 629, 5, 630, 164, 424, 425, 426, 558, 559, 560, 561, 562, 172, 563, 564, 565, 566, 439, 440, 441, 568, 569, 570, 571, 573, 574, 575, 576, 577, 578, 579, 580, 581, 582, 583, 584, 585, 586, 587, 171, 588, 589, 590, 591, 592, 593, 594, 595, 461, 462, 463, 596, 597, 598, 599, 600, 601, 602, 603, 604, 605, 606, 941, 942, 943, 944, 945, 946, 947, 948, 949, 950, 951, 952, 953, 954, 955, 956, 957, 958, 959, 960, 961, 962, 963, 964, 965, 966, 967, 968] (by decide +kernel) (by decide +kernel)
set_option maxRecDepth 20000 in
theorem gL_law_X8_at : GoodIn wsL_law (wsV RL 91 RX8 yX8_at wsX8_at) := goodIn_app (goodIn_of _ (by decide +kernel)) ggL_law_X8_at
set_option maxRecDepth 20000 in
theorem ggL_law_X7_result : GoodIn wsL_law wsX7_result := goodIn_r _ [854, 16, 636, 135, 136, 14, 137, 99, 50, 929, 930, 931, 932, 933, 934, 935, 936, 937, 938, 939, 940, 969, 970] (by decide +kernel) (by decide +kernel)
set_option maxRecDepth 20000 in
theorem gL_law_X7_result : GoodIn wsL_law (wsV RL 92 RX7 yX7_result wsX7_result) := goodIn_app (goodIn_of _ (by decide +kernel)) ggL_law_X7_result
set_option maxRecDepth 20000 in
theorem ggL_law_X8_result : GoodIn wsL_law wsX8_result := goodIn_r _ [858, 720, 179, 941, 942, 943, 944, 945, 946, 947, 948, 949, 950, 951, 952, 953, 954, 955, 956, 957, 958, 959, 960, 961, 962, 963, 964, 965, 966, 967, 968] (by decide +kernel) (by decide +kernel)
set_option maxRecDepth 20000 in
theorem gL_law_X8_result : GoodIn wsL_law (wsV RL 95 RX8 yX8_result wsX8_result) := goodIn_app (goodIn_of _ (by decide +kernel)) ggL_law_X8_result
set_option maxRecDepth 20000 in
theorem ggL_law_X7_collideWith : GoodIn wsL_law wsX7_collideWith := goodIn_r _ [862, 30, 29, 821, 40, 822, 232, 2, 233, 863, 228, 229, 184, 185, 186, 28, 187, 75, 77, 78, 79, 80, 81, 188, 189, 190, 74, 191, 89, 86, 88, 192, 193, 194, 14, 195, 196, 102, 103, 104, 99, 197, 198, 199, 200, 201, 135, 136, 137, 50, 95, 96, 97, 98, 115, 116, 117, 118, 134, 130, 131, 132, 133, 202, 864, 865, 866, 867, 126, 127, 128, 129, 320, 321, 322, 38, 323, 149, 150, 151, 153, 154, 324, 157, 156, 325, 326, 327, 328, 329, 330, 331, 332, 333, 334, 335, 336, 272, 273, 274, 275, 276, 277, 278, 337, 92, 93, 94, 338, 306, 307, 308, 339, 340, 341, 342, 284, 285, 286, 287, 114, 343, 344, 345, 24, 346, 63, 64, 65, 347, 348, 349, 350, 351, 352, 353, 354, 355, 356, 357, 358, 359, 360, 361, 362, 363, 364, 365, 366, 367, 368, 369, 370, 371, 372, 373, 374, 375, 376, 377, 378, 379, 380, 66, 381, 382, 383, 384, 385, 386, 387, 107, 108, 109, 110, 111, 112, 113, 119, 120, 121, 122, 123, 124, 47, 125, 388, 389, 390, 391, 392, 393, 394, 395, 396, 397, 398, 868, 869, 870, 871, 549, 872, 834, 835, 836, 659, 551, 552, 553, 929, 930, 931, 932, 933, 934, 935, 936, 937, 938, 939, 940, 982, 983, 984, 985, 986, 987, 997, 998, 999, 969, 970, 990, 991, 992, 993, 994, 995, 996, 978, 979, 980, 981] (by decide +kernel) (by decide +kernel)
set_option maxRecDepth 20000 in
theorem gL_law_X7_collideWith : GoodIn wsL_law (wsV RL 96 RX7 yX7_collideWith wsX7_collideWith) := goodIn_app (goodIn_of _ (by decide +kernel)) ggL_law_X7_collideWith
set_option maxRecDepth 20000 in
theorem ggL_law_X8_collideWith : GoodIn wsL_law wsX8_collideWith := goodIn_r _ [876, 573, 574, 877, 878, 164, 165, 424, 425, 5, 426, 464, 465, 466, 467, 468, 469, 470, 879, 880, 881, 882, 558, 559, 560, 561, 174, 562, 173, 172, 563, 564, 565, 566, 567, 168, 439, 440, 441, 568, 569, 570, 571, 572, 170, 575, 576, 577, 578, 579, 580, 581, 582, 583, 584, 585, 586, 587, 169, 171, 588, 589, 590, 591, 592, 593, 594, 595, 461, 462, 463, 596, 597, 598, 599, 600, 601, 602, 603, 604, 605, 606, 664, 665, 666, 667, 668, 669, 670, 671, 941, 942, 943, 944, 945, 946, 947, 948, 949, 950, 951, 952, 953, 954, 955, 956, 957, 958, 959, 960, 961, 962, 963, 964, 965, 966, 967, 968] (by decide +kernel) (by decide +kernel)
set_option maxRecDepth 20000 in
theorem gL_law_X8_collideWith : GoodIn wsL_law (wsV RL 100 RX8 yX8_collideWith wsX8_collideWith) := goodIn_app (goodIn_of _ (by decide +kernel)) ggL_law_X8_collideWith
set_option maxRecDepth 20000 in
theorem ggL_law_X7_count : GoodIn wsL_law wsX7_count := goodIn_r _ [886, 29, 39, 703, 702, 16, 35, 15, 304, 272, 273, 28, 274, 75, 275, 276, 277, 74, 278, 89, 115, 116, 117, 14, 118, 99, 305, 306, 307, 308, 80, 868, 869, 870, 38, 871, 151, 549, 872, 834, 835, 836, 659, 551, 552, 553, 134, 135, 136, 137, 50, 284, 285, 286, 287, 88, 86, 887, 888, 889, 890, 891, 652, 653, 654, 655, 656, 657, 658, 892, 893, 894, 895, 154, 388, 376, 896, 897, 898, 899, 678, 757, 758, 759, 34, 760, 313, 900, 901, 902, 903, 79, 904, 356, 357, 358, 929, 930, 931, 932, 933, 934, 935, 936, 937, 938, 939, 940, 982, 983, 984, 985, 986, 987, 990, 991, 992, 993, 994, 995, 996, 997, 998, 999, 969, 970, 988, 989] (by decide +kernel) (by decide +kernel)
set_option maxRecDepth 20000 in
theorem gL_law_X7_count : GoodIn wsL_law (wsV RL 101 RX7 yX7_count wsX7_count) := goodIn_app (goodIn_of _ (by decide +kernel)) ggL_law_X7_count
set_option maxRecDepth 20000 in
theorem ggL_law_X8_count : GoodIn wsL_law wsX8_count := goodIn_r _ [908, 164, 720, 479, 411, 879, 880, 881, 5, 882, 558, 559, 560, 561, 174, 562, 173, 172, 563, 564, 565, 566, 567, 168, 439, 440, 441, 568, 569, 570, 571, 572, 170, 573, 574, 575, 576, 577, 578, 579, 580, 581, 582, 583, 584, 585, 586, 587, 169, 171, 588, 589, 590, 591, 592, 593, 594, 595, 461, 462, 463, 596, 597, 598, 599, 600, 601, 602, 603, 604, 605, 606, 424, 425, 426, 664, 665, 666, 667, 668, 669, 670, 671, 909, 910, 911, 912, 913, 914, 915, 916, 800, 801, 802, 803, 804, 805, 806, 807, 917, 918, 919, 920, 921, 922, 923, 924, 925, 926, 927, 928, 941, 942, 943, 944, 945, 946, 947, 948, 949, 950, 951, 952, 953, 954, 955, 956, 957, 958, 959, 960, 961, 962, 963, 964, 965, 966, 967, 968] (by decide +kernel) (by decide +kernel)
set_option maxRecDepth 20000 in
theorem gL_law_X8_count : GoodIn wsL_law (wsV RL 104 RX8 yX8_count wsX8_count) := goodIn_app (goodIn_of _ (by decide +kernel)) ggL_law_X8_count
