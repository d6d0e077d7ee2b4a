set_option maxRecDepth 20000 in
theorem ggL_law_X9_plan : GoodIn wsL_law wsX9_plan := goodIn_r _ [500, 41, 13, 17, 128, 501, 18, 26, 129, 130, 2, 131, 132, 133, 134, 135, 136, 137, 367, 368, 369, 138, 139, 140, 43, 141, 97, 98, 142, 143, 144, 145, 99, 146, 147, 148, 149, 273, 274, 275, 16, 276, 52, 379, 380, 381, 382, 49, 383, 384, 385, 386, 51, 387, 388, 389, 54, 390, 58, 59, 60, 61, 502, 503, 504, 25, 505, 76, 72, 506, 73, 507, 508, 75, 74, 509, 338, 339, 340, 247, 510, 511, 512, 513, 514, 515, 516, 517, 518, 519, 520, 521, 522, 523, 524, 525, 314, 315, 316, 317, 236, 237, 238, 318, 319, 320, 321, 526, 527, 528, 529, 822, 823, 824, 825, 826, 827, 828, 829, 830, 831, 832, 865, 866, 867, 884, 885, 886, 887, 888, 889, 890, 891, 872, 873, 874, 875, 876] (by decide +kernel) (by decide +kernel)
set_option maxRecDepth 20000 in
theorem gL_law_X9_plan : GoodIn wsL_law (wsV RL 74 RX9 yX9_plan wsX9_plan) := goodIn_app (goodIn_of _ (by decide +kernel)) ggL_law_X9_plan
set_option maxRecDepth 20000 in
theorem ggL_law_X10_plan : GoodIn wsL_law wsX10_plan := goodIn_r _ [533, 178, 180, 106, 181, 182, 5, 183, 184, 185, 186, 187, 188, 189, 190, 191, 192, 193, 104, 105, 194, 195, 196, 197, 281, 282, 283, 284, 534, 535, 536, 537, 116, 538, 539, 540, 541, 117, 109, 421, 422, 423, 424, 114, 115, 110, 345, 346, 347, 348, 440, 441, 442, 443, 542, 543, 544, 545, 546, 547, 548, 330, 331, 332, 549, 550, 551, 552, 326, 327, 328, 329, 107, 260, 261, 262, 263, 108, 111, 833, 834, 835, 836, 837, 838, 839, 840, 841, 842, 843, 844, 845, 846, 847, 848, 849, 850, 851, 852, 853, 854, 855, 856, 857, 858, 859, 860, 861, 862, 863, 864] (by decide +kernel) (by decide +kernel)
set_option maxRecDepth 20000 in
theorem gL_law_X10_plan : GoodIn wsL_law (wsV RL 77 RX10 yX10_plan wsX10_plan) := goodIn_app (goodIn_of _ (by decide +kernel)) ggL_law_X10_plan
set_option maxRecDepth 20000 in
theorem ggL_law_X9_best : GoodIn wsL_law wsX9_best := goodIn_r _ [556, 17, 128, 30, 557, 558, 559, 560, 561, 29, 562, 563, 81, 564, 565, 566, 567, 568, 478, 250, 479, 80, 569, 570, 571, 572, 232, 233, 16, 234, 52, 133, 2, 134, 573, 314, 315, 316, 51, 49, 317, 236, 237, 54, 238, 58, 61, 318, 319, 320, 321, 60, 822, 823, 824, 825, 826, 827, 828, 829, 830, 831, 832, 865, 866, 867, 877, 878, 888, 889, 890, 891] (by decide +kernel) (by decide +kernel)
set_option maxRecDepth 20000 in
theorem gL_law_X9_best : GoodIn wsL_law (wsV RL 78 RX9 yX9_best wsX9_best) := goodIn_app (goodIn_of _ (by decide +kernel)) ggL_law_X9_best
set_option maxRecDepth 20000 in
theorem ggL_law_X10_best : GoodIn wsL_law wsX10_best := goodIn_r _ [577, 180, 578, 579, 119, 184, 185, 5, 186, 580, 581, 582, 583, 118, 584, 585, 586, 587, 326, 327, 328, 329, 110, 107, 330, 331, 332, 260, 261, 262, 263, 108, 111, 833, 834, 835, 836, 837, 838, 839, 840, 841, 842, 843, 844, 845, 846, 847, 848, 849, 850, 851, 852, 853, 854, 855, 856, 857, 858, 859, 860, 861, 862, 863, 864] (by decide +kernel) (by decide +kernel)
set_option maxRecDepth 20000 in
theorem gL_law_X10_best : GoodIn wsL_law (wsV RL 81 RX10 yX10_best wsX10_best) := goodIn_app (goodIn_of _ (by decide +kernel)) ggL_law_X10_best
set_option maxRecDepth 20000 in
theorem ggL_law_X9_reading : GoodIn wsL_law wsX9_reading := goodIn_r _ [591, 17, 34, 127, 231, 232, 233, 16, 234, 52, 133, 2, 134, 273, 274, 275, 276, 592, 593, 594, 33, 595, 88, 85, 86, 87, 822, 823, 824, 825, 826, 827, 828, 829, 830, 831, 832, 879, 880, 881, 882, 865, 866, 867] (by decide +kernel) (by decide +kernel)
set_option maxRecDepth 20000 in
theorem gL_law_X9_reading : GoodIn wsL_law (wsV RL 82 RX9 yX9_reading wsX9_reading) := goodIn_app (goodIn_of _ (by decide +kernel)) ggL_law_X9_reading
set_option maxRecDepth 20000 in
theorem ggL_law_X10_reading : GoodIn wsL_law wsX10_reading := goodIn_r _ [599, 221, 120, 121, 122, 256, 257, 258, 5, 259, 180, 281, 282, 283, 284, 184, 185, 186, 833, 834, 835, 836, 837, 838, 839, 840, 841, 842, 843, 844, 845, 846, 847, 848, 849, 850, 851, 852, 853, 854, 855, 856, 857, 858, 859, 860, 861, 862, 863, 864] (by decide +kernel) (by decide +kernel)
set_option maxRecDepth 20000 in
theorem gL_law_X10_reading : GoodIn wsL_law (wsV RL 86 RX10 yX10_reading wsX10_reading) := goodIn_app (goodIn_of _ (by decide +kernel)) ggL_law_X10_reading
set_option maxRecDepth 20000 in
theorem ggL_law_X9_back : GoodIn wsL_law wsX9_back := goodIn_r _ [603, 34, 127, 822, 823, 824, 825, 826, 827, 828, 829, 830, 831, 832, 879, 880, 881, 882] (by decide +kernel) (by decide +kernel)
set_option maxRecDepth 20000 in
theorem gL_law_X9_back : GoodIn wsL_law (wsV RL 87 RX9 yX9_back wsX9_back) := goodIn_app (goodIn_of _ (by decide +kernel)) ggL_law_X9_back
set_option maxRecDepth 20000 in
theorem ggL_law_X10_back : GoodIn wsL_law wsX10_back := goodIn_r _ [607, 221, 184, 185, 5, 186, 833, 834, 835, 836, 837, 838, 839, 840, 841, 842, 843, 844, 845, 846, 847, 848, 849, 850, 851, 852, 853, 854, 855, 856, 857, 858, 859, 860, 861, 862, 863, 864] (by decide +kernel) (by decide +kernel)
set_option maxRecDepth 20000 in
theorem gL_law_X10_back : GoodIn wsL_law (wsV RL 90 RX10 yX10_back wsX10_back) := goodIn_app (goodIn_of _ (by decide +kernel)) ggL_law_X10_back
set_option maxRecDepth 20000 in
theorem ggL_law_X9_knowings : GoodIn wsL_law wsX9_knowings := goodIn_r _ [611, 17, 231, 232, 233, 16, 234, 52, 133, 2, 134, 612, 613, 614, 615, 18, 34, 379, 380, 381, 382, 49, 383, 384, 385, 386, 51, 387, 388, 389, 54, 390, 58, 59, 60, 61, 616, 617, 618, 619, 620, 621, 622, 623, 624, 625, 33, 626, 88, 85, 86, 87, 627, 314, 315, 316, 317, 236, 237, 238, 318, 319, 320, 321, 822, 823, 824, 825, 826, 827, 828, 829, 830, 831, 832, 865, 866, 867, 888, 889, 890, 891, 879, 880, 881, 882] (by decide +kernel) (by decide +kernel)
set_option maxRecDepth 20000 in
theorem gL_law_X9_knowings : GoodIn wsL_law (wsV RL 91 RX9 yX9_knowings wsX9_knowings) := goodIn_app (goodIn_of _ (by decide +kernel)) ggL_law_X9_knowings
set_option maxRecDepth 20000 in
theorem ggL_law_X10_knowings : GoodIn wsL_law wsX10_knowings := goodIn_r _ [631, 110, 256, 257, 258, 5, 259, 180, 632, 633, 634, 635, 221, 120, 121, 122, 326, 327, 328, 329, 107, 330, 331, 332, 260, 261, 262, 263, 108, 111, 833, 834, 835, 836, 837, 838, 839, 840, 841, 842, 843, 844, 845, 846, 847, 848, 849, 850, 851, 852, 853, 854, 855, 856, 857, 858, 859, 860, 861, 862, 863, 864] (by decide +kernel) (by decide +kernel)
set_option maxRecDepth 20000 in
theorem gL_law_X10_knowings : GoodIn wsL_law (wsV RL 94 RX10 yX10_knowings wsX10_knowings) := goodIn_app (goodIn_of _ (by decide +kernel)) ggL_law_X10_knowings
