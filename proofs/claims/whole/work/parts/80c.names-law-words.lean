set_option maxRecDepth 20000 in
theorem ggL_law_X9_year : GoodIn wsL_law wsX9_year := goodIn_r _ [360, 41, 13, 17, 128, 18, 22, 129, 130, 2, 131, 132, 133, 134, 135, 136, 137, 361, 362, 21, 363, 364, 365, 366, 367, 368, 369, 138, 139, 140, 43, 141, 97, 98, 142, 143, 144, 145, 99, 146, 147, 148, 149, 370, 371, 372, 373, 374, 375, 376, 377, 274, 275, 16, 276, 52, 378, 232, 233, 234, 379, 380, 381, 382, 49, 383, 384, 385, 386, 51, 387, 388, 389, 54, 390, 58, 59, 60, 61, 391, 392, 393, 394, 65, 66, 67, 68, 395, 396, 397, 398, 399, 400, 401, 402, 403, 404, 405, 406, 338, 339, 340, 247, 407, 314, 315, 316, 317, 236, 237, 238, 318, 319, 320, 321, 408, 409, 410, 411, 412, 822, 823, 824, 825, 826, 827, 828, 829, 830, 831, 832, 865, 866, 867, 884, 885, 886, 887, 888, 889, 890, 891, 868, 869, 870, 871] (by decide +kernel) (by decide +kernel)
set_option maxRecDepth 20000 in
theorem gL_law_X9_year : GoodIn wsL_law (wsV RL 52 RX9 yX9_year wsX9_year) := goodIn_app (goodIn_of _ (by decide +kernel)) ggL_law_X9_year
set_option maxRecDepth 20000 in
theorem ggL_law_X10_year : GoodIn wsL_law wsX10_year := goodIn_r _ [416, 178, 180, 106, 181, 182, 5, 183, 184, 185, 186, 187, 188, 189, 190, 191, 192, 193, 104, 105, 194, 195, 196, 197, 417, 418, 419, 420, 281, 282, 283, 284, 256, 257, 258, 259, 421, 422, 423, 424, 114, 109, 115, 110, 425, 426, 427, 428, 429, 430, 431, 432, 433, 434, 435, 345, 346, 347, 348, 326, 327, 328, 329, 107, 330, 331, 332, 260, 261, 262, 263, 108, 111, 436, 437, 438, 439, 440, 441, 442, 443, 833, 834, 835, 836, 837, 838, 839, 840, 841, 842, 843, 844, 845, 846, 847, 848, 849, 850, 851, 852, 853, 854, 855, 856, 857, 858, 859, 860, 861, 862, 863, 864] (by decide +kernel) (by decide +kernel)
set_option maxRecDepth 20000 in
theorem gL_law_X10_year : GoodIn wsL_law (wsV RL 56 RX10 yX10_year wsX10_year) := goodIn_app (goodIn_of _ (by decide +kernel)) ggL_law_X10_year
set_option maxRecDepth 20000 in
theorem ggL_law_X9_register : GoodIn wsL_law wsX9_register := goodIn_r _ [447, 17, 128, 132, 133, 2, 134, 448, 449, 450, 16, 451, 52, 452, 240, 241, 242, 243, 244, 245, 246, 51, 247, 248, 249, 250, 251, 822, 823, 824, 825, 826, 827, 828, 829, 830, 831, 832, 865, 866, 867, 888, 889, 890, 891] (by decide +kernel) (by decide +kernel)
set_option maxRecDepth 20000 in
theorem gL_law_X9_register : GoodIn wsL_law (wsV RL 57 RX9 yX9_register wsX9_register) := goodIn_app (goodIn_of _ (by decide +kernel)) ggL_law_X9_register
set_option maxRecDepth 20000 in
theorem ggL_law_X10_register : GoodIn wsL_law wsX10_register := goodIn_r _ [456, 180, 184, 185, 5, 186, 264, 265, 266, 267, 109, 833, 834, 835, 836, 837, 838, 839, 840, 841, 842, 843, 844, 845, 846, 847, 848, 849, 850, 851, 852, 853, 854, 855, 856, 857, 858, 859, 860, 861, 862, 863, 864] (by decide +kernel) (by decide +kernel)
set_option maxRecDepth 20000 in
theorem gL_law_X10_register : GoodIn wsL_law (wsV RL 60 RX10 yX10_register wsX10_register) := goodIn_app (goodIn_of _ (by decide +kernel)) ggL_law_X10_register
set_option maxRecDepth 20000 in
theorem ggL_law_X9_turn : GoodIn wsL_law wsX9_turn := goodIn_r _ [460, 17, 231, 232, 233, 16, 234, 52, 133, 2, 134, 461, 462, 463, 464, 243, 244, 245, 246, 51, 247, 248, 249, 250, 251, 822, 823, 824, 825, 826, 827, 828, 829, 830, 831, 832, 865, 866, 867, 888, 889, 890, 891] (by decide +kernel) (by decide +kernel)
set_option maxRecDepth 20000 in
theorem gL_law_X9_turn : GoodIn wsL_law (wsV RL 61 RX9 yX9_turn wsX9_turn) := goodIn_app (goodIn_of _ (by decide +kernel)) ggL_law_X9_turn
set_option maxRecDepth 20000 in
theorem ggL_law_X10_turn : GoodIn wsL_law wsX10_turn := goodIn_r _ [468, 109, 256, 257, 258, 5, 259, 180, 421, 422, 423, 424, 114, 115, 110, 345, 346, 347, 348, 440, 441, 442, 443, 833, 834, 835, 836, 837, 838, 839, 840, 841, 842, 843, 844, 845, 846, 847, 848, 849, 850, 851, 852, 853, 854, 855, 856, 857, 858, 859, 860, 861, 862, 863, 864] (by decide +kernel) (by decide +kernel)
set_option maxRecDepth 20000 in
theorem gL_law_X10_turn : GoodIn wsL_law (wsV RL 64 RX10 yX10_turn wsX10_turn) := goodIn_app (goodIn_of _ (by decide +kernel)) ggL_law_X10_turn
set_option maxRecDepth 20000 in
theorem ggL_law_X9_steer : GoodIn wsL_law wsX9_steer := goodIn_r _ [472, 17, 273, 274, 275, 16, 276, 52, 133, 2, 134, 473, 474, 475, 476, 51, 477, 478, 250, 479, 318, 319, 320, 54, 321, 60, 480, 462, 463, 464, 243, 244, 245, 246, 247, 248, 249, 251, 822, 823, 824, 825, 826, 827, 828, 829, 830, 831, 832, 865, 866, 867, 888, 889, 890, 891] (by decide +kernel) (by decide +kernel)
set_option maxRecDepth 20000 in
theorem gL_law_X9_steer : GoodIn wsL_law (wsV RL 65 RX9 yX9_steer wsX9_steer) := goodIn_app (goodIn_of _ (by decide +kernel)) ggL_law_X9_steer
set_option maxRecDepth 20000 in
theorem ggL_law_X10_steer : GoodIn wsL_law wsX10_steer := goodIn_r _ [484, 180, 110, 109, 281, 282, 283, 5, 284, 330, 331, 332, 421, 422, 423, 424, 114, 115, 345, 346, 347, 348, 440, 441, 442, 443, 833, 834, 835, 836, 837, 838, 839, 840, 841, 842, 843, 844, 845, 846, 847, 848, 849, 850, 851, 852, 853, 854, 855, 856, 857, 858, 859, 860, 861, 862, 863, 864] (by decide +kernel) (by decide +kernel)
set_option maxRecDepth 20000 in
theorem gL_law_X10_steer : GoodIn wsL_law (wsV RL 68 RX10 yX10_steer wsX10_steer) := goodIn_app (goodIn_of _ (by decide +kernel)) ggL_law_X10_steer
set_option maxRecDepth 20000 in
theorem ggL_law_X9_even : GoodIn wsL_law wsX9_even := goodIn_r _ [488, 17, 128, 489, 490, 491, 16, 492, 52, 51, 247, 248, 249, 250, 251, 822, 823, 824, 825, 826, 827, 828, 829, 830, 831, 832, 865, 866, 867, 888, 889, 890, 891] (by decide +kernel) (by decide +kernel)
set_option maxRecDepth 20000 in
theorem gL_law_X9_even : GoodIn wsL_law (wsV RL 69 RX9 yX9_even wsX9_even) := goodIn_app (goodIn_of _ (by decide +kernel)) ggL_law_X9_even
set_option maxRecDepth 20000 in
theorem ggL_law_X10_even : GoodIn wsL_law wsX10_even := goodIn_r _ [496, 180, 109, 833, 834, 835, 836, 837, 838, 839, 840, 841, 842, 843, 844, 845, 846, 847, 848, 849, 850, 851, 852, 853, 854, 855, 856, 857, 858, 859, 860, 861, 862, 863, 864] (by decide +kernel) (by decide +kernel)
set_option maxRecDepth 20000 in
theorem gL_law_X10_even : GoodIn wsL_law (wsV RL 73 RX10 yX10_even wsX10_even) := goodIn_app (goodIn_of _ (by decide +kernel)) ggL_law_X10_even
