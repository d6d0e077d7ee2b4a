set_option maxRecDepth 20000 in
theorem ggL_law_X9_init : GoodIn wsL_law wsX9_init := goodIn_r _ [8, 9, 10, 11, 12, 13, 14, 15, 16, 17, 18, 19, 20, 21, 22, 23, 24, 25, 26, 27, 28, 29, 30, 31, 32, 33, 34, 35, 36, 37, 38, 39, 40, 41, 42, 43, 44, 45, 46, 47, 48, 49, 50, 51, 52, 53, 54, 55, 56, 57, 58, 59, 60, 61, 62, 63, 64, 65, 66, 67, 68, 69, 70, 71, 72, 73, 74, 75, 76, 77, 78, 79, 80, 81, 82, 83, 84, 85, 86, 87, 88, 89, 90, 91, 92, 93, 94, 95, 96, 97, 98, 99, 822, 823, 824, 825, 826, 827, 828, 829, 830, 831, 832, 865, 866, 867, 868, 869, 870, 871, 872, 873, 874, 875, 876, 877, 878, 879, 880, 881, 882, 883, 884, 885, 886, 887, 888, 889, 890, 891] (by decide +kernel) (by decide +kernel)
set_option maxRecDepth 20000 in
theorem gL_law_X9_init : GoodIn wsL_law (wsX9_init) := ggL_law_X9_init
set_option maxRecDepth 20000 in
theorem ggL_law_X10_init : GoodIn wsL_law wsX10_init := goodIn_r _ [102, 103, 10, 11, 48, 104, 105, 106, 107, 108, 109, 110, 111, 112, 113, 114, 115, 116, 117, 118, 119, 120, 121, 122, 833, 834, 835, 836, 837, 838, 839, 840, 841, 842, 843, 844, 845, 846, 847, 848, 849, 850, 851, 852, 853, 854, 855, 856, 857, 858, 859, 860, 861, 862, 863, 864] (by decide +kernel) (by decide +kernel)
set_option maxRecDepth 20000 in
theorem gL_law_X10_init : GoodIn wsL_law (wsX10_init) := ggL_law_X10_init
set_option maxRecDepth 20000 in
theorem ggL_law_X9_province : GoodIn wsL_law wsX9_province := goodIn_r _ [126, 41, 13, 17, 39, 40, 34, 127, 128, 129, 130, 2, 131, 132, 133, 134, 135, 136, 137, 138, 139, 140, 43, 141, 97, 98, 142, 143, 144, 145, 99, 146, 147, 148, 149, 150, 151, 152, 153, 154, 155, 156, 157, 158, 159, 160, 161, 162, 163, 164, 165, 166, 167, 168, 169, 170, 171, 172, 173, 822, 823, 824, 825, 826, 827, 828, 829, 830, 831, 832, 879, 880, 881, 882, 865, 866, 867, 884, 885, 886, 887, 888, 889, 890, 891] (by decide +kernel) (by decide +kernel)
set_option maxRecDepth 20000 in
theorem gL_law_X9_province : GoodIn wsL_law (wsV RL 13 RX9 yX9_province wsX9_province) := goodIn_app (goodIn_of _ (by decide +kernel)) ggL_law_X9_province
set_option maxRecDepth 20000 in
theorem ggL_law_X10_province : GoodIn wsL_law wsX10_province := goodIn_r _ [177, 178, 179, 180, 181, 182, 5, 183, 184, 185, 186, 187, 188, 189, 190, 191, 192, 193, 104, 105, 194, 195, 196, 197, 198, 199, 200, 201, 202, 112, 203, 204, 205, 206, 106, 207, 208, 209, 210, 211, 212, 213, 214, 113, 215, 216, 217, 218, 107, 108, 109, 110, 111, 219, 220, 221, 833, 834, 835, 836, 837, 838, 839, 840, 841, 842, 843, 844, 845, 846, 847, 848, 849, 850, 851, 852, 853, 854, 855, 856, 857, 858, 859, 860, 861, 862, 863, 864] (by decide +kernel) (by decide +kernel)
set_option maxRecDepth 20000 in
theorem gL_law_X10_province : GoodIn wsL_law (wsV RL 17 RX10 yX10_province wsX10_province) := goodIn_app (goodIn_of _ (by decide +kernel)) ggL_law_X10_province
set_option maxRecDepth 20000 in
theorem ggL_law_X9_ofPerson : GoodIn wsL_law wsX9_ofPerson := goodIn_r _ [225, 17, 226, 227, 228, 229, 230, 231, 232, 233, 16, 234, 52, 133, 2, 134, 235, 236, 237, 54, 238, 58, 61, 239, 240, 241, 242, 243, 244, 245, 246, 51, 247, 248, 249, 250, 251, 822, 823, 824, 825, 826, 827, 828, 829, 830, 831, 832, 865, 866, 867, 888, 889, 890, 891] (by decide +kernel) (by decide +kernel)
set_option maxRecDepth 20000 in
theorem gL_law_X9_ofPerson : GoodIn wsL_law (wsV RL 18 RX9 yX9_ofPerson wsX9_ofPerson) := goodIn_app (goodIn_of _ (by decide +kernel)) ggL_law_X9_ofPerson
set_option maxRecDepth 20000 in
theorem ggL_law_X10_ofPerson : GoodIn wsL_law wsX10_ofPerson := goodIn_r _ [255, 108, 109, 110, 111, 256, 257, 258, 5, 259, 180, 260, 261, 262, 263, 264, 265, 266, 267, 833, 834, 835, 836, 837, 838, 839, 840, 841, 842, 843, 844, 845, 846, 847, 848, 849, 850, 851, 852, 853, 854, 855, 856, 857, 858, 859, 860, 861, 862, 863, 864] (by decide +kernel) (by decide +kernel)
set_option maxRecDepth 20000 in
theorem gL_law_X10_ofPerson : GoodIn wsL_law (wsV RL 22 RX10 yX10_ofPerson wsX10_ofPerson) := goodIn_app (goodIn_of _ (by decide +kernel)) ggL_law_X10_ofPerson
set_option maxRecDepth 20000 in
theorem ggL_law_X9_worth : GoodIn wsL_law wsX9_worth := goodIn_r _ [271, 17, 272, 273, 274, 275, 16, 276, 52, 133, 2, 134, 822, 823, 824, 825, 826, 827, 828, 829, 830, 831, 832, 865, 866, 867] (by decide +kernel) (by decide +kernel)
set_option maxRecDepth 20000 in
theorem gL_law_X9_worth : GoodIn wsL_law (wsV RL 23 RX9 yX9_worth wsX9_worth) := goodIn_app (goodIn_of _ (by decide +kernel)) ggL_law_X9_worth
set_option maxRecDepth 20000 in
theorem ggL_law_X10_worth : GoodIn wsL_law wsX10_worth := goodIn_r _ [280, 107, 281, 282, 283, 5, 284, 180, 833, 834, 835, 836, 837, 838, 839, 840, 841, 842, 843, 844, 845, 846, 847, 848, 849, 850, 851, 852, 853, 854, 855, 856, 857, 858, 859, 860, 861, 862, 863, 864] (by decide +kernel) (by decide +kernel)
set_option maxRecDepth 20000 in
theorem gL_law_X10_worth : GoodIn wsL_law (wsV RL 27 RX10 yX10_worth wsX10_worth) := goodIn_app (goodIn_of _ (by decide +kernel)) ggL_law_X10_worth
set_option maxRecDepth 20000 in
theorem ggL_law_X9_weigh : GoodIn wsL_law wsX9_weigh := goodIn_r _ [288, 17, 272, 273, 274, 275, 16, 276, 52, 133, 2, 134, 132, 822, 823, 824, 825, 826, 827, 828, 829, 830, 831, 832, 865, 866, 867] (by decide +kernel) (by decide +kernel)
set_option maxRecDepth 20000 in
theorem gL_law_X9_weigh : GoodIn wsL_law (wsV RL 28 RX9 yX9_weigh wsX9_weigh) := goodIn_app (goodIn_of _ (by decide +kernel)) ggL_law_X9_weigh
set_option maxRecDepth 20000 in
theorem ggL_law_X10_weigh : GoodIn wsL_law wsX10_weigh := goodIn_r _ [292, 107, 281, 282, 283, 5, 284, 180, 184, 185, 186, 833, 834, 835, 836, 837, 838, 839, 840, 841, 842, 843, 844, 845, 846, 847, 848, 849, 850, 851, 852, 853, 854, 855, 856, 857, 858, 859, 860, 861, 862, 863, 864] (by decide +kernel) (by decide +kernel)
set_option maxRecDepth 20000 in
theorem gL_law_X10_weigh : GoodIn wsL_law (wsV RL 31 RX10 yX10_weigh wsX10_weigh) := goodIn_app (goodIn_of _ (by decide +kernel)) ggL_law_X10_weigh
